/-! a row with one rider more: times, places, what each stop must keep -/
def yT (w : Nat → Nat → Int) (t0 : Int) (Q : Nat → Int) : Nat → Int
  | 0 => t0
  | j + 1 => yT w t0 Q j + w (Q j).toNat (Q (j + 1)).toNat
def yold (f s j : Nat) : Nat := j - (if f < j then 1 else 0) - (if s < j then 1 else 0)
def yQ (P : Nat → Int) (fr to : Int) (f s j : Nat) : Int := if j = f then fr else if j = s then to else P (yold f s j)
def yla (L : Nat → Int) (pat pr : Int) (f s j : Nat) : Int := if j = f then pat else if j = s then pr else L (yold f s j)
theorem yT_rg {w : Nat → Nat → Int} {t0 : Int} {Q : Nat → Int} : ∀ n, (∀ j, j < n → 0 ≤ w (Q j).toNat (Q (j + 1)).toNat ∧ w (Q j).toNat (Q (j + 1)).toNat ≤ 20480) → t0 ≤ yT w t0 Q n ∧ yT w t0 Q n ≤ t0 + 20480 * n
  | 0, _ => ⟨Int.le_refl _, by show t0 ≤ t0 + 20480 * (0 : Nat); omega⟩
  | n + 1, h => by
    have h1 := yT_rg (t0 := t0) n (fun j hj => h j (by omega))
    have h2 := h n (by omega)
    show t0 ≤ yT w t0 Q n + _ ∧ yT w t0 Q n + _ ≤ _
    omega
/-- by when a stop of a row must be reached -/
def yL (σ : zS) (d k : Nat) : Int := if 0 ≤ σ 21 d k ∧ σ 22 d k = 1 then σ 23 (σ 21 d k).toNat 9 else 1000000

set_option maxHeartbeats 4000000 in
set_option maxRecDepth 100000 in
theorem c_X5_begin (l : Launch) (G : zG) (ad : zA) (A : Nat → Prop) (N0 : Nat) (σ : zS) (nd nr : Nat) (hX : zX ad nd nr) (q : Nat) (hq : q < nr) (hnr : nr ≤ 60) : Met l yX5_begin wsX5_begin ({ frames := 0, cells := 0, slots := 0, locals := 0 }) (zP G ad A N0 σ [zr ad 14 ((0 : Nat) : Int), zr ad 23 ((q : Nat) : Int)]) (zQ G ad A zrv (fun _ u => zu (zu σ 14 0 2 ((q : Nat) : Int)) 14 0 3 (-1) = u)) 0 0 A := by
  refine zz_of (cc := cX5_begin) (maxL := 2) (ret := none) (by decide) rfl ⟨rfl, rfl⟩ (List.forall_mem_cons.mpr ⟨zr_cat _ _ _, List.forall_mem_cons.mpr ⟨zr_cat _ _ _, fun _ h => absurd h List.not_mem_nil⟩⟩) (Nat.le_of_ble_eq_true rfl) ?_
  intro p e s m below meth c hx hb hr hml hts hown hlocks hsz hW0 hK ls hl
  have hS0 : va_S A s.heap s.heap [] := va_S.rf
  have hl : zh ls 2 [(0, zr ad 14 ((0 : Nat) : Int)), (1, zr ad 23 ((q : Nat) : Int))] := hl
  have hinX5 : ∀ w ∈ u_ws RX5 TX5 9, w ∈ wsX5_begin := by decide +kernel
  refine zz_aload_n hx hb hl 0 dX5_begin_0 rfl rfl ?_
  refine zz_aload_n hx hb hl 1 dX5_begin_1 rfl rfl ?_
  refine zz_put (T := TX5) (N := 9) (k := 2) (κ := 14) (v := ((0 : Nat) : Int)) (x := ((q : Nat) : Int)) (ty := (.object "HailCity$Request")) hx hb hts hinX5 tyX5 tyX5_ok nmX5 hown hK hW0 hS0 (zlN (hX 14 0 rfl)) rfl rfl rfl (by decide) (hts (.fieldLink RX5 22 "HailCity$Sharing" "waiting" "LHailCity$Request;") (by decide +kernel)) (fun _ h9 => h9) rfl (by decide +kernel) (znar_r _ _ _ _) (zfit_r _ _ _ _) (zv_r (by decide) (by decide)) ⟨by omega, by omega⟩ (fun _ _ => (Or.inr (zlN (hX 23 q (decide_eq_true hq))))) (fun h9 => absurd h9 (by decide)) dX5_begin_2 (fun H1 locs1 hW1' hS1 => ?_)
  obtain ⟨σ1, hs1⟩ : ∃ z, z = zu σ 14 0 2 ((q : Nat) : Int) := ⟨_, rfl⟩
  have hW1 : ZW G ad A σ1 H1 := by rw [hs1]; exact hW1'
  refine zz_aload_n hx hb hl 0 dX5_begin_5 rfl rfl ?_
  refine zz_null hx hb dX5_begin_6 ad 17 ?_
  refine zz_put (T := TX5) (N := 9) (k := 3) (κ := 14) (v := ((0 : Nat) : Int)) (x := (-1)) (ty := (.object "HailCity$Driver")) hx hb hts hinX5 tyX5 tyX5_ok nmX5 hown hK hW1 hS1 (zlN (hX 14 0 rfl)) rfl rfl rfl (by decide) (hts (.fieldLink RX5 26 "HailCity$Sharing" "driver" "LHailCity$Driver;") (by decide +kernel)) (fun _ h9 => h9) rfl (by decide +kernel) (znar_r _ _ _ _) (zfit_r _ _ _ _) (zv_r (by decide) (by decide)) ⟨by decide, by decide⟩ (fun _ _ => (Or.inl (by decide))) (fun h9 => absurd h9 (by decide)) dX5_begin_7 (fun H2 locs2 hW2' hS2 => ?_)
  obtain ⟨σ2, hs2⟩ : ∃ z, z = zu σ1 14 0 3 (-1) := ⟨_, rfl⟩
  have hW2 : ZW G ad A σ2 H2 := by rw [hs2]; exact hW2'
  refine W.eq (g2 := F0 m 10 ls []) rfl ?_
  refine zz_retv hx hb hr hlocks hW2 hS2 ?_ dX5_begin_10
  subst hs2 hs1; rfl

set_option maxHeartbeats 4000000 in
set_option maxRecDepth 100000 in
theorem c_X5_lastAsItIs (l : Launch) (G : zG) (ad : zA) (A : Nat → Prop) (N0 : Nat) (σ : zS) (nd nr : Nat) (hX : zX ad nd nr) (d : Nat) (hd : d < nd) (n : Nat) (hn : σ 18 d 3 = (n : Int)) (hn1 : 1 ≤ n) (hP : ∀ j, j < n → 0 ≤ σ 20 d j ∧ σ 20 d j < 10) (hn8 : n ≤ 8) (hw : ∀ j, j + 1 < n → 0 ≤ σ 6 (σ 20 d j).toNat (σ 20 d (j + 1)).toNat ∧ σ 6 (σ 20 d j).toNat (σ 20 d (j + 1)).toNat ≤ 20480) (ht : 0 ≤ σ 17 d 9 ∧ σ 17 d 9 ≤ 100000) : Met l yX5_lastAsItIs wsX5_lastAsItIs ({ frames := 2, cells := 0, slots := 0, locals := 42 }) (zP G ad A N0 σ [zr ad 14 ((0 : Nat) : Int), zr ad 17 ((d : Nat) : Int)]) (zQ G ad A zri (fun r u => σ = u ∧ yT (σ 6) (σ 17 d 9) (σ 20 d) (n - 1) = r)) 0 0 A := by
  refine zz_of (cc := cX5_lastAsItIs) (maxL := 4) (ret := (some .int)) (by decide) rfl ⟨rfl, rfl⟩ (List.forall_mem_cons.mpr ⟨zr_cat _ _ _, List.forall_mem_cons.mpr ⟨zr_cat _ _ _, fun _ h => absurd h List.not_mem_nil⟩⟩) (Nat.le_of_ble_eq_true rfl) ?_
  intro p e s m below meth c hx hb hr hml hts hown hlocks hsz hW0 hK ls hl
  have hS0 : va_S A s.heap s.heap [] := va_S.rf
  have hl : zh ls 4 [(0, zr ad 14 ((0 : Nat) : Int)), (1, zr ad 17 ((d : Nat) : Int))] := hl
  have hinX1 : ∀ w ∈ u_ws RX1 TX1 13, w ∈ wsX5_lastAsItIs := by decide +kernel
  have hinX4 : ∀ w ∈ u_ws RX4 TX4 4, w ∈ wsX5_lastAsItIs := by decide +kernel
  have hinX5 : ∀ w ∈ u_ws RX5 TX5 9, w ∈ wsX5_lastAsItIs := by decide +kernel
  have hyr : ∀ i, i < n → σ 17 d 9 ≤ yT (σ 6) (σ 17 d 9) (σ 20 d) i ∧ yT (σ 6) (σ 17 d 9) (σ 20 d) i ≤ σ 17 d 9 + 20480 * i := fun i hi => yT_rg i (fun j hj => hw j (by omega))
  refine zz_aload_n hx hb hl 1 dX5_lastAsItIs_0 rfl rfl ?_
  refine zz_getN (T := TX1) (N := 13) (k := 9) (κ := 17) (w := .int (zi (σ 17 d 9))) hx hb hts hinX1 hown hK hW0 (zlN (hX 17 d (decide_eq_true hd))) rfl rfl rfl (by decide) (host := "HailCity") (List.mem_of_getElem? (i := 18) rfl) (fun _ h9 => h9) rfl dX5_lastAsItIs_1 ?_
  refine zz_istore_n (lv' := [(2, .int (zi (σ 17 d 9))), (0, zr ad 14 ((0 : Nat) : Int)), (1, zr ad 17 ((d : Nat) : Int))]) hx hb hl dX5_lastAsItIs_4 rfl (by decide) rfl (fun ls hl => ?_)
  refine zz_iconst hx hb dX5_lastAsItIs_5 ?_
  refine zz_istore_n (lv' := [(3, .int (zi 1)), (2, .int (zi (σ 17 d 9))), (0, zr ad 14 ((0 : Nat) : Int)), (1, zr ad 17 ((d : Nat) : Int))]) hx hb hl dX5_lastAsItIs_6 rfl (by decide) rfl (fun ls hl => ?_)
  have hcut7 : ∀ (n9 : Nat) (i : Nat)  (H9 : Heap) (locs9 : List Loc) (ls : Array Slot), (i + 1 ≤ n) → (n - i) < n9 → ZW G ad A σ H9 → va_S A s.heap H9 locs9 → zh ls 4 [(0, zr ad 14 ((0 : Nat) : Int)), (1, zr ad 17 ((d : Nat) : Int)), (2, .int (zi (yT (σ 6) (σ 17 d 9) (σ 20 d) i))), (3, .int (zi ((i + 1 : Nat) : Int)))] → W p l e ({ frames := 2, cells := 0, slots := 0, locals := 42 }) s m ([zr ad 14 ((0 : Nat) : Int), zr ad 17 ((d : Nat) : Int)] : List Value).toArray below meth c H9 locs9 0 0 (MQ below (zQ G ad A zri (fun r u => σ = u ∧ yT (σ 6) (σ 17 d 9) (σ 20 d) (n - 1) = r)) ([zr ad 14 ((0 : Nat) : Int), zr ad 17 ((d : Nat) : Int)] : List Value).toArray s 0 0 A) (F0 m 7 ls []) := by
    intro n9
    induction n9 with
    | zero =>
      intro i H1 locs1 ls hI7 hm7 hW1 hS1 hl
      exact absurd hm7 (Nat.not_lt_zero _)
    | succ n9 ih7 =>
      intro i H1 locs1 ls hI7 hm7 hW1 hS1 hl
      have hyi := hyr i (by omega)
      refine zz_iload_n hx hb hl 3 dX5_lastAsItIs_7 rfl rfl ?_
      refine zz_aload_n hx hb hl 1 dX5_lastAsItIs_8 rfl rfl ?_
      refine zz_getN (T := TX1) (N := 13) (k := 1) (κ := 17) (w := zr ad 18 ((d : Nat) : Int)) hx hb hts hinX1 hown hK hW1 (zlN (hX 17 d (decide_eq_true hd))) rfl rfl rfl (by decide) (host := "HailCity") (List.mem_of_getElem? (i := 11) rfl) (fun _ h9 => h9) rfl dX5_lastAsItIs_9 ?_
      refine zz_getN (T := TX4) (N := 4) (k := 3) (κ := 18) (w := .int (zi ((n : Nat) : Int))) hx hb hts hinX4 hown hK hW1 (zlN (hX 18 d (decide_eq_true hd))) rfl rfl rfl (by decide) (host := "HailCity") (List.mem_of_getElem? (i := 4) rfl) (fun _ h9 => h9) (congrArg (fun z => Value.int (zi z)) (show σ 18 d 3 = ((n : Nat) : Int) from by rw [hn])) dX5_lastAsItIs_12 ?_
      refine zz_icmp_ge (tgt := 52) hx hb dX5_lastAsItIs_15 (by decide) ⟨by omega, by omega⟩ ⟨by omega, by omega⟩ (fun hc15 => ?_) (fun hc15 => ?_)
      · refine zz_iload_n hx hb hl 2 dX5_lastAsItIs_52 rfl rfl ?_
        refine W.eq (g2 := F0 m 53 ls [.int (zi (yT (σ 6) (σ 17 d 9) (σ 20 d) i))]) rfl ?_
        refine zz_reti hx hb hr hlocks hW1 hS1 ?_ dX5_lastAsItIs_53
        exact ⟨rfl, by rw [show n - 1 = i by omega]⟩
      · have hp1 := hP i (by omega)
        have hp2 := hP (i + 1) (by omega)
        have hw1 := hw i (by omega)
        refine zz_iload_n hx hb hl 2 dX5_lastAsItIs_18 rfl rfl ?_
        refine zz_aload_n hx hb hl 0 dX5_lastAsItIs_19 rfl rfl ?_
        refine zz_get (T := TX5) (N := 9) (k := 0) (κ := 14) (w := zr ad 1 ((0 : Nat) : Int)) hx hb hts hinX5 hown hK hW1 (zlN (hX 14 0 rfl)) rfl rfl rfl (by decide) (hts (.fieldLink RX5 9 "HailCity$Sharing" "map" "LHailCity$CityMap;") (by decide +kernel)) (fun _ h9 => h9) rfl dX5_lastAsItIs_20 ?_
        refine zz_aload_n hx hb hl 1 dX5_lastAsItIs_23 rfl rfl ?_
        refine zz_getN (T := TX1) (N := 13) (k := 1) (κ := 17) (w := zr ad 18 ((d : Nat) : Int)) hx hb hts hinX1 hown hK hW1 (zlN (hX 17 d (decide_eq_true hd))) rfl rfl rfl (by decide) (host := "HailCity") (List.mem_of_getElem? (i := 11) rfl) (fun _ h9 => h9) rfl dX5_lastAsItIs_24 ?_
        refine zz_iload_n hx hb hl 3 dX5_lastAsItIs_27 rfl rfl ?_
        refine zz_iconst hx hb dX5_lastAsItIs_28 ?_
        refine zz_isub hx hb dX5_lastAsItIs_29 ?_
        refine zz_callV (T := TX4) (N := 4) (As := [.int (zi (((i + 1 : Nat) : Int) - 1))]) (rest := [zr ad 1 ((0 : Nat) : Int), .int (zi (yT (σ 6) (σ 17 d 9) (σ 20 d) i))]) (v := ((d : Nat) : Int)) (κ := 18) ⟨hx, hb, hml, hown, hts⟩ (c_X4_placeAt l G ad A N0 σ nd nr hX d hd ((((i + 1 : Nat) : Int) - 1)) ⟨by omega, by omega⟩ (by omega) (by omega)) (cwV 1 hts gX5_lastAsItIs_X4_placeAt rfl rfl rfl (by decide +kernel) ⟨Nat.le_of_ble_eq_true rfl, Nat.le_of_ble_eq_true rfl⟩) hK hW1 (zlN (hX 18 d (decide_eq_true hd))) rfl rfl (Nat.le_trans hsz hS1.1) hS1 rfl hl.1.1 rfl (by simp [zr_cat, zcat_i]) dX5_lastAsItIs_30 ⟨Nat.le_of_ble_eq_true rfl, Nat.le_of_ble_eq_true rfl⟩ (fun x2 σ2 H2 locs2 hp2 hW2 hz2 hS2 => ?_)
        obtain ⟨rfl, hx9⟩ := hp2
        rw [if_pos (by omega), show (((i + 1 : Nat) : Int) - 1).toNat = i by omega] at hx9
        obtain rfl := hx9
        refine W.eq (g2 := F0 m 33 ls [.int (zi (σ 20 d i)), zr ad 1 ((0 : Nat) : Int), .int (zi (yT (σ 6) (σ 17 d 9) (σ 20 d) i))]) rfl ?_
        refine zz_aload_n hx hb hl 1 dX5_lastAsItIs_33 rfl rfl ?_
        refine zz_getN (T := TX1) (N := 13) (k := 1) (κ := 17) (w := zr ad 18 ((d : Nat) : Int)) hx hb hts hinX1 hown hK hW2 (zlN (hX 17 d (decide_eq_true hd))) rfl rfl rfl (by decide) (host := "HailCity") (List.mem_of_getElem? (i := 11) rfl) (fun _ h9 => h9) rfl dX5_lastAsItIs_34 ?_
        refine zz_iload_n hx hb hl 3 dX5_lastAsItIs_37 rfl rfl ?_
        refine zz_callV (T := TX4) (N := 4) (As := [.int (zi ((i + 1 : Nat) : Int))]) (rest := [.int (zi (σ 20 d i)), zr ad 1 ((0 : Nat) : Int), .int (zi (yT (σ 6) (σ 17 d 9) (σ 20 d) i))]) (v := ((d : Nat) : Int)) (κ := 18) ⟨hx, hb, hml, hown, hts⟩ (c_X4_placeAt l G ad A N0 σ nd nr hX d hd (((i + 1 : Nat) : Int)) ⟨by omega, by omega⟩ (by omega) (by omega)) (cwV 1 hts gX5_lastAsItIs_X4_placeAt rfl rfl rfl (by decide +kernel) ⟨Nat.le_of_ble_eq_true rfl, Nat.le_of_ble_eq_true rfl⟩) hK hW2 (zlN (hX 18 d (decide_eq_true hd))) rfl rfl (Nat.le_trans hsz hS2.1) hS2 rfl hl.1.1 rfl (by simp [zr_cat, zcat_i]) dX5_lastAsItIs_38 ⟨Nat.le_of_ble_eq_true rfl, Nat.le_of_ble_eq_true rfl⟩ (fun x3 σ3 H3 locs3 hp3 hW3 hz3 hS3 => ?_)
        obtain ⟨rfl, hx9⟩ := hp3
        rw [if_pos (by omega), show (((i + 1 : Nat) : Int)).toNat = i + 1 from rfl] at hx9
        obtain rfl := hx9
        refine W.eq (g2 := F0 m 41 ls [.int (zi (σ 20 d (i + 1))), .int (zi (σ 20 d i)), zr ad 1 ((0 : Nat) : Int), .int (zi (yT (σ 6) (σ 17 d 9) (σ 20 d) i))]) rfl ?_
        refine zz_callV (T := TX0) (N := 5) (As := [.int (zi (σ 20 d i)), .int (zi (σ 20 d (i + 1)))]) (rest := [.int (zi (yT (σ 6) (σ 17 d 9) (σ 20 d) i))]) (v := ((0 : Nat) : Int)) (κ := 1) ⟨hx, hb, hml, hown, hts⟩ (c_X0_minutesBetween l G ad A N0 σ nd nr hX (σ 20 d i) (σ 20 d (i + 1)) (hW3.2.2.1 _ _ _) (hW3.2.2.1 _ _ _)) (cwV 2 hts gX5_lastAsItIs_X0_minutesBetween rfl rfl rfl (by decide +kernel) ⟨Nat.le_of_ble_eq_true rfl, Nat.le_of_ble_eq_true rfl⟩) hK hW3 (zlN (hX 1 0 rfl)) rfl rfl (Nat.le_trans hsz hS3.1) hS3 rfl hl.1.1 rfl (Nat.le_of_ble_eq_true rfl) dX5_lastAsItIs_41 ⟨Nat.le_of_ble_eq_true rfl, Nat.le_of_ble_eq_true rfl⟩ (fun x4 σ4 H4 locs4 hp4 hW4 hz4 hS4 => ?_)
        obtain ⟨rfl, hx9⟩ := hp4
        rw [if_pos (by omega)] at hx9
        obtain rfl := hx9
        refine W.eq (g2 := F0 m 44 ls [.int (zi (σ 6 (σ 20 d i).toNat (σ 20 d (i + 1)).toNat)), .int (zi (yT (σ 6) (σ 17 d 9) (σ 20 d) i))]) rfl ?_
        refine zz_iadd hx hb dX5_lastAsItIs_44 ?_
        refine zz_istore_n (lv' := [(2, .int (zi ((yT (σ 6) (σ 17 d 9) (σ 20 d) i) + (σ 6 (σ 20 d i).toNat (σ 20 d (i + 1)).toNat)))), (0, zr ad 14 ((0 : Nat) : Int)), (1, zr ad 17 ((d : Nat) : Int)), (3, .int (zi ((i + 1 : Nat) : Int)))]) hx hb hl dX5_lastAsItIs_45 rfl (by decide) rfl (fun ls hl => ?_)
        refine zz_iinc (lv' := [(3, .int (zi (((i + 1 : Nat) : Int) + 1))), (2, .int (zi ((yT (σ 6) (σ 17 d 9) (σ 20 d) i) + (σ 6 (σ 20 d i).toNat (σ 20 d (i + 1)).toNat)))), (0, zr ad 14 ((0 : Nat) : Int)), (1, zr ad 17 ((d : Nat) : Int))]) hx hb hl dX5_lastAsItIs_46 (k0 := 3) rfl (by decide) rfl (fun ls hl => ?_)
        refine zz_goto (tgt := 7) hx hb dX5_lastAsItIs_49 (by decide) ?_
        refine ih7 (i + 1) H4 locs4 ls ?_ (by omega) hW4 hS4 (zh_sub hl [2, 3, 1, 0] rfl)
        omega
  refine hcut7 _ 0 s.heap [] ls ?_ (Nat.lt_succ_self _) hW0 hS0 (zh_sub hl [2, 3, 1, 0] rfl)
  exact hn1

/-- a stop of the row that is tried can be reached, and in time -/
def yok1 (σ : zS) (d q f s9 j : Nat) : Prop := (0 < j → σ 6 (yQ (σ 20 d) (σ 23 q 1) (σ 23 q 2) f s9 (j - 1)).toNat (yQ (σ 20 d) (σ 23 q 1) (σ 23 q 2) f s9 j).toNat < 1000000) ∧ yT (σ 6) (σ 17 d 9) (yQ (σ 20 d) (σ 23 q 1) (σ 23 q 2) f s9) j ≤ yla (yL σ d) (σ 23 q 4) (yT (σ 6) (σ 17 d 9) (yQ (σ 20 d) (σ 23 q 1) (σ 23 q 2) f s9) f + σ 6 (σ 23 q 1).toNat (σ 23 q 2).toNat * 3 / 2) f s9 j

/-- by when a stop of the longer row must be reached -/
def yLG (σ : zS) (q k : Nat) : Int := if σ 26 0 k < 0 then 1000000 else if σ 27 0 k = 1 then (if σ 26 0 k = (q : Int) then σ 14 0 8 + σ 6 (σ 23 q 1).toNat (σ 23 q 2).toNat * 3 / 2 else σ 23 (σ 26 0 k).toNat 9) else if σ 26 0 k = (q : Int) then σ 23 q 4 else 1000000
theorem yLG_eq {σ u : zS} {d q n f s9 i : Nat} (hf : f ≤ n) (hfs : f < s9) (hs : s9 ≤ n + 1) (hi : i < n + 2) (hnq : ∀ j, j < n → σ 21 d j ≠ (q : Int)) (h26 : u 26 0 i = yQ (σ 21 d) (q : Int) (q : Int) f s9 i) (h27 : u 27 0 i = yQ (σ 22 d) 0 1 f s9 i) (h14 : f ≤ i → u 14 0 8 = yT (σ 6) (σ 17 d 9) (yQ (σ 20 d) (σ 23 q 1) (σ 23 q 2) f s9) f) (h23 : ∀ a b, u 23 a b = σ 23 a b) (h6 : ∀ a b, u 6 a b = σ 6 a b) : yLG u q i = yla (yL σ d) (σ 23 q 4) (yT (σ 6) (σ 17 d 9) (yQ (σ 20 d) (σ 23 q 1) (σ 23 q 2) f s9) f + σ 6 (σ 23 q 1).toNat (σ 23 q 2).toNat * 3 / 2) f s9 i := by
  unfold yLG
  rw [h26, h27, h23, h23, h23, h23, h6]
  by_cases c1 : i = f
  · subst c1
    rw [show yQ (σ 21 d) (q : Int) (q : Int) i s9 i = (q : Int) from if_pos rfl, show yQ (σ 22 d) 0 1 i s9 i = 0 from if_pos rfl, if_neg (by omega), if_neg (by decide), if_pos rfl]
    exact (if_pos rfl).symm
  · by_cases c2 : i = s9
    · rw [show yQ (σ 21 d) (q : Int) (q : Int) f s9 i = (q : Int) from (if_neg c1).trans (if_pos c2), show yQ (σ 22 d) 0 1 f s9 i = 1 from (if_neg c1).trans (if_pos c2), if_neg (by omega), if_pos rfl, if_pos rfl, h14 (by omega)]
      exact ((if_neg c1).trans (if_pos c2)).symm
    · have hy : yold f s9 i < n := by unfold yold; split <;> split <;> omega
      have hz := hnq _ hy
      rw [show yQ (σ 21 d) (q : Int) (q : Int) f s9 i = σ 21 d (yold f s9 i) from (if_neg c1).trans (if_neg c2), show yQ (σ 22 d) 0 1 f s9 i = σ 22 d (yold f s9 i) from (if_neg c1).trans (if_neg c2), show yla (yL σ d) (σ 23 q 4) (yT (σ 6) (σ 17 d 9) (yQ (σ 20 d) (σ 23 q 1) (σ 23 q 2) f s9) f + σ 6 (σ 23 q 1).toNat (σ 23 q 2).toNat * 3 / 2) f s9 i = yL σ d (yold f s9 i) from (if_neg c1).trans (if_neg c2)]
      unfold yL
      by_cases c3 : σ 21 d (yold f s9 i) < 0
      · rw [if_pos c3, if_neg (fun w => by omega)]
      · rw [if_neg c3]
        by_cases c4 : σ 22 d (yold f s9 i) = 1
        · rw [if_pos c4, if_neg hz, if_pos ⟨by omega, c4⟩]
        · rw [if_neg c4, if_neg hz, if_neg (fun w => c4 w.2)]
theorem zins2 {n f s j : Nat} {x y : Int} {P P1 P2 P3 : Nat → Int} (hf : f ≤ n) (hfs : f < s) (hs : s ≤ n + 1) (hj : j ≤ n + 1) (h1 : ∀ j, j < n → P1 j = P j) (h2 : ∀ j, j ≤ n → P2 j = zins f x P1 j) (h3 : P3 j = zins s y P2 j) : P3 j = yQ P x y f s j := by
  rw [h3]
  unfold zins yQ yold
  rcases Nat.lt_trichotomy j s with h | h | h
  · rw [if_pos h, h2 j (by omega)]
    unfold zins
    rcases Nat.lt_trichotomy j f with g | g | g
    · rw [if_pos g, h1 j (by omega), if_neg (by omega), if_neg (by omega), if_neg (by omega), if_neg (by omega)]; rfl
    · rw [if_neg (by omega), if_pos g, if_pos g]
    · rw [if_neg (by omega), if_neg (by omega), h1 (j - 1) (by omega), if_neg (by omega), if_neg (by omega), if_pos g, if_neg (by omega)]; rfl
  · rw [if_neg (by omega), if_pos h, if_neg (by omega), if_pos h]
  · rw [if_neg (by omega), if_neg (by omega), h2 (j - 1) (by omega), if_neg (by omega), if_neg (by omega), if_pos (by omega), if_pos h]
    unfold zins
    rw [if_neg (by omega), if_neg (by omega), h1 _ (by omega)]

set_option maxHeartbeats 4000000 in
set_option maxRecDepth 100000 in
theorem c_X5_latestAt (l : Launch) (G : zG) (ad : zA) (A : Nat → Prop) (N0 : Nat) (σ : zS) (nd nr : Nat) (hX : zX ad nd nr) (q : Nat) (hq : q < nr) (hwq : σ 14 0 2 = (q : Int)) (hfr : 0 ≤ σ 23 q 1 ∧ σ 23 q 1 < 10) (hto : 0 ≤ σ 23 q 2 ∧ σ 23 q 2 < 10) (hft : σ 6 (σ 23 q 1).toNat (σ 23 q 2).toNat < 1000000) (hw6 : 0 ≤ σ 6 (σ 23 q 1).toNat (σ 23 q 2).toNat) (k : Nat) (hk : (k : Int) < σ 24 0 3) (h8 : σ 24 0 3 ≤ 8) : Met l yX5_latestAt wsX5_latestAt ({ frames := 3, cells := 0, slots := 0, locals := 64 }) (zP G ad A N0 σ [zr ad 14 ((0 : Nat) : Int), .int (zi ((k : Nat) : Int))]) (zQ G ad A zri (fun r u => σ = u ∧ yLG σ q k = r)) 0 0 A := by
  refine zz_of (cc := cX5_latestAt) (maxL := 3) (ret := (some .int)) (by decide) rfl ⟨rfl, rfl⟩ (List.forall_mem_cons.mpr ⟨zr_cat _ _ _, List.forall_mem_cons.mpr ⟨rfl, fun _ h => absurd h List.not_mem_nil⟩⟩) (Nat.le_of_ble_eq_true rfl) ?_
  intro p e s m below meth c hx hb hr hml hts hown hlocks hsz hW0 hK ls hl
  have hS0 : va_S A s.heap s.heap [] := va_S.rf
  have hl : zh ls 3 [(0, zr ad 14 ((0 : Nat) : Int)), (1, .int (zi ((k : Nat) : Int)))] := hl
  have hinX3 : ∀ w ∈ u_ws RX3 TX3 12, w ∈ wsX5_latestAt := by decide +kernel
  have hinX5 : ∀ w ∈ u_ws RX5 TX5 9, w ∈ wsX5_latestAt := by decide +kernel
  refine zz_aload_n hx hb hl 0 dX5_latestAt_0 rfl rfl ?_
  refine zz_get (T := TX5) (N := 9) (k := 1) (κ := 14) (w := zr ad 24 ((0 : Nat) : Int)) hx hb hts hinX5 hown hK hW0 (zlN (hX 14 0 rfl)) rfl rfl rfl (by decide) (hts (.fieldLink RX5 18 "HailCity$Sharing" "longer" "LHailCity$Row;") (by decide +kernel)) (fun _ h9 => h9) rfl dX5_latestAt_1 ?_
  refine zz_iload_n hx hb hl 1 dX5_latestAt_4 rfl rfl ?_
  refine zz_callV (T := TX4) (N := 4) (As := [.int (zi ((k : Nat) : Int))]) (rest := []) (v := ((0 : Nat) : Int)) (κ := 24) ⟨hx, hb, hml, hown, hts⟩ (c_X4L_riderAt l G ad A N0 σ nd nr hX ((k : Nat) : Int) ⟨by omega, by omega⟩ (by omega) (by omega)) (cwV 1 hts gX5_latestAt_X4_riderAt rfl rfl rfl (by decide +kernel) ⟨Nat.le_of_ble_eq_true rfl, Nat.le_of_ble_eq_true rfl⟩) hK hW0 (zlN (hX 24 0 rfl)) rfl rfl (Nat.le_trans hsz hS0.1) hS0 rfl hl.1.1 rfl (Nat.le_of_ble_eq_true rfl) dX5_latestAt_5 ⟨Nat.le_of_ble_eq_true rfl, Nat.le_of_ble_eq_true rfl⟩ (fun x1 σ1 H1 locs1 hp1 hW1 hz1 hS1 => ?_)
  obtain ⟨rfl, hx9⟩ := hp1
  rw [if_pos (by omega)] at hx9
  obtain rfl := hx9
  refine W.eq (g2 := F0 m 8 ls [zr ad 23 (σ 26 0 k)]) rfl ?_
  refine zz_astore_n (lv' := [(2, zr ad 23 (σ 26 0 k)), (0, zr ad 14 ((0 : Nat) : Int)), (1, .int (zi ((k : Nat) : Int)))]) hx hb hl dX5_latestAt_8 rfl (by decide) rfl (fun ls hl => ?_)
  refine zz_aload_n hx hb hl 0 dX5_latestAt_9 rfl rfl ?_
  refine zz_ifnonnull (tgt := 16) hx hb (hW1.2.2.2.1 26 0 k (hX 26 0 rfl) (Nat.le_of_ble_eq_true rfl) (Nat.le_of_ble_eq_true rfl)) dX5_latestAt_10 (by decide) (fun hc10 => ?_) (fun hc10 => ?_)
  · have hz10 := hc10.1
    refine zz_aload_n hx hb hl 1 dX5_latestAt_16 rfl rfl ?_
    refine zz_get (T := TX5) (N := 9) (k := 1) (κ := 14) (w := zr ad 24 ((0 : Nat) : Int)) hx hb hts hinX5 hown hK hW1 (zlN (hX 14 0 rfl)) rfl rfl rfl (by decide) (hts (.fieldLink RX5 18 "HailCity$Sharing" "longer" "LHailCity$Row;") (by decide +kernel)) (fun _ h9 => h9) rfl dX5_latestAt_17 ?_
    refine zz_iload_n hx hb hl 2 dX5_latestAt_20 rfl rfl ?_
    refine zz_callV (T := TX4) (N := 4) (As := [.int (zi ((k : Nat) : Int))]) (rest := []) (v := ((0 : Nat) : Int)) (κ := 24) ⟨hx, hb, hml, hown, hts⟩ (c_X4L_isLetOutAt l G ad A N0 σ nd nr hX ((k : Nat) : Int) ⟨by omega, by omega⟩ (by omega) (by omega)) (cwV 1 hts gX5_latestAt_X4_isLetOutAt rfl rfl rfl (by decide +kernel) ⟨Nat.le_of_ble_eq_true rfl, Nat.le_of_ble_eq_true rfl⟩) hK hW1 (zlN (hX 24 0 rfl)) rfl rfl (Nat.le_trans hsz hS1.1) hS1 rfl hl.1.1 rfl (Nat.le_of_ble_eq_true rfl) dX5_latestAt_21 ⟨Nat.le_of_ble_eq_true rfl, Nat.le_of_ble_eq_true rfl⟩ (fun x2 σ2 H2 locs2 hp2 hW2 hz2 hS2 => ?_)
    obtain ⟨rfl, rfl⟩ := hp2
    refine W.eq (g2 := F0 m 24 ls [.int (zi (zb ((0 ≤ ((k : Nat) : Int) ∧ ((k : Nat) : Int) < σ 24 0 3) ∧ σ 27 0 k = 1)))]) rfl ?_
    refine zz_if_eqb (tgt := 58) hx hb dX5_latestAt_24 (by decide) (fun hc24 => ?_) (fun hc24 => ?_)
    · refine zz_aload_n hx hb hl 0 dX5_latestAt_58 rfl rfl ?_
      refine zz_aload_n hx hb hl 1 dX5_latestAt_59 rfl rfl ?_
      refine zz_get (T := TX5) (N := 9) (k := 2) (κ := 14) (w := zr ad 23 ((q : Nat) : Int)) hx hb hts hinX5 hown hK hW2 (zlN (hX 14 0 rfl)) rfl rfl rfl (by decide) (hts (.fieldLink RX5 22 "HailCity$Sharing" "waiting" "LHailCity$Request;") (by decide +kernel)) (fun _ h9 => h9) ((zv_r (by decide) (by decide)).trans (congrArg (zr ad 23) (show σ 14 0 2 = ((q : Nat) : Int) from by rw [hwq]))) dX5_latestAt_60 ?_
      refine zz_acmp_ne (tgt := 76) hx hb hW2 (hW1.2.2.2.1 26 0 k (hX 26 0 rfl) (Nat.le_of_ble_eq_true rfl) (Nat.le_of_ble_eq_true rfl)) (zlN (hX 23 q (decide_eq_true hq))) dX5_latestAt_63 (by decide) (fun hc63 => ?_) (fun hc63 => ?_)
      · refine zz_ldc (n := 1000000) (v := 1000000) hx hb hown (hts (.constant RX5 98 (1000000)) (by decide +kernel)) (by decide +kernel) dX5_latestAt_76 ?_
        refine W.eq (g2 := F0 m 78 ls [.int (zi 1000000)]) rfl ?_
        refine zz_reti hx hb hr hlocks hW2 hS2 ?_ dX5_latestAt_78
        refine ⟨rfl, ?_⟩
        unfold yLG
        (repeat' split) <;> first | rfl | (exfalso; omega)
      · refine zz_aload_n hx hb hl 1 dX5_latestAt_66 rfl rfl ?_
        refine zz_get (T := TX5) (N := 9) (k := 2) (κ := 14) (w := zr ad 23 ((q : Nat) : Int)) hx hb hts hinX5 hown hK hW2 (zlN (hX 14 0 rfl)) rfl rfl rfl (by decide) (hts (.fieldLink RX5 22 "HailCity$Sharing" "waiting" "LHailCity$Request;") (by decide +kernel)) (fun _ h9 => h9) ((zv_r (by decide) (by decide)).trans (congrArg (zr ad 23) (show σ 14 0 2 = ((q : Nat) : Int) from by rw [hwq]))) dX5_latestAt_67 ?_
        refine zz_getN (T := TX3) (N := 12) (k := 4) (κ := 23) (w := .int (zi (σ 23 q 4))) hx hb hts hinX3 hown hK hW2 (zlN (hX 23 q (decide_eq_true hq))) rfl rfl rfl (by decide) (host := "HailCity") (List.mem_of_getElem? (i := 32) rfl) (fun _ h9 => h9) rfl dX5_latestAt_70 ?_
        refine zz_goto (tgt := 78) hx hb dX5_latestAt_73 (by decide) ?_
        refine W.eq (g2 := F0 m 78 ls [.int (zi (σ 23 q 4))]) rfl ?_
        refine zz_reti hx hb hr hlocks hW2 hS2 ?_ dX5_latestAt_78
        refine ⟨rfl, ?_⟩
        unfold yLG
        (repeat' split) <;> first | rfl | (exfalso; omega)
    · refine zz_aload_n hx hb hl 0 dX5_latestAt_27 rfl rfl ?_
      refine zz_aload_n hx hb hl 1 dX5_latestAt_28 rfl rfl ?_
      refine zz_get (T := TX5) (N := 9) (k := 2) (κ := 14) (w := zr ad 23 ((q : Nat) : Int)) hx hb hts hinX5 hown hK hW2 (zlN (hX 14 0 rfl)) rfl rfl rfl (by decide) (hts (.fieldLink RX5 22 "HailCity$Sharing" "waiting" "LHailCity$Request;") (by decide +kernel)) (fun _ h9 => h9) ((zv_r (by decide) (by decide)).trans (congrArg (zr ad 23) (show σ 14 0 2 = ((q : Nat) : Int) from by rw [hwq]))) dX5_latestAt_29 ?_
      refine zz_acmp_ne (tgt := 53) hx hb hW2 (hW1.2.2.2.1 26 0 k (hX 26 0 rfl) (Nat.le_of_ble_eq_true rfl) (Nat.le_of_ble_eq_true rfl)) (zlN (hX 23 q (decide_eq_true hq))) dX5_latestAt_32 (by decide) (fun hc32 => ?_) (fun hc32 => ?_)
      · refine zz_aload_n hx hb hl 0 dX5_latestAt_53 rfl rfl ?_
        refine zz_getN (T := TX3) (N := 12) (k := 9) (κ := 23) (w := .int (zi (σ 23 ((σ 26 0 k).toNat) 9))) hx hb hts hinX3 hown hK hW2 hc10 rfl rfl rfl (by decide) (host := "HailCity") (List.mem_of_getElem? (i := 38) rfl) (fun _ h9 => h9) rfl dX5_latestAt_54 ?_
        refine W.eq (g2 := F0 m 57 ls [.int (zi (σ 23 ((σ 26 0 k).toNat) 9))]) rfl ?_
        refine zz_reti hx hb hr hlocks hW2 hS2 ?_ dX5_latestAt_57
        refine ⟨rfl, ?_⟩
        unfold yLG
        (repeat' split) <;> first | rfl | (exfalso; omega)
      · refine zz_aload_n hx hb hl 1 dX5_latestAt_35 rfl rfl ?_
        refine zz_get (T := TX5) (N := 9) (k := 0) (κ := 14) (w := zr ad 1 ((0 : Nat) : Int)) hx hb hts hinX5 hown hK hW2 (zlN (hX 14 0 rfl)) rfl rfl rfl (by decide) (hts (.fieldLink RX5 9 "HailCity$Sharing" "map" "LHailCity$CityMap;") (by decide +kernel)) (fun _ h9 => h9) rfl dX5_latestAt_36 ?_
        refine zz_aload_n hx hb hl 1 dX5_latestAt_39 rfl rfl ?_
        refine zz_get (T := TX5) (N := 9) (k := 2) (κ := 14) (w := zr ad 23 ((q : Nat) : Int)) hx hb hts hinX5 hown hK hW2 (zlN (hX 14 0 rfl)) rfl rfl rfl (by decide) (hts (.fieldLink RX5 22 "HailCity$Sharing" "waiting" "LHailCity$Request;") (by decide +kernel)) (fun _ h9 => h9) ((zv_r (by decide) (by decide)).trans (congrArg (zr ad 23) (show σ 14 0 2 = ((q : Nat) : Int) from by rw [hwq]))) dX5_latestAt_40 ?_
        refine zz_aload_n hx hb hl 1 dX5_latestAt_43 rfl rfl ?_
        refine zz_get (T := TX5) (N := 9) (k := 8) (κ := 14) (w := .int (zi (σ 14 0 8))) hx hb hts hinX5 hown hK hW2 (zlN (hX 14 0 rfl)) rfl rfl rfl (by decide) (hts (.fieldLink RX5 56 "HailCity$Sharing" "triedLetInAt" "I") (by decide +kernel)) (fun _ h9 => h9) rfl dX5_latestAt_44 ?_
        refine zz_callV (T := TX0) (N := 5) (As := [zr ad 23 ((q : Nat) : Int), .int (zi (σ 14 0 8))]) (rest := []) (v := ((0 : Nat) : Int)) (κ := 1) ⟨hx, hb, hml, hown, hts⟩ (c_X0_promiseOf l G ad A N0 σ nd nr hX q hq (σ 14 0 8) (hW0.2.2.1 _ _ _) hfr hto ⟨hw6, hft⟩) (cwV 2 hts gX5_latestAt_X0_promiseOf rfl rfl rfl (by decide +kernel) ⟨Nat.le_of_ble_eq_true rfl, Nat.le_of_ble_eq_true rfl⟩) hK hW2 (zlN (hX 1 0 rfl)) rfl rfl (Nat.le_trans hsz hS2.1) hS2 rfl hl.1.1 rfl (Nat.le_of_ble_eq_true rfl) dX5_latestAt_47 ⟨Nat.le_of_ble_eq_true rfl, Nat.le_of_ble_eq_true rfl⟩ (fun x3 σ3 H3 locs3 hp3 hW3 hz3 hS3 => ?_)
        obtain ⟨rfl, rfl⟩ := hp3
        refine W.eq (g2 := F0 m 50 ls [.int (zi (σ 14 0 8 + σ 6 (σ 23 q 1).toNat (σ 23 q 2).toNat * 3 / 2))]) rfl ?_
        refine zz_goto (tgt := 57) hx hb dX5_latestAt_50 (by decide) ?_
        refine W.eq (g2 := F0 m 57 ls [.int (zi (σ 14 0 8 + σ 6 (σ 23 q 1).toNat (σ 23 q 2).toNat * 3 / 2))]) rfl ?_
        refine zz_reti hx hb hr hlocks hW3 hS3 ?_ dX5_latestAt_57
        refine ⟨rfl, ?_⟩
        unfold yLG
        (repeat' split) <;> first | rfl | (exfalso; omega)
  · refine zz_ldc (n := 1000000) (v := 1000000) hx hb hown (hts (.constant RX5 98 (1000000)) (by decide +kernel)) (by decide +kernel) dX5_latestAt_13 ?_
    refine W.eq (g2 := F0 m 15 ls [.int (zi 1000000)]) rfl ?_
    refine zz_reti hx hb hr hlocks hW1 hS1 ?_ dX5_latestAt_15
    refine ⟨rfl, ?_⟩
    unfold yLG
    (repeat' split) <;> first | rfl | (exfalso; omega)

set_option maxHeartbeats 4000000 in
set_option maxRecDepth 100000 in
theorem c_X5_lastWith (l : Launch) (G : zG) (ad : zA) (A : Nat → Prop) (N0 : Nat) (σ : zS) (nd nr : Nat) (hX : zX ad nd nr) (d : Nat) (hd : d < nd) (q : Nat) (hq : q < nr) (hwq : σ 14 0 2 = (q : Int)) (hfr : 0 ≤ σ 23 q 1 ∧ σ 23 q 1 < 10) (hto : 0 ≤ σ 23 q 2 ∧ σ 23 q 2 < 10) (hft : σ 6 (σ 23 q 1).toNat (σ 23 q 2).toNat < 1000000) (n : Nat) (hn : σ 18 d 3 = (n : Int)) (hn1 : 1 ≤ n) (hP : ∀ j, j < n → 0 ≤ σ 20 d j ∧ σ 20 d j < 10) (hn6 : n ≤ 6) (hw : ∀ a b, a < 10 → b < 10 → 0 ≤ σ 6 a b ∧ (σ 6 a b < 1000000 → σ 6 a b ≤ 20480)) (hwd : ∀ a, a < 10 → σ 6 a a = 0) (ht : 0 ≤ σ 17 d 9 ∧ σ 17 d 9 ≤ 100000) (hnq : ∀ j, j < n → σ 21 d j ≠ (q : Int)) (f s9 : Nat) (hf1 : 1 ≤ f) (hfn : f ≤ n) (hfs : f < s9) (hsn : s9 ≤ n + 1) : Met l yX5_lastWith wsX5_lastWith ({ frames := 4, cells := 0, slots := 0, locals := 86 }) (zP G ad A N0 σ [zr ad 14 ((0 : Nat) : Int), zr ad 17 ((d : Nat) : Int), .int (zi ((f : Nat) : Int)), .int (zi ((s9 : Nat) : Int))]) (zQ G ad A zri (fun r u => ((∀ j, j < n + 2 → yok1 σ d q f s9 j) ∧ yT (σ 6) (σ 17 d 9) (yQ (σ 20 d) (σ 23 q 1) (σ 23 q 2) f s9) (n + 1) = r ∧ u 14 0 8 = yT (σ 6) (σ 17 d 9) (yQ (σ 20 d) (σ 23 q 1) (σ 23 q 2) f s9) f ∨ (¬ (∀ j, j < n + 2 → yok1 σ d q f s9 j)) ∧ -1 = r) ∧ zfr (fun κ i k => (κ = 14 ∧ i = 0 ∧ k = 8) ∨ (24 ≤ κ ∧ κ ≤ 27)) σ u)) 0 0 A := by
  refine zz_of (cc := cX5_lastWith) (maxL := 7) (ret := (some .int)) (by decide) rfl ⟨rfl, rfl⟩ (List.forall_mem_cons.mpr ⟨zr_cat _ _ _, List.forall_mem_cons.mpr ⟨zr_cat _ _ _, List.forall_mem_cons.mpr ⟨rfl, List.forall_mem_cons.mpr ⟨rfl, fun _ h => absurd h List.not_mem_nil⟩⟩⟩⟩) (Nat.le_of_ble_eq_true rfl) ?_
  intro p e s m below meth c hx hb hr hml hts hown hlocks hsz hW0 hK ls hl
  have hS0 : va_S A s.heap s.heap [] := va_S.rf
  have hl : zh ls 7 [(0, zr ad 14 ((0 : Nat) : Int)), (1, zr ad 17 ((d : Nat) : Int)), (2, .int (zi ((f : Nat) : Int))), (3, .int (zi ((s9 : Nat) : Int)))] := hl
  have hinX1 : ∀ w ∈ u_ws RX1 TX1 13, w ∈ wsX5_lastWith := by decide +kernel
  have hinX3 : ∀ w ∈ u_ws RX3 TX3 12, w ∈ wsX5_lastWith := by decide +kernel
  have hinX4 : ∀ w ∈ u_ws RX4 TX4 4, w ∈ wsX5_lastWith := by decide +kernel
  have hinX5 : ∀ w ∈ u_ws RX5 TX5 9, w ∈ wsX5_lastWith := by decide +kernel
  refine zz_aload_n hx hb hl 0 dX5_lastWith_0 rfl rfl ?_
  refine zz_get (T := TX5) (N := 9) (k := 1) (κ := 14) (w := zr ad 24 ((0 : Nat) : Int)) hx hb hts hinX5 hown hK hW0 (zlN (hX 14 0 rfl)) rfl rfl rfl (by decide) (hts (.fieldLink RX5 18 "HailCity$Sharing" "longer" "LHailCity$Row;") (by decide +kernel)) (fun _ h9 => h9) rfl dX5_lastWith_1 ?_
  refine zz_aload_n hx hb hl 1 dX5_lastWith_4 rfl rfl ?_
  refine zz_getN (T := TX1) (N := 13) (k := 1) (κ := 17) (w := zr ad 18 ((d : Nat) : Int)) hx hb hts hinX1 hown hK hW0 (zlN (hX 17 d (decide_eq_true hd))) rfl rfl rfl (by decide) (host := "HailCity") (List.mem_of_getElem? (i := 11) rfl) (fun _ h9 => h9) rfl dX5_lastWith_5 ?_
  refine zz_callV (T := TX4) (N := 4) (As := [zr ad 18 ((d : Nat) : Int)]) (rest := []) (v := ((0 : Nat) : Int)) (κ := 24) ⟨hx, hb, hml, hown, hts⟩ (c_X4L_copyFrom l G ad A N0 σ nd nr hX d hd (by rw [hn]; omega) (by rw [hn]; omega)) (cwV 1 hts gX5_lastWith_X4_copyFrom rfl rfl rfl (by decide +kernel) ⟨Nat.le_of_ble_eq_true rfl, Nat.le_of_ble_eq_true rfl⟩) hK hW0 (zlN (hX 24 0 rfl)) rfl rfl (Nat.le_trans hsz hS0.1) hS0 rfl hl.1.1 rfl (Nat.le_of_ble_eq_true rfl) dX5_lastWith_8 ⟨Nat.le_of_ble_eq_true rfl, Nat.le_of_ble_eq_true rfl⟩ (fun x1 σ1 H1 locs1 hp1 hW1 hz1 hS1 => ?_)
  obtain ⟨c1, c2, c3⟩ := hp1
  rw [hn] at c1 c2
  refine W.eq (g2 := F0 m 11 ls []) rfl ?_
  refine zz_aload_n hx hb hl 0 dX5_lastWith_11 rfl rfl ?_
  refine zz_get (T := TX5) (N := 9) (k := 1) (κ := 14) (w := zr ad 24 ((0 : Nat) : Int)) hx hb hts hinX5 hown hK hW1 (zlN (hX 14 0 rfl)) rfl rfl rfl (by decide) (hts (.fieldLink RX5 18 "HailCity$Sharing" "longer" "LHailCity$Row;") (by decide +kernel)) (fun _ h9 => h9) rfl dX5_lastWith_12 ?_
  refine zz_iload_n hx hb hl 2 dX5_lastWith_15 rfl rfl ?_
  refine zz_aload_n hx hb hl 0 dX5_lastWith_16 rfl rfl ?_
  refine zz_get (T := TX5) (N := 9) (k := 2) (κ := 14) (w := zr ad 23 ((q : Nat) : Int)) hx hb hts hinX5 hown hK hW1 (zlN (hX 14 0 rfl)) rfl rfl rfl (by decide) (hts (.fieldLink RX5 22 "HailCity$Sharing" "waiting" "LHailCity$Request;") (by decide +kernel)) (fun _ h9 => h9) ((zv_r (by decide) (by decide)).trans (congrArg (zr ad 23) (show σ1 14 0 2 = ((q : Nat) : Int) from by rw [c3 14 0 2 (by omega), hwq]))) dX5_lastWith_17 ?_
  refine zz_getN (T := TX3) (N := 12) (k := 1) (κ := 23) (w := .int (zi (σ 23 q 1))) hx hb hts hinX3 hown hK hW1 (zlN (hX 23 q (decide_eq_true hq))) rfl rfl rfl (by decide) (host := "HailCity") (List.mem_of_getElem? (i := 24) rfl) (fun _ h9 => h9) (congrArg (fun z => Value.int (zi z)) (show σ1 23 q 1 = σ 23 q 1 from by rw [c3 23 q 1 (by omega)])) dX5_lastWith_20 ?_
  refine zz_aload_n hx hb hl 0 dX5_lastWith_23 rfl rfl ?_
  refine zz_get (T := TX5) (N := 9) (k := 2) (κ := 14) (w := zr ad 23 ((q : Nat) : Int)) hx hb hts hinX5 hown hK hW1 (zlN (hX 14 0 rfl)) rfl rfl rfl (by decide) (hts (.fieldLink RX5 22 "HailCity$Sharing" "waiting" "LHailCity$Request;") (by decide +kernel)) (fun _ h9 => h9) ((zv_r (by decide) (by decide)).trans (congrArg (zr ad 23) (show σ1 14 0 2 = ((q : Nat) : Int) from by rw [c3 14 0 2 (by omega), hwq]))) dX5_lastWith_24 ?_
  refine zz_iconst hx hb dX5_lastWith_27 ?_
  refine zz_callV (T := TX4) (N := 4) (As := [.int (zi ((f : Nat) : Int)), .int (zi (σ 23 q 1)), zr ad 23 ((q : Nat) : Int), .int (zi 0)]) (rest := []) (v := ((0 : Nat) : Int)) (κ := 24) ⟨hx, hb, hml, hown, hts⟩ (c_X4L_put l G ad A N0 σ1 nd nr hX ((f : Nat) : Int) (σ 23 q 1) ((q : Nat) : Int) 0 ⟨by omega, by omega⟩ (hW0.2.2.1 _ _ _) (by have h9 := hW0.2.2.1 14 0 2; rw [hwq] at h9; exact h9) (Or.inr (zlN (hX 23 q (decide_eq_true hq)))) (Or.inl rfl) (by omega) (by rw [c1]; omega) (by rw [c1]; omega)) (cwV 4 hts gX5_lastWith_X4_put rfl rfl rfl (by decide +kernel) ⟨Nat.le_of_ble_eq_true rfl, Nat.le_of_ble_eq_true rfl⟩) hK hW1 (zlN (hX 24 0 rfl)) rfl rfl (Nat.le_trans hsz hS1.1) hS1 rfl hl.1.1 rfl (Nat.le_of_ble_eq_true rfl) dX5_lastWith_28 ⟨Nat.le_of_ble_eq_true rfl, Nat.le_of_ble_eq_true rfl⟩ (fun x2 σ2 H2 locs2 hp2 hW2 hz2 hS2 => ?_)
  obtain ⟨a1, a2, a3⟩ := hp2
  rw [c1] at a1 a2
  refine W.eq (g2 := F0 m 31 ls []) rfl ?_
  refine zz_aload_n hx hb hl 0 dX5_lastWith_31 rfl rfl ?_
  refine zz_get (T := TX5) (N := 9) (k := 1) (κ := 14) (w := zr ad 24 ((0 : Nat) : Int)) hx hb hts hinX5 hown hK hW2 (zlN (hX 14 0 rfl)) rfl rfl rfl (by decide) (hts (.fieldLink RX5 18 "HailCity$Sharing" "longer" "LHailCity$Row;") (by decide +kernel)) (fun _ h9 => h9) rfl dX5_lastWith_32 ?_
  refine zz_iload_n hx hb hl 3 dX5_lastWith_35 rfl rfl ?_
  refine zz_aload_n hx hb hl 0 dX5_lastWith_36 rfl rfl ?_
  refine zz_get (T := TX5) (N := 9) (k := 2) (κ := 14) (w := zr ad 23 ((q : Nat) : Int)) hx hb hts hinX5 hown hK hW2 (zlN (hX 14 0 rfl)) rfl rfl rfl (by decide) (hts (.fieldLink RX5 22 "HailCity$Sharing" "waiting" "LHailCity$Request;") (by decide +kernel)) (fun _ h9 => h9) ((zv_r (by decide) (by decide)).trans (congrArg (zr ad 23) (show σ2 14 0 2 = ((q : Nat) : Int) from by rw [a3 14 0 2 (by omega), c3 14 0 2 (by omega), hwq]))) dX5_lastWith_37 ?_
  refine zz_getN (T := TX3) (N := 12) (k := 2) (κ := 23) (w := .int (zi (σ 23 q 2))) hx hb hts hinX3 hown hK hW2 (zlN (hX 23 q (decide_eq_true hq))) rfl rfl rfl (by decide) (host := "HailCity") (List.mem_of_getElem? (i := 27) rfl) (fun _ h9 => h9) (congrArg (fun z => Value.int (zi z)) (show σ2 23 q 2 = σ 23 q 2 from by rw [a3 23 q 2 (by omega), c3 23 q 2 (by omega)])) dX5_lastWith_40 ?_
  refine zz_aload_n hx hb hl 0 dX5_lastWith_43 rfl rfl ?_
  refine zz_get (T := TX5) (N := 9) (k := 2) (κ := 14) (w := zr ad 23 ((q : Nat) : Int)) hx hb hts hinX5 hown hK hW2 (zlN (hX 14 0 rfl)) rfl rfl rfl (by decide) (hts (.fieldLink RX5 22 "HailCity$Sharing" "waiting" "LHailCity$Request;") (by decide +kernel)) (fun _ h9 => h9) ((zv_r (by decide) (by decide)).trans (congrArg (zr ad 23) (show σ2 14 0 2 = ((q : Nat) : Int) from by rw [a3 14 0 2 (by omega), c3 14 0 2 (by omega), hwq]))) dX5_lastWith_44 ?_
  refine zz_iconst hx hb dX5_lastWith_47 ?_
  refine zz_callV (T := TX4) (N := 4) (As := [.int (zi ((s9 : Nat) : Int)), .int (zi (σ 23 q 2)), zr ad 23 ((q : Nat) : Int), .int (zi 1)]) (rest := []) (v := ((0 : Nat) : Int)) (κ := 24) ⟨hx, hb, hml, hown, hts⟩ (c_X4L_put l G ad A N0 σ2 nd nr hX ((s9 : Nat) : Int) (σ 23 q 2) ((q : Nat) : Int) 1 ⟨by omega, by omega⟩ (hW0.2.2.1 _ _ _) (by have h9 := hW0.2.2.1 14 0 2; rw [hwq] at h9; exact h9) (Or.inr (zlN (hX 23 q (decide_eq_true hq)))) (Or.inr rfl) (by omega) (by rw [a1]; omega) (by rw [a1]; omega)) (cwV 4 hts gX5_lastWith_X4_put rfl rfl rfl (by decide +kernel) ⟨Nat.le_of_ble_eq_true rfl, Nat.le_of_ble_eq_true rfl⟩) hK hW2 (zlN (hX 24 0 rfl)) rfl rfl (Nat.le_trans hsz hS2.1) hS2 rfl hl.1.1 rfl (Nat.le_of_ble_eq_true rfl) dX5_lastWith_48 ⟨Nat.le_of_ble_eq_true rfl, Nat.le_of_ble_eq_true rfl⟩ (fun x3 σ3 H3 locs3 hp3 hW3 hz3 hS3 => ?_)
  obtain ⟨b1, b2, b3⟩ := hp3
  refine W.eq (g2 := F0 m 51 ls []) rfl ?_
  have hB1 : σ3 24 0 3 = ((n + 2 : Nat) : Int) := by rw [b1, a1]; omega
  have hB2 : ∀ j : Nat, j ≤ n + 1 → σ3 25 0 j = yQ (σ 20 d) (σ 23 q 1) (σ 23 q 2) f s9 j ∧ σ3 26 0 j = yQ (σ 21 d) (q : Int) (q : Int) f s9 j ∧ σ3 27 0 j = yQ (σ 22 d) 0 1 f s9 j := fun j hj => by
    have g2 := b2 j (by rw [a1]; omega)
    exact ⟨zins2 hfn hfs hsn hj (fun j hj => (c2 j (by omega)).1) (fun j hj => (a2 j (by omega)).1) g2.1, zins2 hfn hfs hsn hj (fun j hj => (c2 j (by omega)).2.1) (fun j hj => (a2 j (by omega)).2.1) g2.2.1, zins2 hfn hfs hsn hj (fun j hj => (c2 j (by omega)).2.2) (fun j hj => (a2 j (by omega)).2.2) g2.2.2⟩
  have hB3 : zfr (fun κ i k => (κ = 14 ∧ i = 0 ∧ k = 8) ∨ (24 ≤ κ ∧ κ ≤ 27)) σ σ3 := fun κ i k hn9 => by rw [b3 κ i k (by omega), a3 κ i k (by omega)]; exact c3 κ i k (by omega)
  have hQr : ∀ j, j < n + 2 → 0 ≤ yQ (σ 20 d) (σ 23 q 1) (σ 23 q 2) f s9 j ∧ yQ (σ 20 d) (σ 23 q 1) (σ 23 q 2) f s9 j < 10 := fun j hj => by
    unfold yQ
    split
    · exact hfr
    · split
      · exact hto
      · exact hP _ (by unfold yold; split <;> split <;> omega)
  have hwT : ∀ i, i < n + 2 → (∀ j, j < i → σ 6 (yQ (σ 20 d) (σ 23 q 1) (σ 23 q 2) f s9 j).toNat (yQ (σ 20 d) (σ 23 q 1) (σ 23 q 2) f s9 (j + 1)).toNat < 1000000) → σ 17 d 9 ≤ yT (σ 6) (σ 17 d 9) (yQ (σ 20 d) (σ 23 q 1) (σ 23 q 2) f s9) i ∧ yT (σ 6) (σ 17 d 9) (yQ (σ 20 d) (σ 23 q 1) (σ 23 q 2) f s9) i ≤ σ 17 d 9 + 20480 * i := fun i hi h => yT_rg i (fun j hj => by
    have h1 := hQr j (by omega)
    have h2 := hQr (j + 1) (by omega)
    have h3 := hw (yQ (σ 20 d) (σ 23 q 1) (σ 23 q 2) f s9 j).toNat (yQ (σ 20 d) (σ 23 q 1) (σ 23 q 2) f s9 (j + 1)).toNat (by omega) (by omega)
    exact ⟨h3.1, h3.2 (h j hj)⟩)
  refine zz_aload_n hx hb hl 1 dX5_lastWith_51 rfl rfl ?_
  refine zz_getN (T := TX1) (N := 13) (k := 9) (κ := 17) (w := .int (zi (σ 17 d 9))) hx hb hts hinX1 hown hK hW3 (zlN (hX 17 d (decide_eq_true hd))) rfl rfl rfl (by decide) (host := "HailCity") (List.mem_of_getElem? (i := 18) rfl) (fun _ h9 => h9) (congrArg (fun z => Value.int (zi z)) (show σ3 17 d 9 = σ 17 d 9 from by rw [b3 17 d 9 (by omega), a3 17 d 9 (by omega), c3 17 d 9 (by omega)])) dX5_lastWith_52 ?_
  refine zz_istore (lv' := [(4, .int (zi (σ 17 d 9))), (0, zr ad 14 ((0 : Nat) : Int)), (1, zr ad 17 ((d : Nat) : Int)), (2, .int (zi ((f : Nat) : Int))), (3, .int (zi ((s9 : Nat) : Int)))]) hx hb hl dX5_lastWith_55 (by decide) rfl (fun ls hl => ?_)
  refine zz_iconst hx hb dX5_lastWith_57 ?_
  refine zz_istore (lv' := [(5, .int (zi 0)), (4, .int (zi (σ 17 d 9))), (0, zr ad 14 ((0 : Nat) : Int)), (1, zr ad 17 ((d : Nat) : Int)), (2, .int (zi ((f : Nat) : Int))), (3, .int (zi ((s9 : Nat) : Int)))]) hx hb hl dX5_lastWith_58 (by decide) rfl (fun ls hl => ?_)
  have hcut60 : ∀ (n9 : Nat) (i : Nat) (mi : Int)  (σ9 : zS) (H9 : Heap) (locs9 : List Loc) (ls : Array Slot), (i ≤ n + 2 ∧ (∀ j, j < i → yok1 σ d q f s9 j) ∧ (i = 0 → mi = σ 17 d 9) ∧ (0 < i → mi = yT (σ 6) (σ 17 d 9) (yQ (σ 20 d) (σ 23 q 1) (σ 23 q 2) f s9) (i - 1)) ∧ (f < i → σ9 14 0 8 = yT (σ 6) (σ 17 d 9) (yQ (σ 20 d) (σ 23 q 1) (σ 23 q 2) f s9) f) ∧ σ9 24 0 3 = ((n + 2 : Nat) : Int) ∧ (∀ j : Nat, j ≤ n + 1 → σ9 25 0 j = yQ (σ 20 d) (σ 23 q 1) (σ 23 q 2) f s9 j ∧ σ9 26 0 j = yQ (σ 21 d) (q : Int) (q : Int) f s9 j ∧ σ9 27 0 j = yQ (σ 22 d) 0 1 f s9 j) ∧ zfr (fun κ i k => (κ = 14 ∧ i = 0 ∧ k = 8) ∨ (24 ≤ κ ∧ κ ≤ 27)) σ σ9) → (n + 2 - i) < n9 → ZW G ad A σ9 H9 → va_S A s.heap H9 locs9 → zh ls 7 [(0, zr ad 14 ((0 : Nat) : Int)), (1, zr ad 17 ((d : Nat) : Int)), (2, .int (zi ((f : Nat) : Int))), (3, .int (zi ((s9 : Nat) : Int))), (4, .int (zi mi)), (5, .int (zi ((i : Nat) : Int)))] → W p l e ({ frames := 4, cells := 0, slots := 0, locals := 86 }) s m ([zr ad 14 ((0 : Nat) : Int), zr ad 17 ((d : Nat) : Int), .int (zi ((f : Nat) : Int)), .int (zi ((s9 : Nat) : Int))] : List Value).toArray below meth c H9 locs9 0 0 (MQ below (zQ G ad A zri (fun r u => ((∀ j, j < n + 2 → yok1 σ d q f s9 j) ∧ yT (σ 6) (σ 17 d 9) (yQ (σ 20 d) (σ 23 q 1) (σ 23 q 2) f s9) (n + 1) = r ∧ u 14 0 8 = yT (σ 6) (σ 17 d 9) (yQ (σ 20 d) (σ 23 q 1) (σ 23 q 2) f s9) f ∨ (¬ (∀ j, j < n + 2 → yok1 σ d q f s9 j)) ∧ -1 = r) ∧ zfr (fun κ i k => (κ = 14 ∧ i = 0 ∧ k = 8) ∨ (24 ≤ κ ∧ κ ≤ 27)) σ u)) ([zr ad 14 ((0 : Nat) : Int), zr ad 17 ((d : Nat) : Int), .int (zi ((f : Nat) : Int)), .int (zi ((s9 : Nat) : Int))] : List Value).toArray s 0 0 A) (F0 m 60 ls []) := by
    intro n9
    induction n9 with
    | zero =>
      intro i mi σ4 H4 locs4 ls hI60 hm60 hW4 hS4 hl
      exact absurd hm60 (Nat.not_lt_zero _)
    | succ n9 ih60 =>
      intro i mi σ4 H4 locs4 ls hI60 hm60 hW4 hS4 hl
      obtain ⟨hi1, hi2, hi3, hi4, hi5, hi7, hi8, hi6⟩ := hI60
      have hmi : 0 ≤ mi ∧ mi ≤ 100000 + 20480 * i := by
        rcases Nat.eq_zero_or_pos i with h | h
        · have := hi3 h; omega
        · have h1 := hi4 h
          have h2 := hwT (i - 1) (by omega) (fun j hj => by have h3 := (hi2 (j + 1) (by omega)).1 (by omega); exact h3)
          omega
      refine zz_iload hx hb hl 5 dX5_lastWith_60 rfl ?_
      refine zz_aload_n hx hb hl 0 dX5_lastWith_62 rfl rfl ?_
      refine zz_get (T := TX5) (N := 9) (k := 1) (κ := 14) (w := zr ad 24 ((0 : Nat) : Int)) hx hb hts hinX5 hown hK hW4 (zlN (hX 14 0 rfl)) rfl rfl rfl (by decide) (hts (.fieldLink RX5 18 "HailCity$Sharing" "longer" "LHailCity$Row;") (by decide +kernel)) (fun _ h9 => h9) rfl dX5_lastWith_63 ?_
      refine zz_getN (T := TX4) (N := 4) (k := 3) (κ := 24) (w := .int (zi ((n + 2 : Nat) : Int))) hx hb hts hinX4 hown hK hW4 (zlN (hX 24 0 rfl)) rfl rfl rfl (by decide) (host := "HailCity") (List.mem_of_getElem? (i := 4) rfl) (fun _ h9 => h9) (congrArg (fun z => Value.int (zi z)) (show σ4 24 0 3 = ((n + 2 : Nat) : Int) from by rw [hi7])) dX5_lastWith_66 ?_
      refine zz_icmp_ge (tgt := 156) hx hb dX5_lastWith_69 (by decide) ⟨by omega, by omega⟩ ⟨by omega, by omega⟩ (fun hc69 => ?_) (fun hc69 => ?_)
      · refine zz_iload hx hb hl 4 dX5_lastWith_156 rfl ?_
        refine W.eq (g2 := F0 m 158 ls [.int (zi mi)]) rfl ?_
        refine zz_reti hx hb hr hlocks hW4 hS4 ?_ dX5_lastWith_158
        refine ⟨Or.inl ⟨fun j hj => hi2 j (by omega), ?_, hi5 (by omega)⟩, hi6⟩
        rw [hi4 (by omega), show i - 1 = n + 1 by omega]
      · have hcut108 : ∀ (mm : Int)  (H9 : Heap) (locs9 : List Loc) (ls : Array Slot), ((i = 0 ∧ mm = 0) ∨ (0 < i ∧ mm = if (0 ≤ yQ (σ 20 d) (σ 23 q 1) (σ 23 q 2) f s9 (i - 1) ∧ yQ (σ 20 d) (σ 23 q 1) (σ 23 q 2) f s9 (i - 1) < 10) ∧ (0 ≤ yQ (σ 20 d) (σ 23 q 1) (σ 23 q 2) f s9 i ∧ yQ (σ 20 d) (σ 23 q 1) (σ 23 q 2) f s9 i < 10) ∧ σ 6 (yQ (σ 20 d) (σ 23 q 1) (σ 23 q 2) f s9 (i - 1)).toNat (yQ (σ 20 d) (σ 23 q 1) (σ 23 q 2) f s9 i).toNat < 1000000 then σ 6 (yQ (σ 20 d) (σ 23 q 1) (σ 23 q 2) f s9 (i - 1)).toNat (yQ (σ 20 d) (σ 23 q 1) (σ 23 q 2) f s9 i).toNat else -1)) → ZW G ad A σ4 H9 → va_S A s.heap H9 locs9 → zh ls 7 [(0, zr ad 14 ((0 : Nat) : Int)), (1, zr ad 17 ((d : Nat) : Int)), (2, .int (zi ((f : Nat) : Int))), (3, .int (zi ((s9 : Nat) : Int))), (4, .int (zi mi)), (5, .int (zi ((i : Nat) : Int)))] → W p l e ({ frames := 4, cells := 0, slots := 0, locals := 86 }) s m ([zr ad 14 ((0 : Nat) : Int), zr ad 17 ((d : Nat) : Int), .int (zi ((f : Nat) : Int)), .int (zi ((s9 : Nat) : Int))] : List Value).toArray below meth c H9 locs9 0 0 (MQ below (zQ G ad A zri (fun r u => ((∀ j, j < n + 2 → yok1 σ d q f s9 j) ∧ yT (σ 6) (σ 17 d 9) (yQ (σ 20 d) (σ 23 q 1) (σ 23 q 2) f s9) (n + 1) = r ∧ u 14 0 8 = yT (σ 6) (σ 17 d 9) (yQ (σ 20 d) (σ 23 q 1) (σ 23 q 2) f s9) f ∨ (¬ (∀ j, j < n + 2 → yok1 σ d q f s9 j)) ∧ -1 = r) ∧ zfr (fun κ i k => (κ = 14 ∧ i = 0 ∧ k = 8) ∨ (24 ≤ κ ∧ κ ≤ 27)) σ u)) ([zr ad 14 ((0 : Nat) : Int), zr ad 17 ((d : Nat) : Int), .int (zi ((f : Nat) : Int)), .int (zi ((s9 : Nat) : Int))] : List Value).toArray s 0 0 A) (F0 m 108 ls [.int (zi mm)]) := by
          intro mm H5 locs5 ls hI108 hW5 hS5 hl
          have hgm : -1 ≤ mm ∧ mm < 1000000 := by
            rcases hI108 with ⟨h1, h2⟩ | ⟨h1, h2⟩
            · omega
            · split at h2
              · rename_i h3
                have := (hw (yQ (σ 20 d) (σ 23 q 1) (σ 23 q 2) f s9 (i - 1)).toNat (yQ (σ 20 d) (σ 23 q 1) (σ 23 q 2) f s9 i).toNat (by omega) (by omega)).1
                omega
              · omega
          refine zz_istore (lv' := [(6, .int (zi mm)), (0, zr ad 14 ((0 : Nat) : Int)), (1, zr ad 17 ((d : Nat) : Int)), (2, .int (zi ((f : Nat) : Int))), (3, .int (zi ((s9 : Nat) : Int))), (4, .int (zi mi)), (5, .int (zi ((i : Nat) : Int)))]) hx hb hl dX5_lastWith_108 (by decide) rfl (fun ls hl => ?_)
          refine zz_iload hx hb hl 0 dX5_lastWith_110 rfl ?_
          refine zz_iconst hx hb dX5_lastWith_112 ?_
          refine zz_icmp_ne (tgt := 118) hx hb dX5_lastWith_113 (by decide) ⟨by omega, by omega⟩ ⟨by decide, by decide⟩ (fun hc113 => ?_) (fun hc113 => ?_)
          · have hfin : (0 < i → σ 6 (yQ (σ 20 d) (σ 23 q 1) (σ 23 q 2) f s9 (i - 1)).toNat (yQ (σ 20 d) (σ 23 q 1) (σ 23 q 2) f s9 i).toNat < 1000000) ∧ (mi + mm = yT (σ 6) (σ 17 d 9) (yQ (σ 20 d) (σ 23 q 1) (σ 23 q 2) f s9) i ∧ 0 ≤ mm ∧ mm ≤ 20480) := by
              rcases hI108 with ⟨h1, h2⟩ | ⟨h1, h2⟩
              · subst h1
                refine ⟨fun w => absurd w (Nat.lt_irrefl 0), ?_, by omega, by omega⟩
                rw [h2, hi3 rfl]
                exact Int.add_zero _
              · have hQa := hQr (i - 1) (by omega)
                have hQb := hQr i (by omega)
                have hwi := hw (yQ (σ 20 d) (σ 23 q 1) (σ 23 q 2) f s9 (i - 1)).toNat (yQ (σ 20 d) (σ 23 q 1) (σ 23 q 2) f s9 i).toNat (by omega) (by omega)
                split at h2
                · rename_i h3
                  refine ⟨fun _ => h3.2.2, ?_, by rw [h2]; exact hwi.1, by rw [h2]; exact hwi.2 h3.2.2⟩
                  rw [h2, hi4 h1]
                  obtain ⟨i', rfl⟩ : ∃ i', i = i' + 1 := ⟨i - 1, by omega⟩
                  rfl
                · exfalso; omega
            obtain ⟨hfw, hTi, hm0, hm1⟩ := hfin
            refine zz_iload hx hb hl 5 dX5_lastWith_118 rfl ?_
            refine zz_iload hx hb hl 0 dX5_lastWith_120 rfl ?_
            refine zz_iadd hx hb dX5_lastWith_122 ?_
            refine zz_istore (lv' := [(4, .int (zi (mi + mm))), (6, .int (zi mm)), (0, zr ad 14 ((0 : Nat) : Int)), (1, zr ad 17 ((d : Nat) : Int)), (2, .int (zi ((f : Nat) : Int))), (3, .int (zi ((s9 : Nat) : Int))), (5, .int (zi ((i : Nat) : Int)))]) hx hb hl dX5_lastWith_123 (by decide) rfl (fun ls hl => ?_)
            have hcut137 : ∀  (σ9 : zS) (H9 : Heap) (locs9 : List Loc) (ls : Array Slot), ((f ≤ i → σ9 14 0 8 = yT (σ 6) (σ 17 d 9) (yQ (σ 20 d) (σ 23 q 1) (σ 23 q 2) f s9) f) ∧ σ9 24 0 3 = ((n + 2 : Nat) : Int) ∧ (∀ j : Nat, j ≤ n + 1 → σ9 25 0 j = yQ (σ 20 d) (σ 23 q 1) (σ 23 q 2) f s9 j ∧ σ9 26 0 j = yQ (σ 21 d) (q : Int) (q : Int) f s9 j ∧ σ9 27 0 j = yQ (σ 22 d) 0 1 f s9 j) ∧ zfr (fun κ i k => (κ = 14 ∧ i = 0 ∧ k = 8) ∨ (24 ≤ κ ∧ κ ≤ 27)) σ σ9) → ZW G ad A σ9 H9 → va_S A s.heap H9 locs9 → zh ls 7 [(0, zr ad 14 ((0 : Nat) : Int)), (1, zr ad 17 ((d : Nat) : Int)), (2, .int (zi ((f : Nat) : Int))), (3, .int (zi ((s9 : Nat) : Int))), (4, .int (zi (mi + mm))), (5, .int (zi ((i : Nat) : Int))), (6, .int (zi mm))] → W p l e ({ frames := 4, cells := 0, slots := 0, locals := 86 }) s m ([zr ad 14 ((0 : Nat) : Int), zr ad 17 ((d : Nat) : Int), .int (zi ((f : Nat) : Int)), .int (zi ((s9 : Nat) : Int))] : List Value).toArray below meth c H9 locs9 0 0 (MQ below (zQ G ad A zri (fun r u => ((∀ j, j < n + 2 → yok1 σ d q f s9 j) ∧ yT (σ 6) (σ 17 d 9) (yQ (σ 20 d) (σ 23 q 1) (σ 23 q 2) f s9) (n + 1) = r ∧ u 14 0 8 = yT (σ 6) (σ 17 d 9) (yQ (σ 20 d) (σ 23 q 1) (σ 23 q 2) f s9) f ∨ (¬ (∀ j, j < n + 2 → yok1 σ d q f s9 j)) ∧ -1 = r) ∧ zfr (fun κ i k => (κ = 14 ∧ i = 0 ∧ k = 8) ∨ (24 ≤ κ ∧ κ ≤ 27)) σ u)) ([zr ad 14 ((0 : Nat) : Int), zr ad 17 ((d : Nat) : Int), .int (zi ((f : Nat) : Int)), .int (zi ((s9 : Nat) : Int))] : List Value).toArray s 0 0 A) (F0 m 137 ls []) := by
              intro  σ6 H6 locs6 ls hI137 hW6 hS6 hl
              obtain ⟨hk7, hk1, hk2, hk6⟩ := hI137
              refine zz_iload hx hb hl 4 dX5_lastWith_137 rfl ?_
              refine zz_aload_n hx hb hl 0 dX5_lastWith_139 rfl rfl ?_
              refine zz_iload hx hb hl 5 dX5_lastWith_140 rfl ?_
              refine zz_callV (T := TX5) (N := 9) (As := [.int (zi ((i : Nat) : Int))]) (rest := [.int (zi (mi + mm))]) (v := ((0 : Nat) : Int)) (κ := 14) ⟨hx, hb, hml, hown, hts⟩ (c_X5_latestAt l G ad A N0 σ6 nd nr hX q hq (by rw [hk6 14 0 2 (by omega)]; exact hwq) (by rw [hk6 23 q 1 (by omega)]; exact hfr) (by rw [hk6 23 q 2 (by omega)]; exact hto) (by rw [hk6 23 q 1 (by omega), hk6 23 q 2 (by omega), hk6 6 _ _ (by omega)]; exact hft) (by rw [hk6 23 q 1 (by omega), hk6 23 q 2 (by omega), hk6 6 _ _ (by omega)]; exact (hw _ _ (by omega) (by omega)).1) i (by rw [hk1]; omega) (by rw [hk1]; omega)) (cwV 1 hts gX5_lastWith_X5_latestAt rfl rfl rfl (by decide +kernel) ⟨Nat.le_of_ble_eq_true rfl, Nat.le_of_ble_eq_true rfl⟩) hK hW6 (zlN (hX 14 0 rfl)) rfl rfl (Nat.le_trans hsz hS6.1) hS6 rfl hl.1.1 rfl (Nat.le_of_ble_eq_true rfl) dX5_lastWith_142 ⟨Nat.le_of_ble_eq_true rfl, Nat.le_of_ble_eq_true rfl⟩ (fun x7 σ7 H7 locs7 hp7 hW7 hz7 hS7 => ?_)
              obtain ⟨rfl, hx9⟩ := hp7
              rw [yLG_eq hfn hfs hsn (show i < n + 2 by omega) hnq (hk2 i (by omega)).2.1 (hk2 i (by omega)).2.2 hk7 (fun a b => hk6 23 a b (by omega)) (fun a b => hk6 6 a b (by omega))] at hx9
              have hgl : zg (yla (yL σ d) (σ 23 q 4) (yT (σ 6) (σ 17 d 9) (yQ (σ 20 d) (σ 23 q 1) (σ 23 q 2) f s9) f + σ 6 (σ 23 q 1).toNat (σ 23 q 2).toNat * 3 / 2) f s9 i) := by
                unfold yla
                split
                · exact hW0.2.2.1 _ _ _
                · split
                  · have h5 := hwT f (by omega) (fun j hj => by
                      rcases Nat.lt_or_ge (j + 1) i with h | h
                      · exact (hi2 (j + 1) h).1 (by omega)
                      · have h9 := hfw (by omega)
                        rw [show i = j + 1 by omega] at h9
                        exact h9)
                    have h6 := hw (σ 23 q 1).toNat (σ 23 q 2).toNat (by omega) (by omega)
                    have h7 := h6.2 hft
                    exact ⟨by omega, by omega⟩
                  · unfold yL
                    split
                    · exact hW0.2.2.1 _ _ _
                    · exact ⟨by decide, by decide⟩
              obtain rfl := hx9
              refine W.eq (g2 := F0 m 145 ls [.int (zi (yla (yL σ d) (σ 23 q 4) (yT (σ 6) (σ 17 d 9) (yQ (σ 20 d) (σ 23 q 1) (σ 23 q 2) f s9) f + σ 6 (σ 23 q 1).toNat (σ 23 q 2).toNat * 3 / 2) f s9 i)), .int (zi (mi + mm))]) rfl ?_
              refine zz_icmp_le (tgt := 150) hx hb dX5_lastWith_145 (by decide) ⟨by omega, by omega⟩ hgl (fun hc145 => ?_) (fun hc145 => ?_)
              · refine zz_iinc (lv' := [(5, .int (zi (((i : Nat) : Int) + 1))), (0, zr ad 14 ((0 : Nat) : Int)), (1, zr ad 17 ((d : Nat) : Int)), (2, .int (zi ((f : Nat) : Int))), (3, .int (zi ((s9 : Nat) : Int))), (4, .int (zi (mi + mm))), (6, .int (zi mm))]) hx hb hl dX5_lastWith_150 (k0 := 5) rfl (by decide) rfl (fun ls hl => ?_)
                refine zz_goto (tgt := 60) hx hb dX5_lastWith_153 (by decide) ?_
                refine ih60 (i + 1) (mi + mm) σ6 H7 locs7 ls ?_ (by omega) hW7 hS7 (zh_sub hl [1, 2, 3, 4, 5, 0] rfl)
                refine ⟨by omega, fun j hj => ?_, fun h => by omega, fun _ => hTi, fun h => hk7 (by omega), hk1, hk2, hk6⟩
                rcases Nat.lt_or_ge j i with h | h
                · exact hi2 j h
                · rw [show j = i by omega]
                  exact ⟨hfw, by rw [← hTi]; omega⟩
              · refine zz_iconst hx hb dX5_lastWith_148 ?_
                refine W.eq (g2 := F0 m 149 ls [.int (zi (-1))]) rfl ?_
                refine zz_reti hx hb hr hlocks hW7 hS7 ?_ dX5_lastWith_149
                refine ⟨Or.inr ⟨fun hall => ?_, rfl⟩, hk6⟩
                have h1 := (hall i (by omega)).2
                rw [← hTi] at h1
                omega
            refine zz_iload hx hb hl 6 dX5_lastWith_125 rfl ?_
            refine zz_iload_n hx hb hl 4 dX5_lastWith_127 rfl rfl ?_
            refine zz_icmp_ne (tgt := 137) hx hb dX5_lastWith_128 (by decide) ⟨by omega, by omega⟩ ⟨by omega, by omega⟩ (fun hc128 => ?_) (fun hc128 => ?_)
            · refine hcut137  σ4 H5 locs5 ls ?_ hW5 hS5 (zh_sub hl [2, 3, 4, 5, 0, 6, 1] rfl)
              exact ⟨fun h => hi5 (by omega), hi7, hi8, hi6⟩
            · refine zz_aload_n hx hb hl 2 dX5_lastWith_131 rfl rfl ?_
              refine zz_iload hx hb hl 0 dX5_lastWith_132 rfl ?_
              refine zz_put (T := TX5) (N := 9) (k := 8) (κ := 14) (v := ((0 : Nat) : Int)) (x := (mi + mm)) (ty := .int) hx hb hts hinX5 tyX5 tyX5_ok nmX5 hown hK hW5 hS5 (zlN (hX 14 0 rfl)) rfl rfl rfl (by decide) (hts (.fieldLink RX5 56 "HailCity$Sharing" "triedLetInAt" "I") (by decide +kernel)) (fun _ h9 => h9) rfl (by decide +kernel) rfl rfl rfl ⟨by omega, by omega⟩ (fun h9 _ => absurd h9 (by decide)) (fun h9 => absurd h9 (by decide)) dX5_lastWith_134 (fun H8 locs8 hW8' hS8 => ?_)
              obtain ⟨σ8, hs8⟩ : ∃ z, z = zu σ4 14 0 8 (mi + mm) := ⟨_, rfl⟩
              have hW8 : ZW G ad A σ8 H8 := by rw [hs8]; exact hW8'
              refine hcut137  σ8 H8 locs8 ls ?_ hW8 hS8 (zh_sub hl [2, 3, 4, 5, 0, 6, 1] rfl)
              refine ⟨fun h => ?_, ?_, fun j hj => ?_, fun κ' i' k' hn => ?_⟩
              · have hfi : f = i := by omega
                subst hfi
                rw [hs8, zu_same]
                exact hTi
              · rw [hs8, zu_k (by decide)]; exact hi7
              · rw [hs8, zu_k (by decide), zu_k (by decide), zu_k (by decide)]; exact hi8 j hj
              · rw [hs8, zu_ne (by omega)]
                exact hi6 _ _ _ hn
          · refine zz_iconst hx hb dX5_lastWith_116 ?_
            refine W.eq (g2 := F0 m 117 ls [.int (zi (-1))]) rfl ?_
            refine zz_reti hx hb hr hlocks hW5 hS5 ?_ dX5_lastWith_117
            refine ⟨Or.inr ⟨fun hall => ?_, rfl⟩, hi6⟩
            rcases hI108 with ⟨h1, h2⟩ | ⟨h1, h2⟩
            · omega
            · have h3 := (hall i (by omega)).1 h1
              rw [if_pos ⟨hQr _ (by omega), hQr _ (by omega), h3⟩] at h2
              have := (hw (yQ (σ 20 d) (σ 23 q 1) (σ 23 q 2) f s9 (i - 1)).toNat (yQ (σ 20 d) (σ 23 q 1) (σ 23 q 2) f s9 i).toNat (by have := hQr (i - 1) (by omega); omega) (by have := hQr i (by omega); omega)).1
              omega
        refine zz_iload hx hb hl 5 dX5_lastWith_72 rfl ?_
        refine zz_if_ne (tgt := 81) hx hb dX5_lastWith_74 (by decide) ⟨by omega, by omega⟩ (fun hc74 => ?_) (fun hc74 => ?_)
        · have hQa := hQr (i - 1) (by omega)
          have hQb := hQr i (by omega)
          have hwi := hw (yQ (σ 20 d) (σ 23 q 1) (σ 23 q 2) f s9 (i - 1)).toNat (yQ (σ 20 d) (σ 23 q 1) (σ 23 q 2) f s9 i).toNat (by omega) (by omega)
          refine zz_aload_n hx hb hl 0 dX5_lastWith_81 rfl rfl ?_
          refine zz_get (T := TX5) (N := 9) (k := 0) (κ := 14) (w := zr ad 1 ((0 : Nat) : Int)) hx hb hts hinX5 hown hK hW4 (zlN (hX 14 0 rfl)) rfl rfl rfl (by decide) (hts (.fieldLink RX5 9 "HailCity$Sharing" "map" "LHailCity$CityMap;") (by decide +kernel)) (fun _ h9 => h9) rfl dX5_lastWith_82 ?_
          refine zz_aload_n hx hb hl 0 dX5_lastWith_85 rfl rfl ?_
          refine zz_get (T := TX5) (N := 9) (k := 1) (κ := 14) (w := zr ad 24 ((0 : Nat) : Int)) hx hb hts hinX5 hown hK hW4 (zlN (hX 14 0 rfl)) rfl rfl rfl (by decide) (hts (.fieldLink RX5 18 "HailCity$Sharing" "longer" "LHailCity$Row;") (by decide +kernel)) (fun _ h9 => h9) rfl dX5_lastWith_86 ?_
          refine zz_iload hx hb hl 5 dX5_lastWith_89 rfl ?_
          refine zz_iconst hx hb dX5_lastWith_91 ?_
          refine zz_isub hx hb dX5_lastWith_92 ?_
          refine zz_callV (T := TX4) (N := 4) (As := [.int (zi (((i : Nat) : Int) - 1))]) (rest := [zr ad 1 ((0 : Nat) : Int)]) (v := ((0 : Nat) : Int)) (κ := 24) ⟨hx, hb, hml, hown, hts⟩ (c_X4L_placeAt l G ad A N0 σ4 nd nr hX ((((i : Nat) : Int) - 1)) ⟨by omega, by omega⟩ (by rw [hi7]; omega) (by rw [hi7]; omega)) (cwV 1 hts gX5_lastWith_X4_placeAt rfl rfl rfl (by decide +kernel) ⟨Nat.le_of_ble_eq_true rfl, Nat.le_of_ble_eq_true rfl⟩) hK hW4 (zlN (hX 24 0 rfl)) rfl rfl (Nat.le_trans hsz hS4.1) hS4 rfl hl.1.1 rfl (by simp [zr_cat, zcat_i]) dX5_lastWith_93 ⟨Nat.le_of_ble_eq_true rfl, Nat.le_of_ble_eq_true rfl⟩ (fun x9 σ9 H9 locs9 hp9 hW9 hz9 hS9 => ?_)
          obtain ⟨rfl, hx9⟩ := hp9
          rw [hi7, if_pos (by omega), show (((i : Nat) : Int) - 1).toNat = i - 1 by omega, (hi8 (i - 1) (by omega)).1] at hx9
          obtain rfl := hx9
          refine W.eq (g2 := F0 m 96 ls [.int (zi (yQ (σ 20 d) (σ 23 q 1) (σ 23 q 2) f s9 (i - 1))), zr ad 1 ((0 : Nat) : Int)]) rfl ?_
          refine zz_aload_n hx hb hl 0 dX5_lastWith_96 rfl rfl ?_
          refine zz_get (T := TX5) (N := 9) (k := 1) (κ := 14) (w := zr ad 24 ((0 : Nat) : Int)) hx hb hts hinX5 hown hK hW9 (zlN (hX 14 0 rfl)) rfl rfl rfl (by decide) (hts (.fieldLink RX5 18 "HailCity$Sharing" "longer" "LHailCity$Row;") (by decide +kernel)) (fun _ h9 => h9) rfl dX5_lastWith_97 ?_
          refine zz_iload hx hb hl 5 dX5_lastWith_100 rfl ?_
          refine zz_callV (T := TX4) (N := 4) (As := [.int (zi ((i : Nat) : Int))]) (rest := [.int (zi (yQ (σ 20 d) (σ 23 q 1) (σ 23 q 2) f s9 (i - 1))), zr ad 1 ((0 : Nat) : Int)]) (v := ((0 : Nat) : Int)) (κ := 24) ⟨hx, hb, hml, hown, hts⟩ (c_X4L_placeAt l G ad A N0 σ4 nd nr hX (((i : Nat) : Int)) ⟨by omega, by omega⟩ (by rw [hi7]; omega) (by rw [hi7]; omega)) (cwV 1 hts gX5_lastWith_X4_placeAt rfl rfl rfl (by decide +kernel) ⟨Nat.le_of_ble_eq_true rfl, Nat.le_of_ble_eq_true rfl⟩) hK hW9 (zlN (hX 24 0 rfl)) rfl rfl (Nat.le_trans hsz hS9.1) hS9 rfl hl.1.1 rfl (by simp [zr_cat, zcat_i]) dX5_lastWith_102 ⟨Nat.le_of_ble_eq_true rfl, Nat.le_of_ble_eq_true rfl⟩ (fun x10 σ10 H10 locs10 hp10 hW10 hz10 hS10 => ?_)
          obtain ⟨rfl, hx9⟩ := hp10
          rw [hi7, if_pos (by omega), show (((i : Nat) : Int)).toNat = i from rfl, (hi8 i (by omega)).1] at hx9
          obtain rfl := hx9
          refine W.eq (g2 := F0 m 105 ls [.int (zi (yQ (σ 20 d) (σ 23 q 1) (σ 23 q 2) f s9 i)), .int (zi (yQ (σ 20 d) (σ 23 q 1) (σ 23 q 2) f s9 (i - 1))), zr ad 1 ((0 : Nat) : Int)]) rfl ?_
          refine zz_callV (T := TX0) (N := 5) (As := [.int (zi (yQ (σ 20 d) (σ 23 q 1) (σ 23 q 2) f s9 (i - 1))), .int (zi (yQ (σ 20 d) (σ 23 q 1) (σ 23 q 2) f s9 i))]) (rest := []) (v := ((0 : Nat) : Int)) (κ := 1) ⟨hx, hb, hml, hown, hts⟩ (c_X0_minutesBetween l G ad A N0 σ4 nd nr hX (yQ (σ 20 d) (σ 23 q 1) (σ 23 q 2) f s9 (i - 1)) (yQ (σ 20 d) (σ 23 q 1) (σ 23 q 2) f s9 i) ⟨by omega, by omega⟩ ⟨by omega, by omega⟩) (cwV 2 hts gX5_lastWith_X0_minutesBetween rfl rfl rfl (by decide +kernel) ⟨Nat.le_of_ble_eq_true rfl, Nat.le_of_ble_eq_true rfl⟩) hK hW10 (zlN (hX 1 0 rfl)) rfl rfl (Nat.le_trans hsz hS10.1) hS10 rfl hl.1.1 rfl (Nat.le_of_ble_eq_true rfl) dX5_lastWith_105 ⟨Nat.le_of_ble_eq_true rfl, Nat.le_of_ble_eq_true rfl⟩ (fun x11 σ11 H11 locs11 hp11 hW11 hz11 hS11 => ?_)
          obtain ⟨rfl, hx9⟩ := hp11
          rw [hi6 6 _ _ (by omega)] at hx9
          refine W.eq (g2 := F0 m 108 ls [.int (zi x11)]) rfl ?_
          refine W.eq (g2 := F0 m 108 ls [.int (zi x11)]) (rfl) ?_
          refine hcut108 x11 H11 locs11 ls ?_ hW11 hS11 (zh_sub hl [0, 1, 2, 3, 4, 5] rfl)
          first | exact Or.inl ⟨by omega, rfl⟩ | exact Or.inr ⟨by omega, hx9.symm⟩
        · refine zz_iconst hx hb dX5_lastWith_77 ?_
          refine zz_goto (tgt := 108) hx hb dX5_lastWith_78 (by decide) ?_
          refine W.eq (g2 := F0 m 108 ls [.int (zi 0)]) (rfl) ?_
          refine hcut108 0 H4 locs4 ls ?_ hW4 hS4 (zh_sub hl [0, 1, 2, 3, 4, 5] rfl)
          first | exact Or.inl ⟨by omega, rfl⟩ | exact Or.inr ⟨by omega, hx9.symm⟩
  refine hcut60 _ 0 (σ 17 d 9) σ3 H3 locs3 ls ?_ (Nat.lt_succ_self _) hW3 hS3 (zh_sub hl [2, 3, 4, 5, 1, 0] rfl)
  exact ⟨Nat.zero_le _, fun j hj => absurd hj (Nat.not_lt_zero j), fun _ => rfl, fun h => absurd h (Nat.lt_irrefl 0), fun h => absurd h (Nat.not_lt_zero f), hB1, hB2, hB3⟩

def y5 (σ : zS) : Int × Int × Int × Int × Int := (σ 14 0 3, σ 14 0 4, σ 14 0 5, σ 14 0 6, σ 14 0 7)
def yls (σ : zS) (d n : Nat) : Int := yT (σ 6) (σ 17 d 9) (σ 20 d) (n - 1)
noncomputable def ysp (σ : zS) (d q n f s9 : Nat) (st : Int × Int × Int × Int × Int) : Int × Int × Int × Int × Int := @ite (Int × Int × Int × Int × Int) ((∀ j, j < n + 2 → yok1 σ d q f s9 j) ∧ (st.1 < 0 ∨ yT (σ 6) (σ 17 d 9) (yQ (σ 20 d) (σ 23 q 1) (σ 23 q 2) f s9) (n + 1) - yls σ d n < st.2.2.2.2)) (Classical.propDecidable _) ((d : Int), (f : Int), (s9 : Int), yT (σ 6) (σ 17 d 9) (yQ (σ 20 d) (σ 23 q 1) (σ 23 q 2) f s9) f, yT (σ 6) (σ 17 d 9) (yQ (σ 20 d) (σ 23 q 1) (σ 23 q 2) f s9) (n + 1) - yls σ d n) st
noncomputable def ys2 (σ : zS) (d q n f : Nat) : Nat → Int × Int × Int × Int × Int → Int × Int × Int × Int × Int
  | 0, st => st
  | k + 1, st => ysp σ d q n f (f + 1 + k) (ys2 σ d q n f k st)
noncomputable def ys1 (σ : zS) (d q n : Nat) : Nat → Int × Int × Int × Int × Int → Int × Int × Int × Int × Int
  | 0, st => st
  | k + 1, st => ys2 σ d q n (k + 1) (n + 1 - (k + 1)) (ys1 σ d q n k st)
theorem yok1_fr {σ u : zS} {d q f s9 j : Nat} (h : ∀ κ i k, κ ≠ 14 ∧ (κ < 24 ∨ 27 < κ) → u κ i k = σ κ i k) : yok1 u d q f s9 j ↔ yok1 σ d q f s9 j := by
  have e6 : u 6 = σ 6 := funext fun a => funext fun b => h 6 a b (by decide)
  have e20 : u 20 d = σ 20 d := funext fun b => h 20 d b (by decide)
  have eL : yL u d = yL σ d := funext fun k => by
    unfold yL
    rw [h 21 d k (by decide), h 22 d k (by decide), h 23 _ 9 (by decide)]
  unfold yok1
  rw [e6, e20, eL, h 17 d 9 (by decide), h 23 q 1 (by decide), h 23 q 2 (by decide), h 23 q 4 (by decide)]
theorem yTq_fr {σ u : zS} {d q f s9 j : Nat} (h : ∀ κ i k, κ ≠ 14 ∧ (κ < 24 ∨ 27 < κ) → u κ i k = σ κ i k) : yT (u 6) (u 17 d 9) (yQ (u 20 d) (u 23 q 1) (u 23 q 2) f s9) j = yT (σ 6) (σ 17 d 9) (yQ (σ 20 d) (σ 23 q 1) (σ 23 q 2) f s9) j := by
  have e6 : u 6 = σ 6 := funext fun a => funext fun b => h 6 a b (by decide)
  have e20 : u 20 d = σ 20 d := funext fun b => h 20 d b (by decide)
  rw [e6, e20, h 17 d 9 (by decide), h 23 q 1 (by decide), h 23 q 2 (by decide)]

set_option maxHeartbeats 4000000 in
set_option maxRecDepth 100000 in
theorem c_X5_tryDriver (l : Launch) (G : zG) (ad : zA) (A : Nat → Prop) (N0 : Nat) (σ : zS) (nd nr : Nat) (hX : zX ad nd nr) (d : Nat) (hd : d < nd) (q : Nat) (hq : q < nr) (hwq : σ 14 0 2 = (q : Int)) (hfr : 0 ≤ σ 23 q 1 ∧ σ 23 q 1 < 10) (hto : 0 ≤ σ 23 q 2 ∧ σ 23 q 2 < 10) (hft : σ 6 (σ 23 q 1).toNat (σ 23 q 2).toNat < 1000000) (n : Nat) (hn : σ 18 d 3 = (n : Int)) (hn1 : 1 ≤ n) (hP : ∀ j, j < n → 0 ≤ σ 20 d j ∧ σ 20 d j < 10) (hn6 : n ≤ 6) (hw : ∀ a b, a < 10 → b < 10 → 0 ≤ σ 6 a b ∧ (σ 6 a b < 1000000 → σ 6 a b ≤ 20480)) (hwd : ∀ a, a < 10 → σ 6 a a = 0) (ht : 0 ≤ σ 17 d 9 ∧ σ 17 d 9 ≤ 100000) (hnq : ∀ j, j < n → σ 21 d j ≠ (q : Int)) (hcf : ∀ j, j + 1 < n → σ 6 (σ 20 d j).toNat (σ 20 d (j + 1)).toNat < 1000000) (hnd8 : nd ≤ 8) : Met l yX5_tryDriver wsX5_tryDriver ({ frames := 5, cells := 0, slots := 0, locals := 112 }) (zP G ad A N0 σ [zr ad 14 ((0 : Nat) : Int), zr ad 17 ((d : Nat) : Int)]) (zQ G ad A zrv (fun _ u => y5 u = ys1 σ d q n n (y5 σ) ∧ zfr (fun κ i k => (κ = 14 ∧ i = 0 ∧ 3 ≤ k ∧ k ≤ 8) ∨ (24 ≤ κ ∧ κ ≤ 27)) σ u)) 0 0 A := by
  refine zz_of (cc := cX5_tryDriver) (maxL := 6) (ret := none) (by decide) rfl ⟨rfl, rfl⟩ (List.forall_mem_cons.mpr ⟨zr_cat _ _ _, List.forall_mem_cons.mpr ⟨zr_cat _ _ _, fun _ h => absurd h List.not_mem_nil⟩⟩) (Nat.le_of_ble_eq_true rfl) ?_
  intro p e s m below meth c hx hb hr hml hts hown hlocks hsz hW0 hK ls hl
  have hS0 : va_S A s.heap s.heap [] := va_S.rf
  have hl : zh ls 6 [(0, zr ad 14 ((0 : Nat) : Int)), (1, zr ad 17 ((d : Nat) : Int))] := hl
  have hinX1 : ∀ w ∈ u_ws RX1 TX1 13, w ∈ wsX5_tryDriver := by decide +kernel
  have hinX4 : ∀ w ∈ u_ws RX4 TX4 4, w ∈ wsX5_tryDriver := by decide +kernel
  have hinX5 : ∀ w ∈ u_ws RX5 TX5 9, w ∈ wsX5_tryDriver := by decide +kernel
  refine zz_aload_n hx hb hl 0 dX5_tryDriver_0 rfl rfl ?_
  refine zz_aload_n hx hb hl 1 dX5_tryDriver_1 rfl rfl ?_
  refine zz_callV (T := TX5) (N := 9) (As := [zr ad 17 ((d : Nat) : Int)]) (rest := []) (v := ((0 : Nat) : Int)) (κ := 14) ⟨hx, hb, hml, hown, hts⟩ (c_X5_lastAsItIs l G ad A N0 σ nd nr hX d hd n hn hn1 hP (by omega) (fun j hj => by have h1 := hP j (by omega); have h2 := hP (j + 1) (by omega); have h3 := hw (σ 20 d j).toNat (σ 20 d (j + 1)).toNat (by omega) (by omega); exact ⟨h3.1, h3.2 (hcf j hj)⟩) ht) (cwV 1 hts gX5_tryDriver_X5_lastAsItIs rfl rfl rfl (by decide +kernel) ⟨Nat.le_of_ble_eq_true rfl, Nat.le_of_ble_eq_true rfl⟩) hK hW0 (zlN (hX 14 0 rfl)) rfl rfl (Nat.le_trans hsz hS0.1) hS0 rfl hl.1.1 rfl (Nat.le_of_ble_eq_true rfl) dX5_tryDriver_2 ⟨Nat.le_of_ble_eq_true rfl, Nat.le_of_ble_eq_true rfl⟩ (fun x1 σ1 H1 locs1 hp1 hW1 hz1 hS1 => ?_)
  obtain ⟨rfl, rfl⟩ := hp1
  refine W.eq (g2 := F0 m 5 ls [.int (zi (yls σ d n))]) rfl ?_
  have hlr : σ 17 d 9 ≤ yls σ d n ∧ yls σ d n ≤ σ 17 d 9 + 20480 * ((n - 1 : Nat) : Int) := yT_rg (n - 1) (fun j hj => by
    have h1 := hP j (by omega)
    have h2 := hP (j + 1) (by omega)
    have h3 := hw (σ 20 d j).toNat (σ 20 d (j + 1)).toNat (by omega) (by omega)
    exact ⟨h3.1, h3.2 (hcf j (by omega))⟩)
  have hTb : ∀ f s9, f < s9 → 1 ≤ f → f ≤ n → s9 ≤ n + 1 → (∀ j, j < n + 2 → yok1 σ d q f s9 j) → ∀ i, i < n + 2 → 0 ≤ yT (σ 6) (σ 17 d 9) (yQ (σ 20 d) (σ 23 q 1) (σ 23 q 2) f s9) i ∧ yT (σ 6) (σ 17 d 9) (yQ (σ 20 d) (σ 23 q 1) (σ 23 q 2) f s9) i ≤ 300000 := fun f s9 h1 h2 h3 h4 h5 i hi => by
    have hQr : ∀ j, j < n + 2 → 0 ≤ yQ (σ 20 d) (σ 23 q 1) (σ 23 q 2) f s9 j ∧ yQ (σ 20 d) (σ 23 q 1) (σ 23 q 2) f s9 j < 10 := fun j hj => by
      unfold yQ
      split
      · exact hfr
      · split
        · exact hto
        · exact hP _ (by unfold yold; split <;> split <;> omega)
    have h6 := yT_rg (w := σ 6) (t0 := σ 17 d 9) (Q := yQ (σ 20 d) (σ 23 q 1) (σ 23 q 2) f s9) i (fun j hj => by
      have g1 := hQr j (by omega)
      have g2 := hQr (j + 1) (by omega)
      have g3 := hw (yQ (σ 20 d) (σ 23 q 1) (σ 23 q 2) f s9 j).toNat (yQ (σ 20 d) (σ 23 q 1) (σ 23 q 2) f s9 (j + 1)).toNat (by omega) (by omega)
      have g4 := (h5 (j + 1) (by omega)).1 (by omega)
      exact ⟨g3.1, g3.2 g4⟩)
    omega
  refine zz_istore_n (lv' := [(2, .int (zi (yls σ d n))), (0, zr ad 14 ((0 : Nat) : Int)), (1, zr ad 17 ((d : Nat) : Int))]) hx hb hl dX5_tryDriver_5 rfl (by decide) rfl (fun ls hl => ?_)
  refine zz_iconst hx hb dX5_tryDriver_6 ?_
  refine zz_istore_n (lv' := [(3, .int (zi 1)), (2, .int (zi (yls σ d n))), (0, zr ad 14 ((0 : Nat) : Int)), (1, zr ad 17 ((d : Nat) : Int))]) hx hb hl dX5_tryDriver_7 rfl (by decide) rfl (fun ls hl => ?_)
  have hcut8 : ∀ (n9 : Nat) (k0 : Nat)  (σ9 : zS) (H9 : Heap) (locs9 : List Loc) (ls : Array Slot), (k0 ≤ n ∧ y5 σ9 = ys1 σ d q n k0 (y5 σ) ∧ zfr (fun κ i k => (κ = 14 ∧ i = 0 ∧ 3 ≤ k ∧ k ≤ 8) ∨ (24 ≤ κ ∧ κ ≤ 27)) σ σ9) → (n - k0) < n9 → ZW G ad A σ9 H9 → va_S A s.heap H9 locs9 → zh ls 6 [(0, zr ad 14 ((0 : Nat) : Int)), (1, zr ad 17 ((d : Nat) : Int)), (2, .int (zi (yls σ d n))), (3, .int (zi ((k0 + 1 : Nat) : Int)))] → W p l e ({ frames := 5, cells := 0, slots := 0, locals := 112 }) s m ([zr ad 14 ((0 : Nat) : Int), zr ad 17 ((d : Nat) : Int)] : List Value).toArray below meth c H9 locs9 0 0 (MQ below (zQ G ad A zrv (fun _ u => y5 u = ys1 σ d q n n (y5 σ) ∧ zfr (fun κ i k => (κ = 14 ∧ i = 0 ∧ 3 ≤ k ∧ k ≤ 8) ∨ (24 ≤ κ ∧ κ ≤ 27)) σ u)) ([zr ad 14 ((0 : Nat) : Int), zr ad 17 ((d : Nat) : Int)] : List Value).toArray s 0 0 A) (F0 m 8 ls []) := by
    intro n9
    induction n9 with
    | zero =>
      intro k0 σ2 H2 locs2 ls hI8 hm8 hW2 hS2 hl
      exact absurd hm8 (Nat.not_lt_zero _)
    | succ n9 ih8 =>
      intro k0 σ2 H2 locs2 ls hI8 hm8 hW2 hS2 hl
      obtain ⟨hi1, hi2, hi3⟩ := hI8
      refine zz_iload_n hx hb hl 3 dX5_tryDriver_8 rfl rfl ?_
      refine zz_aload_n hx hb hl 1 dX5_tryDriver_9 rfl rfl ?_
      refine zz_getN (T := TX1) (N := 13) (k := 1) (κ := 17) (w := zr ad 18 ((d : Nat) : Int)) hx hb hts hinX1 hown hK hW2 (zlN (hX 17 d (decide_eq_true hd))) rfl rfl rfl (by decide) (host := "HailCity") (List.mem_of_getElem? (i := 11) rfl) (fun _ h9 => h9) rfl dX5_tryDriver_10 ?_
      refine zz_getN (T := TX4) (N := 4) (k := 3) (κ := 18) (w := .int (zi ((n : Nat) : Int))) hx hb hts hinX4 hown hK hW2 (zlN (hX 18 d (decide_eq_true hd))) rfl rfl rfl (by decide) (host := "HailCity") (List.mem_of_getElem? (i := 4) rfl) (fun _ h9 => h9) (congrArg (fun z => Value.int (zi z)) (show σ2 18 d 3 = ((n : Nat) : Int) from by rw [hi3 18 d 3 (by omega), hn])) dX5_tryDriver_13 ?_
      refine zz_icmp_gt (tgt := 116) hx hb dX5_tryDriver_16 (by decide) ⟨by omega, by omega⟩ ⟨by omega, by omega⟩ (fun hc16 => ?_) (fun hc16 => ?_)
      · refine W.eq (g2 := F0 m 116 ls []) rfl ?_
        refine zz_retv hx hb hr hlocks hW2 hS2 ?_ dX5_tryDriver_116
        exact ⟨by rw [hi2, show k0 = n by omega], hi3⟩
      · refine zz_iload_n hx hb hl 3 dX5_tryDriver_19 rfl rfl ?_
        refine zz_iconst hx hb dX5_tryDriver_20 ?_
        refine zz_iadd hx hb dX5_tryDriver_21 ?_
        refine zz_istore (lv' := [(4, .int (zi (((k0 + 1 : Nat) : Int) + 1))), (0, zr ad 14 ((0 : Nat) : Int)), (1, zr ad 17 ((d : Nat) : Int)), (2, .int (zi (yls σ d n))), (3, .int (zi ((k0 + 1 : Nat) : Int)))]) hx hb hl dX5_tryDriver_22 (by decide) rfl (fun ls hl => ?_)
        have hcut24 : ∀ (n9 : Nat) (s0 : Nat)  (σ9 : zS) (H9 : Heap) (locs9 : List Loc) (ls : Array Slot), ((k0 + 1) + s0 ≤ n + 1 ∧ y5 σ9 = ys2 σ d q n (k0 + 1) s0 (ys1 σ d q n k0 (y5 σ)) ∧ zfr (fun κ i k => (κ = 14 ∧ i = 0 ∧ 3 ≤ k ∧ k ≤ 8) ∨ (24 ≤ κ ∧ κ ≤ 27)) σ σ9) → (n + 1 - s0) < n9 → ZW G ad A σ9 H9 → va_S A s.heap H9 locs9 → zh ls 6 [(0, zr ad 14 ((0 : Nat) : Int)), (1, zr ad 17 ((d : Nat) : Int)), (2, .int (zi (yls σ d n))), (3, .int (zi ((k0 + 1 : Nat) : Int))), (4, .int (zi ((k0 + 1 + 1 + s0 : Nat) : Int)))] → W p l e ({ frames := 5, cells := 0, slots := 0, locals := 112 }) s m ([zr ad 14 ((0 : Nat) : Int), zr ad 17 ((d : Nat) : Int)] : List Value).toArray below meth c H9 locs9 0 0 (MQ below (zQ G ad A zrv (fun _ u => y5 u = ys1 σ d q n n (y5 σ) ∧ zfr (fun κ i k => (κ = 14 ∧ i = 0 ∧ 3 ≤ k ∧ k ≤ 8) ∨ (24 ≤ κ ∧ κ ≤ 27)) σ u)) ([zr ad 14 ((0 : Nat) : Int), zr ad 17 ((d : Nat) : Int)] : List Value).toArray s 0 0 A) (F0 m 24 ls []) := by
          intro n9
          induction n9 with
          | zero =>
            intro s0 σ3 H3 locs3 ls hI24 hm24 hW3 hS3 hl
            exact absurd hm24 (Nat.not_lt_zero _)
          | succ n9 ih24 =>
            intro s0 σ3 H3 locs3 ls hI24 hm24 hW3 hS3 hl
            obtain ⟨hj1, hj2, hj3⟩ := hI24
            refine zz_iload hx hb hl 4 dX5_tryDriver_24 rfl ?_
            refine zz_aload_n hx hb hl 1 dX5_tryDriver_26 rfl rfl ?_
            refine zz_getN (T := TX1) (N := 13) (k := 1) (κ := 17) (w := zr ad 18 ((d : Nat) : Int)) hx hb hts hinX1 hown hK hW3 (zlN (hX 17 d (decide_eq_true hd))) rfl rfl rfl (by decide) (host := "HailCity") (List.mem_of_getElem? (i := 11) rfl) (fun _ h9 => h9) rfl dX5_tryDriver_27 ?_
            refine zz_getN (T := TX4) (N := 4) (k := 3) (κ := 18) (w := .int (zi ((n : Nat) : Int))) hx hb hts hinX4 hown hK hW3 (zlN (hX 18 d (decide_eq_true hd))) rfl rfl rfl (by decide) (host := "HailCity") (List.mem_of_getElem? (i := 4) rfl) (fun _ h9 => h9) (congrArg (fun z => Value.int (zi z)) (show σ3 18 d 3 = ((n : Nat) : Int) from by rw [hj3 18 d 3 (by omega), hn])) dX5_tryDriver_30 ?_
            refine zz_iconst hx hb dX5_tryDriver_33 ?_
            refine zz_iadd hx hb dX5_tryDriver_34 ?_
            refine zz_icmp_gt (tgt := 110) hx hb dX5_tryDriver_35 (by decide) ⟨by omega, by omega⟩ ⟨by omega, by omega⟩ (fun hc35 => ?_) (fun hc35 => ?_)
            · refine zz_iinc (lv' := [(3, .int (zi (((k0 + 1 : Nat) : Int) + 1))), (0, zr ad 14 ((0 : Nat) : Int)), (1, zr ad 17 ((d : Nat) : Int)), (2, .int (zi (yls σ d n))), (4, .int (zi ((k0 + 1 + 1 + s0 : Nat) : Int)))]) hx hb hl dX5_tryDriver_110 (k0 := 3) rfl (by decide) rfl (fun ls hl => ?_)
              refine zz_goto (tgt := 8) hx hb dX5_tryDriver_113 (by decide) ?_
              refine ih8 (k0 + 1) σ3 H3 locs3 ls ?_ (by omega) hW3 hS3 (zh_sub hl [1, 2, 3, 0] rfl)
              refine ⟨by omega, ?_, hj3⟩
              rw [hj2, show s0 = n + 1 - (k0 + 1) by omega]
              rfl
            · refine zz_aload_n hx hb hl 0 dX5_tryDriver_38 rfl rfl ?_
              refine zz_aload_n hx hb hl 1 dX5_tryDriver_39 rfl rfl ?_
              refine zz_iload_n hx hb hl 3 dX5_tryDriver_40 rfl rfl ?_
              refine zz_iload hx hb hl 4 dX5_tryDriver_41 rfl ?_
              refine zz_callV (T := TX5) (N := 9) (As := [zr ad 17 ((d : Nat) : Int), .int (zi ((k0 + 1 : Nat) : Int)), .int (zi ((k0 + 1 + 1 + s0 : Nat) : Int))]) (rest := []) (v := ((0 : Nat) : Int)) (κ := 14) ⟨hx, hb, hml, hown, hts⟩ (c_X5_lastWith l G ad A N0 σ3 nd nr hX d hd q hq (by rw [hj3 14 0 2 (by omega)]; exact hwq) (by rw [hj3 23 q 1 (by omega)]; exact hfr) (by rw [hj3 23 q 2 (by omega)]; exact hto) (by rw [hj3 23 q 1 (by omega), hj3 23 q 2 (by omega), hj3 6 _ _ (by omega)]; exact hft) n (by rw [hj3 18 d 3 (by omega)]; exact hn) hn1 (fun j hj => by rw [hj3 20 d j (by omega)]; exact hP j hj) hn6 (fun a b ha hb => by rw [hj3 6 a b (by omega)]; exact hw a b ha hb) (fun a ha => by rw [hj3 6 a a (by omega)]; exact hwd a ha) (by rw [hj3 17 d 9 (by omega)]; exact ht) (fun j hj => by rw [hj3 21 d j (by omega)]; exact hnq j hj) (k0 + 1) ((k0 + 1) + 1 + s0) (by omega) (by omega) (by omega) (by omega)) (cwV 3 hts gX5_tryDriver_X5_lastWith rfl rfl rfl (by decide +kernel) ⟨Nat.le_of_ble_eq_true rfl, Nat.le_of_ble_eq_true rfl⟩) hK hW3 (zlN (hX 14 0 rfl)) rfl rfl (Nat.le_trans hsz hS3.1) hS3 rfl hl.1.1 rfl (Nat.le_of_ble_eq_true rfl) dX5_tryDriver_43 ⟨Nat.le_of_ble_eq_true rfl, Nat.le_of_ble_eq_true rfl⟩ (fun x4 σ4 H4 locs4 hp4 hW4 hz4 hS4 => ?_)
              have hfe : ∀ κ i k, κ ≠ 14 ∧ (κ < 24 ∨ 27 < κ) → σ3 κ i k = σ κ i k := fun κ i k h => hj3 κ i k (by omega)
              have hcl := hp4
              rw [show (∀ j, j < n + 2 → yok1 σ3 d q (k0 + 1) ((k0 + 1) + 1 + s0) j) ↔ (∀ j, j < n + 2 → yok1 σ d q (k0 + 1) ((k0 + 1) + 1 + s0) j) from ⟨fun h j hj => (yok1_fr hfe).mp (h j hj), fun h j hj => (yok1_fr hfe).mpr (h j hj)⟩, yTq_fr hfe, yTq_fr hfe] at hcl
              have hyo : y5 σ4 = y5 σ3 := by
                unfold y5
                rw [hcl.2 14 0 3 (by omega), hcl.2 14 0 4 (by omega), hcl.2 14 0 5 (by omega), hcl.2 14 0 6 (by omega), hcl.2 14 0 7 (by omega)]
              have hgx : zg x4 := by
                rcases hcl.1 with h | h
                · rw [← h.2.1]
                  have := hTb (k0 + 1) ((k0 + 1) + 1 + s0) (by omega) (by omega) (by omega) (by omega) h.1 (n + 1) (by omega)
                  exact ⟨by omega, by omega⟩
                · rw [← h.2]; exact ⟨by decide, by decide⟩
              refine W.eq (g2 := F0 m 46 ls [.int (zi x4)]) rfl ?_
              refine zz_istore (lv' := [(5, .int (zi x4)), (0, zr ad 14 ((0 : Nat) : Int)), (1, zr ad 17 ((d : Nat) : Int)), (2, .int (zi (yls σ d n))), (3, .int (zi ((k0 + 1 : Nat) : Int))), (4, .int (zi ((k0 + 1 + 1 + s0 : Nat) : Int)))]) hx hb hl dX5_tryDriver_46 (by decide) rfl (fun ls hl => ?_)
              refine zz_iload hx hb hl 0 dX5_tryDriver_48 rfl ?_
              refine zz_iconst hx hb dX5_tryDriver_50 ?_
              refine zz_icmp_eq (tgt := 104) hx hb dX5_tryDriver_51 (by decide) hgx ⟨by decide, by decide⟩ (fun hc51 => ?_) (fun hc51 => ?_)
              · refine zz_iinc (lv' := [(4, .int (zi (((k0 + 1 + 1 + s0 : Nat) : Int) + 1))), (5, .int (zi x4)), (0, zr ad 14 ((0 : Nat) : Int)), (1, zr ad 17 ((d : Nat) : Int)), (2, .int (zi (yls σ d n))), (3, .int (zi ((k0 + 1 : Nat) : Int)))]) hx hb hl dX5_tryDriver_104 (k0 := 5) rfl (by decide) rfl (fun ls hl => ?_)
                refine zz_goto (tgt := 24) hx hb dX5_tryDriver_107 (by decide) ?_
                refine ih24 (s0 + 1) σ4 H4 locs4 ls ?_ (by omega) hW4 hS4 (zh_sub hl [2, 3, 4, 5, 0] rfl)
                refine ⟨by omega, ?_, fun κ' i' k' hn => by rw [hcl.2 _ _ _ (by omega)]; exact hj3 _ _ _ hn⟩
                show _ = ysp σ d q n (k0 + 1) ((k0 + 1) + 1 + s0) (ys2 σ d q n (k0 + 1) s0 _)
                rw [← hj2, hyo]
                unfold ysp
                rw [if_neg]
                intro hw9
                rcases hcl.1 with h | h
                · first | (exfalso; have := hTb (k0 + 1) ((k0 + 1) + 1 + s0) (by omega) (by omega) (by omega) (by omega) h.1 (n + 1) (by omega); omega) | (have h5 := hw9.2; rw [h.2.1] at h5; have h6 : σ3 14 0 3 < 0 ∨ _ < σ3 14 0 7 := h5; have h7 := hc58.1; omega)
                · exact h.1 hw9.1
              · obtain ⟨hok, hxe, hli⟩ := hcl.1.resolve_right (fun w => hc51 w.2.symm)
                have hxb := hTb (k0 + 1) ((k0 + 1) + 1 + s0) (by omega) (by omega) (by omega) (by omega) hok (n + 1) (by omega)
                have hxf := hTb (k0 + 1) ((k0 + 1) + 1 + s0) (by omega) (by omega) (by omega) (by omega) hok (k0 + 1) (by omega)
                refine zz_aload_n hx hb hl 1 dX5_tryDriver_54 rfl rfl ?_
                refine zz_get (T := TX5) (N := 9) (k := 3) (κ := 14) (w := zr ad 17 (σ3 14 0 3)) hx hb hts hinX5 hown hK hW4 (zlN (hX 14 0 rfl)) rfl rfl rfl (by decide) (hts (.fieldLink RX5 26 "HailCity$Sharing" "driver" "LHailCity$Driver;") (by decide +kernel)) (fun _ h9 => h9) ((zv_r (by decide) (by decide)).trans (congrArg _ (show σ4 14 0 3 = σ3 14 0 3 from by rw [hcl.2 14 0 3 (by omega)]))) dX5_tryDriver_55 ?_
                refine zz_ifnull (tgt := 72) hx hb (hW3.2.2.2.1 14 _ 3 ((zlN (hX 14 0 rfl))).2 (by decide) (by decide)) dX5_tryDriver_58 (by decide) (fun hc58 => ?_) (fun hc58 => ?_)
                · have hcond : (y5 σ3).1 < 0 ∨ yT (σ 6) (σ 17 d 9) (yQ (σ 20 d) (σ 23 q 1) (σ 23 q 2) (k0 + 1) ((k0 + 1) + 1 + s0)) (n + 1) - yls σ d n < (y5 σ3).2.2.2.2 := by
                    rw [hxe]
                    first | exact Or.inl (show σ3 14 0 3 < 0 by omega) | exact Or.inr (show _ < σ3 14 0 7 by omega)
                  refine zz_aload_n hx hb hl 1 dX5_tryDriver_72 rfl rfl ?_
                  refine zz_aload_n hx hb hl 2 dX5_tryDriver_73 rfl rfl ?_
                  refine zz_put (T := TX5) (N := 9) (k := 3) (κ := 14) (v := ((0 : Nat) : Int)) (x := ((d : Nat) : Int)) (ty := (.object "HailCity$Driver")) hx hb hts hinX5 tyX5 tyX5_ok nmX5 hown hK hW4 hS4 (zlN (hX 14 0 rfl)) rfl rfl rfl (by decide) (hts (.fieldLink RX5 26 "HailCity$Sharing" "driver" "LHailCity$Driver;") (by decide +kernel)) (fun _ h9 => h9) rfl (by decide +kernel) (znar_r _ _ _ _) (zfit_r _ _ _ _) (zv_r (by decide) (by decide)) ⟨by omega, by omega⟩ (fun _ _ => (Or.inr (zlN (hX 17 d (decide_eq_true hd))))) (fun h9 => absurd h9 (by decide)) dX5_tryDriver_74 (fun H5 locs5 hW5' hS5 => ?_)
                  obtain ⟨σ5, hs5⟩ : ∃ z, z = zu σ4 14 0 3 ((d : Nat) : Int) := ⟨_, rfl⟩
                  have hW5 : ZW G ad A σ5 H5 := by rw [hs5]; exact hW5'
                  refine zz_aload_n hx hb hl 1 dX5_tryDriver_77 rfl rfl ?_
                  refine zz_iload_n hx hb hl 4 dX5_tryDriver_78 rfl rfl ?_
                  refine zz_put (T := TX5) (N := 9) (k := 4) (κ := 14) (v := ((0 : Nat) : Int)) (x := ((k0 + 1 : Nat) : Int)) (ty := .int) hx hb hts hinX5 tyX5 tyX5_ok nmX5 hown hK hW5 hS5 (zlN (hX 14 0 rfl)) rfl rfl rfl (by decide) (hts (.fieldLink RX5 50 "HailCity$Sharing" "in" "I") (by decide +kernel)) (fun _ h9 => h9) rfl (by decide +kernel) rfl rfl rfl ⟨by omega, by omega⟩ (fun h9 _ => absurd h9 (by decide)) (fun h9 => absurd h9 (by decide)) dX5_tryDriver_79 (fun H6 locs6 hW6' hS6 => ?_)
                  obtain ⟨σ6, hs6⟩ : ∃ z, z = zu σ5 14 0 4 ((k0 + 1 : Nat) : Int) := ⟨_, rfl⟩
                  have hW6 : ZW G ad A σ6 H6 := by rw [hs6]; exact hW6'
                  refine zz_aload_n hx hb hl 1 dX5_tryDriver_82 rfl rfl ?_
                  refine zz_iload hx hb hl 5 dX5_tryDriver_83 rfl ?_
                  refine zz_put (T := TX5) (N := 9) (k := 5) (κ := 14) (v := ((0 : Nat) : Int)) (x := ((k0 + 1 + 1 + s0 : Nat) : Int)) (ty := .int) hx hb hts hinX5 tyX5 tyX5_ok nmX5 hown hK hW6 hS6 (zlN (hX 14 0 rfl)) rfl rfl rfl (by decide) (hts (.fieldLink RX5 53 "HailCity$Sharing" "out" "I") (by decide +kernel)) (fun _ h9 => h9) rfl (by decide +kernel) rfl rfl rfl ⟨by omega, by omega⟩ (fun h9 _ => absurd h9 (by decide)) (fun h9 => absurd h9 (by decide)) dX5_tryDriver_85 (fun H7 locs7 hW7' hS7 => ?_)
                  obtain ⟨σ7, hs7⟩ : ∃ z, z = zu σ6 14 0 5 ((k0 + 1 + 1 + s0 : Nat) : Int) := ⟨_, rfl⟩
                  have hW7 : ZW G ad A σ7 H7 := by rw [hs7]; exact hW7'
                  refine zz_aload_n hx hb hl 1 dX5_tryDriver_88 rfl rfl ?_
                  refine zz_aload_n hx hb hl 1 dX5_tryDriver_89 rfl rfl ?_
                  refine zz_get (T := TX5) (N := 9) (k := 8) (κ := 14) (w := .int (zi (σ4 14 0 8))) hx hb hts hinX5 hown hK hW7 (zlN (hX 14 0 rfl)) rfl rfl rfl (by decide) (hts (.fieldLink RX5 56 "HailCity$Sharing" "triedLetInAt" "I") (by decide +kernel)) (fun _ h9 => h9) (congrArg (fun z => Value.int (zi z)) (show σ7 14 0 8 = σ4 14 0 8 from by rw [hs7, zu_s (by decide), hs6, zu_s (by decide), hs5, zu_s (by decide)])) dX5_tryDriver_90 ?_
                  refine zz_put (T := TX5) (N := 9) (k := 6) (κ := 14) (v := ((0 : Nat) : Int)) (x := (σ4 14 0 8)) (ty := .int) hx hb hts hinX5 tyX5 tyX5_ok nmX5 hown hK hW7 hS7 (zlN (hX 14 0 rfl)) rfl rfl rfl (by decide) (hts (.fieldLink RX5 59 "HailCity$Sharing" "letInAt" "I") (by decide +kernel)) (fun _ h9 => h9) rfl (by decide +kernel) rfl rfl rfl (hW4.2.2.1 _ _ _) (fun h9 _ => absurd h9 (by decide)) (fun h9 => absurd h9 (by decide)) dX5_tryDriver_93 (fun H8 locs8 hW8' hS8 => ?_)
                  obtain ⟨σ8, hs8⟩ : ∃ z, z = zu σ7 14 0 6 (σ4 14 0 8) := ⟨_, rfl⟩
                  have hW8 : ZW G ad A σ8 H8 := by rw [hs8]; exact hW8'
                  refine zz_aload_n hx hb hl 1 dX5_tryDriver_96 rfl rfl ?_
                  refine zz_iload hx hb hl 0 dX5_tryDriver_97 rfl ?_
                  refine zz_iload_n hx hb hl 3 dX5_tryDriver_99 rfl rfl ?_
                  refine zz_isub hx hb dX5_tryDriver_100 ?_
                  refine zz_put (T := TX5) (N := 9) (k := 7) (κ := 14) (v := ((0 : Nat) : Int)) (x := (x4 - (yls σ d n))) (ty := .int) hx hb hts hinX5 tyX5 tyX5_ok nmX5 hown hK hW8 hS8 (zlN (hX 14 0 rfl)) rfl rfl rfl (by decide) (hts (.fieldLink RX5 47 "HailCity$Sharing" "leastMore" "I") (by decide +kernel)) (fun _ h9 => h9) rfl (by decide +kernel) rfl rfl rfl ⟨by omega, by omega⟩ (fun h9 _ => absurd h9 (by decide)) (fun h9 => absurd h9 (by decide)) dX5_tryDriver_101 (fun H9 locs9 hW9' hS9 => ?_)
                  obtain ⟨σ9, hs9⟩ : ∃ z, z = zu σ8 14 0 7 (x4 - (yls σ d n)) := ⟨_, rfl⟩
                  have hW9 : ZW G ad A σ9 H9 := by rw [hs9]; exact hW9'
                  refine zz_iinc (lv' := [(4, .int (zi (((k0 + 1 + 1 + s0 : Nat) : Int) + 1))), (5, .int (zi x4)), (0, zr ad 14 ((0 : Nat) : Int)), (1, zr ad 17 ((d : Nat) : Int)), (2, .int (zi (yls σ d n))), (3, .int (zi ((k0 + 1 : Nat) : Int)))]) hx hb hl dX5_tryDriver_104 (k0 := 5) rfl (by decide) rfl (fun ls hl => ?_)
                  refine zz_goto (tgt := 24) hx hb dX5_tryDriver_107 (by decide) ?_
                  refine ih24 (s0 + 1) σ9 H9 locs9 ls ?_ (by omega) hW9 hS9 (zh_sub hl [2, 3, 4, 5, 0] rfl)
                  refine ⟨by omega, ?_, fun κ' i' k' hn => ?_⟩
                  · show _ = ysp σ d q n (k0 + 1) ((k0 + 1) + 1 + s0) (ys2 σ d q n (k0 + 1) s0 _)
                    rw [← hj2]
                    unfold ysp
                    rw [if_pos ⟨hok, hcond⟩]
                    simp only [y5, hs9, hs8, hs7, hs6, hs5, zu, Nat.reduceEqDiff, false_and, and_false, true_and, and_true, reduceIte]
                    rw [hli, ← hxe]
                  · rw [hs9, zu_ne (by omega), hs8, zu_ne (by omega), hs7, zu_ne (by omega), hs6, zu_ne (by omega), hs5, zu_ne (by omega), hcl.2 _ _ _ (by omega)]
                    exact hj3 _ _ _ hn
                · refine zz_iload hx hb hl 0 dX5_tryDriver_61 rfl ?_
                  refine zz_iload_n hx hb hl 3 dX5_tryDriver_63 rfl rfl ?_
                  refine zz_isub hx hb dX5_tryDriver_64 ?_
                  refine zz_aload_n hx hb hl 1 dX5_tryDriver_65 rfl rfl ?_
                  refine zz_get (T := TX5) (N := 9) (k := 7) (κ := 14) (w := .int (zi (σ3 14 0 7))) hx hb hts hinX5 hown hK hW4 (zlN (hX 14 0 rfl)) rfl rfl rfl (by decide) (hts (.fieldLink RX5 47 "HailCity$Sharing" "leastMore" "I") (by decide +kernel)) (fun _ h9 => h9) (congrArg (fun z => Value.int (zi z)) (show σ4 14 0 7 = σ3 14 0 7 from by rw [hcl.2 14 0 7 (by omega)])) dX5_tryDriver_66 ?_
                  refine zz_icmp_ge (tgt := 104) hx hb dX5_tryDriver_69 (by decide) ⟨by omega, by omega⟩ (hW3.2.2.1 _ _ _) (fun hc69 => ?_) (fun hc69 => ?_)
                  · refine zz_iinc (lv' := [(4, .int (zi (((k0 + 1 + 1 + s0 : Nat) : Int) + 1))), (5, .int (zi x4)), (0, zr ad 14 ((0 : Nat) : Int)), (1, zr ad 17 ((d : Nat) : Int)), (2, .int (zi (yls σ d n))), (3, .int (zi ((k0 + 1 : Nat) : Int)))]) hx hb hl dX5_tryDriver_104 (k0 := 5) rfl (by decide) rfl (fun ls hl => ?_)
                    refine zz_goto (tgt := 24) hx hb dX5_tryDriver_107 (by decide) ?_
                    refine ih24 (s0 + 1) σ4 H4 locs4 ls ?_ (by omega) hW4 hS4 (zh_sub hl [2, 3, 4, 5, 0] rfl)
                    refine ⟨by omega, ?_, fun κ' i' k' hn => by rw [hcl.2 _ _ _ (by omega)]; exact hj3 _ _ _ hn⟩
                    show _ = ysp σ d q n (k0 + 1) ((k0 + 1) + 1 + s0) (ys2 σ d q n (k0 + 1) s0 _)
                    rw [← hj2, hyo]
                    unfold ysp
                    rw [if_neg]
                    intro hw9
                    rcases hcl.1 with h | h
                    · first | (exfalso; have := hTb (k0 + 1) ((k0 + 1) + 1 + s0) (by omega) (by omega) (by omega) (by omega) h.1 (n + 1) (by omega); omega) | (have h5 := hw9.2; rw [h.2.1] at h5; have h6 : σ3 14 0 3 < 0 ∨ _ < σ3 14 0 7 := h5; have h7 := hc58.1; omega)
                    · exact h.1 hw9.1
                  · have hcond : (y5 σ3).1 < 0 ∨ yT (σ 6) (σ 17 d 9) (yQ (σ 20 d) (σ 23 q 1) (σ 23 q 2) (k0 + 1) ((k0 + 1) + 1 + s0)) (n + 1) - yls σ d n < (y5 σ3).2.2.2.2 := by
                      rw [hxe]
                      first | exact Or.inl (show σ3 14 0 3 < 0 by omega) | exact Or.inr (show _ < σ3 14 0 7 by omega)
                    refine zz_aload_n hx hb hl 1 dX5_tryDriver_72 rfl rfl ?_
                    refine zz_aload_n hx hb hl 2 dX5_tryDriver_73 rfl rfl ?_
                    refine zz_put (T := TX5) (N := 9) (k := 3) (κ := 14) (v := ((0 : Nat) : Int)) (x := ((d : Nat) : Int)) (ty := (.object "HailCity$Driver")) hx hb hts hinX5 tyX5 tyX5_ok nmX5 hown hK hW4 hS4 (zlN (hX 14 0 rfl)) rfl rfl rfl (by decide) (hts (.fieldLink RX5 26 "HailCity$Sharing" "driver" "LHailCity$Driver;") (by decide +kernel)) (fun _ h9 => h9) rfl (by decide +kernel) (znar_r _ _ _ _) (zfit_r _ _ _ _) (zv_r (by decide) (by decide)) ⟨by omega, by omega⟩ (fun _ _ => (Or.inr (zlN (hX 17 d (decide_eq_true hd))))) (fun h9 => absurd h9 (by decide)) dX5_tryDriver_74 (fun H10 locs10 hW10' hS10 => ?_)
                    obtain ⟨σ10, hs10⟩ : ∃ z, z = zu σ4 14 0 3 ((d : Nat) : Int) := ⟨_, rfl⟩
                    have hW10 : ZW G ad A σ10 H10 := by rw [hs10]; exact hW10'
                    refine zz_aload_n hx hb hl 1 dX5_tryDriver_77 rfl rfl ?_
                    refine zz_iload_n hx hb hl 4 dX5_tryDriver_78 rfl rfl ?_
                    refine zz_put (T := TX5) (N := 9) (k := 4) (κ := 14) (v := ((0 : Nat) : Int)) (x := ((k0 + 1 : Nat) : Int)) (ty := .int) hx hb hts hinX5 tyX5 tyX5_ok nmX5 hown hK hW10 hS10 (zlN (hX 14 0 rfl)) rfl rfl rfl (by decide) (hts (.fieldLink RX5 50 "HailCity$Sharing" "in" "I") (by decide +kernel)) (fun _ h9 => h9) rfl (by decide +kernel) rfl rfl rfl ⟨by omega, by omega⟩ (fun h9 _ => absurd h9 (by decide)) (fun h9 => absurd h9 (by decide)) dX5_tryDriver_79 (fun H11 locs11 hW11' hS11 => ?_)
                    obtain ⟨σ11, hs11⟩ : ∃ z, z = zu σ10 14 0 4 ((k0 + 1 : Nat) : Int) := ⟨_, rfl⟩
                    have hW11 : ZW G ad A σ11 H11 := by rw [hs11]; exact hW11'
                    refine zz_aload_n hx hb hl 1 dX5_tryDriver_82 rfl rfl ?_
                    refine zz_iload hx hb hl 5 dX5_tryDriver_83 rfl ?_
                    refine zz_put (T := TX5) (N := 9) (k := 5) (κ := 14) (v := ((0 : Nat) : Int)) (x := ((k0 + 1 + 1 + s0 : Nat) : Int)) (ty := .int) hx hb hts hinX5 tyX5 tyX5_ok nmX5 hown hK hW11 hS11 (zlN (hX 14 0 rfl)) rfl rfl rfl (by decide) (hts (.fieldLink RX5 53 "HailCity$Sharing" "out" "I") (by decide +kernel)) (fun _ h9 => h9) rfl (by decide +kernel) rfl rfl rfl ⟨by omega, by omega⟩ (fun h9 _ => absurd h9 (by decide)) (fun h9 => absurd h9 (by decide)) dX5_tryDriver_85 (fun H12 locs12 hW12' hS12 => ?_)
                    obtain ⟨σ12, hs12⟩ : ∃ z, z = zu σ11 14 0 5 ((k0 + 1 + 1 + s0 : Nat) : Int) := ⟨_, rfl⟩
                    have hW12 : ZW G ad A σ12 H12 := by rw [hs12]; exact hW12'
                    refine zz_aload_n hx hb hl 1 dX5_tryDriver_88 rfl rfl ?_
                    refine zz_aload_n hx hb hl 1 dX5_tryDriver_89 rfl rfl ?_
                    refine zz_get (T := TX5) (N := 9) (k := 8) (κ := 14) (w := .int (zi (σ4 14 0 8))) hx hb hts hinX5 hown hK hW12 (zlN (hX 14 0 rfl)) rfl rfl rfl (by decide) (hts (.fieldLink RX5 56 "HailCity$Sharing" "triedLetInAt" "I") (by decide +kernel)) (fun _ h9 => h9) (congrArg (fun z => Value.int (zi z)) (show σ12 14 0 8 = σ4 14 0 8 from by rw [hs12, zu_s (by decide), hs11, zu_s (by decide), hs10, zu_s (by decide)])) dX5_tryDriver_90 ?_
                    refine zz_put (T := TX5) (N := 9) (k := 6) (κ := 14) (v := ((0 : Nat) : Int)) (x := (σ4 14 0 8)) (ty := .int) hx hb hts hinX5 tyX5 tyX5_ok nmX5 hown hK hW12 hS12 (zlN (hX 14 0 rfl)) rfl rfl rfl (by decide) (hts (.fieldLink RX5 59 "HailCity$Sharing" "letInAt" "I") (by decide +kernel)) (fun _ h9 => h9) rfl (by decide +kernel) rfl rfl rfl (hW4.2.2.1 _ _ _) (fun h9 _ => absurd h9 (by decide)) (fun h9 => absurd h9 (by decide)) dX5_tryDriver_93 (fun H13 locs13 hW13' hS13 => ?_)
                    obtain ⟨σ13, hs13⟩ : ∃ z, z = zu σ12 14 0 6 (σ4 14 0 8) := ⟨_, rfl⟩
                    have hW13 : ZW G ad A σ13 H13 := by rw [hs13]; exact hW13'
                    refine zz_aload_n hx hb hl 1 dX5_tryDriver_96 rfl rfl ?_
                    refine zz_iload hx hb hl 0 dX5_tryDriver_97 rfl ?_
                    refine zz_iload_n hx hb hl 3 dX5_tryDriver_99 rfl rfl ?_
                    refine zz_isub hx hb dX5_tryDriver_100 ?_
                    refine zz_put (T := TX5) (N := 9) (k := 7) (κ := 14) (v := ((0 : Nat) : Int)) (x := (x4 - (yls σ d n))) (ty := .int) hx hb hts hinX5 tyX5 tyX5_ok nmX5 hown hK hW13 hS13 (zlN (hX 14 0 rfl)) rfl rfl rfl (by decide) (hts (.fieldLink RX5 47 "HailCity$Sharing" "leastMore" "I") (by decide +kernel)) (fun _ h9 => h9) rfl (by decide +kernel) rfl rfl rfl ⟨by omega, by omega⟩ (fun h9 _ => absurd h9 (by decide)) (fun h9 => absurd h9 (by decide)) dX5_tryDriver_101 (fun H14 locs14 hW14' hS14 => ?_)
                    obtain ⟨σ14, hs14⟩ : ∃ z, z = zu σ13 14 0 7 (x4 - (yls σ d n)) := ⟨_, rfl⟩
                    have hW14 : ZW G ad A σ14 H14 := by rw [hs14]; exact hW14'
                    refine zz_iinc (lv' := [(4, .int (zi (((k0 + 1 + 1 + s0 : Nat) : Int) + 1))), (5, .int (zi x4)), (0, zr ad 14 ((0 : Nat) : Int)), (1, zr ad 17 ((d : Nat) : Int)), (2, .int (zi (yls σ d n))), (3, .int (zi ((k0 + 1 : Nat) : Int)))]) hx hb hl dX5_tryDriver_104 (k0 := 5) rfl (by decide) rfl (fun ls hl => ?_)
                    refine zz_goto (tgt := 24) hx hb dX5_tryDriver_107 (by decide) ?_
                    refine ih24 (s0 + 1) σ14 H14 locs14 ls ?_ (by omega) hW14 hS14 (zh_sub hl [2, 3, 4, 5, 0] rfl)
                    refine ⟨by omega, ?_, fun κ' i' k' hn => ?_⟩
                    · show _ = ysp σ d q n (k0 + 1) ((k0 + 1) + 1 + s0) (ys2 σ d q n (k0 + 1) s0 _)
                      rw [← hj2]
                      unfold ysp
                      rw [if_pos ⟨hok, hcond⟩]
                      simp only [y5, hs14, hs13, hs12, hs11, hs10, zu, Nat.reduceEqDiff, false_and, and_false, true_and, and_true, reduceIte]
                      rw [hli, ← hxe]
                    · rw [hs14, zu_ne (by omega), hs13, zu_ne (by omega), hs12, zu_ne (by omega), hs11, zu_ne (by omega), hs10, zu_ne (by omega), hcl.2 _ _ _ (by omega)]
                      exact hj3 _ _ _ hn
        refine hcut24 _ 0 σ2 H2 locs2 ls ?_ (Nat.lt_succ_self _) hW2 hS2 (zh_sub hl [1, 2, 3, 4, 0] rfl)
        exact ⟨by omega, hi2, hi3⟩
  refine hcut8 _ 0 σ H1 locs1 ls ?_ (Nat.lt_succ_self _) hW1 hS1 (zh_sub hl [2, 3, 1, 0] rfl)
  exact ⟨Nat.zero_le _, rfl, fun _ _ _ _ => rfl⟩
