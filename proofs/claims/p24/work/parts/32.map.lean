set_option maxHeartbeats 4000000 in
set_option maxRecDepth 100000 in
theorem c_X0_isPlace (l : Launch) (G : zG) (ad : zA) (A : Nat → Prop) (N0 : Nat) (σ : zS) (a : Int) (ga : zg a) : Met l yX0_isPlace wsX0_isPlace ({ frames := 0, cells := 0, slots := 0, locals := 0 }) (zP G ad A N0 σ [.int (zi a)]) (zQ G ad A zri (fun r u => σ = u ∧ zb (0 ≤ a ∧ a < 10) = r)) 0 0 A := by
  refine zz_of (cc := cX0_isPlace) (maxL := 1) (ret := (some .boolean)) (by decide) rfl ⟨rfl, rfl⟩ (List.forall_mem_cons.mpr ⟨rfl, fun _ h => absurd h List.not_mem_nil⟩) (Nat.le_of_ble_eq_true rfl) ?_
  intro p e s m below meth c hx hb hr hml hts hown hlocks hsz hW0 hK ls hl
  have hS0 : va_S A s.heap s.heap [] := va_S.rf
  have hl : zh ls 1 [(0, .int (zi a))] := hl
  refine zz_iload_n hx hb hl 0 dX0_isPlace_0 rfl rfl ?_
  refine zz_if_lt (tgt := 14) hx hb dX0_isPlace_1 (by decide) ga (fun hc1 => ?_) (fun hc1 => ?_)
  · refine zz_iconst hx hb dX0_isPlace_14 ?_
    refine W.eq (g2 := F0 m 15 ls [.int (zi 0)]) rfl ?_
    refine zz_retz hx hb hr hlocks hW0 hS0 (by decide) ?_ dX0_isPlace_15
    first | exact ⟨rfl, zb_t (by omega)⟩ | exact ⟨rfl, zb_f (by omega)⟩
  · refine zz_iload_n hx hb hl 0 dX0_isPlace_4 rfl rfl ?_
    refine zz_bipush hx hb dX0_isPlace_5 (by decide +kernel) ?_
    refine zz_icmp_ge (tgt := 14) hx hb dX0_isPlace_7 (by decide) ga ⟨by decide, by decide⟩ (fun hc7 => ?_) (fun hc7 => ?_)
    · refine zz_iconst hx hb dX0_isPlace_14 ?_
      refine W.eq (g2 := F0 m 15 ls [.int (zi 0)]) rfl ?_
      refine zz_retz hx hb hr hlocks hW0 hS0 (by decide) ?_ dX0_isPlace_15
      first | exact ⟨rfl, zb_t (by omega)⟩ | exact ⟨rfl, zb_f (by omega)⟩
    · refine zz_iconst hx hb dX0_isPlace_10 ?_
      refine zz_goto (tgt := 15) hx hb dX0_isPlace_11 (by decide) ?_
      refine W.eq (g2 := F0 m 15 ls [.int (zi 1)]) rfl ?_
      refine zz_retz hx hb hr hlocks hW0 hS0 (by decide) ?_ dX0_isPlace_15
      first | exact ⟨rfl, zb_t (by omega)⟩ | exact ⟨rfl, zb_f (by omega)⟩

set_option maxHeartbeats 4000000 in
set_option maxRecDepth 100000 in
theorem c_X0_minutesBetween (l : Launch) (G : zG) (ad : zA) (A : Nat → Prop) (N0 : Nat) (σ : zS) (nd nr : Nat) (hX : zX ad nd nr) (a b : Int) (ga : zg a) (gb : zg b) : Met l yX0_minutesBetween wsX0_minutesBetween ({ frames := 1, cells := 0, slots := 0, locals := 20 }) (zP G ad A N0 σ [zr ad 1 ((0 : Nat) : Int), .int (zi a), .int (zi b)]) (zQ G ad A zri (fun r u => σ = u ∧ (if (0 ≤ a ∧ a < 10) ∧ (0 ≤ b ∧ b < 10) ∧ σ 6 a.toNat b.toNat < 1000000 then σ 6 a.toNat b.toNat else -1) = r)) 0 0 A := by
  refine zz_of (cc := cX0_minutesBetween) (maxL := 3) (ret := (some .int)) (by decide) rfl ⟨rfl, rfl⟩ (List.forall_mem_cons.mpr ⟨zr_cat _ _ _, List.forall_mem_cons.mpr ⟨rfl, List.forall_mem_cons.mpr ⟨rfl, fun _ h => absurd h List.not_mem_nil⟩⟩⟩) (Nat.le_of_ble_eq_true rfl) ?_
  intro p e s m below meth c hx hb hr hml hts hown hlocks hsz hW0 hK ls hl
  have hS0 : va_S A s.heap s.heap [] := va_S.rf
  have hl : zh ls 3 [(0, zr ad 1 ((0 : Nat) : Int)), (1, .int (zi a)), (2, .int (zi b))] := hl
  have hinX0 : ∀ w ∈ u_ws RX0 TX0 5, w ∈ wsX0_minutesBetween := by decide +kernel
  refine zz_iload_n hx hb hl 1 dX0_minutesBetween_0 rfl rfl ?_
  refine zz_callS (As := [.int (zi a)]) (rest := []) ⟨hx, hb, hml, hown, hts⟩ (c_X0_isPlace l G ad A N0 σ a ga) (va_cwS 1 hts gX0_minutesBetween_X0_isPlace rfl rfl rfl (by decide +kernel) ⟨Nat.le_of_ble_eq_true rfl, Nat.le_of_ble_eq_true rfl⟩) hK hW0 (Nat.le_trans hsz hS0.1) hS0 rfl hl.1.1 rfl (Nat.le_of_ble_eq_true rfl) dX0_minutesBetween_1 ⟨Nat.le_of_ble_eq_true rfl, Nat.le_of_ble_eq_true rfl⟩ (fun x1 σ1 H1 locs1 hp1 hW1 hz1 hS1 => ?_)
  obtain ⟨rfl, rfl⟩ := hp1
  refine W.eq (g2 := F0 m 4 ls [.int (zi (zb (0 ≤ a ∧ a < 10)))]) rfl ?_
  refine zz_if_eqb (tgt := 27) hx hb dX0_minutesBetween_4 (by decide) (fun hc4 => ?_) (fun hc4 => ?_)
  · refine zz_iconst hx hb dX0_minutesBetween_27 ?_
    refine W.eq (g2 := F0 m 28 ls [.int (zi (-1))]) rfl ?_
    refine zz_reti hx hb hr hlocks hW1 hS1 ?_ dX0_minutesBetween_28
    first | exact ⟨rfl, if_pos (by omega)⟩ | exact ⟨rfl, if_neg (by omega)⟩
  · refine zz_iload_n hx hb hl 2 dX0_minutesBetween_7 rfl rfl ?_
    refine zz_callS (As := [.int (zi b)]) (rest := []) ⟨hx, hb, hml, hown, hts⟩ (c_X0_isPlace l G ad A N0 σ b gb) (va_cwS 1 hts gX0_minutesBetween_X0_isPlace rfl rfl rfl (by decide +kernel) ⟨Nat.le_of_ble_eq_true rfl, Nat.le_of_ble_eq_true rfl⟩) hK hW1 (Nat.le_trans hsz hS1.1) hS1 rfl hl.1.1 rfl (Nat.le_of_ble_eq_true rfl) dX0_minutesBetween_8 ⟨Nat.le_of_ble_eq_true rfl, Nat.le_of_ble_eq_true rfl⟩ (fun x2 σ2 H2 locs2 hp2 hW2 hz2 hS2 => ?_)
    obtain ⟨rfl, rfl⟩ := hp2
    refine W.eq (g2 := F0 m 11 ls [.int (zi (zb (0 ≤ b ∧ b < 10)))]) rfl ?_
    refine zz_if_eqb (tgt := 27) hx hb dX0_minutesBetween_11 (by decide) (fun hc11 => ?_) (fun hc11 => ?_)
    · refine zz_iconst hx hb dX0_minutesBetween_27 ?_
      refine W.eq (g2 := F0 m 28 ls [.int (zi (-1))]) rfl ?_
      refine zz_reti hx hb hr hlocks hW2 hS2 ?_ dX0_minutesBetween_28
      first | exact ⟨rfl, if_pos (by omega)⟩ | exact ⟨rfl, if_neg (by omega)⟩
    · refine zz_aload_n hx hb hl 0 dX0_minutesBetween_14 rfl rfl ?_
      refine zz_get (T := TX0) (N := 5) (k := 3) (κ := 1) (w := zr ad 5 ((0 : Nat) : Int)) hx hb hts hinX0 hown hK hW2 (zlN (hX 1 0 rfl)) rfl rfl rfl (by decide) (hts (.fieldLink RX0 23 "HailCity$CityMap" "between" "[[I") (by decide +kernel)) (fun _ h9 => h9) rfl dX0_minutesBetween_15 ?_
      refine zz_iload_n hx hb hl 1 dX0_minutesBetween_18 rfl rfl ?_
      refine zz_aald (w := zr ad 6 (((a).toNat : Nat) : Int)) hx hb hK hW2 (zlN (hX 5 0 rfl)) rfl rfl (by show (0 : Int) ≤ a; omega) (by show a < (10 : Int); omega) rfl dX0_minutesBetween_19 ?_
      refine zz_iload_n hx hb hl 2 dX0_minutesBetween_20 rfl rfl ?_
      refine zz_iald (w := σ 6 ((a).toNat) ((b).toNat)) hx hb hK hW2 (zlN (hX 6 ((a).toNat) (decide_eq_true (by omega)))) rfl rfl rfl (by show (0 : Int) ≤ b; omega) (by show b < (10 : Int); omega) rfl dX0_minutesBetween_21 ?_
      refine zz_ldc (n := 1000000) (v := 1000000) hx hb hown (hts (.constant RX0 37 (1000000)) (by decide +kernel)) (by decide +kernel) dX0_minutesBetween_22 ?_
      refine zz_icmp_lt (tgt := 29) hx hb dX0_minutesBetween_24 (by decide) (hW2.2.2.1 _ _ _) ⟨by decide, by decide⟩ (fun hc24 => ?_) (fun hc24 => ?_)
      · refine zz_aload_n hx hb hl 0 dX0_minutesBetween_29 rfl rfl ?_
        refine zz_get (T := TX0) (N := 5) (k := 3) (κ := 1) (w := zr ad 5 ((0 : Nat) : Int)) hx hb hts hinX0 hown hK hW2 (zlN (hX 1 0 rfl)) rfl rfl rfl (by decide) (hts (.fieldLink RX0 23 "HailCity$CityMap" "between" "[[I") (by decide +kernel)) (fun _ h9 => h9) rfl dX0_minutesBetween_30 ?_
        refine zz_iload_n hx hb hl 1 dX0_minutesBetween_33 rfl rfl ?_
        refine zz_aald (w := zr ad 6 (((a).toNat : Nat) : Int)) hx hb hK hW2 (zlN (hX 5 0 rfl)) rfl rfl (by show (0 : Int) ≤ a; omega) (by show a < (10 : Int); omega) rfl dX0_minutesBetween_34 ?_
        refine zz_iload_n hx hb hl 2 dX0_minutesBetween_35 rfl rfl ?_
        refine zz_iald (w := σ 6 ((a).toNat) ((b).toNat)) hx hb hK hW2 (zlN (hX 6 ((a).toNat) (decide_eq_true (by omega)))) rfl rfl rfl (by show (0 : Int) ≤ b; omega) (by show b < (10 : Int); omega) rfl dX0_minutesBetween_36 ?_
        refine W.eq (g2 := F0 m 37 ls [.int (zi (σ 6 ((a).toNat) ((b).toNat)))]) rfl ?_
        refine zz_reti hx hb hr hlocks hW2 hS2 ?_ dX0_minutesBetween_37
        first | exact ⟨rfl, if_pos (by omega)⟩ | exact ⟨rfl, if_neg (by omega)⟩
      · refine zz_iconst hx hb dX0_minutesBetween_27 ?_
        refine W.eq (g2 := F0 m 28 ls [.int (zi (-1))]) rfl ?_
        refine zz_reti hx hb hr hlocks hW2 hS2 ?_ dX0_minutesBetween_28
        first | exact ⟨rfl, if_pos (by omega)⟩ | exact ⟨rfl, if_neg (by omega)⟩

set_option maxHeartbeats 4000000 in
set_option maxRecDepth 100000 in
theorem c_X0_promiseOf (l : Launch) (G : zG) (ad : zA) (A : Nat → Prop) (N0 : Nat) (σ : zS) (nd nr : Nat) (hX : zX ad nd nr) (q : Nat) (hq : q < nr) (a : Int) (ga : zg a) (hf : 0 ≤ σ 23 q 1 ∧ σ 23 q 1 < 10) (ht : 0 ≤ σ 23 q 2 ∧ σ 23 q 2 < 10) (hw : 0 ≤ σ 6 (σ 23 q 1).toNat (σ 23 q 2).toNat ∧ σ 6 (σ 23 q 1).toNat (σ 23 q 2).toNat < 1000000) : Met l yX0_promiseOf wsX0_promiseOf ({ frames := 2, cells := 0, slots := 0, locals := 42 }) (zP G ad A N0 σ [zr ad 1 ((0 : Nat) : Int), zr ad 23 ((q : Nat) : Int), .int (zi a)]) (zQ G ad A zri (fun r u => σ = u ∧ a + σ 6 (σ 23 q 1).toNat (σ 23 q 2).toNat * 3 / 2 = r)) 0 0 A := by
  refine zz_of (cc := cX0_promiseOf) (maxL := 3) (ret := (some .int)) (by decide) rfl ⟨rfl, rfl⟩ (List.forall_mem_cons.mpr ⟨zr_cat _ _ _, List.forall_mem_cons.mpr ⟨zr_cat _ _ _, List.forall_mem_cons.mpr ⟨rfl, fun _ h => absurd h List.not_mem_nil⟩⟩⟩) (Nat.le_of_ble_eq_true rfl) ?_
  intro p e s m below meth c hx hb hr hml hts hown hlocks hsz hW0 hK ls hl
  have hS0 : va_S A s.heap s.heap [] := va_S.rf
  have hl : zh ls 3 [(0, zr ad 1 ((0 : Nat) : Int)), (1, zr ad 23 ((q : Nat) : Int)), (2, .int (zi a))] := hl
  have hinX3 : ∀ w ∈ u_ws RX3 TX3 12, w ∈ wsX0_promiseOf := by decide +kernel
  refine zz_iload_n hx hb hl 2 dX0_promiseOf_0 rfl rfl ?_
  refine zz_aload_n hx hb hl 0 dX0_promiseOf_1 rfl rfl ?_
  refine zz_aload_n hx hb hl 1 dX0_promiseOf_2 rfl rfl ?_
  refine zz_getN (T := TX3) (N := 12) (k := 1) (κ := 23) (w := .int (zi (σ 23 q 1))) hx hb hts hinX3 hown hK hW0 (zlN (hX 23 q (decide_eq_true hq))) rfl rfl rfl (by decide) (host := "HailCity") (List.mem_of_getElem? (i := 25) rfl) (fun _ h9 => h9) rfl dX0_promiseOf_3 ?_
  refine zz_aload_n hx hb hl 1 dX0_promiseOf_6 rfl rfl ?_
  refine zz_getN (T := TX3) (N := 12) (k := 2) (κ := 23) (w := .int (zi (σ 23 q 2))) hx hb hts hinX3 hown hK hW0 (zlN (hX 23 q (decide_eq_true hq))) rfl rfl rfl (by decide) (host := "HailCity") (List.mem_of_getElem? (i := 28) rfl) (fun _ h9 => h9) rfl dX0_promiseOf_7 ?_
  refine zz_callV (T := TX0) (N := 5) (As := [.int (zi (σ 23 q 1)), .int (zi (σ 23 q 2))]) (rest := [.int (zi a)]) (v := ((0 : Nat) : Int)) (κ := 1) ⟨hx, hb, hml, hown, hts⟩ (c_X0_minutesBetween l G ad A N0 σ nd nr hX (σ 23 q 1) (σ 23 q 2) (hW0.2.2.1 _ _ _) (hW0.2.2.1 _ _ _)) (cwV 2 hts gX0_promiseOf_X0_minutesBetween rfl rfl rfl (by decide +kernel) ⟨Nat.le_of_ble_eq_true rfl, Nat.le_of_ble_eq_true rfl⟩) hK hW0 (zlN (hX 1 0 rfl)) rfl rfl (Nat.le_trans hsz hS0.1) hS0 rfl hl.1.1 rfl (Nat.le_of_ble_eq_true rfl) dX0_promiseOf_10 ⟨Nat.le_of_ble_eq_true rfl, Nat.le_of_ble_eq_true rfl⟩ (fun x1 σ1 H1 locs1 hp1 hW1 hz1 hS1 => ?_)
  obtain ⟨rfl, rfl⟩ := hp1
  rw [if_pos ⟨hf, ht, hw.2⟩]
  refine W.eq (g2 := F0 m 13 ls [.int (zi (σ 6 (σ 23 q 1).toNat (σ 23 q 2).toNat)), .int (zi a)]) rfl ?_
  refine zz_iconst hx hb dX0_promiseOf_13 ?_
  refine zz_imul hx hb dX0_promiseOf_14 ?_
  refine zz_iconst hx hb dX0_promiseOf_15 ?_
  refine zz_idiv hx hb dX0_promiseOf_16 ⟨by omega, by omega⟩ ⟨by decide, by decide⟩ (by omega) (by omega) ?_
  refine zz_iadd hx hb dX0_promiseOf_17 ?_
  refine W.eq (g2 := F0 m 18 ls [.int (zi (a + (((σ 6 (σ 23 q 1).toNat (σ 23 q 2).toNat) * 3) / 2)))]) rfl ?_
  refine zz_reti hx hb hr hlocks hW1 hS1 ?_ dX0_promiseOf_18
  exact ⟨rfl, rfl⟩

set_option maxHeartbeats 4000000 in
set_option maxRecDepth 100000 in
theorem c_X0_goOver (l : Launch) (G : zG) (ad : zA) (A : Nat → Prop) (N0 : Nat) (σ : zS) (nd nr : Nat) (hX : zX ad nd nr) (o : Nat) (ho : o < 10) (hw : ∀ a b, a < 10 → b < 10 → 0 ≤ σ 6 a b ∧ σ 6 a b ≤ 1000000) (hd : σ 6 o o = 0) : Met l yX0_goOver wsX0_goOver ({ frames := 1, cells := 0, slots := 0, locals := 21 }) (zP G ad A N0 σ [zr ad 1 ((0 : Nat) : Int), .int (zi ((o : Nat) : Int))]) (zQ G ad A zrv (fun _ u => (∀ a b, a < 10 → b < 10 → u 6 a b = ywo (σ 6) o a b) ∧ zfr (fun κ _ _ => κ = 6) σ u)) 0 0 A := by
  refine zz_of (cc := cX0_goOver) (maxL := 4) (ret := none) (by decide) rfl ⟨rfl, rfl⟩ (List.forall_mem_cons.mpr ⟨zr_cat _ _ _, List.forall_mem_cons.mpr ⟨rfl, fun _ h => absurd h List.not_mem_nil⟩⟩) (Nat.le_of_ble_eq_true rfl) ?_
  intro p e s m below meth c hx hb hr hml hts hown hlocks hsz hW0 hK ls hl
  have hS0 : va_S A s.heap s.heap [] := va_S.rf
  have hl : zh ls 4 [(0, zr ad 1 ((0 : Nat) : Int)), (1, .int (zi ((o : Nat) : Int)))] := hl
  have hinX0 : ∀ w ∈ u_ws RX0 TX0 5, w ∈ wsX0_goOver := by decide +kernel
  refine zz_iconst hx hb dX0_goOver_0 ?_
  refine zz_istore_n (lv' := [(2, .int (zi 0)), (0, zr ad 1 ((0 : Nat) : Int)), (1, .int (zi ((o : Nat) : Int)))]) hx hb hl dX0_goOver_1 rfl (by decide) rfl (fun ls hl => ?_)
  have hcut2 : ∀ (n9 : Nat) (i : Nat)  (σ9 : zS) (H9 : Heap) (locs9 : List Loc) (ls : Array Slot), (i ≤ 10 ∧ (∀ a b, a < 10 → b < 10 → σ9 6 a b = if a < i then ywo (σ 6) o a b else σ 6 a b) ∧ zfr (fun κ _ _ => κ = 6) σ σ9) → (10 - i) < n9 → ZW G ad A σ9 H9 → va_S A s.heap H9 locs9 → zh ls 4 [(0, zr ad 1 ((0 : Nat) : Int)), (1, .int (zi ((o : Nat) : Int))), (2, .int (zi ((i : Nat) : Int)))] → W p l e ({ frames := 1, cells := 0, slots := 0, locals := 21 }) s m ([zr ad 1 ((0 : Nat) : Int), .int (zi ((o : Nat) : Int))] : List Value).toArray below meth c H9 locs9 0 0 (MQ below (zQ G ad A zrv (fun _ u => (∀ a b, a < 10 → b < 10 → u 6 a b = ywo (σ 6) o a b) ∧ zfr (fun κ _ _ => κ = 6) σ u)) ([zr ad 1 ((0 : Nat) : Int), .int (zi ((o : Nat) : Int))] : List Value).toArray s 0 0 A) (F0 m 2 ls []) := by
    intro n9
    induction n9 with
    | zero =>
      intro i σ1 H1 locs1 ls hI2 hm2 hW1 hS1 hl
      exact absurd hm2 (Nat.not_lt_zero _)
    | succ n9 ih2 =>
      intro i σ1 H1 locs1 ls hI2 hm2 hW1 hS1 hl
      obtain ⟨hi1, hi2, hi3⟩ := hI2
      refine zz_iload_n hx hb hl 2 dX0_goOver_2 rfl rfl ?_
      refine zz_bipush hx hb dX0_goOver_3 (by decide +kernel) ?_
      refine zz_icmp_ge (tgt := 64) hx hb dX0_goOver_5 (by decide) ⟨by omega, by omega⟩ ⟨by decide, by decide⟩ (fun hc5 => ?_) (fun hc5 => ?_)
      · refine W.eq (g2 := F0 m 64 ls []) rfl ?_
        refine zz_retv hx hb hr hlocks hW1 hS1 ?_ dX0_goOver_64
        refine ⟨fun a b ha hb => ?_, hi3⟩
        rw [hi2 a b ha hb, if_pos (by omega)]
      · refine zz_iconst hx hb dX0_goOver_8 ?_
        refine zz_istore_n (lv' := [(3, .int (zi 0)), (0, zr ad 1 ((0 : Nat) : Int)), (1, .int (zi ((o : Nat) : Int))), (2, .int (zi ((i : Nat) : Int)))]) hx hb hl dX0_goOver_9 rfl (by decide) rfl (fun ls hl => ?_)
        have hcut10 : ∀ (n9 : Nat) (j : Nat)  (σ9 : zS) (H9 : Heap) (locs9 : List Loc) (ls : Array Slot), (j ≤ 10 ∧ (∀ a b, a < 10 → b < 10 → σ9 6 a b = if a < i ∨ (a = i ∧ b < j) then ywo (σ 6) o a b else σ 6 a b) ∧ zfr (fun κ _ _ => κ = 6) σ σ9) → (10 - j) < n9 → ZW G ad A σ9 H9 → va_S A s.heap H9 locs9 → zh ls 4 [(0, zr ad 1 ((0 : Nat) : Int)), (1, .int (zi ((o : Nat) : Int))), (2, .int (zi ((i : Nat) : Int))), (3, .int (zi ((j : Nat) : Int)))] → W p l e ({ frames := 1, cells := 0, slots := 0, locals := 21 }) s m ([zr ad 1 ((0 : Nat) : Int), .int (zi ((o : Nat) : Int))] : List Value).toArray below meth c H9 locs9 0 0 (MQ below (zQ G ad A zrv (fun _ u => (∀ a b, a < 10 → b < 10 → u 6 a b = ywo (σ 6) o a b) ∧ zfr (fun κ _ _ => κ = 6) σ u)) ([zr ad 1 ((0 : Nat) : Int), .int (zi ((o : Nat) : Int))] : List Value).toArray s 0 0 A) (F0 m 10 ls []) := by
          intro n9
          induction n9 with
          | zero =>
            intro j σ2 H2 locs2 ls hI10 hm10 hW2 hS2 hl
            exact absurd hm10 (Nat.not_lt_zero _)
          | succ n9 ih10 =>
            intro j σ2 H2 locs2 ls hI10 hm10 hW2 hS2 hl
            obtain ⟨hj1, hj2, hj3⟩ := hI10
            refine zz_iload_n hx hb hl 3 dX0_goOver_10 rfl rfl ?_
            refine zz_bipush hx hb dX0_goOver_11 (by decide +kernel) ?_
            refine zz_icmp_ge (tgt := 58) hx hb dX0_goOver_13 (by decide) ⟨by omega, by omega⟩ ⟨by decide, by decide⟩ (fun hc13 => ?_) (fun hc13 => ?_)
            · refine zz_iinc (lv' := [(2, .int (zi (((i : Nat) : Int) + 1))), (0, zr ad 1 ((0 : Nat) : Int)), (1, .int (zi ((o : Nat) : Int))), (3, .int (zi ((j : Nat) : Int)))]) hx hb hl dX0_goOver_58 (k0 := 2) rfl (by decide) rfl (fun ls hl => ?_)
              refine zz_goto (tgt := 2) hx hb dX0_goOver_61 (by decide) ?_
              refine ih2 (i + 1) σ2 H2 locs2 ls ?_ (by omega) hW2 hS2 (zh_sub hl [1, 2, 0] rfl)
              refine ⟨by omega, fun a b ha hb => ?_, hj3⟩
              rw [hj2 a b ha hb]
              by_cases h : a < i + 1
              · rw [if_pos h, if_pos (by omega)]
              · rw [if_neg h, if_neg (by omega)]
            · have e1 : σ2 6 i j = σ 6 i j := by rw [hj2 i j (by omega) (by omega), if_neg (by omega)]
              have r1 := hw i j (by omega) (by omega)
              have r2 := hw i o (by omega) (by omega)
              have r3 := hw o j (by omega) (by omega)
              have e2 : σ2 6 i o = σ 6 i o := by
                rw [hj2 i o (by omega) (by omega)]
                unfold ywo
                rw [hd]
                split <;> omega
              have e3 : σ2 6 o j = σ 6 o j := by
                rw [hj2 o j (by omega) (by omega)]
                unfold ywo
                rw [hd]
                split <;> omega
              refine zz_aload_n hx hb hl 0 dX0_goOver_16 rfl rfl ?_
              refine zz_get (T := TX0) (N := 5) (k := 3) (κ := 1) (w := zr ad 5 ((0 : Nat) : Int)) hx hb hts hinX0 hown hK hW2 (zlN (hX 1 0 rfl)) rfl rfl rfl (by decide) (hts (.fieldLink RX0 23 "HailCity$CityMap" "between" "[[I") (by decide +kernel)) (fun _ h9 => h9) rfl dX0_goOver_17 ?_
              refine zz_iload_n hx hb hl 2 dX0_goOver_20 rfl rfl ?_
              refine zz_aald (w := zr ad 6 ((i : Nat) : Int)) hx hb hK hW2 (zlN (hX 5 0 rfl)) rfl rfl (by show (0 : Int) ≤ ((i : Nat) : Int); omega) (by show ((i : Nat) : Int) < (10 : Int); omega) rfl dX0_goOver_21 ?_
              refine zz_iload_n hx hb hl 3 dX0_goOver_22 rfl rfl ?_
              refine zz_aload_n hx hb hl 0 dX0_goOver_23 rfl rfl ?_
              refine zz_get (T := TX0) (N := 5) (k := 3) (κ := 1) (w := zr ad 5 ((0 : Nat) : Int)) hx hb hts hinX0 hown hK hW2 (zlN (hX 1 0 rfl)) rfl rfl rfl (by decide) (hts (.fieldLink RX0 23 "HailCity$CityMap" "between" "[[I") (by decide +kernel)) (fun _ h9 => h9) rfl dX0_goOver_24 ?_
              refine zz_iload_n hx hb hl 2 dX0_goOver_27 rfl rfl ?_
              refine zz_aald (w := zr ad 6 ((i : Nat) : Int)) hx hb hK hW2 (zlN (hX 5 0 rfl)) rfl rfl (by show (0 : Int) ≤ ((i : Nat) : Int); omega) (by show ((i : Nat) : Int) < (10 : Int); omega) rfl dX0_goOver_28 ?_
              refine zz_iload_n hx hb hl 3 dX0_goOver_29 rfl rfl ?_
              refine zz_iald (w := σ2 6 i j) hx hb hK hW2 (zlN (hX 6 i (decide_eq_true (by omega)))) rfl rfl rfl (by show (0 : Int) ≤ ((j : Nat) : Int); omega) (by show ((j : Nat) : Int) < (10 : Int); omega) rfl dX0_goOver_30 ?_
              refine zz_aload_n hx hb hl 0 dX0_goOver_31 rfl rfl ?_
              refine zz_get (T := TX0) (N := 5) (k := 3) (κ := 1) (w := zr ad 5 ((0 : Nat) : Int)) hx hb hts hinX0 hown hK hW2 (zlN (hX 1 0 rfl)) rfl rfl rfl (by decide) (hts (.fieldLink RX0 23 "HailCity$CityMap" "between" "[[I") (by decide +kernel)) (fun _ h9 => h9) rfl dX0_goOver_32 ?_
              refine zz_iload_n hx hb hl 2 dX0_goOver_35 rfl rfl ?_
              refine zz_aald (w := zr ad 6 ((i : Nat) : Int)) hx hb hK hW2 (zlN (hX 5 0 rfl)) rfl rfl (by show (0 : Int) ≤ ((i : Nat) : Int); omega) (by show ((i : Nat) : Int) < (10 : Int); omega) rfl dX0_goOver_36 ?_
              refine zz_iload_n hx hb hl 1 dX0_goOver_37 rfl rfl ?_
              refine zz_iald (w := σ2 6 i o) hx hb hK hW2 (zlN (hX 6 i (decide_eq_true (by omega)))) rfl rfl rfl (by show (0 : Int) ≤ ((o : Nat) : Int); omega) (by show ((o : Nat) : Int) < (10 : Int); omega) rfl dX0_goOver_38 ?_
              refine zz_aload_n hx hb hl 0 dX0_goOver_39 rfl rfl ?_
              refine zz_get (T := TX0) (N := 5) (k := 3) (κ := 1) (w := zr ad 5 ((0 : Nat) : Int)) hx hb hts hinX0 hown hK hW2 (zlN (hX 1 0 rfl)) rfl rfl rfl (by decide) (hts (.fieldLink RX0 23 "HailCity$CityMap" "between" "[[I") (by decide +kernel)) (fun _ h9 => h9) rfl dX0_goOver_40 ?_
              refine zz_iload_n hx hb hl 1 dX0_goOver_43 rfl rfl ?_
              refine zz_aald (w := zr ad 6 ((o : Nat) : Int)) hx hb hK hW2 (zlN (hX 5 0 rfl)) rfl rfl (by show (0 : Int) ≤ ((o : Nat) : Int); omega) (by show ((o : Nat) : Int) < (10 : Int); omega) rfl dX0_goOver_44 ?_
              refine zz_iload_n hx hb hl 3 dX0_goOver_45 rfl rfl ?_
              refine zz_iald (w := σ2 6 o j) hx hb hK hW2 (zlN (hX 6 o (decide_eq_true (by omega)))) rfl rfl rfl (by show (0 : Int) ≤ ((j : Nat) : Int); omega) (by show ((j : Nat) : Int) < (10 : Int); omega) rfl dX0_goOver_46 ?_
              refine zz_iadd hx hb dX0_goOver_47 ?_
              refine zz_mmin hx hb (hml.trans hl.1.1.symm) hown (hts (.methodLink RX0 50 Lib.Math.min.name) (by decide +kernel)) (hts (.static Lib.Math.min.name) (by decide +kernel)) (hts (.initialized "java/lang/Math") (by decide +kernel)) (hts (.code Lib.Math.min.name Lib.Math.min.code 2 (some .int)) (by decide +kernel)) (Nat.le_of_ble_eq_true rfl) (by simp [zr_cat, zcat_i]) (Nat.le_of_ble_eq_true rfl) (Nat.le_of_ble_eq_true rfl) (hW2.2.2.1 _ _ _) ⟨by omega, by omega⟩ dX0_goOver_48 ?_
              refine zz_iast (y := (min (σ2 6 i j) ((σ2 6 i o) + (σ2 6 o j)))) hx hb hK hW2 hS2 (zlN (hX 6 i (decide_eq_true (by omega)))) rfl rfl rfl (by show (0 : Int) ≤ ((j : Nat) : Int); omega) (by show ((j : Nat) : Int) < (10 : Int); omega) (zg_min (hW2.2.2.1 _ _ _) ⟨by omega, by omega⟩) dX0_goOver_51 (fun H3 locs3 hW3' hS3 => ?_)
              obtain ⟨σ3, hs3⟩ : ∃ z, z = zu σ2 6 i j (min (σ2 6 i j) ((σ2 6 i o) + (σ2 6 o j))) := ⟨_, rfl⟩
              have hW3 : ZW G ad A σ3 H3 := by rw [hs3]; exact hW3'
              refine zz_iinc (lv' := [(3, .int (zi (((j : Nat) : Int) + 1))), (0, zr ad 1 ((0 : Nat) : Int)), (1, .int (zi ((o : Nat) : Int))), (2, .int (zi ((i : Nat) : Int)))]) hx hb hl dX0_goOver_52 (k0 := 3) rfl (by decide) rfl (fun ls hl => ?_)
              refine zz_goto (tgt := 10) hx hb dX0_goOver_55 (by decide) ?_
              refine ih10 (j + 1) σ3 H3 locs3 ls ?_ (by omega) hW3 hS3 (zh_sub hl [1, 2, 3, 0] rfl)
              refine ⟨by omega, fun a b ha hb => ?_, fun κ' i' k' hn => ?_⟩
              · rw [hs3]
                by_cases h : a = i ∧ b = j
                · obtain ⟨rfl, rfl⟩ := h
                  rw [zu_same, if_pos (by omega), e1, e2, e3]
                  rfl
                · rw [zu_ne (by omega), hj2 a b ha hb]
                  by_cases h2 : a < i ∨ (a = i ∧ b < j)
                  · rw [if_pos h2, if_pos (by omega)]
                  · rw [if_neg h2, if_neg (by omega)]
              · rw [hs3, zu_ne (by omega)]
                exact hj3 _ _ _ hn
        refine hcut10 _ 0 σ1 H1 locs1 ls ?_ (Nat.lt_succ_self _) hW1 hS1 (zh_sub hl [1, 2, 3, 0] rfl)
        refine ⟨by omega, fun a b ha hb => ?_, hi3⟩
        rw [hi2 a b ha hb]
        by_cases h : a < i
        · rw [if_pos h, if_pos (by omega)]
        · rw [if_neg h, if_neg (by omega)]
  refine hcut2 _ 0 σ s.heap [] ls ?_ (Nat.lt_succ_self _) hW0 hS0 (zh_sub hl [1, 2, 0] rfl)
  exact ⟨by omega, fun a b _ _ => (if_neg (by omega)).symm, fun _ _ _ _ => rfl⟩

set_option maxHeartbeats 4000000 in
set_option maxRecDepth 100000 in
theorem c_X0_measure (l : Launch) (G : zG) (ad : zA) (A : Nat → Prop) (N0 : Nat) (σ : zS) (nd nr : Nat) (hX : zX ad nd nr) (ns : Nat) (hns : σ 1 0 4 = (ns : Int)) (hn20 : ns ≤ 20) (hst : yst (σ 2 0) (σ 3 0) (σ 4 0) ns) : Met l yX0_measure wsX0_measure ({ frames := 2, cells := 0, slots := 0, locals := 44 }) (zP G ad A N0 σ [zr ad 1 ((0 : Nat) : Int)]) (zQ G ad A zrv (fun _ u => (∀ a b, a < 10 → b < 10 → u 6 a b = ywf 1000000 (σ 2 0) (σ 3 0) (σ 4 0) ns 10 a b) ∧ zfr (fun κ _ _ => κ = 6) σ u)) 0 0 A := by
  refine zz_of (cc := cX0_measure) (maxL := 3) (ret := none) (by decide) rfl ⟨rfl, rfl⟩ (List.forall_mem_cons.mpr ⟨zr_cat _ _ _, fun _ h => absurd h List.not_mem_nil⟩) (Nat.le_of_ble_eq_true rfl) ?_
  intro p e s m below meth c hx hb hr hml hts hown hlocks hsz hW0 hK ls hl
  have hS0 : va_S A s.heap s.heap [] := va_S.rf
  have hl : zh ls 3 [(0, zr ad 1 ((0 : Nat) : Int))] := hl
  have hinX0 : ∀ w ∈ u_ws RX0 TX0 5, w ∈ wsX0_measure := by decide +kernel
  refine zz_iconst hx hb dX0_measure_0 ?_
  refine zz_istore_n (lv' := [(1, .int (zi 0)), (0, zr ad 1 ((0 : Nat) : Int))]) hx hb hl dX0_measure_1 rfl (by decide) rfl (fun ls hl => ?_)
  have hcut2 : ∀ (n9 : Nat) (i : Nat)  (σ9 : zS) (H9 : Heap) (locs9 : List Loc) (ls : Array Slot), (i ≤ 10 ∧ (∀ a b, a < i → b < 10 → σ9 6 a b = yw0 1000000 a b) ∧ zfr (fun κ _ _ => κ = 6) σ σ9) → (10 - i) < n9 → ZW G ad A σ9 H9 → va_S A s.heap H9 locs9 → zh ls 3 [(0, zr ad 1 ((0 : Nat) : Int)), (1, .int (zi ((i : Nat) : Int)))] → W p l e ({ frames := 2, cells := 0, slots := 0, locals := 44 }) s m ([zr ad 1 ((0 : Nat) : Int)] : List Value).toArray below meth c H9 locs9 0 0 (MQ below (zQ G ad A zrv (fun _ u => (∀ a b, a < 10 → b < 10 → u 6 a b = ywf 1000000 (σ 2 0) (σ 3 0) (σ 4 0) ns 10 a b) ∧ zfr (fun κ _ _ => κ = 6) σ u)) ([zr ad 1 ((0 : Nat) : Int)] : List Value).toArray s 0 0 A) (F0 m 2 ls []) := by
    intro n9
    induction n9 with
    | zero =>
      intro i σ1 H1 locs1 ls hI2 hm2 hW1 hS1 hl
      exact absurd hm2 (Nat.not_lt_zero _)
    | succ n9 ih2 =>
      intro i σ1 H1 locs1 ls hI2 hm2 hW1 hS1 hl
      obtain ⟨hi1, hi2, hi3⟩ := hI2
      refine zz_iload_n hx hb hl 1 dX0_measure_2 rfl rfl ?_
      refine zz_bipush hx hb dX0_measure_3 (by decide +kernel) ?_
      refine zz_icmp_ge (tgt := 47) hx hb dX0_measure_5 (by decide) ⟨by omega, by omega⟩ ⟨by decide, by decide⟩ (fun hc5 => ?_) (fun hc5 => ?_)
      · refine zz_iconst hx hb dX0_measure_47 ?_
        refine zz_istore_n (lv' := [(1, .int (zi 0)), (0, zr ad 1 ((0 : Nat) : Int))]) hx hb hl dX0_measure_48 rfl (by decide) rfl (fun ls hl => ?_)
        have hcut49 : ∀ (n9 : Nat) (i : Nat)  (σ9 : zS) (H9 : Heap) (locs9 : List Loc) (ls : Array Slot), (i ≤ ns ∧ (∀ a b, a < 10 → b < 10 → σ9 6 a b = yws 1000000 (σ 2 0) (σ 3 0) (σ 4 0) i a b) ∧ zfr (fun κ _ _ => κ = 6) σ1 σ9) → (ns - i) < n9 → ZW G ad A σ9 H9 → va_S A s.heap H9 locs9 → zh ls 3 [(0, zr ad 1 ((0 : Nat) : Int)), (1, .int (zi ((i : Nat) : Int)))] → W p l e ({ frames := 2, cells := 0, slots := 0, locals := 44 }) s m ([zr ad 1 ((0 : Nat) : Int)] : List Value).toArray below meth c H9 locs9 0 0 (MQ below (zQ G ad A zrv (fun _ u => (∀ a b, a < 10 → b < 10 → u 6 a b = ywf 1000000 (σ 2 0) (σ 3 0) (σ 4 0) ns 10 a b) ∧ zfr (fun κ _ _ => κ = 6) σ u)) ([zr ad 1 ((0 : Nat) : Int)] : List Value).toArray s 0 0 A) (F0 m 49 ls []) := by
          intro n9
          induction n9 with
          | zero =>
            intro i σ2 H2 locs2 ls hI49 hm49 hW2 hS2 hl
            exact absurd hm49 (Nat.not_lt_zero _)
          | succ n9 ih49 =>
            intro i σ2 H2 locs2 ls hI49 hm49 hW2 hS2 hl
            obtain ⟨hk1, hk2, hk3⟩ := hI49
            refine zz_iload_n hx hb hl 1 dX0_measure_49 rfl rfl ?_
            refine zz_aload_n hx hb hl 0 dX0_measure_50 rfl rfl ?_
            refine zz_get (T := TX0) (N := 5) (k := 4) (κ := 1) (w := .int (zi (σ 1 0 4))) hx hb hts hinX0 hown hK hW2 (zlN (hX 1 0 rfl)) rfl rfl rfl (by decide) (hts (.fieldLink RX0 29 "HailCity$CityMap" "streetCount" "I") (by decide +kernel)) (fun _ h9 => h9) (congrArg (fun z => Value.int (zi z)) (show σ2 1 0 4 = σ 1 0 4 from by rw [hk3 1 0 4 (by omega), hi3 1 0 4 (by omega)])) dX0_measure_51 ?_
            refine zz_icmp_ge (tgt := 129) hx hb dX0_measure_54 (by decide) ⟨by omega, by omega⟩ (hW0.2.2.1 _ _ _) (fun hc54 => ?_) (fun hc54 => ?_)
            · refine zz_iconst hx hb dX0_measure_129 ?_
              refine zz_istore_n (lv' := [(1, .int (zi 0)), (0, zr ad 1 ((0 : Nat) : Int))]) hx hb hl dX0_measure_130 rfl (by decide) rfl (fun ls hl => ?_)
              have hcut131 : ∀ (n9 : Nat) (i : Nat)  (σ9 : zS) (H9 : Heap) (locs9 : List Loc) (ls : Array Slot), (i ≤ 10 ∧ (∀ a b, a < 10 → b < 10 → σ9 6 a b = ywf 1000000 (σ 2 0) (σ 3 0) (σ 4 0) ns i a b) ∧ zfr (fun κ _ _ => κ = 6) σ2 σ9) → (10 - i) < n9 → ZW G ad A σ9 H9 → va_S A s.heap H9 locs9 → zh ls 3 [(0, zr ad 1 ((0 : Nat) : Int)), (1, .int (zi ((i : Nat) : Int)))] → W p l e ({ frames := 2, cells := 0, slots := 0, locals := 44 }) s m ([zr ad 1 ((0 : Nat) : Int)] : List Value).toArray below meth c H9 locs9 0 0 (MQ below (zQ G ad A zrv (fun _ u => (∀ a b, a < 10 → b < 10 → u 6 a b = ywf 1000000 (σ 2 0) (σ 3 0) (σ 4 0) ns 10 a b) ∧ zfr (fun κ _ _ => κ = 6) σ u)) ([zr ad 1 ((0 : Nat) : Int)] : List Value).toArray s 0 0 A) (F0 m 131 ls []) := by
                intro n9
                induction n9 with
                | zero =>
                  intro i σ3 H3 locs3 ls hI131 hm131 hW3 hS3 hl
                  exact absurd hm131 (Nat.not_lt_zero _)
                | succ n9 ih131 =>
                  intro i σ3 H3 locs3 ls hI131 hm131 hW3 hS3 hl
                  obtain ⟨hm1, hm2, hm3⟩ := hI131
                  refine zz_iload_n hx hb hl 1 dX0_measure_131 rfl rfl ?_
                  refine zz_bipush hx hb dX0_measure_132 (by decide +kernel) ?_
                  refine zz_icmp_ge (tgt := 148) hx hb dX0_measure_134 (by decide) ⟨by omega, by omega⟩ ⟨by decide, by decide⟩ (fun hc134 => ?_) (fun hc134 => ?_)
                  · refine W.eq (g2 := F0 m 148 ls []) rfl ?_
                    refine zz_retv hx hb hr hlocks hW3 hS3 ?_ dX0_measure_148
                    refine ⟨fun a b ha hb => ?_, fun κ' i' k' hn => ?_⟩
                    · rw [hm2 a b ha hb, show i = 10 by omega]
                    · rw [hm3 _ _ _ hn, hk3 _ _ _ hn]
                      exact hi3 _ _ _ hn
                  · refine zz_aload_n hx hb hl 0 dX0_measure_137 rfl rfl ?_
                    refine zz_iload_n hx hb hl 1 dX0_measure_138 rfl rfl ?_
                    refine zz_callV (T := TX0) (N := 5) (As := [.int (zi ((i : Nat) : Int))]) (rest := []) (v := ((0 : Nat) : Int)) (κ := 1) ⟨hx, hb, hml, hown, hts⟩ (c_X0_goOver l G ad A N0 σ3 nd nr hX i (by omega) (fun a b ha hb => by rw [hm2 a b ha hb]; exact ywf_rg (by decide) hst i a b) (by rw [hm2 i i (by omega) (by omega)]; exact ywf_dg (by decide) hst i i)) (cwV 1 hts gX0_measure_X0_goOver rfl rfl rfl (by decide +kernel) ⟨Nat.le_of_ble_eq_true rfl, Nat.le_of_ble_eq_true rfl⟩) hK hW3 (zlN (hX 1 0 rfl)) rfl rfl (Nat.le_trans hsz hS3.1) hS3 rfl hl.1.1 rfl (Nat.le_of_ble_eq_true rfl) dX0_measure_139 ⟨Nat.le_of_ble_eq_true rfl, Nat.le_of_ble_eq_true rfl⟩ (fun x4 σ4 H4 locs4 hp4 hW4 hz4 hS4 => ?_)
                    refine W.eq (g2 := F0 m 142 ls []) rfl ?_
                    refine zz_iinc (lv' := [(1, .int (zi (((i : Nat) : Int) + 1))), (0, zr ad 1 ((0 : Nat) : Int))]) hx hb hl dX0_measure_142 (k0 := 1) rfl (by decide) rfl (fun ls hl => ?_)
                    refine zz_goto (tgt := 131) hx hb dX0_measure_145 (by decide) ?_
                    refine ih131 (i + 1) σ4 H4 locs4 ls ?_ (by omega) hW4 hS4 (zh_sub hl [1, 0] rfl)
                    refine ⟨by omega, fun a b ha hb => ?_, fun κ' i' k' hn => ?_⟩
                    · rw [hp4.1 a b ha hb]
                      show min _ _ = min _ _
                      rw [hm2 a b ha hb, hm2 a i ha (by omega), hm2 i b (by omega) hb]
                    · rw [hp4.2 _ _ _ hn]
                      exact hm3 _ _ _ hn
              refine hcut131 _ 0 σ2 H2 locs2 ls ?_ (Nat.lt_succ_self _) hW2 hS2 (zh_sub hl [1, 0] rfl)
              exact ⟨by omega, fun a b ha hb => by rw [hk2 a b ha hb, show i = ns by omega]; rfl, fun _ _ _ _ => rfl⟩
            · have hq := hst i (by omega)
              refine zz_aload_n hx hb hl 0 dX0_measure_57 rfl rfl ?_
              refine zz_get (T := TX0) (N := 5) (k := 2) (κ := 1) (w := zr ad 4 ((0 : Nat) : Int)) hx hb hts hinX0 hown hK hW2 (zlN (hX 1 0 rfl)) rfl rfl rfl (by decide) (hts (.fieldLink RX0 18 "HailCity$CityMap" "streetMinutes" "[I") (by decide +kernel)) (fun _ h9 => h9) rfl dX0_measure_58 ?_
              refine zz_iload_n hx hb hl 1 dX0_measure_61 rfl rfl ?_
              refine zz_iald (w := σ 4 0 i) hx hb hK hW2 (zlN (hX 4 0 rfl)) rfl rfl rfl (by show (0 : Int) ≤ ((i : Nat) : Int); omega) (by show ((i : Nat) : Int) < (20 : Int); omega) (show σ2 4 0 i = σ 4 0 i from by rw [hk3 4 0 i (by omega), hi3 4 0 i (by omega)]) dX0_measure_62 ?_
              refine zz_aload_n hx hb hl 0 dX0_measure_63 rfl rfl ?_
              refine zz_get (T := TX0) (N := 5) (k := 3) (κ := 1) (w := zr ad 5 ((0 : Nat) : Int)) hx hb hts hinX0 hown hK hW2 (zlN (hX 1 0 rfl)) rfl rfl rfl (by decide) (hts (.fieldLink RX0 23 "HailCity$CityMap" "between" "[[I") (by decide +kernel)) (fun _ h9 => h9) rfl dX0_measure_64 ?_
              refine zz_aload_n hx hb hl 0 dX0_measure_67 rfl rfl ?_
              refine zz_get (T := TX0) (N := 5) (k := 0) (κ := 1) (w := zr ad 2 ((0 : Nat) : Int)) hx hb hts hinX0 hown hK hW2 (zlN (hX 1 0 rfl)) rfl rfl rfl (by decide) (hts (.fieldLink RX0 11 "HailCity$CityMap" "ends" "[I") (by decide +kernel)) (fun _ h9 => h9) rfl dX0_measure_68 ?_
              refine zz_iload_n hx hb hl 1 dX0_measure_71 rfl rfl ?_
              refine zz_iald (w := σ 2 0 i) hx hb hK hW2 (zlN (hX 2 0 rfl)) rfl rfl rfl (by show (0 : Int) ≤ ((i : Nat) : Int); omega) (by show ((i : Nat) : Int) < (20 : Int); omega) (show σ2 2 0 i = σ 2 0 i from by rw [hk3 2 0 i (by omega), hi3 2 0 i (by omega)]) dX0_measure_72 ?_
              refine zz_aald (w := zr ad 6 (((σ 2 0 i).toNat : Nat) : Int)) hx hb hK hW2 (zlN (hX 5 0 rfl)) rfl rfl (by show (0 : Int) ≤ σ 2 0 i; omega) (by show (σ 2 0 i) < (10 : Int); omega) rfl dX0_measure_73 ?_
              refine zz_aload_n hx hb hl 0 dX0_measure_74 rfl rfl ?_
              refine zz_get (T := TX0) (N := 5) (k := 1) (κ := 1) (w := zr ad 3 ((0 : Nat) : Int)) hx hb hts hinX0 hown hK hW2 (zlN (hX 1 0 rfl)) rfl rfl rfl (by decide) (hts (.fieldLink RX0 15 "HailCity$CityMap" "otherEnds" "[I") (by decide +kernel)) (fun _ h9 => h9) rfl dX0_measure_75 ?_
              refine zz_iload_n hx hb hl 1 dX0_measure_78 rfl rfl ?_
              refine zz_iald (w := σ 3 0 i) hx hb hK hW2 (zlN (hX 3 0 rfl)) rfl rfl rfl (by show (0 : Int) ≤ ((i : Nat) : Int); omega) (by show ((i : Nat) : Int) < (20 : Int); omega) (show σ2 3 0 i = σ 3 0 i from by rw [hk3 3 0 i (by omega), hi3 3 0 i (by omega)]) dX0_measure_79 ?_
              refine zz_iald (w := σ2 6 ((σ 2 0 i).toNat) ((σ 3 0 i).toNat)) hx hb hK hW2 (zlN (hX 6 ((σ 2 0 i).toNat) (decide_eq_true (by omega)))) rfl rfl rfl (by show (0 : Int) ≤ σ 3 0 i; omega) (by show (σ 3 0 i) < (10 : Int); omega) rfl dX0_measure_80 ?_
              refine zz_mmin hx hb (hml.trans hl.1.1.symm) hown (hts (.methodLink RX0 50 Lib.Math.min.name) (by decide +kernel)) (hts (.static Lib.Math.min.name) (by decide +kernel)) (hts (.initialized "java/lang/Math") (by decide +kernel)) (hts (.code Lib.Math.min.name Lib.Math.min.code 2 (some .int)) (by decide +kernel)) (Nat.le_of_ble_eq_true rfl) (Nat.le_of_ble_eq_true rfl) (Nat.le_of_ble_eq_true rfl) (Nat.le_of_ble_eq_true rfl) (hW0.2.2.1 _ _ _) (hW2.2.2.1 _ _ _) dX0_measure_81 ?_
              refine zz_istore_n (lv' := [(2, .int (zi (min (σ 4 0 i) (σ2 6 ((σ 2 0 i).toNat) ((σ 3 0 i).toNat))))), (0, zr ad 1 ((0 : Nat) : Int)), (1, .int (zi ((i : Nat) : Int)))]) hx hb hl dX0_measure_84 rfl (by decide) rfl (fun ls hl => ?_)
              refine zz_aload_n hx hb hl 1 dX0_measure_85 rfl rfl ?_
              refine zz_get (T := TX0) (N := 5) (k := 3) (κ := 1) (w := zr ad 5 ((0 : Nat) : Int)) hx hb hts hinX0 hown hK hW2 (zlN (hX 1 0 rfl)) rfl rfl rfl (by decide) (hts (.fieldLink RX0 23 "HailCity$CityMap" "between" "[[I") (by decide +kernel)) (fun _ h9 => h9) rfl dX0_measure_86 ?_
              refine zz_aload_n hx hb hl 1 dX0_measure_89 rfl rfl ?_
              refine zz_get (T := TX0) (N := 5) (k := 0) (κ := 1) (w := zr ad 2 ((0 : Nat) : Int)) hx hb hts hinX0 hown hK hW2 (zlN (hX 1 0 rfl)) rfl rfl rfl (by decide) (hts (.fieldLink RX0 11 "HailCity$CityMap" "ends" "[I") (by decide +kernel)) (fun _ h9 => h9) rfl dX0_measure_90 ?_
              refine zz_iload_n hx hb hl 2 dX0_measure_93 rfl rfl ?_
              refine zz_iald (w := σ 2 0 i) hx hb hK hW2 (zlN (hX 2 0 rfl)) rfl rfl rfl (by show (0 : Int) ≤ ((i : Nat) : Int); omega) (by show ((i : Nat) : Int) < (20 : Int); omega) (show σ2 2 0 i = σ 2 0 i from by rw [hk3 2 0 i (by omega), hi3 2 0 i (by omega)]) dX0_measure_94 ?_
              refine zz_aald (w := zr ad 6 (((σ 2 0 i).toNat : Nat) : Int)) hx hb hK hW2 (zlN (hX 5 0 rfl)) rfl rfl (by show (0 : Int) ≤ σ 2 0 i; omega) (by show (σ 2 0 i) < (10 : Int); omega) rfl dX0_measure_95 ?_
              refine zz_aload_n hx hb hl 1 dX0_measure_96 rfl rfl ?_
              refine zz_get (T := TX0) (N := 5) (k := 1) (κ := 1) (w := zr ad 3 ((0 : Nat) : Int)) hx hb hts hinX0 hown hK hW2 (zlN (hX 1 0 rfl)) rfl rfl rfl (by decide) (hts (.fieldLink RX0 15 "HailCity$CityMap" "otherEnds" "[I") (by decide +kernel)) (fun _ h9 => h9) rfl dX0_measure_97 ?_
              refine zz_iload_n hx hb hl 2 dX0_measure_100 rfl rfl ?_
              refine zz_iald (w := σ 3 0 i) hx hb hK hW2 (zlN (hX 3 0 rfl)) rfl rfl rfl (by show (0 : Int) ≤ ((i : Nat) : Int); omega) (by show ((i : Nat) : Int) < (20 : Int); omega) (show σ2 3 0 i = σ 3 0 i from by rw [hk3 3 0 i (by omega), hi3 3 0 i (by omega)]) dX0_measure_101 ?_
              refine zz_iload_n hx hb hl 0 dX0_measure_102 rfl rfl ?_
              refine zz_iast (y := (min (σ 4 0 i) (σ2 6 ((σ 2 0 i).toNat) ((σ 3 0 i).toNat)))) hx hb hK hW2 hS2 (zlN (hX 6 ((σ 2 0 i).toNat) (decide_eq_true (by omega)))) rfl rfl rfl (by show (0 : Int) ≤ σ 3 0 i; omega) (by show (σ 3 0 i) < (10 : Int); omega) (zg_min (hW0.2.2.1 _ _ _) (hW2.2.2.1 _ _ _)) dX0_measure_103 (fun H5 locs5 hW5' hS5 => ?_)
              obtain ⟨σ5, hs5⟩ : ∃ z, z = zu σ2 6 ((σ 2 0 i).toNat) ((σ 3 0 i).toNat) (min (σ 4 0 i) (σ2 6 ((σ 2 0 i).toNat) ((σ 3 0 i).toNat))) := ⟨_, rfl⟩
              have hW5 : ZW G ad A σ5 H5 := by rw [hs5]; exact hW5'
              refine zz_aload_n hx hb hl 1 dX0_measure_104 rfl rfl ?_
              refine zz_get (T := TX0) (N := 5) (k := 3) (κ := 1) (w := zr ad 5 ((0 : Nat) : Int)) hx hb hts hinX0 hown hK hW5 (zlN (hX 1 0 rfl)) rfl rfl rfl (by decide) (hts (.fieldLink RX0 23 "HailCity$CityMap" "between" "[[I") (by decide +kernel)) (fun _ h9 => h9) rfl dX0_measure_105 ?_
              refine zz_aload_n hx hb hl 1 dX0_measure_108 rfl rfl ?_
              refine zz_get (T := TX0) (N := 5) (k := 1) (κ := 1) (w := zr ad 3 ((0 : Nat) : Int)) hx hb hts hinX0 hown hK hW5 (zlN (hX 1 0 rfl)) rfl rfl rfl (by decide) (hts (.fieldLink RX0 15 "HailCity$CityMap" "otherEnds" "[I") (by decide +kernel)) (fun _ h9 => h9) rfl dX0_measure_109 ?_
              refine zz_iload_n hx hb hl 2 dX0_measure_112 rfl rfl ?_
              refine zz_iald (w := σ 3 0 i) hx hb hK hW5 (zlN (hX 3 0 rfl)) rfl rfl rfl (by show (0 : Int) ≤ ((i : Nat) : Int); omega) (by show ((i : Nat) : Int) < (20 : Int); omega) (show σ5 3 0 i = σ 3 0 i from by rw [hs5, zu_k (by decide), hk3 3 0 i (by omega), hi3 3 0 i (by omega)]) dX0_measure_113 ?_
              refine zz_aald (w := zr ad 6 (((σ 3 0 i).toNat : Nat) : Int)) hx hb hK hW5 (zlN (hX 5 0 rfl)) rfl rfl (by show (0 : Int) ≤ σ 3 0 i; omega) (by show (σ 3 0 i) < (10 : Int); omega) rfl dX0_measure_114 ?_
              refine zz_aload_n hx hb hl 1 dX0_measure_115 rfl rfl ?_
              refine zz_get (T := TX0) (N := 5) (k := 0) (κ := 1) (w := zr ad 2 ((0 : Nat) : Int)) hx hb hts hinX0 hown hK hW5 (zlN (hX 1 0 rfl)) rfl rfl rfl (by decide) (hts (.fieldLink RX0 11 "HailCity$CityMap" "ends" "[I") (by decide +kernel)) (fun _ h9 => h9) rfl dX0_measure_116 ?_
              refine zz_iload_n hx hb hl 2 dX0_measure_119 rfl rfl ?_
              refine zz_iald (w := σ 2 0 i) hx hb hK hW5 (zlN (hX 2 0 rfl)) rfl rfl rfl (by show (0 : Int) ≤ ((i : Nat) : Int); omega) (by show ((i : Nat) : Int) < (20 : Int); omega) (show σ5 2 0 i = σ 2 0 i from by rw [hs5, zu_k (by decide), hk3 2 0 i (by omega), hi3 2 0 i (by omega)]) dX0_measure_120 ?_
              refine zz_iload_n hx hb hl 0 dX0_measure_121 rfl rfl ?_
              refine zz_iast (y := (min (σ 4 0 i) (σ2 6 ((σ 2 0 i).toNat) ((σ 3 0 i).toNat)))) hx hb hK hW5 hS5 (zlN (hX 6 ((σ 3 0 i).toNat) (decide_eq_true (by omega)))) rfl rfl rfl (by show (0 : Int) ≤ σ 2 0 i; omega) (by show (σ 2 0 i) < (10 : Int); omega) (zg_min (hW0.2.2.1 _ _ _) (hW2.2.2.1 _ _ _)) dX0_measure_122 (fun H6 locs6 hW6' hS6 => ?_)
              obtain ⟨σ6, hs6⟩ : ∃ z, z = zu σ5 6 ((σ 3 0 i).toNat) ((σ 2 0 i).toNat) (min (σ 4 0 i) (σ2 6 ((σ 2 0 i).toNat) ((σ 3 0 i).toNat))) := ⟨_, rfl⟩
              have hW6 : ZW G ad A σ6 H6 := by rw [hs6]; exact hW6'
              refine zz_iinc (lv' := [(1, .int (zi (((i : Nat) : Int) + 1))), (2, .int (zi (min (σ 4 0 i) (σ2 6 ((σ 2 0 i).toNat) ((σ 3 0 i).toNat))))), (0, zr ad 1 ((0 : Nat) : Int))]) hx hb hl dX0_measure_123 (k0 := 2) rfl (by decide) rfl (fun ls hl => ?_)
              refine zz_goto (tgt := 49) hx hb dX0_measure_126 (by decide) ?_
              refine ih49 (i + 1) σ6 H6 locs6 ls ?_ (by omega) hW6 hS6 (zh_sub hl [2, 0] rfl)
              refine ⟨by omega, fun a b ha hb => ?_, fun κ' i' k' hn => ?_⟩
              · show _ = ywe _ _ _ _ a b
                simp only [hs6, hs5, zu, true_and]
                unfold ywe
                rw [hk2 a b ha hb, hk2 _ _ (by omega) (by omega)]
                (repeat' split) <;> first | rfl | omega
              · rw [hs6, zu_ne (by omega), hs5, zu_ne (by omega)]
                exact hk3 _ _ _ hn
        refine hcut49 _ 0 σ1 H1 locs1 ls ?_ (Nat.lt_succ_self _) hW1 hS1 (zh_sub hl [1, 0] rfl)
        exact ⟨by omega, fun a b ha hb => hi2 a b (by omega) hb, fun _ _ _ _ => rfl⟩
      · refine zz_iconst hx hb dX0_measure_8 ?_
        refine zz_istore_n (lv' := [(2, .int (zi 0)), (0, zr ad 1 ((0 : Nat) : Int)), (1, .int (zi ((i : Nat) : Int)))]) hx hb hl dX0_measure_9 rfl (by decide) rfl (fun ls hl => ?_)
        have hcut10 : ∀ (n9 : Nat) (j : Nat)  (σ9 : zS) (H9 : Heap) (locs9 : List Loc) (ls : Array Slot), (j ≤ 10 ∧ (∀ a b, a ≤ i → b < 10 → (a < i ∨ b < j) → σ9 6 a b = yw0 1000000 a b) ∧ zfr (fun κ _ _ => κ = 6) σ σ9) → (10 - j) < n9 → ZW G ad A σ9 H9 → va_S A s.heap H9 locs9 → zh ls 3 [(0, zr ad 1 ((0 : Nat) : Int)), (1, .int (zi ((i : Nat) : Int))), (2, .int (zi ((j : Nat) : Int)))] → W p l e ({ frames := 2, cells := 0, slots := 0, locals := 44 }) s m ([zr ad 1 ((0 : Nat) : Int)] : List Value).toArray below meth c H9 locs9 0 0 (MQ below (zQ G ad A zrv (fun _ u => (∀ a b, a < 10 → b < 10 → u 6 a b = ywf 1000000 (σ 2 0) (σ 3 0) (σ 4 0) ns 10 a b) ∧ zfr (fun κ _ _ => κ = 6) σ u)) ([zr ad 1 ((0 : Nat) : Int)] : List Value).toArray s 0 0 A) (F0 m 10 ls []) := by
          intro n9
          induction n9 with
          | zero =>
            intro j σ7 H7 locs7 ls hI10 hm10 hW7 hS7 hl
            exact absurd hm10 (Nat.not_lt_zero _)
          | succ n9 ih10 =>
            intro j σ7 H7 locs7 ls hI10 hm10 hW7 hS7 hl
            obtain ⟨hj1, hj2, hj3⟩ := hI10
            refine zz_iload_n hx hb hl 2 dX0_measure_10 rfl rfl ?_
            refine zz_bipush hx hb dX0_measure_11 (by decide +kernel) ?_
            refine zz_icmp_ge (tgt := 41) hx hb dX0_measure_13 (by decide) ⟨by omega, by omega⟩ ⟨by decide, by decide⟩ (fun hc13 => ?_) (fun hc13 => ?_)
            · refine zz_iinc (lv' := [(1, .int (zi (((i : Nat) : Int) + 1))), (0, zr ad 1 ((0 : Nat) : Int)), (2, .int (zi ((j : Nat) : Int)))]) hx hb hl dX0_measure_41 (k0 := 1) rfl (by decide) rfl (fun ls hl => ?_)
              refine zz_goto (tgt := 2) hx hb dX0_measure_44 (by decide) ?_
              refine ih2 (i + 1) σ7 H7 locs7 ls ?_ (by omega) hW7 hS7 (zh_sub hl [1, 0] rfl)
              refine ⟨by omega, fun a b ha hb => ?_, hj3⟩
              exact hj2 a b (by omega) hb (by omega)
            · refine zz_aload_n hx hb hl 0 dX0_measure_16 rfl rfl ?_
              refine zz_get (T := TX0) (N := 5) (k := 3) (κ := 1) (w := zr ad 5 ((0 : Nat) : Int)) hx hb hts hinX0 hown hK hW7 (zlN (hX 1 0 rfl)) rfl rfl rfl (by decide) (hts (.fieldLink RX0 23 "HailCity$CityMap" "between" "[[I") (by decide +kernel)) (fun _ h9 => h9) rfl dX0_measure_17 ?_
              refine zz_iload_n hx hb hl 1 dX0_measure_20 rfl rfl ?_
              refine zz_aald (w := zr ad 6 ((i : Nat) : Int)) hx hb hK hW7 (zlN (hX 5 0 rfl)) rfl rfl (by show (0 : Int) ≤ ((i : Nat) : Int); omega) (by show ((i : Nat) : Int) < (10 : Int); omega) rfl dX0_measure_21 ?_
              refine zz_iload_n hx hb hl 2 dX0_measure_22 rfl rfl ?_
              refine zz_iload_n hx hb hl 1 dX0_measure_23 rfl rfl ?_
              refine zz_iload_n hx hb hl 2 dX0_measure_24 rfl rfl ?_
              refine zz_icmp_ne (tgt := 32) hx hb dX0_measure_25 (by decide) ⟨by omega, by omega⟩ ⟨by omega, by omega⟩ (fun hc25 => ?_) (fun hc25 => ?_)
              · refine zz_ldc (n := 1000000) (v := 1000000) hx hb hown (hts (.constant RX0 37 (1000000)) (by decide +kernel)) (by decide +kernel) dX0_measure_32 ?_
                refine zz_iast (y := 1000000) hx hb hK hW7 hS7 (zlN (hX 6 i (decide_eq_true (by omega)))) rfl rfl rfl (by show (0 : Int) ≤ ((j : Nat) : Int); omega) (by show ((j : Nat) : Int) < (10 : Int); omega) ⟨by decide, by decide⟩ dX0_measure_34 (fun H8 locs8 hW8' hS8 => ?_)
                obtain ⟨σ8, hs8⟩ : ∃ z, z = zu σ7 6 i j 1000000 := ⟨_, rfl⟩
                have hW8 : ZW G ad A σ8 H8 := by rw [hs8]; exact hW8'
                refine zz_iinc (lv' := [(2, .int (zi (((j : Nat) : Int) + 1))), (0, zr ad 1 ((0 : Nat) : Int)), (1, .int (zi ((i : Nat) : Int)))]) hx hb hl dX0_measure_35 (k0 := 2) rfl (by decide) rfl (fun ls hl => ?_)
                refine zz_goto (tgt := 10) hx hb dX0_measure_38 (by decide) ?_
                refine ih10 (j + 1) σ8 H8 locs8 ls ?_ (by omega) hW8 hS8 (zh_sub hl [1, 2, 0] rfl)
                refine ⟨by omega, fun a b ha hb hab => ?_, fun κ' i' k' hn => ?_⟩
                · rw [hs8]
                  by_cases h : a = i ∧ b = j
                  · obtain ⟨rfl, rfl⟩ := h
                    rw [zu_same]
                    unfold yw0
                    split <;> omega
                  · rw [zu_ne (by omega)]
                    exact hj2 a b ha hb (by omega)
                · rw [hs8, zu_ne (by omega)]
                  exact hj3 _ _ _ hn
              · refine zz_iconst hx hb dX0_measure_28 ?_
                refine zz_goto (tgt := 34) hx hb dX0_measure_29 (by decide) ?_
                refine zz_iast (y := 0) hx hb hK hW7 hS7 (zlN (hX 6 i (decide_eq_true (by omega)))) rfl rfl rfl (by show (0 : Int) ≤ ((j : Nat) : Int); omega) (by show ((j : Nat) : Int) < (10 : Int); omega) ⟨by decide, by decide⟩ dX0_measure_34 (fun H9 locs9 hW9' hS9 => ?_)
                obtain ⟨σ9, hs9⟩ : ∃ z, z = zu σ7 6 i j 0 := ⟨_, rfl⟩
                have hW9 : ZW G ad A σ9 H9 := by rw [hs9]; exact hW9'
                refine zz_iinc (lv' := [(2, .int (zi (((j : Nat) : Int) + 1))), (0, zr ad 1 ((0 : Nat) : Int)), (1, .int (zi ((i : Nat) : Int)))]) hx hb hl dX0_measure_35 (k0 := 2) rfl (by decide) rfl (fun ls hl => ?_)
                refine zz_goto (tgt := 10) hx hb dX0_measure_38 (by decide) ?_
                refine ih10 (j + 1) σ9 H9 locs9 ls ?_ (by omega) hW9 hS9 (zh_sub hl [1, 2, 0] rfl)
                refine ⟨by omega, fun a b ha hb hab => ?_, fun κ' i' k' hn => ?_⟩
                · rw [hs9]
                  by_cases h : a = i ∧ b = j
                  · obtain ⟨rfl, rfl⟩ := h
                    rw [zu_same]
                    unfold yw0
                    split <;> omega
                  · rw [zu_ne (by omega)]
                    exact hj2 a b ha hb (by omega)
                · rw [hs9, zu_ne (by omega)]
                  exact hj3 _ _ _ hn
        refine hcut10 _ 0 σ1 H1 locs1 ls ?_ (Nat.lt_succ_self _) hW1 hS1 (zh_sub hl [1, 2, 0] rfl)
        exact ⟨by omega, fun a b ha hb h => hi2 a b (by omega) hb, hi3⟩
  refine hcut2 _ 0 σ s.heap [] ls ?_ (Nat.lt_succ_self _) hW0 hS0 (zh_sub hl [1, 0] rfl)
  exact ⟨by omega, fun a b ha _ => absurd ha (Nat.not_lt_zero a), fun _ _ _ _ => rfl⟩

set_option maxHeartbeats 4000000 in
set_option maxRecDepth 100000 in
theorem c_X0_addStreet (l : Launch) (G : zG) (ad : zA) (A : Nat → Prop) (N0 : Nat) (σ : zS) (nd nr : Nat) (hX : zX ad nd nr) (ns : Nat) (hns : σ 1 0 4 = (ns : Int)) (hn20 : ns < 20) (hst : yst (σ 2 0) (σ 3 0) (σ 4 0) ns) (a b t : Int) (ga : zg a) (gb : zg b) (gt : zg t) (ha : 0 ≤ a ∧ a < 10) (hb9 : 0 ≤ b ∧ b < 10) (hab : a ≠ b) (ht : 1 ≤ t ∧ t ≤ 20) : Met l yX0_addStreet wsX0_addStreet ({ frames := 3, cells := 0, slots := 0, locals := 66 }) (zP G ad A N0 σ [zr ad 1 ((0 : Nat) : Int), .int (zi a), .int (zi b), .int (zi t)]) (zQ G ad A zri (fun r u => (ns : Int) = r ∧ u 1 0 4 = (ns : Int) + 1 ∧ (∀ k, u 2 0 k = if k = ns then a else σ 2 0 k) ∧ (∀ k, u 3 0 k = if k = ns then b else σ 3 0 k) ∧ (∀ k, u 4 0 k = if k = ns then t else σ 4 0 k) ∧ (∀ a b, a < 10 → b < 10 → u 6 a b = ywf 1000000 (u 2 0) (u 3 0) (u 4 0) (ns + 1) 10 a b) ∧ zfr (fun κ i k => κ = 6 ∨ (κ = 1 ∧ k = 4) ∨ κ = 2 ∨ κ = 3 ∨ κ = 4) σ u)) 0 0 A := by
  refine zz_of (cc := cX0_addStreet) (maxL := 5) (ret := (some .int)) (by decide) rfl ⟨rfl, rfl⟩ (List.forall_mem_cons.mpr ⟨zr_cat _ _ _, List.forall_mem_cons.mpr ⟨rfl, List.forall_mem_cons.mpr ⟨rfl, List.forall_mem_cons.mpr ⟨rfl, fun _ h => absurd h List.not_mem_nil⟩⟩⟩⟩) (Nat.le_of_ble_eq_true rfl) ?_
  intro p e s m below meth c hx hb hr hml hts hown hlocks hsz hW0 hK ls hl
  have hS0 : va_S A s.heap s.heap [] := va_S.rf
  have hl : zh ls 5 [(0, zr ad 1 ((0 : Nat) : Int)), (1, .int (zi a)), (2, .int (zi b)), (3, .int (zi t))] := hl
  have hinX0 : ∀ w ∈ u_ws RX0 TX0 5, w ∈ wsX0_addStreet := by decide +kernel
  have hgn : zg (σ 1 0 4) := hW0.2.2.1 _ _ _
  refine zz_aload_n hx hb hl 0 dX0_addStreet_0 rfl rfl ?_
  refine zz_get (T := TX0) (N := 5) (k := 4) (κ := 1) (w := .int (zi (σ 1 0 4))) hx hb hts hinX0 hown hK hW0 (zlN (hX 1 0 rfl)) rfl rfl rfl (by decide) (hts (.fieldLink RX0 29 "HailCity$CityMap" "streetCount" "I") (by decide +kernel)) (fun _ h9 => h9) rfl dX0_addStreet_1 ?_
  refine zz_istore (lv' := [(4, .int (zi (σ 1 0 4))), (0, zr ad 1 ((0 : Nat) : Int)), (1, .int (zi a)), (2, .int (zi b)), (3, .int (zi t))]) hx hb hl dX0_addStreet_4 (by decide) rfl (fun ls hl => ?_)
  
  refine zz_aload_n hx hb hl 1 dX0_addStreet_6 rfl rfl ?_
  refine zz_get (T := TX0) (N := 5) (k := 0) (κ := 1) (w := zr ad 2 ((0 : Nat) : Int)) hx hb hts hinX0 hown hK hW0 (zlN (hX 1 0 rfl)) rfl rfl rfl (by decide) (hts (.fieldLink RX0 11 "HailCity$CityMap" "ends" "[I") (by decide +kernel)) (fun _ h9 => h9) rfl dX0_addStreet_7 ?_
  refine zz_iload hx hb hl 0 dX0_addStreet_10 rfl ?_
  refine zz_iload_n hx hb hl 2 dX0_addStreet_12 rfl rfl ?_
  refine zz_iast (y := a) hx hb hK hW0 hS0 (zlN (hX 2 0 rfl)) rfl rfl rfl (by show (0 : Int) ≤ σ 1 0 4; omega) (by show (σ 1 0 4) < (20 : Int); omega) ga dX0_addStreet_13 (fun H1 locs1 hW1' hS1 => ?_)
  obtain ⟨σ1, hs1⟩ : ∃ z, z = zu σ 2 0 ((σ 1 0 4).toNat) a := ⟨_, rfl⟩
  have hW1 : ZW G ad A σ1 H1 := by rw [hs1]; exact hW1'
  refine zz_aload_n hx hb hl 1 dX0_addStreet_14 rfl rfl ?_
  refine zz_get (T := TX0) (N := 5) (k := 1) (κ := 1) (w := zr ad 3 ((0 : Nat) : Int)) hx hb hts hinX0 hown hK hW1 (zlN (hX 1 0 rfl)) rfl rfl rfl (by decide) (hts (.fieldLink RX0 15 "HailCity$CityMap" "otherEnds" "[I") (by decide +kernel)) (fun _ h9 => h9) rfl dX0_addStreet_15 ?_
  refine zz_iload hx hb hl 0 dX0_addStreet_18 rfl ?_
  refine zz_iload_n hx hb hl 3 dX0_addStreet_20 rfl rfl ?_
  refine zz_iast (y := b) hx hb hK hW1 hS1 (zlN (hX 3 0 rfl)) rfl rfl rfl (by show (0 : Int) ≤ σ 1 0 4; omega) (by show (σ 1 0 4) < (20 : Int); omega) gb dX0_addStreet_21 (fun H2 locs2 hW2' hS2 => ?_)
  obtain ⟨σ2, hs2⟩ : ∃ z, z = zu σ1 3 0 ((σ 1 0 4).toNat) b := ⟨_, rfl⟩
  have hW2 : ZW G ad A σ2 H2 := by rw [hs2]; exact hW2'
  refine zz_aload_n hx hb hl 1 dX0_addStreet_22 rfl rfl ?_
  refine zz_get (T := TX0) (N := 5) (k := 2) (κ := 1) (w := zr ad 4 ((0 : Nat) : Int)) hx hb hts hinX0 hown hK hW2 (zlN (hX 1 0 rfl)) rfl rfl rfl (by decide) (hts (.fieldLink RX0 18 "HailCity$CityMap" "streetMinutes" "[I") (by decide +kernel)) (fun _ h9 => h9) rfl dX0_addStreet_23 ?_
  refine zz_iload hx hb hl 0 dX0_addStreet_26 rfl ?_
  refine zz_iload_n hx hb hl 4 dX0_addStreet_28 rfl rfl ?_
  refine zz_iast (y := t) hx hb hK hW2 hS2 (zlN (hX 4 0 rfl)) rfl rfl rfl (by show (0 : Int) ≤ σ 1 0 4; omega) (by show (σ 1 0 4) < (20 : Int); omega) gt dX0_addStreet_29 (fun H3 locs3 hW3' hS3 => ?_)
  obtain ⟨σ3, hs3⟩ : ∃ z, z = zu σ2 4 0 ((σ 1 0 4).toNat) t := ⟨_, rfl⟩
  have hW3 : ZW G ad A σ3 H3 := by rw [hs3]; exact hW3'
  refine zz_aload_n hx hb hl 1 dX0_addStreet_30 rfl rfl ?_
  refine lv_dup hx hb dX0_addStreet_31 (zr_cat _ _ _) ?_
  refine zz_get (T := TX0) (N := 5) (k := 4) (κ := 1) (w := .int (zi (σ 1 0 4))) hx hb hts hinX0 hown hK hW3 (zlN (hX 1 0 rfl)) rfl rfl rfl (by decide) (hts (.fieldLink RX0 29 "HailCity$CityMap" "streetCount" "I") (by decide +kernel)) (fun _ h9 => h9) (congrArg (fun z => Value.int (zi z)) (show σ3 1 0 4 = σ 1 0 4 from by rw [hs3, zu_k (by decide), hs2, zu_k (by decide), hs1, zu_k (by decide)])) dX0_addStreet_32 ?_
  refine zz_iconst hx hb dX0_addStreet_35 ?_
  refine zz_iadd hx hb dX0_addStreet_36 ?_
  refine zz_put (T := TX0) (N := 5) (k := 4) (κ := 1) (v := ((0 : Nat) : Int)) (x := ((σ 1 0 4) + 1)) (ty := .int) hx hb hts hinX0 tyX0 tyX0_ok nmX0 hown hK hW3 hS3 (zlN (hX 1 0 rfl)) rfl rfl rfl (by decide) (hts (.fieldLink RX0 29 "HailCity$CityMap" "streetCount" "I") (by decide +kernel)) (fun _ h9 => h9) rfl (by decide +kernel) rfl rfl rfl ⟨by omega, by omega⟩ (fun h9 _ => absurd h9 (by decide)) (fun h9 => absurd h9 (by decide)) dX0_addStreet_37 (fun H4 locs4 hW4' hS4 => ?_)
  obtain ⟨σ4, hs4⟩ : ∃ z, z = zu σ3 1 0 4 ((σ 1 0 4) + 1) := ⟨_, rfl⟩
  have hW4 : ZW G ad A σ4 H4 := by rw [hs4]; exact hW4'
  refine zz_aload_n hx hb hl 1 dX0_addStreet_40 rfl rfl ?_
  have f2 : ∀ k, σ4 2 0 k = if k = ns then a else σ 2 0 k := fun k => by
    simp only [hs4, hs3, hs2, hs1, zu, true_and, hns, Int.toNat_natCast, Nat.reduceEqDiff, false_and, reduceIte]
  have f3 : ∀ k, σ4 3 0 k = if k = ns then b else σ 3 0 k := fun k => by
    simp only [hs4, hs3, hs2, hs1, zu, true_and, hns, Int.toNat_natCast, Nat.reduceEqDiff, false_and, reduceIte]
  have f4 : ∀ k, σ4 4 0 k = if k = ns then t else σ 4 0 k := fun k => by
    simp only [hs4, hs3, hs2, hs1, zu, true_and, hns, Int.toNat_natCast, Nat.reduceEqDiff, false_and, reduceIte]
  have f1 : σ4 1 0 4 = ((ns + 1 : Nat) : Int) := by
    rw [hs4, zu_same, hns]; rfl
  have hst2 : yst (σ4 2 0) (σ4 3 0) (σ4 4 0) (ns + 1) := fun k hk => by
    rw [f2 k, f3 k, f4 k]
    by_cases h : k = ns
    · rw [if_pos h, if_pos h, if_pos h]; omega
    · rw [if_neg h, if_neg h, if_neg h]; exact hst k (by omega)
  refine zz_callV (T := TX0) (N := 5) (As := []) (rest := []) (v := ((0 : Nat) : Int)) (κ := 1) ⟨hx, hb, hml, hown, hts⟩ (c_X0_measure l G ad A N0 σ4 nd nr hX (ns + 1) f1 (by omega) hst2) (cwV 0 hts gX0_addStreet_X0_measure rfl rfl rfl (by decide +kernel) ⟨Nat.le_of_ble_eq_true rfl, Nat.le_of_ble_eq_true rfl⟩) hK hW4 (zlN (hX 1 0 rfl)) rfl rfl (Nat.le_trans hsz hS4.1) hS4 rfl hl.1.1 rfl (Nat.le_of_ble_eq_true rfl) dX0_addStreet_41 ⟨Nat.le_of_ble_eq_true rfl, Nat.le_of_ble_eq_true rfl⟩ (fun x5 σ5 H5 locs5 hp5 hW5 hz5 hS5 => ?_)
  refine W.eq (g2 := F0 m 44 ls []) rfl ?_
  refine zz_iload hx hb hl 0 dX0_addStreet_44 rfl ?_
  refine W.eq (g2 := F0 m 46 ls [.int (zi (σ 1 0 4))]) rfl ?_
  refine zz_reti hx hb hr hlocks hW5 hS5 ?_ dX0_addStreet_46
  refine ⟨hns.symm, ?_, fun k => ?_, fun k => ?_, fun k => ?_, fun a' b' ha' hb' => ?_, fun κ' i' k' hn => ?_⟩
  · rw [hp5.2 1 0 4 (by omega), f1]; rfl
  · rw [hp5.2 2 0 k (by omega), f2]
  · rw [hp5.2 3 0 k (by omega), f3]
  · rw [hp5.2 4 0 k (by omega), f4]
  · rw [hp5.1 a' b' ha' hb', show σ5 2 0 = _ from funext fun k => hp5.2 2 0 k (by omega), show σ5 3 0 = _ from funext fun k => hp5.2 3 0 k (by omega), show σ5 4 0 = _ from funext fun k => hp5.2 4 0 k (by omega)]
  · rw [hp5.2 _ _ _ (by omega), hs4, zu_ne (by omega), hs3, zu_ne (by omega), hs2, zu_ne (by omega), hs1, zu_ne (by omega)]

set_option maxHeartbeats 4000000 in
set_option maxRecDepth 100000 in
theorem c_X0_changeStreet (l : Launch) (G : zG) (ad : zA) (A : Nat → Prop) (N0 : Nat) (σ : zS) (nd nr : Nat) (hX : zX ad nd nr) (ns : Nat) (hns : σ 1 0 4 = (ns : Int)) (hn20 : ns ≤ 20) (hst : yst (σ 2 0) (σ 3 0) (σ 4 0) ns) (q : Nat) (hq : q < ns) (t : Int) (gt : zg t) (ht : 1 ≤ t ∧ t ≤ 20) : Met l yX0_changeStreet wsX0_changeStreet ({ frames := 3, cells := 0, slots := 0, locals := 66 }) (zP G ad A N0 σ [zr ad 1 ((0 : Nat) : Int), .int (zi ((q : Nat) : Int)), .int (zi t)]) (zQ G ad A zri (fun r u => σ 4 0 q = r ∧ u 4 0 q = t ∧ (∀ a b, a < 10 → b < 10 → u 6 a b = ywf 1000000 (u 2 0) (u 3 0) (u 4 0) ns 10 a b) ∧ zfr (fun κ i k => κ = 6 ∨ (κ = 4 ∧ k = q)) σ u)) 0 0 A := by
  refine zz_of (cc := cX0_changeStreet) (maxL := 4) (ret := (some .int)) (by decide) rfl ⟨rfl, rfl⟩ (List.forall_mem_cons.mpr ⟨zr_cat _ _ _, List.forall_mem_cons.mpr ⟨rfl, List.forall_mem_cons.mpr ⟨rfl, fun _ h => absurd h List.not_mem_nil⟩⟩⟩) (Nat.le_of_ble_eq_true rfl) ?_
  intro p e s m below meth c hx hb hr hml hts hown hlocks hsz hW0 hK ls hl
  have hS0 : va_S A s.heap s.heap [] := va_S.rf
  have hl : zh ls 4 [(0, zr ad 1 ((0 : Nat) : Int)), (1, .int (zi ((q : Nat) : Int))), (2, .int (zi t))] := hl
  have hinX0 : ∀ w ∈ u_ws RX0 TX0 5, w ∈ wsX0_changeStreet := by decide +kernel
  refine zz_aload_n hx hb hl 0 dX0_changeStreet_0 rfl rfl ?_
  refine zz_get (T := TX0) (N := 5) (k := 2) (κ := 1) (w := zr ad 4 ((0 : Nat) : Int)) hx hb hts hinX0 hown hK hW0 (zlN (hX 1 0 rfl)) rfl rfl rfl (by decide) (hts (.fieldLink RX0 18 "HailCity$CityMap" "streetMinutes" "[I") (by decide +kernel)) (fun _ h9 => h9) rfl dX0_changeStreet_1 ?_
  refine zz_iload_n hx hb hl 1 dX0_changeStreet_4 rfl rfl ?_
  refine zz_iald (w := σ 4 0 q) hx hb hK hW0 (zlN (hX 4 0 rfl)) rfl rfl rfl (by show (0 : Int) ≤ ((q : Nat) : Int); omega) (by show ((q : Nat) : Int) < (20 : Int); omega) rfl dX0_changeStreet_5 ?_
  refine zz_istore_n (lv' := [(3, .int (zi (σ 4 0 q))), (0, zr ad 1 ((0 : Nat) : Int)), (1, .int (zi ((q : Nat) : Int))), (2, .int (zi t))]) hx hb hl dX0_changeStreet_6 rfl (by decide) rfl (fun ls hl => ?_)
  refine zz_aload_n hx hb hl 1 dX0_changeStreet_7 rfl rfl ?_
  refine zz_get (T := TX0) (N := 5) (k := 2) (κ := 1) (w := zr ad 4 ((0 : Nat) : Int)) hx hb hts hinX0 hown hK hW0 (zlN (hX 1 0 rfl)) rfl rfl rfl (by decide) (hts (.fieldLink RX0 18 "HailCity$CityMap" "streetMinutes" "[I") (by decide +kernel)) (fun _ h9 => h9) rfl dX0_changeStreet_8 ?_
  refine zz_iload_n hx hb hl 2 dX0_changeStreet_11 rfl rfl ?_
  refine zz_iload_n hx hb hl 3 dX0_changeStreet_12 rfl rfl ?_
  refine zz_iast (y := t) hx hb hK hW0 hS0 (zlN (hX 4 0 rfl)) rfl rfl rfl (by show (0 : Int) ≤ ((q : Nat) : Int); omega) (by show ((q : Nat) : Int) < (20 : Int); omega) gt dX0_changeStreet_13 (fun H1 locs1 hW1' hS1 => ?_)
  obtain ⟨σ1, hs1⟩ : ∃ z, z = zu σ 4 0 q t := ⟨_, rfl⟩
  have hW1 : ZW G ad A σ1 H1 := by rw [hs1]; exact hW1'
  refine zz_aload_n hx hb hl 1 dX0_changeStreet_14 rfl rfl ?_
  have f2 : ∀ k, σ1 2 0 k = σ 2 0 k := fun k => by rw [hs1, zu_ne (by omega)]
  have f3 : ∀ k, σ1 3 0 k = σ 3 0 k := fun k => by rw [hs1, zu_ne (by omega)]
  have f4 : ∀ k, σ1 4 0 k = if k = q then t else σ 4 0 k := fun k => by
    simp only [hs1, zu, true_and]
  have f1 : σ1 1 0 4 = (ns : Int) := by rw [hs1, zu_ne (by omega)]; exact hns
  have hst2 : yst (σ1 2 0) (σ1 3 0) (σ1 4 0) ns := fun k hk => by
    rw [f2 k, f3 k, f4 k]
    have h5 := hst k hk
    split <;> omega
  refine zz_callV (T := TX0) (N := 5) (As := []) (rest := []) (v := ((0 : Nat) : Int)) (κ := 1) ⟨hx, hb, hml, hown, hts⟩ (c_X0_measure l G ad A N0 σ1 nd nr hX ns f1 hn20 hst2) (cwV 0 hts gX0_changeStreet_X0_measure rfl rfl rfl (by decide +kernel) ⟨Nat.le_of_ble_eq_true rfl, Nat.le_of_ble_eq_true rfl⟩) hK hW1 (zlN (hX 1 0 rfl)) rfl rfl (Nat.le_trans hsz hS1.1) hS1 rfl hl.1.1 rfl (Nat.le_of_ble_eq_true rfl) dX0_changeStreet_15 ⟨Nat.le_of_ble_eq_true rfl, Nat.le_of_ble_eq_true rfl⟩ (fun x2 σ2 H2 locs2 hp2 hW2 hz2 hS2 => ?_)
  refine W.eq (g2 := F0 m 18 ls []) rfl ?_
  refine zz_iload_n hx hb hl 0 dX0_changeStreet_18 rfl rfl ?_
  refine W.eq (g2 := F0 m 19 ls [.int (zi (σ 4 0 q))]) rfl ?_
  refine zz_reti hx hb hr hlocks hW2 hS2 ?_ dX0_changeStreet_19
  refine ⟨rfl, ?_, fun a' b' ha' hb' => ?_, fun κ' i' k' hn => ?_⟩
  · rw [hp2.2 4 0 q (by omega), hs1, zu_same]
  · rw [hp2.1 a' b' ha' hb', show σ2 2 0 = _ from funext fun k => hp2.2 2 0 k (by omega), show σ2 3 0 = _ from funext fun k => hp2.2 3 0 k (by omega), show σ2 4 0 = _ from funext fun k => hp2.2 4 0 k (by omega)]
  · rw [hp2.2 _ _ _ (by omega), hs1, zu_ne (by omega)]
