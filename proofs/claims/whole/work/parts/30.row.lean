set_option maxHeartbeats 4000000 in
set_option maxRecDepth 100000 in
theorem c_X4_holds (l : Launch) (G : zG) (ad : zA) (A : Nat → Prop) (N0 : Nat) (σ : zS) (nd nr : Nat) (hX : zX ad nd nr) (d : Nat) (hd : d < nd) (a : Int) (ga : zg a) : Met l yX4_holds wsX4_holds ({ frames := 0, cells := 0, slots := 0, locals := 0 }) (zP G ad A N0 σ [zr ad 18 ((d : Nat) : Int), .int (zi a)]) (zQ G ad A zri (fun r u => σ = u ∧ zb (0 ≤ a ∧ a < σ 18 d 3) = r)) 0 0 A := by
  refine zz_of (cc := cX4_holds) (maxL := 2) (ret := (some .boolean)) (by decide) rfl ⟨rfl, rfl⟩ (List.forall_mem_cons.mpr ⟨zr_cat _ _ _, List.forall_mem_cons.mpr ⟨rfl, fun _ h => absurd h List.not_mem_nil⟩⟩) (Nat.le_of_ble_eq_true rfl) ?_
  intro p e s m below meth c hx hb hr hml hts hown hlocks hsz hW0 hK ls hl
  have hS0 : va_S A s.heap s.heap [] := va_S.rf
  have hl : zh ls 2 [(0, zr ad 18 ((d : Nat) : Int)), (1, .int (zi a))] := hl
  have hinX4 : ∀ w ∈ u_ws RX4 TX4 4, w ∈ wsX4_holds := by decide +kernel
  refine zz_iload_n hx hb hl 1 dX4_holds_0 rfl rfl ?_
  refine zz_if_lt (tgt := 16) hx hb dX4_holds_1 (by decide) ga (fun hc1 => ?_) (fun hc1 => ?_)
  · refine zz_iconst hx hb dX4_holds_16 ?_
    refine W.eq (g2 := F0 m 17 ls [.int (zi 0)]) rfl ?_
    refine zz_retz hx hb hr hlocks hW0 hS0 (by decide) ?_ dX4_holds_17
    first | exact ⟨rfl, zb_t (by omega)⟩ | exact ⟨rfl, zb_f (by omega)⟩
  · refine zz_iload_n hx hb hl 1 dX4_holds_4 rfl rfl ?_
    refine zz_aload_n hx hb hl 0 dX4_holds_5 rfl rfl ?_
    refine zz_get (T := TX4) (N := 4) (k := 3) (κ := 18) (w := .int (zi (σ 18 d 3))) hx hb hts hinX4 hown hK hW0 (zlN (hX 18 d (decide_eq_true hd))) rfl rfl rfl (by decide) (hts (.fieldLink RX4 25 "HailCity$Row" "size" "I") (by decide +kernel)) (fun _ h9 => h9) rfl dX4_holds_6 ?_
    refine zz_icmp_ge (tgt := 16) hx hb dX4_holds_9 (by decide) ga (hW0.2.2.1 _ _ _) (fun hc9 => ?_) (fun hc9 => ?_)
    · refine zz_iconst hx hb dX4_holds_16 ?_
      refine W.eq (g2 := F0 m 17 ls [.int (zi 0)]) rfl ?_
      refine zz_retz hx hb hr hlocks hW0 hS0 (by decide) ?_ dX4_holds_17
      first | exact ⟨rfl, zb_t (by omega)⟩ | exact ⟨rfl, zb_f (by omega)⟩
    · refine zz_iconst hx hb dX4_holds_12 ?_
      refine zz_goto (tgt := 17) hx hb dX4_holds_13 (by decide) ?_
      refine W.eq (g2 := F0 m 17 ls [.int (zi 1)]) rfl ?_
      refine zz_retz hx hb hr hlocks hW0 hS0 (by decide) ?_ dX4_holds_17
      first | exact ⟨rfl, zb_t (by omega)⟩ | exact ⟨rfl, zb_f (by omega)⟩

set_option maxHeartbeats 4000000 in
set_option maxRecDepth 100000 in
theorem c_X4_placeAt (l : Launch) (G : zG) (ad : zA) (A : Nat → Prop) (N0 : Nat) (σ : zS) (nd nr : Nat) (hX : zX ad nd nr) (d : Nat) (hd : d < nd) (a : Int) (ga : zg a) (h0 : 0 ≤ σ 18 d 3) (h8 : σ 18 d 3 ≤ 8) : Met l yX4_placeAt wsX4_placeAt ({ frames := 1, cells := 0, slots := 0, locals := 21 }) (zP G ad A N0 σ [zr ad 18 ((d : Nat) : Int), .int (zi a)]) (zQ G ad A zri (fun r u => σ = u ∧ (if 0 ≤ a ∧ a < σ 18 d 3 then σ 20 d a.toNat else -1) = r)) 0 0 A := by
  refine zz_of (cc := cX4_placeAt) (maxL := 2) (ret := (some .int)) (by decide) rfl ⟨rfl, rfl⟩ (List.forall_mem_cons.mpr ⟨zr_cat _ _ _, List.forall_mem_cons.mpr ⟨rfl, fun _ h => absurd h List.not_mem_nil⟩⟩) (Nat.le_of_ble_eq_true rfl) ?_
  intro p e s m below meth c hx hb hr hml hts hown hlocks hsz hW0 hK ls hl
  have hS0 : va_S A s.heap s.heap [] := va_S.rf
  have hl : zh ls 2 [(0, zr ad 18 ((d : Nat) : Int)), (1, .int (zi a))] := hl
  have hinX4 : ∀ w ∈ u_ws RX4 TX4 4, w ∈ wsX4_placeAt := by decide +kernel
  refine zz_aload_n hx hb hl 0 dX4_placeAt_0 rfl rfl ?_
  refine zz_iload_n hx hb hl 1 dX4_placeAt_1 rfl rfl ?_
  refine zz_callV (T := TX4) (N := 4) (As := [.int (zi a)]) (rest := []) (v := ((d : Nat) : Int)) (κ := 18) ⟨hx, hb, hml, hown, hts⟩ (c_X4_holds l G ad A N0 σ nd nr hX d hd a ga) (cwV 1 hts gX4_placeAt_X4_holds rfl rfl rfl (by decide +kernel) ⟨Nat.le_of_ble_eq_true rfl, Nat.le_of_ble_eq_true rfl⟩) hK hW0 (zlN (hX 18 d (decide_eq_true hd))) rfl rfl (Nat.le_trans hsz hS0.1) hS0 rfl hl.1.1 rfl (Nat.le_of_ble_eq_true rfl) dX4_placeAt_2 ⟨Nat.le_of_ble_eq_true rfl, Nat.le_of_ble_eq_true rfl⟩ (fun x1 σ1 H1 locs1 hp1 hW1 hz1 hS1 => ?_)
  obtain ⟨rfl, rfl⟩ := hp1
  refine W.eq (g2 := F0 m 5 ls [.int (zi (zb (0 ≤ a ∧ a < σ 18 d 3)))]) rfl ?_
  refine zz_if_eqb (tgt := 17) hx hb dX4_placeAt_5 (by decide) (fun hc5 => ?_) (fun hc5 => ?_)
  · refine zz_iconst hx hb dX4_placeAt_17 ?_
    refine W.eq (g2 := F0 m 18 ls [.int (zi (-1))]) rfl ?_
    refine zz_reti hx hb hr hlocks hW1 hS1 ?_ dX4_placeAt_18
    first | exact ⟨rfl, if_pos (by omega)⟩ | exact ⟨rfl, if_neg (by omega)⟩
  · refine zz_aload_n hx hb hl 0 dX4_placeAt_8 rfl rfl ?_
    refine zz_get (T := TX4) (N := 4) (k := 0) (κ := 18) (w := zr ad 20 ((d : Nat) : Int)) hx hb hts hinX4 hown hK hW1 (zlN (hX 18 d (decide_eq_true hd))) rfl rfl rfl (by decide) (hts (.fieldLink RX4 11 "HailCity$Row" "places" "[I") (by decide +kernel)) (fun _ h9 => h9) rfl dX4_placeAt_9 ?_
    refine zz_iload_n hx hb hl 1 dX4_placeAt_12 rfl rfl ?_
    refine zz_iald (w := σ 20 d ((a).toNat)) hx hb hK hW1 (zlN (hX 20 d (decide_eq_true hd))) rfl rfl rfl (by show (0 : Int) ≤ a; omega) (by show a < (8 : Int); omega) rfl dX4_placeAt_13 ?_
    refine zz_goto (tgt := 18) hx hb dX4_placeAt_14 (by decide) ?_
    refine W.eq (g2 := F0 m 18 ls [.int (zi (σ 20 d ((a).toNat)))]) rfl ?_
    refine zz_reti hx hb hr hlocks hW1 hS1 ?_ dX4_placeAt_18
    first | exact ⟨rfl, if_pos (by omega)⟩ | exact ⟨rfl, if_neg (by omega)⟩

set_option maxHeartbeats 4000000 in
set_option maxRecDepth 100000 in
theorem c_X4_riderAt (l : Launch) (G : zG) (ad : zA) (A : Nat → Prop) (N0 : Nat) (σ : zS) (nd nr : Nat) (hX : zX ad nd nr) (d : Nat) (hd : d < nd) (a : Int) (ga : zg a) (h0 : 0 ≤ σ 18 d 3) (h8 : σ 18 d 3 ≤ 8) : Met l yX4_riderAt wsX4_riderAt ({ frames := 1, cells := 0, slots := 0, locals := 21 }) (zP G ad A N0 σ [zr ad 18 ((d : Nat) : Int), .int (zi a)]) (zQ G ad A (zrr ad 23) (fun r u => σ = u ∧ (if 0 ≤ a ∧ a < σ 18 d 3 then σ 21 d a.toNat else -1) = r)) 0 0 A := by
  refine zz_of (cc := cX4_riderAt) (maxL := 2) (ret := (some (.object "HailCity$Request"))) (by decide) rfl ⟨rfl, rfl⟩ (List.forall_mem_cons.mpr ⟨zr_cat _ _ _, List.forall_mem_cons.mpr ⟨rfl, fun _ h => absurd h List.not_mem_nil⟩⟩) (Nat.le_of_ble_eq_true rfl) ?_
  intro p e s m below meth c hx hb hr hml hts hown hlocks hsz hW0 hK ls hl
  have hS0 : va_S A s.heap s.heap [] := va_S.rf
  have hl : zh ls 2 [(0, zr ad 18 ((d : Nat) : Int)), (1, .int (zi a))] := hl
  have hinX4 : ∀ w ∈ u_ws RX4 TX4 4, w ∈ wsX4_riderAt := by decide +kernel
  refine zz_aload_n hx hb hl 0 dX4_riderAt_0 rfl rfl ?_
  refine zz_iload_n hx hb hl 1 dX4_riderAt_1 rfl rfl ?_
  refine zz_callV (T := TX4) (N := 4) (As := [.int (zi a)]) (rest := []) (v := ((d : Nat) : Int)) (κ := 18) ⟨hx, hb, hml, hown, hts⟩ (c_X4_holds l G ad A N0 σ nd nr hX d hd a ga) (cwV 1 hts gX4_riderAt_X4_holds rfl rfl rfl (by decide +kernel) ⟨Nat.le_of_ble_eq_true rfl, Nat.le_of_ble_eq_true rfl⟩) hK hW0 (zlN (hX 18 d (decide_eq_true hd))) rfl rfl (Nat.le_trans hsz hS0.1) hS0 rfl hl.1.1 rfl (Nat.le_of_ble_eq_true rfl) dX4_riderAt_2 ⟨Nat.le_of_ble_eq_true rfl, Nat.le_of_ble_eq_true rfl⟩ (fun x1 σ1 H1 locs1 hp1 hW1 hz1 hS1 => ?_)
  obtain ⟨rfl, rfl⟩ := hp1
  refine W.eq (g2 := F0 m 5 ls [.int (zi (zb (0 ≤ a ∧ a < σ 18 d 3)))]) rfl ?_
  refine zz_if_eqb (tgt := 17) hx hb dX4_riderAt_5 (by decide) (fun hc5 => ?_) (fun hc5 => ?_)
  · refine zz_null hx hb dX4_riderAt_17 ad 23 ?_
    refine W.eq (g2 := F0 m 18 ls [zr ad 23 (-1)]) rfl ?_
    refine zz_reta hx hb hr hlocks hW1 hS1 ?_ dX4_riderAt_18
    first | exact ⟨rfl, if_pos (by omega)⟩ | exact ⟨rfl, if_neg (by omega)⟩
  · refine zz_aload_n hx hb hl 0 dX4_riderAt_8 rfl rfl ?_
    refine zz_get (T := TX4) (N := 4) (k := 1) (κ := 18) (w := zr ad 21 ((d : Nat) : Int)) hx hb hts hinX4 hown hK hW1 (zlN (hX 18 d (decide_eq_true hd))) rfl rfl rfl (by decide) (hts (.fieldLink RX4 17 "HailCity$Row" "riders" "[LHailCity$Request;") (by decide +kernel)) (fun _ h9 => h9) rfl dX4_riderAt_9 ?_
    refine zz_iload_n hx hb hl 1 dX4_riderAt_12 rfl rfl ?_
    refine zz_aald (w := zr ad 23 (σ 21 d ((a).toNat))) hx hb hK hW1 (zlN (hX 21 d (decide_eq_true hd))) rfl rfl (by show (0 : Int) ≤ a; omega) (by show a < (8 : Int); omega) rfl dX4_riderAt_13 ?_
    refine zz_goto (tgt := 18) hx hb dX4_riderAt_14 (by decide) ?_
    refine W.eq (g2 := F0 m 18 ls [zr ad 23 (σ 21 d ((a).toNat))]) rfl ?_
    refine zz_reta hx hb hr hlocks hW1 hS1 ?_ dX4_riderAt_18
    first | exact ⟨rfl, if_pos (by omega)⟩ | exact ⟨rfl, if_neg (by omega)⟩

set_option maxHeartbeats 4000000 in
set_option maxRecDepth 100000 in
theorem c_X4_isLetOutAt (l : Launch) (G : zG) (ad : zA) (A : Nat → Prop) (N0 : Nat) (σ : zS) (nd nr : Nat) (hX : zX ad nd nr) (d : Nat) (hd : d < nd) (a : Int) (ga : zg a) (h0 : 0 ≤ σ 18 d 3) (h8 : σ 18 d 3 ≤ 8) : Met l yX4_isLetOutAt wsX4_isLetOutAt ({ frames := 1, cells := 0, slots := 0, locals := 21 }) (zP G ad A N0 σ [zr ad 18 ((d : Nat) : Int), .int (zi a)]) (zQ G ad A zri (fun r u => σ = u ∧ zb ((0 ≤ a ∧ a < σ 18 d 3) ∧ σ 22 d a.toNat = 1) = r)) 0 0 A := by
  refine zz_of (cc := cX4_isLetOutAt) (maxL := 2) (ret := (some .boolean)) (by decide) rfl ⟨rfl, rfl⟩ (List.forall_mem_cons.mpr ⟨zr_cat _ _ _, List.forall_mem_cons.mpr ⟨rfl, fun _ h => absurd h List.not_mem_nil⟩⟩) (Nat.le_of_ble_eq_true rfl) ?_
  intro p e s m below meth c hx hb hr hml hts hown hlocks hsz hW0 hK ls hl
  have hS0 : va_S A s.heap s.heap [] := va_S.rf
  have hl : zh ls 2 [(0, zr ad 18 ((d : Nat) : Int)), (1, .int (zi a))] := hl
  have hinX4 : ∀ w ∈ u_ws RX4 TX4 4, w ∈ wsX4_isLetOutAt := by decide +kernel
  refine zz_aload_n hx hb hl 0 dX4_isLetOutAt_0 rfl rfl ?_
  refine zz_iload_n hx hb hl 1 dX4_isLetOutAt_1 rfl rfl ?_
  refine zz_callV (T := TX4) (N := 4) (As := [.int (zi a)]) (rest := []) (v := ((d : Nat) : Int)) (κ := 18) ⟨hx, hb, hml, hown, hts⟩ (c_X4_holds l G ad A N0 σ nd nr hX d hd a ga) (cwV 1 hts gX4_isLetOutAt_X4_holds rfl rfl rfl (by decide +kernel) ⟨Nat.le_of_ble_eq_true rfl, Nat.le_of_ble_eq_true rfl⟩) hK hW0 (zlN (hX 18 d (decide_eq_true hd))) rfl rfl (Nat.le_trans hsz hS0.1) hS0 rfl hl.1.1 rfl (Nat.le_of_ble_eq_true rfl) dX4_isLetOutAt_2 ⟨Nat.le_of_ble_eq_true rfl, Nat.le_of_ble_eq_true rfl⟩ (fun x1 σ1 H1 locs1 hp1 hW1 hz1 hS1 => ?_)
  obtain ⟨rfl, rfl⟩ := hp1
  refine W.eq (g2 := F0 m 5 ls [.int (zi (zb (0 ≤ a ∧ a < σ 18 d 3)))]) rfl ?_
  refine zz_if_eqb (tgt := 21) hx hb dX4_isLetOutAt_5 (by decide) (fun hc5 => ?_) (fun hc5 => ?_)
  · refine zz_iconst hx hb dX4_isLetOutAt_21 ?_
    refine W.eq (g2 := F0 m 22 ls [.int (zi 0)]) rfl ?_
    refine zz_retz hx hb hr hlocks hW1 hS1 (by decide) ?_ dX4_isLetOutAt_22
    first | exact ⟨rfl, zb_t (by omega)⟩ | exact ⟨rfl, zb_f (by omega)⟩
  · refine zz_aload_n hx hb hl 0 dX4_isLetOutAt_8 rfl rfl ?_
    have hq := hW1.2.2.2.2 22 d a.toNat rfl
    refine zz_get (T := TX4) (N := 4) (k := 2) (κ := 18) (w := zr ad 22 ((d : Nat) : Int)) hx hb hts hinX4 hown hK hW1 (zlN (hX 18 d (decide_eq_true hd))) rfl rfl rfl (by decide) (hts (.fieldLink RX4 21 "HailCity$Row" "letOuts" "[Z") (by decide +kernel)) (fun _ h9 => h9) rfl dX4_isLetOutAt_9 ?_
    refine zz_iload_n hx hb hl 1 dX4_isLetOutAt_12 rfl rfl ?_
    refine zz_zald (w := σ 22 d ((a).toNat)) hx hb hK hW1 (zlN (hX 22 d (decide_eq_true hd))) rfl rfl rfl (by show (0 : Int) ≤ a; omega) (by show a < (8 : Int); omega) rfl dX4_isLetOutAt_13 ?_
    refine zz_if_eq (tgt := 21) hx hb dX4_isLetOutAt_14 (by decide) (hW1.2.2.1 _ _ _) (fun hc14 => ?_) (fun hc14 => ?_)
    · refine zz_iconst hx hb dX4_isLetOutAt_21 ?_
      refine W.eq (g2 := F0 m 22 ls [.int (zi 0)]) rfl ?_
      refine zz_retz hx hb hr hlocks hW1 hS1 (by decide) ?_ dX4_isLetOutAt_22
      first | exact ⟨rfl, zb_t (by omega)⟩ | exact ⟨rfl, zb_f (by omega)⟩
    · refine zz_iconst hx hb dX4_isLetOutAt_17 ?_
      refine zz_goto (tgt := 22) hx hb dX4_isLetOutAt_18 (by decide) ?_
      refine W.eq (g2 := F0 m 22 ls [.int (zi 1)]) rfl ?_
      refine zz_retz hx hb hr hlocks hW1 hS1 (by decide) ?_ dX4_isLetOutAt_22
      first | exact ⟨rfl, zb_t (by omega)⟩ | exact ⟨rfl, zb_f (by omega)⟩

set_option maxHeartbeats 4000000 in
set_option maxRecDepth 100000 in
theorem c_X4_copyStop (l : Launch) (G : zG) (ad : zA) (A : Nat → Prop) (N0 : Nat) (σ : zS) (nd nr : Nat) (hX : zX ad nd nr) (d : Nat) (hd : d < nd) (a b : Int) (ga : zg a) (gb : zg b) (ha0 : 0 ≤ a) (ha8 : a < 8) (hb0 : 0 ≤ b) (hb8 : b < 8) : Met l yX4_copyStop wsX4_copyStop ({ frames := 0, cells := 0, slots := 0, locals := 0 }) (zP G ad A N0 σ [zr ad 18 ((d : Nat) : Int), .int (zi a), .int (zi b)]) (zQ G ad A zrv (fun _ u => zu (zu (zu σ 20 d b.toNat (σ 20 d a.toNat)) 21 d b.toNat (σ 21 d a.toNat)) 22 d b.toNat (σ 22 d a.toNat) = u)) 0 0 A := by
  refine zz_of (cc := cX4_copyStop) (maxL := 3) (ret := none) (by decide) rfl ⟨rfl, rfl⟩ (List.forall_mem_cons.mpr ⟨zr_cat _ _ _, List.forall_mem_cons.mpr ⟨rfl, List.forall_mem_cons.mpr ⟨rfl, fun _ h => absurd h List.not_mem_nil⟩⟩⟩) (Nat.le_of_ble_eq_true rfl) ?_
  intro p e s m below meth c hx hb hr hml hts hown hlocks hsz hW0 hK ls hl
  have hS0 : va_S A s.heap s.heap [] := va_S.rf
  have hl : zh ls 3 [(0, zr ad 18 ((d : Nat) : Int)), (1, .int (zi a)), (2, .int (zi b))] := hl
  have hinX4 : ∀ w ∈ u_ws RX4 TX4 4, w ∈ wsX4_copyStop := by decide +kernel
  refine zz_aload_n hx hb hl 0 dX4_copyStop_0 rfl rfl ?_
  refine zz_get (T := TX4) (N := 4) (k := 0) (κ := 18) (w := zr ad 20 ((d : Nat) : Int)) hx hb hts hinX4 hown hK hW0 (zlN (hX 18 d (decide_eq_true hd))) rfl rfl rfl (by decide) (hts (.fieldLink RX4 11 "HailCity$Row" "places" "[I") (by decide +kernel)) (fun _ h9 => h9) rfl dX4_copyStop_1 ?_
  refine zz_iload_n hx hb hl 2 dX4_copyStop_4 rfl rfl ?_
  refine zz_aload_n hx hb hl 0 dX4_copyStop_5 rfl rfl ?_
  refine zz_get (T := TX4) (N := 4) (k := 0) (κ := 18) (w := zr ad 20 ((d : Nat) : Int)) hx hb hts hinX4 hown hK hW0 (zlN (hX 18 d (decide_eq_true hd))) rfl rfl rfl (by decide) (hts (.fieldLink RX4 11 "HailCity$Row" "places" "[I") (by decide +kernel)) (fun _ h9 => h9) rfl dX4_copyStop_6 ?_
  refine zz_iload_n hx hb hl 1 dX4_copyStop_9 rfl rfl ?_
  refine zz_iald (w := σ 20 d ((a).toNat)) hx hb hK hW0 (zlN (hX 20 d (decide_eq_true hd))) rfl rfl rfl (by show (0 : Int) ≤ a; omega) (by show a < (8 : Int); omega) rfl dX4_copyStop_10 ?_
  refine zz_iast (y := (σ 20 d ((a).toNat))) hx hb hK hW0 hS0 (zlN (hX 20 d (decide_eq_true hd))) rfl rfl rfl (by show (0 : Int) ≤ b; omega) (by show b < (8 : Int); omega) (hW0.2.2.1 _ _ _) dX4_copyStop_11 (fun H1 locs1 hW1' hS1 => ?_)
  obtain ⟨σ1, hs1⟩ : ∃ z, z = zu σ 20 d ((b).toNat) (σ 20 d ((a).toNat)) := ⟨_, rfl⟩
  have hW1 : ZW G ad A σ1 H1 := by rw [hs1]; exact hW1'
  refine zz_aload_n hx hb hl 0 dX4_copyStop_12 rfl rfl ?_
  refine zz_get (T := TX4) (N := 4) (k := 1) (κ := 18) (w := zr ad 21 ((d : Nat) : Int)) hx hb hts hinX4 hown hK hW1 (zlN (hX 18 d (decide_eq_true hd))) rfl rfl rfl (by decide) (hts (.fieldLink RX4 17 "HailCity$Row" "riders" "[LHailCity$Request;") (by decide +kernel)) (fun _ h9 => h9) rfl dX4_copyStop_13 ?_
  refine zz_iload_n hx hb hl 2 dX4_copyStop_16 rfl rfl ?_
  refine zz_aload_n hx hb hl 0 dX4_copyStop_17 rfl rfl ?_
  refine zz_get (T := TX4) (N := 4) (k := 1) (κ := 18) (w := zr ad 21 ((d : Nat) : Int)) hx hb hts hinX4 hown hK hW1 (zlN (hX 18 d (decide_eq_true hd))) rfl rfl rfl (by decide) (hts (.fieldLink RX4 17 "HailCity$Row" "riders" "[LHailCity$Request;") (by decide +kernel)) (fun _ h9 => h9) rfl dX4_copyStop_18 ?_
  refine zz_iload_n hx hb hl 1 dX4_copyStop_21 rfl rfl ?_
  refine zz_aald (w := zr ad 23 (σ1 21 d ((a).toNat))) hx hb hK hW1 (zlN (hX 21 d (decide_eq_true hd))) rfl rfl (by show (0 : Int) ≤ a; omega) (by show a < (8 : Int); omega) rfl dX4_copyStop_22 ?_
  refine zz_aast (κ := 21) (κ' := 23) (x := b) (y := (σ1 21 d ((a).toNat))) hx hb hK hW1 hS1 (zlN (hX 21 d (decide_eq_true hd))) rfl (Nat.le_of_ble_eq_true rfl) (Nat.le_of_ble_eq_true rfl) rfl rfl rfl rfl (by show (0 : Int) ≤ b; omega) (by show b < (8 : Int); omega) (hW1.2.2.2.1 21 _ ((a).toNat) ((zlN (hX 21 d (decide_eq_true hd)))).2 (Nat.le_of_ble_eq_true rfl) (Nat.le_of_ble_eq_true rfl)) (hW1.2.2.1 _ _ _) dX4_copyStop_23 (fun H2 locs2 hW2' hS2 => ?_)
  obtain ⟨σ2, hs2⟩ : ∃ z, z = zu σ1 21 d ((b).toNat) (σ1 21 d ((a).toNat)) := ⟨_, rfl⟩
  have hW2 : ZW G ad A σ2 H2 := by rw [hs2]; exact hW2'
  refine zz_aload_n hx hb hl 0 dX4_copyStop_24 rfl rfl ?_
  refine zz_get (T := TX4) (N := 4) (k := 2) (κ := 18) (w := zr ad 22 ((d : Nat) : Int)) hx hb hts hinX4 hown hK hW2 (zlN (hX 18 d (decide_eq_true hd))) rfl rfl rfl (by decide) (hts (.fieldLink RX4 21 "HailCity$Row" "letOuts" "[Z") (by decide +kernel)) (fun _ h9 => h9) rfl dX4_copyStop_25 ?_
  refine zz_iload_n hx hb hl 2 dX4_copyStop_28 rfl rfl ?_
  refine zz_aload_n hx hb hl 0 dX4_copyStop_29 rfl rfl ?_
  refine zz_get (T := TX4) (N := 4) (k := 2) (κ := 18) (w := zr ad 22 ((d : Nat) : Int)) hx hb hts hinX4 hown hK hW2 (zlN (hX 18 d (decide_eq_true hd))) rfl rfl rfl (by decide) (hts (.fieldLink RX4 21 "HailCity$Row" "letOuts" "[Z") (by decide +kernel)) (fun _ h9 => h9) rfl dX4_copyStop_30 ?_
  refine zz_iload_n hx hb hl 1 dX4_copyStop_33 rfl rfl ?_
  refine zz_zald (w := σ 22 d ((a).toNat)) hx hb hK hW2 (zlN (hX 22 d (decide_eq_true hd))) rfl rfl rfl (by show (0 : Int) ≤ a; omega) (by show a < (8 : Int); omega) (by rw [hs2, zu_k (by decide), hs1, zu_k (by decide)] <;> rfl) dX4_copyStop_34 ?_
  refine zz_zast (y := (σ 22 d ((a).toNat))) hx hb hK hW2 hS2 (zlN (hX 22 d (decide_eq_true hd))) rfl rfl rfl (by show (0 : Int) ≤ b; omega) (by show b < (8 : Int); omega) (hW0.2.2.2.2 22 _ ((a).toNat) rfl) dX4_copyStop_35 (fun H3 locs3 hW3' hS3 => ?_)
  obtain ⟨σ3, hs3⟩ : ∃ z, z = zu σ2 22 d ((b).toNat) (σ 22 d ((a).toNat)) := ⟨_, rfl⟩
  have hW3 : ZW G ad A σ3 H3 := by rw [hs3]; exact hW3'
  refine W.eq (g2 := F0 m 36 ls []) rfl ?_
  refine zz_retv hx hb hr hlocks hW3 hS3 ?_ dX4_copyStop_36
  subst hs3 hs2 hs1; rfl
