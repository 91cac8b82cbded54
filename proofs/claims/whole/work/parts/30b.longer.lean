/-! THE ROW OF SHARING -/
def zstL (σ : zS) (d b : Nat) (x y z : Int) : zS := zu (zu (zu σ 25 d b x) 26 d b y) 27 d b z
theorem zstL_20 {σ : zS} {d b j : Nat} {x y z : Int} : zstL σ d b x y z 25 d j = if j = b then x else σ 25 d j := by
  unfold zstL
  rw [zu_k (by decide), zu_k (by decide)]
  by_cases h : j = b
  · rw [if_pos h, h, zu_same]
  · rw [if_neg h, zu_s h]
theorem zstL_21 {σ : zS} {d b j : Nat} {x y z : Int} : zstL σ d b x y z 26 d j = if j = b then y else σ 26 d j := by
  unfold zstL
  rw [zu_k (by decide)]
  by_cases h : j = b
  · rw [if_pos h, h, zu_same]
  · rw [if_neg h, zu_s h, zu_k (by decide)]
theorem zstL_22 {σ : zS} {d b j : Nat} {x y z : Int} : zstL σ d b x y z 27 d j = if j = b then z else σ 27 d j := by
  unfold zstL
  by_cases h : j = b
  · rw [if_pos h, h, zu_same]
  · rw [if_neg h, zu_s h, zu_k (by decide), zu_k (by decide)]
theorem zstL_fr {σ : zS} {d b : Nat} {x y z : Int} {κ i k : Nat} (h : ¬ (i = d ∧ (κ = 25 ∨ κ = 26 ∨ κ = 27))) : zstL σ d b x y z κ i k = σ κ i k := by
  unfold zstL
  rw [zu_ne (by omega), zu_ne (by omega), zu_ne (by omega)]

theorem zins_lt {a j : Nat} {x : Int} {f : Nat → Int} (h : j < a) : zins a x f j = f j := if_pos h
theorem zins_at {a : Nat} {x : Int} {f : Nat → Int} : zins a x f a = x := (if_neg (Nat.lt_irrefl a)).trans (if_pos rfl)

set_option maxHeartbeats 4000000 in
set_option maxRecDepth 100000 in
theorem c_X4L_holds (l : Launch) (G : zG) (ad : zA) (A : Nat → Prop) (N0 : Nat) (σ : zS) (nd nr : Nat) (hX : zX ad nd nr)  (a : Int) (ga : zg a) : Met l yX4_holds wsX4_holds ({ frames := 0, cells := 0, slots := 0, locals := 0 }) (zP G ad A N0 σ [zr ad 24 ((0 : Nat) : Int), .int (zi a)]) (zQ G ad A zri (fun r u => σ = u ∧ zb (0 ≤ a ∧ a < σ 24 0 3) = r)) 0 0 A := by
  refine zz_of (cc := cX4_holds) (maxL := 2) (ret := (some .boolean)) (by decide) rfl ⟨rfl, rfl⟩ (List.forall_mem_cons.mpr ⟨zr_cat _ _ _, List.forall_mem_cons.mpr ⟨rfl, fun _ h => absurd h List.not_mem_nil⟩⟩) (Nat.le_of_ble_eq_true rfl) ?_
  intro p e s m below meth c hx hb hr hml hts hown hlocks hsz hW0 hK ls hl
  have hS0 : va_S A s.heap s.heap [] := va_S.rf
  have hl : zh ls 2 [(0, zr ad 24 ((0 : Nat) : Int)), (1, .int (zi a))] := hl
  have hinX4 : ∀ w ∈ u_ws RX4 TX4 4, w ∈ wsX4_holds := by decide +kernel
  refine zz_iload_n hx hb hl 1 dX4_holds_0 rfl rfl ?_
  refine zz_if_lt (tgt := 16) hx hb dX4_holds_1 (by decide) ga (fun hc1 => ?_) (fun hc1 => ?_)
  · refine zz_iconst hx hb dX4_holds_16 ?_
    refine W.eq (g2 := F0 m 17 ls [.int (zi 0)]) rfl ?_
    refine zz_retz hx hb hr hlocks hW0 hS0 (by decide) ?_ dX4_holds_17
    first | exact ⟨rfl, zb_t (by omega)⟩ | exact ⟨rfl, zb_f (by omega)⟩
  · refine zz_iload_n hx hb hl 1 dX4_holds_4 rfl rfl ?_
    refine zz_aload_n hx hb hl 0 dX4_holds_5 rfl rfl ?_
    refine zz_get (T := TX4) (N := 4) (k := 3) (κ := 24) (w := .int (zi (σ 24 0 3))) hx hb hts hinX4 hown hK hW0 (zlN (hX 24 0 rfl)) rfl rfl rfl (by decide) (hts (.fieldLink RX4 25 "HailCity$Row" "size" "I") (by decide +kernel)) (fun _ h9 => h9) rfl dX4_holds_6 ?_
    refine zz_icmp_ge (tgt := 16) hx hb dX4_holds_9 (by decide) ga (hW0.2.2.1 _ _ _) (fun hc9 => ?_) (fun hc9 => ?_)
    · refine zz_iconst hx hb dX4_holds_16 ?_
      refine W.eq (g2 := F0 m 17 ls [.int (zi 0)]) rfl ?_
      refine zz_retz hx hb hr hlocks hW0 hS0 (by decide) ?_ dX4_holds_17
      first | exact ⟨rfl, zb_t (by omega)⟩ | exact ⟨rfl, zb_f (by omega)⟩
    · refine zz_iconst hx hb dX4_holds_12 ?_
      refine zz_goto (tgt := 17) hx hb dX4_holds_13 (by decide) ?_
      refine W.eq (g2 := F0 m 17 ls [.int (zi 1)]) rfl ?_
      refine zz_retz hx hb hr hlocks hW0 hS0 (by decide) ?_ dX4_holds_17
      first | exact ⟨rfl, zb_t (by omega)⟩ | exact ⟨rfl, zb_f (by omega)⟩

set_option maxHeartbeats 4000000 in
set_option maxRecDepth 100000 in
theorem c_X4L_placeAt (l : Launch) (G : zG) (ad : zA) (A : Nat → Prop) (N0 : Nat) (σ : zS) (nd nr : Nat) (hX : zX ad nd nr)  (a : Int) (ga : zg a) (h0 : 0 ≤ σ 24 0 3) (h8 : σ 24 0 3 ≤ 8) : Met l yX4_placeAt wsX4_placeAt ({ frames := 1, cells := 0, slots := 0, locals := 21 }) (zP G ad A N0 σ [zr ad 24 ((0 : Nat) : Int), .int (zi a)]) (zQ G ad A zri (fun r u => σ = u ∧ (if 0 ≤ a ∧ a < σ 24 0 3 then σ 25 0 a.toNat else -1) = r)) 0 0 A := by
  refine zz_of (cc := cX4_placeAt) (maxL := 2) (ret := (some .int)) (by decide) rfl ⟨rfl, rfl⟩ (List.forall_mem_cons.mpr ⟨zr_cat _ _ _, List.forall_mem_cons.mpr ⟨rfl, fun _ h => absurd h List.not_mem_nil⟩⟩) (Nat.le_of_ble_eq_true rfl) ?_
  intro p e s m below meth c hx hb hr hml hts hown hlocks hsz hW0 hK ls hl
  have hS0 : va_S A s.heap s.heap [] := va_S.rf
  have hl : zh ls 2 [(0, zr ad 24 ((0 : Nat) : Int)), (1, .int (zi a))] := hl
  have hinX4 : ∀ w ∈ u_ws RX4 TX4 4, w ∈ wsX4_placeAt := by decide +kernel
  refine zz_aload_n hx hb hl 0 dX4_placeAt_0 rfl rfl ?_
  refine zz_iload_n hx hb hl 1 dX4_placeAt_1 rfl rfl ?_
  refine zz_callV (T := TX4) (N := 4) (As := [.int (zi a)]) (rest := []) (v := ((0 : Nat) : Int)) (κ := 24) ⟨hx, hb, hml, hown, hts⟩ (c_X4L_holds l G ad A N0 σ nd nr hX a ga) (cwV 1 hts gX4_placeAt_X4_holds rfl rfl rfl (by decide +kernel) ⟨Nat.le_of_ble_eq_true rfl, Nat.le_of_ble_eq_true rfl⟩) hK hW0 (zlN (hX 24 0 rfl)) rfl rfl (Nat.le_trans hsz hS0.1) hS0 rfl hl.1.1 rfl (Nat.le_of_ble_eq_true rfl) dX4_placeAt_2 ⟨Nat.le_of_ble_eq_true rfl, Nat.le_of_ble_eq_true rfl⟩ (fun x1 σ1 H1 locs1 hp1 hW1 hz1 hS1 => ?_)
  obtain ⟨rfl, rfl⟩ := hp1
  refine W.eq (g2 := F0 m 5 ls [.int (zi (zb (0 ≤ a ∧ a < σ 24 0 3)))]) rfl ?_
  refine zz_if_eqb (tgt := 17) hx hb dX4_placeAt_5 (by decide) (fun hc5 => ?_) (fun hc5 => ?_)
  · refine zz_iconst hx hb dX4_placeAt_17 ?_
    refine W.eq (g2 := F0 m 18 ls [.int (zi (-1))]) rfl ?_
    refine zz_reti hx hb hr hlocks hW1 hS1 ?_ dX4_placeAt_18
    first | exact ⟨rfl, if_pos (by omega)⟩ | exact ⟨rfl, if_neg (by omega)⟩
  · refine zz_aload_n hx hb hl 0 dX4_placeAt_8 rfl rfl ?_
    refine zz_get (T := TX4) (N := 4) (k := 0) (κ := 24) (w := zr ad 25 ((0 : Nat) : Int)) hx hb hts hinX4 hown hK hW1 (zlN (hX 24 0 rfl)) rfl rfl rfl (by decide) (hts (.fieldLink RX4 11 "HailCity$Row" "places" "[I") (by decide +kernel)) (fun _ h9 => h9) rfl dX4_placeAt_9 ?_
    refine zz_iload_n hx hb hl 1 dX4_placeAt_12 rfl rfl ?_
    refine zz_iald (w := σ 25 0 ((a).toNat)) hx hb hK hW1 (zlN (hX 25 0 rfl)) rfl rfl rfl (by show (0 : Int) ≤ a; omega) (by show a < (8 : Int); omega) rfl dX4_placeAt_13 ?_
    refine zz_goto (tgt := 18) hx hb dX4_placeAt_14 (by decide) ?_
    refine W.eq (g2 := F0 m 18 ls [.int (zi (σ 25 0 ((a).toNat)))]) rfl ?_
    refine zz_reti hx hb hr hlocks hW1 hS1 ?_ dX4_placeAt_18
    first | exact ⟨rfl, if_pos (by omega)⟩ | exact ⟨rfl, if_neg (by omega)⟩

set_option maxHeartbeats 4000000 in
set_option maxRecDepth 100000 in
theorem c_X4L_riderAt (l : Launch) (G : zG) (ad : zA) (A : Nat → Prop) (N0 : Nat) (σ : zS) (nd nr : Nat) (hX : zX ad nd nr)  (a : Int) (ga : zg a) (h0 : 0 ≤ σ 24 0 3) (h8 : σ 24 0 3 ≤ 8) : Met l yX4_riderAt wsX4_riderAt ({ frames := 1, cells := 0, slots := 0, locals := 21 }) (zP G ad A N0 σ [zr ad 24 ((0 : Nat) : Int), .int (zi a)]) (zQ G ad A (zrr ad 23) (fun r u => σ = u ∧ (if 0 ≤ a ∧ a < σ 24 0 3 then σ 26 0 a.toNat else -1) = r)) 0 0 A := by
  refine zz_of (cc := cX4_riderAt) (maxL := 2) (ret := (some (.object "HailCity$Request"))) (by decide) rfl ⟨rfl, rfl⟩ (List.forall_mem_cons.mpr ⟨zr_cat _ _ _, List.forall_mem_cons.mpr ⟨rfl, fun _ h => absurd h List.not_mem_nil⟩⟩) (Nat.le_of_ble_eq_true rfl) ?_
  intro p e s m below meth c hx hb hr hml hts hown hlocks hsz hW0 hK ls hl
  have hS0 : va_S A s.heap s.heap [] := va_S.rf
  have hl : zh ls 2 [(0, zr ad 24 ((0 : Nat) : Int)), (1, .int (zi a))] := hl
  have hinX4 : ∀ w ∈ u_ws RX4 TX4 4, w ∈ wsX4_riderAt := by decide +kernel
  refine zz_aload_n hx hb hl 0 dX4_riderAt_0 rfl rfl ?_
  refine zz_iload_n hx hb hl 1 dX4_riderAt_1 rfl rfl ?_
  refine zz_callV (T := TX4) (N := 4) (As := [.int (zi a)]) (rest := []) (v := ((0 : Nat) : Int)) (κ := 24) ⟨hx, hb, hml, hown, hts⟩ (c_X4L_holds l G ad A N0 σ nd nr hX a ga) (cwV 1 hts gX4_riderAt_X4_holds rfl rfl rfl (by decide +kernel) ⟨Nat.le_of_ble_eq_true rfl, Nat.le_of_ble_eq_true rfl⟩) hK hW0 (zlN (hX 24 0 rfl)) rfl rfl (Nat.le_trans hsz hS0.1) hS0 rfl hl.1.1 rfl (Nat.le_of_ble_eq_true rfl) dX4_riderAt_2 ⟨Nat.le_of_ble_eq_true rfl, Nat.le_of_ble_eq_true rfl⟩ (fun x1 σ1 H1 locs1 hp1 hW1 hz1 hS1 => ?_)
  obtain ⟨rfl, rfl⟩ := hp1
  refine W.eq (g2 := F0 m 5 ls [.int (zi (zb (0 ≤ a ∧ a < σ 24 0 3)))]) rfl ?_
  refine zz_if_eqb (tgt := 17) hx hb dX4_riderAt_5 (by decide) (fun hc5 => ?_) (fun hc5 => ?_)
  · refine zz_null hx hb dX4_riderAt_17 ad 23 ?_
    refine W.eq (g2 := F0 m 18 ls [zr ad 23 (-1)]) rfl ?_
    refine zz_reta hx hb hr hlocks hW1 hS1 ?_ dX4_riderAt_18
    first | exact ⟨rfl, if_pos (by omega)⟩ | exact ⟨rfl, if_neg (by omega)⟩
  · refine zz_aload_n hx hb hl 0 dX4_riderAt_8 rfl rfl ?_
    refine zz_get (T := TX4) (N := 4) (k := 1) (κ := 24) (w := zr ad 26 ((0 : Nat) : Int)) hx hb hts hinX4 hown hK hW1 (zlN (hX 24 0 rfl)) rfl rfl rfl (by decide) (hts (.fieldLink RX4 17 "HailCity$Row" "riders" "[LHailCity$Request;") (by decide +kernel)) (fun _ h9 => h9) rfl dX4_riderAt_9 ?_
    refine zz_iload_n hx hb hl 1 dX4_riderAt_12 rfl rfl ?_
    refine zz_aald (w := zr ad 23 (σ 26 0 ((a).toNat))) hx hb hK hW1 (zlN (hX 26 0 rfl)) rfl rfl (by show (0 : Int) ≤ a; omega) (by show a < (8 : Int); omega) rfl dX4_riderAt_13 ?_
    refine zz_goto (tgt := 18) hx hb dX4_riderAt_14 (by decide) ?_
    refine W.eq (g2 := F0 m 18 ls [zr ad 23 (σ 26 0 ((a).toNat))]) rfl ?_
    refine zz_reta hx hb hr hlocks hW1 hS1 ?_ dX4_riderAt_18
    first | exact ⟨rfl, if_pos (by omega)⟩ | exact ⟨rfl, if_neg (by omega)⟩

set_option maxHeartbeats 4000000 in
set_option maxRecDepth 100000 in
theorem c_X4L_isLetOutAt (l : Launch) (G : zG) (ad : zA) (A : Nat → Prop) (N0 : Nat) (σ : zS) (nd nr : Nat) (hX : zX ad nd nr)  (a : Int) (ga : zg a) (h0 : 0 ≤ σ 24 0 3) (h8 : σ 24 0 3 ≤ 8) : Met l yX4_isLetOutAt wsX4_isLetOutAt ({ frames := 1, cells := 0, slots := 0, locals := 21 }) (zP G ad A N0 σ [zr ad 24 ((0 : Nat) : Int), .int (zi a)]) (zQ G ad A zri (fun r u => σ = u ∧ zb ((0 ≤ a ∧ a < σ 24 0 3) ∧ σ 27 0 a.toNat = 1) = r)) 0 0 A := by
  refine zz_of (cc := cX4_isLetOutAt) (maxL := 2) (ret := (some .boolean)) (by decide) rfl ⟨rfl, rfl⟩ (List.forall_mem_cons.mpr ⟨zr_cat _ _ _, List.forall_mem_cons.mpr ⟨rfl, fun _ h => absurd h List.not_mem_nil⟩⟩) (Nat.le_of_ble_eq_true rfl) ?_
  intro p e s m below meth c hx hb hr hml hts hown hlocks hsz hW0 hK ls hl
  have hS0 : va_S A s.heap s.heap [] := va_S.rf
  have hl : zh ls 2 [(0, zr ad 24 ((0 : Nat) : Int)), (1, .int (zi a))] := hl
  have hinX4 : ∀ w ∈ u_ws RX4 TX4 4, w ∈ wsX4_isLetOutAt := by decide +kernel
  refine zz_aload_n hx hb hl 0 dX4_isLetOutAt_0 rfl rfl ?_
  refine zz_iload_n hx hb hl 1 dX4_isLetOutAt_1 rfl rfl ?_
  refine zz_callV (T := TX4) (N := 4) (As := [.int (zi a)]) (rest := []) (v := ((0 : Nat) : Int)) (κ := 24) ⟨hx, hb, hml, hown, hts⟩ (c_X4L_holds l G ad A N0 σ nd nr hX a ga) (cwV 1 hts gX4_isLetOutAt_X4_holds rfl rfl rfl (by decide +kernel) ⟨Nat.le_of_ble_eq_true rfl, Nat.le_of_ble_eq_true rfl⟩) hK hW0 (zlN (hX 24 0 rfl)) rfl rfl (Nat.le_trans hsz hS0.1) hS0 rfl hl.1.1 rfl (Nat.le_of_ble_eq_true rfl) dX4_isLetOutAt_2 ⟨Nat.le_of_ble_eq_true rfl, Nat.le_of_ble_eq_true rfl⟩ (fun x1 σ1 H1 locs1 hp1 hW1 hz1 hS1 => ?_)
  obtain ⟨rfl, rfl⟩ := hp1
  refine W.eq (g2 := F0 m 5 ls [.int (zi (zb (0 ≤ a ∧ a < σ 24 0 3)))]) rfl ?_
  refine zz_if_eqb (tgt := 21) hx hb dX4_isLetOutAt_5 (by decide) (fun hc5 => ?_) (fun hc5 => ?_)
  · refine zz_iconst hx hb dX4_isLetOutAt_21 ?_
    refine W.eq (g2 := F0 m 22 ls [.int (zi 0)]) rfl ?_
    refine zz_retz hx hb hr hlocks hW1 hS1 (by decide) ?_ dX4_isLetOutAt_22
    first | exact ⟨rfl, zb_t (by omega)⟩ | exact ⟨rfl, zb_f (by omega)⟩
  · refine zz_aload_n hx hb hl 0 dX4_isLetOutAt_8 rfl rfl ?_
    have hq := hW1.2.2.2.2 27 0 a.toNat rfl
    refine zz_get (T := TX4) (N := 4) (k := 2) (κ := 24) (w := zr ad 27 ((0 : Nat) : Int)) hx hb hts hinX4 hown hK hW1 (zlN (hX 24 0 rfl)) rfl rfl rfl (by decide) (hts (.fieldLink RX4 21 "HailCity$Row" "letOuts" "[Z") (by decide +kernel)) (fun _ h9 => h9) rfl dX4_isLetOutAt_9 ?_
    refine zz_iload_n hx hb hl 1 dX4_isLetOutAt_12 rfl rfl ?_
    refine zz_zald (w := σ 27 0 ((a).toNat)) hx hb hK hW1 (zlN (hX 27 0 rfl)) rfl rfl rfl (by show (0 : Int) ≤ a; omega) (by show a < (8 : Int); omega) rfl dX4_isLetOutAt_13 ?_
    refine zz_if_eq (tgt := 21) hx hb dX4_isLetOutAt_14 (by decide) (hW1.2.2.1 _ _ _) (fun hc14 => ?_) (fun hc14 => ?_)
    · refine zz_iconst hx hb dX4_isLetOutAt_21 ?_
      refine W.eq (g2 := F0 m 22 ls [.int (zi 0)]) rfl ?_
      refine zz_retz hx hb hr hlocks hW1 hS1 (by decide) ?_ dX4_isLetOutAt_22
      first | exact ⟨rfl, zb_t (by omega)⟩ | exact ⟨rfl, zb_f (by omega)⟩
    · refine zz_iconst hx hb dX4_isLetOutAt_17 ?_
      refine zz_goto (tgt := 22) hx hb dX4_isLetOutAt_18 (by decide) ?_
      refine W.eq (g2 := F0 m 22 ls [.int (zi 1)]) rfl ?_
      refine zz_retz hx hb hr hlocks hW1 hS1 (by decide) ?_ dX4_isLetOutAt_22
      first | exact ⟨rfl, zb_t (by omega)⟩ | exact ⟨rfl, zb_f (by omega)⟩

set_option maxHeartbeats 4000000 in
set_option maxRecDepth 100000 in
theorem c_X4L_copyStop (l : Launch) (G : zG) (ad : zA) (A : Nat → Prop) (N0 : Nat) (σ : zS) (nd nr : Nat) (hX : zX ad nd nr)  (a b : Int) (ga : zg a) (gb : zg b) (ha0 : 0 ≤ a) (ha8 : a < 8) (hb0 : 0 ≤ b) (hb8 : b < 8) : Met l yX4_copyStop wsX4_copyStop ({ frames := 0, cells := 0, slots := 0, locals := 0 }) (zP G ad A N0 σ [zr ad 24 ((0 : Nat) : Int), .int (zi a), .int (zi b)]) (zQ G ad A zrv (fun _ u => zstL σ 0 b.toNat (σ 25 0 a.toNat) (σ 26 0 a.toNat) (σ 27 0 a.toNat) = u)) 0 0 A := by
  refine zz_of (cc := cX4_copyStop) (maxL := 3) (ret := none) (by decide) rfl ⟨rfl, rfl⟩ (List.forall_mem_cons.mpr ⟨zr_cat _ _ _, List.forall_mem_cons.mpr ⟨rfl, List.forall_mem_cons.mpr ⟨rfl, fun _ h => absurd h List.not_mem_nil⟩⟩⟩) (Nat.le_of_ble_eq_true rfl) ?_
  intro p e s m below meth c hx hb hr hml hts hown hlocks hsz hW0 hK ls hl
  have hS0 : va_S A s.heap s.heap [] := va_S.rf
  have hl : zh ls 3 [(0, zr ad 24 ((0 : Nat) : Int)), (1, .int (zi a)), (2, .int (zi b))] := hl
  have hinX4 : ∀ w ∈ u_ws RX4 TX4 4, w ∈ wsX4_copyStop := by decide +kernel
  refine zz_aload_n hx hb hl 0 dX4_copyStop_0 rfl rfl ?_
  refine zz_get (T := TX4) (N := 4) (k := 0) (κ := 24) (w := zr ad 25 ((0 : Nat) : Int)) hx hb hts hinX4 hown hK hW0 (zlN (hX 24 0 rfl)) rfl rfl rfl (by decide) (hts (.fieldLink RX4 11 "HailCity$Row" "places" "[I") (by decide +kernel)) (fun _ h9 => h9) rfl dX4_copyStop_1 ?_
  refine zz_iload_n hx hb hl 2 dX4_copyStop_4 rfl rfl ?_
  refine zz_aload_n hx hb hl 0 dX4_copyStop_5 rfl rfl ?_
  refine zz_get (T := TX4) (N := 4) (k := 0) (κ := 24) (w := zr ad 25 ((0 : Nat) : Int)) hx hb hts hinX4 hown hK hW0 (zlN (hX 24 0 rfl)) rfl rfl rfl (by decide) (hts (.fieldLink RX4 11 "HailCity$Row" "places" "[I") (by decide +kernel)) (fun _ h9 => h9) rfl dX4_copyStop_6 ?_
  refine zz_iload_n hx hb hl 1 dX4_copyStop_9 rfl rfl ?_
  refine zz_iald (w := σ 25 0 ((a).toNat)) hx hb hK hW0 (zlN (hX 25 0 rfl)) rfl rfl rfl (by show (0 : Int) ≤ a; omega) (by show a < (8 : Int); omega) rfl dX4_copyStop_10 ?_
  refine zz_iast (y := (σ 25 0 ((a).toNat))) hx hb hK hW0 hS0 (zlN (hX 25 0 rfl)) rfl rfl rfl (by show (0 : Int) ≤ b; omega) (by show b < (8 : Int); omega) (hW0.2.2.1 _ _ _) dX4_copyStop_11 (fun H1 locs1 hW1' hS1 => ?_)
  obtain ⟨σ1, hs1⟩ : ∃ z, z = zu σ 25 0 ((b).toNat) (σ 25 0 ((a).toNat)) := ⟨_, rfl⟩
  have hW1 : ZW G ad A σ1 H1 := by rw [hs1]; exact hW1'
  refine zz_aload_n hx hb hl 0 dX4_copyStop_12 rfl rfl ?_
  refine zz_get (T := TX4) (N := 4) (k := 1) (κ := 24) (w := zr ad 26 ((0 : Nat) : Int)) hx hb hts hinX4 hown hK hW1 (zlN (hX 24 0 rfl)) rfl rfl rfl (by decide) (hts (.fieldLink RX4 17 "HailCity$Row" "riders" "[LHailCity$Request;") (by decide +kernel)) (fun _ h9 => h9) rfl dX4_copyStop_13 ?_
  refine zz_iload_n hx hb hl 2 dX4_copyStop_16 rfl rfl ?_
  refine zz_aload_n hx hb hl 0 dX4_copyStop_17 rfl rfl ?_
  refine zz_get (T := TX4) (N := 4) (k := 1) (κ := 24) (w := zr ad 26 ((0 : Nat) : Int)) hx hb hts hinX4 hown hK hW1 (zlN (hX 24 0 rfl)) rfl rfl rfl (by decide) (hts (.fieldLink RX4 17 "HailCity$Row" "riders" "[LHailCity$Request;") (by decide +kernel)) (fun _ h9 => h9) rfl dX4_copyStop_18 ?_
  refine zz_iload_n hx hb hl 1 dX4_copyStop_21 rfl rfl ?_
  refine zz_aald (w := zr ad 23 (σ1 26 0 ((a).toNat))) hx hb hK hW1 (zlN (hX 26 0 rfl)) rfl rfl (by show (0 : Int) ≤ a; omega) (by show a < (8 : Int); omega) rfl dX4_copyStop_22 ?_
  refine zz_aast (κ := 26) (κ' := 23) (x := b) (y := (σ1 26 0 ((a).toNat))) hx hb hK hW1 hS1 (zlN (hX 26 0 rfl)) rfl (Nat.le_of_ble_eq_true rfl) (Nat.le_of_ble_eq_true rfl) rfl rfl rfl rfl (by show (0 : Int) ≤ b; omega) (by show b < (8 : Int); omega) (hW1.2.2.2.1 26 _ ((a).toNat) ((zlN (hX 26 0 rfl))).2 (Nat.le_of_ble_eq_true rfl) (Nat.le_of_ble_eq_true rfl)) (hW1.2.2.1 _ _ _) dX4_copyStop_23 (fun H2 locs2 hW2' hS2 => ?_)
  obtain ⟨σ2, hs2⟩ : ∃ z, z = zu σ1 26 0 ((b).toNat) (σ1 26 0 ((a).toNat)) := ⟨_, rfl⟩
  have hW2 : ZW G ad A σ2 H2 := by rw [hs2]; exact hW2'
  have hq := hW0.2.2.2.2 27 0 a.toNat rfl
  refine zz_aload_n hx hb hl 0 dX4_copyStop_24 rfl rfl ?_
  refine zz_get (T := TX4) (N := 4) (k := 2) (κ := 24) (w := zr ad 27 ((0 : Nat) : Int)) hx hb hts hinX4 hown hK hW2 (zlN (hX 24 0 rfl)) rfl rfl rfl (by decide) (hts (.fieldLink RX4 21 "HailCity$Row" "letOuts" "[Z") (by decide +kernel)) (fun _ h9 => h9) rfl dX4_copyStop_25 ?_
  refine zz_iload_n hx hb hl 2 dX4_copyStop_28 rfl rfl ?_
  refine zz_aload_n hx hb hl 0 dX4_copyStop_29 rfl rfl ?_
  refine zz_get (T := TX4) (N := 4) (k := 2) (κ := 24) (w := zr ad 27 ((0 : Nat) : Int)) hx hb hts hinX4 hown hK hW2 (zlN (hX 24 0 rfl)) rfl rfl rfl (by decide) (hts (.fieldLink RX4 21 "HailCity$Row" "letOuts" "[Z") (by decide +kernel)) (fun _ h9 => h9) rfl dX4_copyStop_30 ?_
  refine zz_iload_n hx hb hl 1 dX4_copyStop_33 rfl rfl ?_
  refine zz_zald (w := σ 27 0 ((a).toNat)) hx hb hK hW2 (zlN (hX 27 0 rfl)) rfl rfl rfl (by show (0 : Int) ≤ a; omega) (by show a < (8 : Int); omega) (show σ2 27 0 ((a).toNat) = σ 27 0 ((a).toNat) from by rw [hs2, zu_k (by decide), hs1, zu_k (by decide)]) dX4_copyStop_34 ?_
  refine zz_zast (y := (σ 27 0 ((a).toNat))) hx hb hK hW2 hS2 (zlN (hX 27 0 rfl)) rfl rfl rfl (by show (0 : Int) ≤ b; omega) (by show b < (8 : Int); omega) (hW0.2.2.2.2 27 _ ((a).toNat) rfl) dX4_copyStop_35 (fun H3 locs3 hW3' hS3 => ?_)
  obtain ⟨σ3, hs3⟩ : ∃ z, z = zu σ2 27 0 ((b).toNat) (σ 27 0 ((a).toNat)) := ⟨_, rfl⟩
  have hW3 : ZW G ad A σ3 H3 := by rw [hs3]; exact hW3'
  refine W.eq (g2 := F0 m 36 ls []) rfl ?_
  refine zz_retv hx hb hr hlocks hW3 hS3 ?_ dX4_copyStop_36
  subst hs3 hs2 hs1; rfl

set_option maxHeartbeats 4000000 in
set_option maxRecDepth 100000 in
theorem c_X4L_put (l : Launch) (G : zG) (ad : zA) (A : Nat → Prop) (N0 : Nat) (σ : zS) (nd nr : Nat) (hX : zX ad nd nr)  (a pl v lo : Int) (ga : zg a) (gpl : zg pl) (gv : zg v) (hv : zln ad 23 v) (hlo : lo = 0 ∨ lo = 1) (ha0 : 0 ≤ a) (ha1 : a ≤ σ 24 0 3) (hs8 : σ 24 0 3 < 8) : Met l yX4_put wsX4_put ({ frames := 1, cells := 0, slots := 0, locals := 22 }) (zP G ad A N0 σ [zr ad 24 ((0 : Nat) : Int), .int (zi a), .int (zi pl), zr ad 23 v, .int (zi lo)]) (zQ G ad A zrv (fun _ u => u 24 0 3 = σ 24 0 3 + 1 ∧ (∀ j : Nat, (j : Int) ≤ σ 24 0 3 → u 25 0 j = zins a.toNat pl (σ 25 0) j ∧ u 26 0 j = zins a.toNat v (σ 26 0) j ∧ u 27 0 j = zins a.toNat lo (σ 27 0) j) ∧ zfr (fun κ i k => i = 0 ∧ (κ = 25 ∨ κ = 26 ∨ κ = 27 ∨ (κ = 24 ∧ k = 3))) σ u)) 0 0 A := by
  refine zz_of (cc := cX4_put) (maxL := 6) (ret := none) (by decide) rfl ⟨rfl, rfl⟩ (List.forall_mem_cons.mpr ⟨zr_cat _ _ _, List.forall_mem_cons.mpr ⟨rfl, List.forall_mem_cons.mpr ⟨rfl, List.forall_mem_cons.mpr ⟨zr_cat _ _ _, List.forall_mem_cons.mpr ⟨rfl, fun _ h => absurd h List.not_mem_nil⟩⟩⟩⟩⟩) (Nat.le_of_ble_eq_true rfl) ?_
  intro p e s m below meth c hx hb hr hml hts hown hlocks hsz hW0 hK ls hl
  have hS0 : va_S A s.heap s.heap [] := va_S.rf
  have hl : zh ls 6 [(0, zr ad 24 ((0 : Nat) : Int)), (1, .int (zi a)), (2, .int (zi pl)), (3, zr ad 23 v), (4, .int (zi lo))] := hl
  have hinX4 : ∀ w ∈ u_ws RX4 TX4 4, w ∈ wsX4_put := by decide +kernel
  refine zz_iload_n hx hb hl 1 dX4_put_0 rfl rfl ?_
  refine zz_if_lt (tgt := 21) hx hb dX4_put_1 (by decide) ga (fun hc1 => ?_) (fun hc1 => ?_)
  · exfalso; omega
  · refine zz_iload_n hx hb hl 1 dX4_put_4 rfl rfl ?_
    refine zz_aload_n hx hb hl 0 dX4_put_5 rfl rfl ?_
    refine zz_get (T := TX4) (N := 4) (k := 3) (κ := 24) (w := .int (zi (σ 24 0 3))) hx hb hts hinX4 hown hK hW0 (zlN (hX 24 0 rfl)) rfl rfl rfl (by decide) (hts (.fieldLink RX4 25 "HailCity$Row" "size" "I") (by decide +kernel)) (fun _ h9 => h9) rfl dX4_put_6 ?_
    refine zz_icmp_gt (tgt := 21) hx hb dX4_put_9 (by decide) ga (hW0.2.2.1 _ _ _) (fun hc9 => ?_) (fun hc9 => ?_)
    · exfalso; omega
    · refine zz_aload_n hx hb hl 0 dX4_put_12 rfl rfl ?_
      refine zz_get (T := TX4) (N := 4) (k := 3) (κ := 24) (w := .int (zi (σ 24 0 3))) hx hb hts hinX4 hown hK hW0 (zlN (hX 24 0 rfl)) rfl rfl rfl (by decide) (hts (.fieldLink RX4 25 "HailCity$Row" "size" "I") (by decide +kernel)) (fun _ h9 => h9) rfl dX4_put_13 ?_
      refine zz_bipush hx hb dX4_put_16 (by decide +kernel) ?_
      refine zz_icmp_lt (tgt := 22) hx hb dX4_put_18 (by decide) (hW0.2.2.1 _ _ _) ⟨by decide, by decide⟩ (fun hc18 => ?_) (fun hc18 => ?_)
      · refine zz_aload_n hx hb hl 0 dX4_put_22 rfl rfl ?_
        refine zz_get (T := TX4) (N := 4) (k := 3) (κ := 24) (w := .int (zi (σ 24 0 3))) hx hb hts hinX4 hown hK hW0 (zlN (hX 24 0 rfl)) rfl rfl rfl (by decide) (hts (.fieldLink RX4 25 "HailCity$Row" "size" "I") (by decide +kernel)) (fun _ h9 => h9) rfl dX4_put_23 ?_
        refine zz_istore (lv' := [(5, .int (zi (σ 24 0 3))), (0, zr ad 24 ((0 : Nat) : Int)), (1, .int (zi a)), (2, .int (zi pl)), (3, zr ad 23 v), (4, .int (zi lo))]) hx hb hl dX4_put_26 (by decide) rfl (fun ls hl => ?_)
        have hcut28 : ∀ (n9 : Nat) (i : Int)  (σ9 : zS) (H9 : Heap) (locs9 : List Loc) (ls : Array Slot), (a ≤ i ∧ i ≤ σ 24 0 3 ∧ (∀ j : Nat, (j : Int) ≤ σ 24 0 3 → σ9 25 0 j = (if (j : Int) ≤ i then σ 25 0 j else σ 25 0 (j - 1)) ∧ σ9 26 0 j = (if (j : Int) ≤ i then σ 26 0 j else σ 26 0 (j - 1)) ∧ σ9 27 0 j = (if (j : Int) ≤ i then σ 27 0 j else σ 27 0 (j - 1))) ∧ zfr (fun κ i _ => i = 0 ∧ (κ = 25 ∨ κ = 26 ∨ κ = 27)) σ σ9) → i.toNat < n9 → ZW G ad A σ9 H9 → va_S A s.heap H9 locs9 → zh ls 6 [(0, zr ad 24 ((0 : Nat) : Int)), (1, .int (zi a)), (2, .int (zi pl)), (3, zr ad 23 v), (4, .int (zi lo)), (5, .int (zi i))] → W p l e ({ frames := 1, cells := 0, slots := 0, locals := 22 }) s m ([zr ad 24 ((0 : Nat) : Int), .int (zi a), .int (zi pl), zr ad 23 v, .int (zi lo)] : List Value).toArray below meth c H9 locs9 0 0 (MQ below (zQ G ad A zrv (fun _ u => u 24 0 3 = σ 24 0 3 + 1 ∧ (∀ j : Nat, (j : Int) ≤ σ 24 0 3 → u 25 0 j = zins a.toNat pl (σ 25 0) j ∧ u 26 0 j = zins a.toNat v (σ 26 0) j ∧ u 27 0 j = zins a.toNat lo (σ 27 0) j) ∧ zfr (fun κ i k => i = 0 ∧ (κ = 25 ∨ κ = 26 ∨ κ = 27 ∨ (κ = 24 ∧ k = 3))) σ u)) ([zr ad 24 ((0 : Nat) : Int), .int (zi a), .int (zi pl), zr ad 23 v, .int (zi lo)] : List Value).toArray s 0 0 A) (F0 m 28 ls []) := by
          intro n9
          induction n9 with
          | zero =>
            intro i σ1 H1 locs1 ls hI28 hm28 hW1 hS1 hl
            exact absurd hm28 (Nat.not_lt_zero _)
          | succ n9 ih28 =>
            intro i σ1 H1 locs1 ls hI28 hm28 hW1 hS1 hl
            obtain ⟨hi1, hi2, hi3, hi4⟩ := hI28
            have hi5 : σ1 24 0 3 = σ 24 0 3 := hi4 24 0 3 (by omega)
            refine zz_iload hx hb hl 5 dX4_put_28 rfl ?_
            refine zz_iload_n hx hb hl 1 dX4_put_30 rfl rfl ?_
            refine zz_icmp_le (tgt := 50) hx hb dX4_put_31 (by decide) ⟨by omega, by omega⟩ ga (fun hc31 => ?_) (fun hc31 => ?_)
            · refine zz_aload_n hx hb hl 0 dX4_put_50 rfl rfl ?_
              refine zz_get (T := TX4) (N := 4) (k := 0) (κ := 24) (w := zr ad 25 ((0 : Nat) : Int)) hx hb hts hinX4 hown hK hW1 (zlN (hX 24 0 rfl)) rfl rfl rfl (by decide) (hts (.fieldLink RX4 11 "HailCity$Row" "places" "[I") (by decide +kernel)) (fun _ h9 => h9) rfl dX4_put_51 ?_
              refine zz_iload_n hx hb hl 1 dX4_put_54 rfl rfl ?_
              refine zz_iload_n hx hb hl 2 dX4_put_55 rfl rfl ?_
              refine zz_iast (y := pl) hx hb hK hW1 hS1 (zlN (hX 25 0 rfl)) rfl rfl rfl (by show (0 : Int) ≤ a; omega) (by show a < (8 : Int); omega) gpl dX4_put_56 (fun H2 locs2 hW2' hS2 => ?_)
              obtain ⟨σ2, hs2⟩ : ∃ z, z = zu σ1 25 0 ((a).toNat) pl := ⟨_, rfl⟩
              have hW2 : ZW G ad A σ2 H2 := by rw [hs2]; exact hW2'
              refine zz_aload_n hx hb hl 0 dX4_put_57 rfl rfl ?_
              refine zz_get (T := TX4) (N := 4) (k := 1) (κ := 24) (w := zr ad 26 ((0 : Nat) : Int)) hx hb hts hinX4 hown hK hW2 (zlN (hX 24 0 rfl)) rfl rfl rfl (by decide) (hts (.fieldLink RX4 17 "HailCity$Row" "riders" "[LHailCity$Request;") (by decide +kernel)) (fun _ h9 => h9) rfl dX4_put_58 ?_
              refine zz_iload_n hx hb hl 1 dX4_put_61 rfl rfl ?_
              refine zz_aload_n hx hb hl 3 dX4_put_62 rfl rfl ?_
              refine zz_aast (κ := 26) (κ' := 23) (x := a) (y := v) hx hb hK hW2 hS2 (zlN (hX 26 0 rfl)) rfl (Nat.le_of_ble_eq_true rfl) (Nat.le_of_ble_eq_true rfl) rfl rfl rfl rfl (by show (0 : Int) ≤ a; omega) (by show a < (8 : Int); omega) hv gv dX4_put_63 (fun H3 locs3 hW3' hS3 => ?_)
              obtain ⟨σ3, hs3⟩ : ∃ z, z = zu σ2 26 0 ((a).toNat) v := ⟨_, rfl⟩
              have hW3 : ZW G ad A σ3 H3 := by rw [hs3]; exact hW3'
              refine zz_aload_n hx hb hl 0 dX4_put_64 rfl rfl ?_
              refine zz_get (T := TX4) (N := 4) (k := 2) (κ := 24) (w := zr ad 27 ((0 : Nat) : Int)) hx hb hts hinX4 hown hK hW3 (zlN (hX 24 0 rfl)) rfl rfl rfl (by decide) (hts (.fieldLink RX4 21 "HailCity$Row" "letOuts" "[Z") (by decide +kernel)) (fun _ h9 => h9) rfl dX4_put_65 ?_
              refine zz_iload_n hx hb hl 1 dX4_put_68 rfl rfl ?_
              refine zz_iload hx hb hl 4 dX4_put_69 rfl ?_
              refine zz_zast (y := lo) hx hb hK hW3 hS3 (zlN (hX 27 0 rfl)) rfl rfl rfl (by show (0 : Int) ≤ a; omega) (by show a < (8 : Int); omega) hlo dX4_put_71 (fun H4 locs4 hW4' hS4 => ?_)
              obtain ⟨σ4, hs4⟩ : ∃ z, z = zu σ3 27 0 ((a).toNat) lo := ⟨_, rfl⟩
              have hW4 : ZW G ad A σ4 H4 := by rw [hs4]; exact hW4'
              refine zz_aload_n hx hb hl 0 dX4_put_72 rfl rfl ?_
              refine lv_dup hx hb dX4_put_73 (zr_cat _ _ _) ?_
              refine zz_get (T := TX4) (N := 4) (k := 3) (κ := 24) (w := .int (zi (σ1 24 0 3))) hx hb hts hinX4 hown hK hW4 (zlN (hX 24 0 rfl)) rfl rfl rfl (by decide) (hts (.fieldLink RX4 25 "HailCity$Row" "size" "I") (by decide +kernel)) (fun _ h9 => h9) (congrArg (fun z => Value.int (zi z)) (show σ4 24 0 3 = σ1 24 0 3 from by rw [hs4, zu_k (by decide), hs3, zu_k (by decide), hs2, zu_k (by decide)])) dX4_put_74 ?_
              refine zz_iconst hx hb dX4_put_77 ?_
              refine zz_iadd hx hb dX4_put_78 ?_
              have hgp : zg (σ 24 0 3) := hW0.2.2.1 _ _ _
              refine zz_put (T := TX4) (N := 4) (k := 3) (κ := 24) (v := ((0 : Nat) : Int)) (x := ((σ1 24 0 3) + 1)) (ty := .int) hx hb hts hinX4 tyX4 tyX4_ok nmX4 hown hK hW4 hS4 (zlN (hX 24 0 rfl)) rfl rfl rfl (by decide) (hts (.fieldLink RX4 25 "HailCity$Row" "size" "I") (by decide +kernel)) (fun _ h9 => h9) rfl (by decide +kernel) rfl rfl rfl ⟨by omega, by omega⟩ (fun h9 _ => absurd h9 (by decide)) (fun h9 => absurd h9 (by decide)) dX4_put_79 (fun H5 locs5 hW5' hS5 => ?_)
              obtain ⟨σ5, hs5⟩ : ∃ z, z = zu σ4 24 0 3 ((σ1 24 0 3) + 1) := ⟨_, rfl⟩
              have hW5 : ZW G ad A σ5 H5 := by rw [hs5]; exact hW5'
              refine W.eq (g2 := F0 m 82 ls []) rfl ?_
              refine zz_retv hx hb hr hlocks hW5 hS5 ?_ dX4_put_82
              have hia : i = a := by omega
              subst hia
              refine ⟨?_, fun j hj => ?_, fun κ' i' k' hn => ?_⟩
              · rw [hs5, zu_same]; omega
              · obtain ⟨q1, q2, q3⟩ := hi3 j hj
                simp only [hs5, hs4, hs3, hs2, zu, zins, q1, q2, q3, Nat.reduceEqDiff, false_and, and_false, true_and, and_true, reduceIte]
                refine ⟨?_, ?_, ?_⟩ <;> (repeat' split) <;> first | rfl | omega
              · rw [hs5, zu_ne (by omega), hs4, zu_ne (by omega), hs3, zu_ne (by omega), hs2, zu_ne (by omega)]
                exact hi4 _ _ _ (by omega)
            · refine zz_aload_n hx hb hl 0 dX4_put_34 rfl rfl ?_
              refine zz_iload hx hb hl 5 dX4_put_35 rfl ?_
              refine zz_iconst hx hb dX4_put_37 ?_
              refine zz_isub hx hb dX4_put_38 ?_
              refine zz_iload hx hb hl 5 dX4_put_39 rfl ?_
              refine zz_callV (T := TX4) (N := 4) (As := [.int (zi (i - 1)), .int (zi i)]) (rest := []) (v := ((0 : Nat) : Int)) (κ := 24) ⟨hx, hb, hml, hown, hts⟩ (c_X4L_copyStop l G ad A N0 σ1 nd nr hX (i - 1) (i) ⟨by omega, by omega⟩ ⟨by omega, by omega⟩ (by omega) (by omega) (by omega) (by omega)) (cwV 2 hts gX4_put_X4_copyStop rfl rfl rfl (by decide +kernel) ⟨Nat.le_of_ble_eq_true rfl, Nat.le_of_ble_eq_true rfl⟩) hK hW1 (zlN (hX 24 0 rfl)) rfl rfl (Nat.le_trans hsz hS1.1) hS1 rfl hl.1.1 rfl (Nat.le_of_ble_eq_true rfl) dX4_put_41 ⟨Nat.le_of_ble_eq_true rfl, Nat.le_of_ble_eq_true rfl⟩ (fun x6 σ6 H6 locs6 hp6 hW6 hz6 hS6 => ?_)
              have hs6 := hp6.symm
              refine W.eq (g2 := F0 m 44 ls []) rfl ?_
              refine zz_iinc (lv' := [(5, .int (zi (i + (-1)))), (0, zr ad 24 ((0 : Nat) : Int)), (1, .int (zi a)), (2, .int (zi pl)), (3, zr ad 23 v), (4, .int (zi lo))]) hx hb hl dX4_put_44 (k0 := 5) rfl (by decide) rfl (fun ls hl => ?_)
              refine zz_goto (tgt := 28) hx hb dX4_put_47 (by decide) ?_
              refine ih28 (i + (-1)) σ6 H6 locs6 ls ?_ (by omega) hW6 hS6 (zh_sub hl [1, 2, 3, 4, 5, 0] rfl)
              refine ⟨by omega, by omega, fun j hj => ?_, fun κ' i' k' hn => ?_⟩
              · obtain ⟨q1, q2, q3⟩ := hi3 (i - 1).toNat (by omega)
                obtain ⟨r1, r2, r3⟩ := hi3 j hj
                rw [hs6, zstL_20, zstL_21, zstL_22, q1, q2, q3, r1, r2, r3]
                by_cases hji : j = i.toNat
                · rw [show (i - 1).toNat = j - 1 by omega]
                  refine ⟨?_, ?_, ?_⟩ <;> (repeat' split) <;> first | rfl | omega
                · refine ⟨?_, ?_, ?_⟩ <;> (repeat' split) <;> first | rfl | omega
              · rw [hs6, zstL_fr hn]
                exact hi4 _ _ _ hn
        refine hcut28 _ (σ 24 0 3) σ s.heap [] ls ?_ (Nat.lt_succ_self _) hW0 hS0 (zh_sub hl [1, 2, 3, 4, 5, 0] rfl)
        exact ⟨ha1, Int.le_refl _, fun j hj => by rw [if_pos hj, if_pos hj, if_pos hj]; exact ⟨rfl, rfl, rfl⟩, fun _ _ _ _ => rfl⟩
      · exfalso; omega

set_option maxHeartbeats 4000000 in
set_option maxRecDepth 100000 in
theorem c_X4L_copyFrom (l : Launch) (G : zG) (ad : zA) (A : Nat → Prop) (N0 : Nat) (σ : zS) (nd nr : Nat) (hX : zX ad nd nr) (d : Nat) (hd : d < nd) (h0 : 0 ≤ σ 18 d 3) (h8 : σ 18 d 3 ≤ 8) : Met l yX4_copyFrom wsX4_copyFrom ({ frames := 2, cells := 0, slots := 0, locals := 47 }) (zP G ad A N0 σ [zr ad 24 ((0 : Nat) : Int), zr ad 18 ((d : Nat) : Int)]) (zQ G ad A zrv (fun _ u => u 24 0 3 = σ 18 d 3 ∧ (∀ j : Nat, (j : Int) < σ 18 d 3 → u 25 0 j = σ 20 d j ∧ u 26 0 j = σ 21 d j ∧ u 27 0 j = σ 22 d j) ∧ zfr (fun κ i k => κ = 25 ∨ κ = 26 ∨ κ = 27 ∨ (κ = 24 ∧ k = 3)) σ u)) 0 0 A := by
  refine zz_of (cc := cX4_copyFrom) (maxL := 3) (ret := none) (by decide) rfl ⟨rfl, rfl⟩ (List.forall_mem_cons.mpr ⟨zr_cat _ _ _, List.forall_mem_cons.mpr ⟨zr_cat _ _ _, fun _ h => absurd h List.not_mem_nil⟩⟩) (Nat.le_of_ble_eq_true rfl) ?_
  intro p e s m below meth c hx hb hr hml hts hown hlocks hsz hW0 hK ls hl
  have hS0 : va_S A s.heap s.heap [] := va_S.rf
  have hl : zh ls 3 [(0, zr ad 24 ((0 : Nat) : Int)), (1, zr ad 18 ((d : Nat) : Int))] := hl
  have hinX4 : ∀ w ∈ u_ws RX4 TX4 4, w ∈ wsX4_copyFrom := by decide +kernel
  refine zz_aload_n hx hb hl 0 dX4_copyFrom_0 rfl rfl ?_
  refine zz_iconst hx hb dX4_copyFrom_1 ?_
  refine zz_put (T := TX4) (N := 4) (k := 3) (κ := 24) (v := ((0 : Nat) : Int)) (x := 0) (ty := .int) hx hb hts hinX4 tyX4 tyX4_ok nmX4 hown hK hW0 hS0 (zlN (hX 24 0 rfl)) rfl rfl rfl (by decide) (hts (.fieldLink RX4 25 "HailCity$Row" "size" "I") (by decide +kernel)) (fun _ h9 => h9) rfl (by decide +kernel) rfl rfl rfl ⟨by decide, by decide⟩ (fun h9 _ => absurd h9 (by decide)) (fun h9 => absurd h9 (by decide)) dX4_copyFrom_2 (fun H1 locs1 hW1' hS1 => ?_)
  obtain ⟨σ1, hs1⟩ : ∃ z, z = zu σ 24 0 3 0 := ⟨_, rfl⟩
  have hW1 : ZW G ad A σ1 H1 := by rw [hs1]; exact hW1'
  refine zz_iconst hx hb dX4_copyFrom_5 ?_
  refine zz_istore_n (lv' := [(2, .int (zi 0)), (0, zr ad 24 ((0 : Nat) : Int)), (1, zr ad 18 ((d : Nat) : Int))]) hx hb hl dX4_copyFrom_6 rfl (by decide) rfl (fun ls hl => ?_)
  have hcut7 : ∀ (n9 : Nat) (i : Nat)  (σ9 : zS) (H9 : Heap) (locs9 : List Loc) (ls : Array Slot), ((i : Int) ≤ σ 18 d 3 ∧ σ9 24 0 3 = (i : Int) ∧ (∀ j : Nat, j < i → σ9 25 0 j = σ 20 d j ∧ σ9 26 0 j = σ 21 d j ∧ σ9 27 0 j = σ 22 d j) ∧ zfr (fun κ i k => κ = 25 ∨ κ = 26 ∨ κ = 27 ∨ (κ = 24 ∧ k = 3)) σ σ9) → ((σ 18 d 3).toNat - i) < n9 → ZW G ad A σ9 H9 → va_S A s.heap H9 locs9 → zh ls 3 [(0, zr ad 24 ((0 : Nat) : Int)), (1, zr ad 18 ((d : Nat) : Int)), (2, .int (zi ((i : Nat) : Int)))] → W p l e ({ frames := 2, cells := 0, slots := 0, locals := 47 }) s m ([zr ad 24 ((0 : Nat) : Int), zr ad 18 ((d : Nat) : Int)] : List Value).toArray below meth c H9 locs9 0 0 (MQ below (zQ G ad A zrv (fun _ u => u 24 0 3 = σ 18 d 3 ∧ (∀ j : Nat, (j : Int) < σ 18 d 3 → u 25 0 j = σ 20 d j ∧ u 26 0 j = σ 21 d j ∧ u 27 0 j = σ 22 d j) ∧ zfr (fun κ i k => κ = 25 ∨ κ = 26 ∨ κ = 27 ∨ (κ = 24 ∧ k = 3)) σ u)) ([zr ad 24 ((0 : Nat) : Int), zr ad 18 ((d : Nat) : Int)] : List Value).toArray s 0 0 A) (F0 m 7 ls []) := by
    intro n9
    induction n9 with
    | zero =>
      intro i σ2 H2 locs2 ls hI7 hm7 hW2 hS2 hl
      exact absurd hm7 (Nat.not_lt_zero _)
    | succ n9 ih7 =>
      intro i σ2 H2 locs2 ls hI7 hm7 hW2 hS2 hl
      obtain ⟨hi1, hi2, hi3, hi4⟩ := hI7
      refine zz_iload_n hx hb hl 2 dX4_copyFrom_7 rfl rfl ?_
      refine zz_aload_n hx hb hl 1 dX4_copyFrom_8 rfl rfl ?_
      refine zz_get (T := TX4) (N := 4) (k := 3) (κ := 18) (w := .int (zi (σ 18 d 3))) hx hb hts hinX4 hown hK hW2 (zlN (hX 18 d (decide_eq_true hd))) rfl rfl rfl (by decide) (hts (.fieldLink RX4 25 "HailCity$Row" "size" "I") (by decide +kernel)) (fun _ h9 => h9) (congrArg (fun z => Value.int (zi z)) (show σ2 18 d 3 = σ 18 d 3 from by rw [hi4 18 d 3 (by omega)])) dX4_copyFrom_9 ?_
      refine zz_icmp_ge (tgt := 44) hx hb dX4_copyFrom_12 (by decide) ⟨by omega, by omega⟩ (hW0.2.2.1 _ _ _) (fun hc12 => ?_) (fun hc12 => ?_)
      · refine W.eq (g2 := F0 m 44 ls []) rfl ?_
        refine zz_retv hx hb hr hlocks hW2 hS2 ?_ dX4_copyFrom_44
        have hin : σ 18 d 3 = (i : Int) := by omega
        refine ⟨by rw [hi2, hin], fun j hj => hi3 j (by omega), hi4⟩
      · have hq := hW0.2.2.2.2 22 d i rfl
        refine zz_aload_n hx hb hl 0 dX4_copyFrom_15 rfl rfl ?_
        refine zz_iload_n hx hb hl 2 dX4_copyFrom_16 rfl rfl ?_
        refine zz_aload_n hx hb hl 1 dX4_copyFrom_17 rfl rfl ?_
        refine zz_get (T := TX4) (N := 4) (k := 0) (κ := 18) (w := zr ad 20 ((d : Nat) : Int)) hx hb hts hinX4 hown hK hW2 (zlN (hX 18 d (decide_eq_true hd))) rfl rfl rfl (by decide) (hts (.fieldLink RX4 11 "HailCity$Row" "places" "[I") (by decide +kernel)) (fun _ h9 => h9) rfl dX4_copyFrom_18 ?_
        refine zz_iload_n hx hb hl 2 dX4_copyFrom_21 rfl rfl ?_
        refine zz_iald (w := σ 20 d i) hx hb hK hW2 (zlN (hX 20 d (decide_eq_true hd))) rfl rfl rfl (by show (0 : Int) ≤ ((i : Nat) : Int); omega) (by show ((i : Nat) : Int) < (8 : Int); omega) (show σ2 20 d i = σ 20 d i from by rw [hi4 20 d i (by omega)]) dX4_copyFrom_22 ?_
        refine zz_aload_n hx hb hl 1 dX4_copyFrom_23 rfl rfl ?_
        refine zz_get (T := TX4) (N := 4) (k := 1) (κ := 18) (w := zr ad 21 ((d : Nat) : Int)) hx hb hts hinX4 hown hK hW2 (zlN (hX 18 d (decide_eq_true hd))) rfl rfl rfl (by decide) (hts (.fieldLink RX4 17 "HailCity$Row" "riders" "[LHailCity$Request;") (by decide +kernel)) (fun _ h9 => h9) rfl dX4_copyFrom_24 ?_
        refine zz_iload_n hx hb hl 2 dX4_copyFrom_27 rfl rfl ?_
        refine zz_aald (w := zr ad 23 (σ 21 d i)) hx hb hK hW2 (zlN (hX 21 d (decide_eq_true hd))) rfl rfl (by show (0 : Int) ≤ ((i : Nat) : Int); omega) (by show ((i : Nat) : Int) < (8 : Int); omega) (congrArg (zr ad 23) (show σ2 21 d i = σ 21 d i from hi4 21 d i (by omega))) dX4_copyFrom_28 ?_
        refine zz_aload_n hx hb hl 1 dX4_copyFrom_29 rfl rfl ?_
        refine zz_get (T := TX4) (N := 4) (k := 2) (κ := 18) (w := zr ad 22 ((d : Nat) : Int)) hx hb hts hinX4 hown hK hW2 (zlN (hX 18 d (decide_eq_true hd))) rfl rfl rfl (by decide) (hts (.fieldLink RX4 21 "HailCity$Row" "letOuts" "[Z") (by decide +kernel)) (fun _ h9 => h9) rfl dX4_copyFrom_30 ?_
        refine zz_iload_n hx hb hl 2 dX4_copyFrom_33 rfl rfl ?_
        refine zz_zald (w := σ 22 d i) hx hb hK hW2 (zlN (hX 22 d (decide_eq_true hd))) rfl rfl rfl (by show (0 : Int) ≤ ((i : Nat) : Int); omega) (by show ((i : Nat) : Int) < (8 : Int); omega) (show σ2 22 d i = σ 22 d i from by rw [hi4 22 d i (by omega)]) dX4_copyFrom_34 ?_
        refine zz_callV (T := TX4) (N := 4) (As := [.int (zi ((i : Nat) : Int)), .int (zi (σ 20 d i)), zr ad 23 (σ 21 d i), .int (zi (σ 22 d i))]) (rest := []) (v := ((0 : Nat) : Int)) (κ := 24) ⟨hx, hb, hml, hown, hts⟩ (c_X4L_put l G ad A N0 σ2 nd nr hX ((i : Nat) : Int) (σ 20 d i) (σ 21 d i) (σ 22 d i) ⟨by omega, by omega⟩ (hW0.2.2.1 _ _ _) (hW0.2.2.1 _ _ _) (hW0.2.2.2.1 21 d i (hX 21 d (decide_eq_true hd)) (Nat.le_of_ble_eq_true rfl) (Nat.le_of_ble_eq_true rfl)) hq (by omega) (by rw [hi2]; omega) (by rw [hi2]; omega)) (cwV 4 hts gX4_copyFrom_X4_put rfl rfl rfl (by decide +kernel) ⟨Nat.le_of_ble_eq_true rfl, Nat.le_of_ble_eq_true rfl⟩) hK hW2 (zlN (hX 24 0 rfl)) rfl rfl (Nat.le_trans hsz hS2.1) hS2 rfl hl.1.1 rfl (Nat.le_of_ble_eq_true rfl) dX4_copyFrom_35 ⟨Nat.le_of_ble_eq_true rfl, Nat.le_of_ble_eq_true rfl⟩ (fun x3 σ3 H3 locs3 hp3 hW3 hz3 hS3 => ?_)
        refine W.eq (g2 := F0 m 38 ls []) rfl ?_
        refine zz_iinc (lv' := [(2, .int (zi (((i : Nat) : Int) + 1))), (0, zr ad 24 ((0 : Nat) : Int)), (1, zr ad 18 ((d : Nat) : Int))]) hx hb hl dX4_copyFrom_38 (k0 := 2) rfl (by decide) rfl (fun ls hl => ?_)
        refine zz_goto (tgt := 7) hx hb dX4_copyFrom_41 (by decide) ?_
        refine ih7 (i + 1) σ3 H3 locs3 ls ?_ (by omega) hW3 hS3 (zh_sub hl [1, 2, 0] rfl)
        obtain ⟨p1, p2, p3⟩ := hp3
        rw [hi2] at p1 p2
        refine ⟨by omega, by rw [p1]; rfl, fun j hj => ?_, fun κ' i' k' hn => ?_⟩
        · obtain ⟨c1, c2, c3⟩ := p2 j (by omega)
          rw [show ((i : Nat) : Int).toNat = i from rfl] at c1 c2 c3
          rw [c1, c2, c3]
          rcases Nat.lt_or_ge j i with h | h
          · rw [zins_lt h, zins_lt h, zins_lt h]
            exact hi3 j h
          · obtain rfl : j = i := by omega
            rw [zins_at, zins_at, zins_at]
            exact ⟨rfl, rfl, rfl⟩
        · rw [p3 _ _ _ (by omega)]; exact hi4 _ _ _ hn
  refine hcut7 _ 0 σ1 H1 locs1 ls ?_ (Nat.lt_succ_self _) hW1 hS1 (zh_sub hl [1, 2, 0] rfl)
  refine ⟨h0, ?_, fun j hj => absurd hj (Nat.not_lt_zero j), fun κ' i' k' hn => ?_⟩
  · rw [hs1, zu_same]; rfl
  · rw [hs1, zu_ne (by omega)]
