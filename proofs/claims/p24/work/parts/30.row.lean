def zst (σ : zS) (d b : Nat) (x y z : Int) : zS := zu (zu (zu σ 20 d b x) 21 d b y) 22 d b z
theorem zst_20 {σ : zS} {d b j : Nat} {x y z : Int} : zst σ d b x y z 20 d j = if j = b then x else σ 20 d j := by
  unfold zst
  rw [zu_k (by decide), zu_k (by decide)]
  by_cases h : j = b
  · rw [if_pos h, h, zu_same]
  · rw [if_neg h, zu_s h]
theorem zst_21 {σ : zS} {d b j : Nat} {x y z : Int} : zst σ d b x y z 21 d j = if j = b then y else σ 21 d j := by
  unfold zst
  rw [zu_k (by decide)]
  by_cases h : j = b
  · rw [if_pos h, h, zu_same]
  · rw [if_neg h, zu_s h, zu_k (by decide)]
theorem zst_22 {σ : zS} {d b j : Nat} {x y z : Int} : zst σ d b x y z 22 d j = if j = b then z else σ 22 d j := by
  unfold zst
  by_cases h : j = b
  · rw [if_pos h, h, zu_same]
  · rw [if_neg h, zu_s h, zu_k (by decide), zu_k (by decide)]
theorem zst_fr {σ : zS} {d b : Nat} {x y z : Int} {κ i k : Nat} (h : ¬ (i = d ∧ (κ = 20 ∨ κ = 21 ∨ κ = 22))) : zst σ d b x y z κ i k = σ κ i k := by
  unfold zst
  rw [zu_ne (by omega), zu_ne (by omega), zu_ne (by omega)]
def zdel (a : Nat) (f : Nat → Int) (j : Nat) : Int := if j < a then f j else f (j + 1)
def zcnt (f : Nat → Int) : Nat → Int
  | 0 => 0
  | n + 1 => zcnt f n + (if f n = 1 then 1 else 0)
theorem zcnt_s (f : Nat → Int) (n : Nat) : zcnt f (n + 1) = zcnt f n + (if f n = 1 then 1 else 0) := rfl
theorem zcnt_ge (f : Nat → Int) : ∀ n, 0 ≤ zcnt f n ∧ zcnt f n ≤ n
  | 0 => ⟨Int.le_refl _, Int.le_refl _⟩
  | n + 1 => by
    have h := zcnt_ge f n
    unfold zcnt
    split <;> omega

set_option maxHeartbeats 4000000 in
set_option maxRecDepth 100000 in
theorem c_X4_holds (l : Launch) (G : zG) (ad : zA) (A : Nat → Prop) (N0 : Nat) (σ : zS) (nd nr : Nat) (hX : zX ad nd nr) (d : Nat) (hd : d < nd) (a : Int) (ga : zg a) : Met l yX4_holds wsX4_holds ({ frames := 0, cells := 0, slots := 0, locals := 0 }) (zP G ad A N0 σ [zr ad 18 ((d : Nat) : Int), .int (zi a)]) (zQ G ad A zri (fun r u => σ = u ∧ zb (0 ≤ a ∧ a < σ 18 d 3) = r)) 0 0 A := by
  refine zz_of (cc := cX4_holds) (maxL := 2) (ret := (some .boolean)) (by decide) rfl ⟨rfl, rfl⟩ (List.forall_mem_cons.mpr ⟨zr_cat _ _ _, List.forall_mem_cons.mpr ⟨rfl, fun _ h => absurd h List.not_mem_nil⟩⟩) (Nat.le_of_ble_eq_true rfl) ?_
  intro p e s m below meth c hx hb hr hml hts hown hlocks hsz hW0 hK ls hl
  have hS0 : va_S A s.heap s.heap [] := va_S.rf
  have hl : zh ls 2 [(0, zr ad 18 ((d : Nat) : Int)), (1, .int (zi a))] := hl
  have hinX4 : ∀ w ∈ u_ws RX4 TX4 4, w ∈ wsX4_holds := by decide +kernel
  refine zz_iload_n hx hb hl 1 dX4_holds_0 rfl rfl ?_
  refine zz_if_lt (tgt := 16) hx hb dX4_holds_1 (by decide) ga (fun hc1 => ?_) (fun hc1 => ?_)
  · refine zz_iconst hx hb dX4_holds_16 ?_
    refine W.eq (g2 := F0 m 17 ls [.int (zi 0)]) rfl ?_
    refine zz_retz hx hb hr hlocks hW0 hS0 (by decide) ?_ dX4_holds_17
    first | exact ⟨rfl, zb_t (by omega)⟩ | exact ⟨rfl, zb_f (by omega)⟩
  · refine zz_iload_n hx hb hl 1 dX4_holds_4 rfl rfl ?_
    refine zz_aload_n hx hb hl 0 dX4_holds_5 rfl rfl ?_
    refine zz_get (T := TX4) (N := 4) (k := 3) (κ := 18) (w := .int (zi (σ 18 d 3))) hx hb hts hinX4 hown hK hW0 (zlN (hX 18 d (decide_eq_true hd))) rfl rfl rfl (by decide) (hts (.fieldLink RX4 25 "HailCity$Row" "size" "I") (by decide +kernel)) (fun _ h9 => h9) rfl dX4_holds_6 ?_
    refine zz_icmp_ge (tgt := 16) hx hb dX4_holds_9 (by decide) ga (hW0.2.2.1 _ _ _) (fun hc9 => ?_) (fun hc9 => ?_)
    · refine zz_iconst hx hb dX4_holds_16 ?_
      refine W.eq (g2 := F0 m 17 ls [.int (zi 0)]) rfl ?_
      refine zz_retz hx hb hr hlocks hW0 hS0 (by decide) ?_ dX4_holds_17
      first | exact ⟨rfl, zb_t (by omega)⟩ | exact ⟨rfl, zb_f (by omega)⟩
    · refine zz_iconst hx hb dX4_holds_12 ?_
      refine zz_goto (tgt := 17) hx hb dX4_holds_13 (by decide) ?_
      refine W.eq (g2 := F0 m 17 ls [.int (zi 1)]) rfl ?_
      refine zz_retz hx hb hr hlocks hW0 hS0 (by decide) ?_ dX4_holds_17
      first | exact ⟨rfl, zb_t (by omega)⟩ | exact ⟨rfl, zb_f (by omega)⟩

set_option maxHeartbeats 4000000 in
set_option maxRecDepth 100000 in
theorem c_X4_placeAt (l : Launch) (G : zG) (ad : zA) (A : Nat → Prop) (N0 : Nat) (σ : zS) (nd nr : Nat) (hX : zX ad nd nr) (d : Nat) (hd : d < nd) (a : Int) (ga : zg a) (h0 : 0 ≤ σ 18 d 3) (h8 : σ 18 d 3 ≤ 8) : Met l yX4_placeAt wsX4_placeAt ({ frames := 1, cells := 0, slots := 0, locals := 21 }) (zP G ad A N0 σ [zr ad 18 ((d : Nat) : Int), .int (zi a)]) (zQ G ad A zri (fun r u => σ = u ∧ (if 0 ≤ a ∧ a < σ 18 d 3 then σ 20 d a.toNat else -1) = r)) 0 0 A := by
  refine zz_of (cc := cX4_placeAt) (maxL := 2) (ret := (some .int)) (by decide) rfl ⟨rfl, rfl⟩ (List.forall_mem_cons.mpr ⟨zr_cat _ _ _, List.forall_mem_cons.mpr ⟨rfl, fun _ h => absurd h List.not_mem_nil⟩⟩) (Nat.le_of_ble_eq_true rfl) ?_
  intro p e s m below meth c hx hb hr hml hts hown hlocks hsz hW0 hK ls hl
  have hS0 : va_S A s.heap s.heap [] := va_S.rf
  have hl : zh ls 2 [(0, zr ad 18 ((d : Nat) : Int)), (1, .int (zi a))] := hl
  have hinX4 : ∀ w ∈ u_ws RX4 TX4 4, w ∈ wsX4_placeAt := by decide +kernel
  refine zz_aload_n hx hb hl 0 dX4_placeAt_0 rfl rfl ?_
  refine zz_iload_n hx hb hl 1 dX4_placeAt_1 rfl rfl ?_
  refine zz_callV (T := TX4) (N := 4) (As := [.int (zi a)]) (rest := []) (v := ((d : Nat) : Int)) (κ := 18) ⟨hx, hb, hml, hown, hts⟩ (c_X4_holds l G ad A N0 σ nd nr hX d hd a ga) (cwV 1 hts gX4_placeAt_X4_holds rfl rfl rfl (by decide +kernel) ⟨Nat.le_of_ble_eq_true rfl, Nat.le_of_ble_eq_true rfl⟩) hK hW0 (zlN (hX 18 d (decide_eq_true hd))) rfl rfl (Nat.le_trans hsz hS0.1) hS0 rfl hl.1.1 rfl (Nat.le_of_ble_eq_true rfl) dX4_placeAt_2 ⟨Nat.le_of_ble_eq_true rfl, Nat.le_of_ble_eq_true rfl⟩ (fun x1 σ1 H1 locs1 hp1 hW1 hz1 hS1 => ?_)
  obtain ⟨rfl, rfl⟩ := hp1
  refine W.eq (g2 := F0 m 5 ls [.int (zi (zb (0 ≤ a ∧ a < σ 18 d 3)))]) rfl ?_
  refine zz_if_eqb (tgt := 17) hx hb dX4_placeAt_5 (by decide) (fun hc5 => ?_) (fun hc5 => ?_)
  · refine zz_iconst hx hb dX4_placeAt_17 ?_
    refine W.eq (g2 := F0 m 18 ls [.int (zi (-1))]) rfl ?_
    refine zz_reti hx hb hr hlocks hW1 hS1 ?_ dX4_placeAt_18
    first | exact ⟨rfl, if_pos (by omega)⟩ | exact ⟨rfl, if_neg (by omega)⟩
  · refine zz_aload_n hx hb hl 0 dX4_placeAt_8 rfl rfl ?_
    refine zz_get (T := TX4) (N := 4) (k := 0) (κ := 18) (w := zr ad 20 ((d : Nat) : Int)) hx hb hts hinX4 hown hK hW1 (zlN (hX 18 d (decide_eq_true hd))) rfl rfl rfl (by decide) (hts (.fieldLink RX4 11 "HailCity$Row" "places" "[I") (by decide +kernel)) (fun _ h9 => h9) rfl dX4_placeAt_9 ?_
    refine zz_iload_n hx hb hl 1 dX4_placeAt_12 rfl rfl ?_
    refine zz_iald (w := σ 20 d ((a).toNat)) hx hb hK hW1 (zlN (hX 20 d (decide_eq_true hd))) rfl rfl rfl (by show (0 : Int) ≤ a; omega) (by show a < (8 : Int); omega) rfl dX4_placeAt_13 ?_
    refine zz_goto (tgt := 18) hx hb dX4_placeAt_14 (by decide) ?_
    refine W.eq (g2 := F0 m 18 ls [.int (zi (σ 20 d ((a).toNat)))]) rfl ?_
    refine zz_reti hx hb hr hlocks hW1 hS1 ?_ dX4_placeAt_18
    first | exact ⟨rfl, if_pos (by omega)⟩ | exact ⟨rfl, if_neg (by omega)⟩

set_option maxHeartbeats 4000000 in
set_option maxRecDepth 100000 in
theorem c_X4_riderAt (l : Launch) (G : zG) (ad : zA) (A : Nat → Prop) (N0 : Nat) (σ : zS) (nd nr : Nat) (hX : zX ad nd nr) (d : Nat) (hd : d < nd) (a : Int) (ga : zg a) (h0 : 0 ≤ σ 18 d 3) (h8 : σ 18 d 3 ≤ 8) : Met l yX4_riderAt wsX4_riderAt ({ frames := 1, cells := 0, slots := 0, locals := 21 }) (zP G ad A N0 σ [zr ad 18 ((d : Nat) : Int), .int (zi a)]) (zQ G ad A (zrr ad 23) (fun r u => σ = u ∧ (if 0 ≤ a ∧ a < σ 18 d 3 then σ 21 d a.toNat else -1) = r)) 0 0 A := by
  refine zz_of (cc := cX4_riderAt) (maxL := 2) (ret := (some (.object "HailCity$Request"))) (by decide) rfl ⟨rfl, rfl⟩ (List.forall_mem_cons.mpr ⟨zr_cat _ _ _, List.forall_mem_cons.mpr ⟨rfl, fun _ h => absurd h List.not_mem_nil⟩⟩) (Nat.le_of_ble_eq_true rfl) ?_
  intro p e s m below meth c hx hb hr hml hts hown hlocks hsz hW0 hK ls hl
  have hS0 : va_S A s.heap s.heap [] := va_S.rf
  have hl : zh ls 2 [(0, zr ad 18 ((d : Nat) : Int)), (1, .int (zi a))] := hl
  have hinX4 : ∀ w ∈ u_ws RX4 TX4 4, w ∈ wsX4_riderAt := by decide +kernel
  refine zz_aload_n hx hb hl 0 dX4_riderAt_0 rfl rfl ?_
  refine zz_iload_n hx hb hl 1 dX4_riderAt_1 rfl rfl ?_
  refine zz_callV (T := TX4) (N := 4) (As := [.int (zi a)]) (rest := []) (v := ((d : Nat) : Int)) (κ := 18) ⟨hx, hb, hml, hown, hts⟩ (c_X4_holds l G ad A N0 σ nd nr hX d hd a ga) (cwV 1 hts gX4_riderAt_X4_holds rfl rfl rfl (by decide +kernel) ⟨Nat.le_of_ble_eq_true rfl, Nat.le_of_ble_eq_true rfl⟩) hK hW0 (zlN (hX 18 d (decide_eq_true hd))) rfl rfl (Nat.le_trans hsz hS0.1) hS0 rfl hl.1.1 rfl (Nat.le_of_ble_eq_true rfl) dX4_riderAt_2 ⟨Nat.le_of_ble_eq_true rfl, Nat.le_of_ble_eq_true rfl⟩ (fun x1 σ1 H1 locs1 hp1 hW1 hz1 hS1 => ?_)
  obtain ⟨rfl, rfl⟩ := hp1
  refine W.eq (g2 := F0 m 5 ls [.int (zi (zb (0 ≤ a ∧ a < σ 18 d 3)))]) rfl ?_
  refine zz_if_eqb (tgt := 17) hx hb dX4_riderAt_5 (by decide) (fun hc5 => ?_) (fun hc5 => ?_)
  · refine zz_null hx hb dX4_riderAt_17 ad 23 ?_
    refine W.eq (g2 := F0 m 18 ls [zr ad 23 (-1)]) rfl ?_
    refine zz_reta hx hb hr hlocks hW1 hS1 ?_ dX4_riderAt_18
    first | exact ⟨rfl, if_pos (by omega)⟩ | exact ⟨rfl, if_neg (by omega)⟩
  · refine zz_aload_n hx hb hl 0 dX4_riderAt_8 rfl rfl ?_
    refine zz_get (T := TX4) (N := 4) (k := 1) (κ := 18) (w := zr ad 21 ((d : Nat) : Int)) hx hb hts hinX4 hown hK hW1 (zlN (hX 18 d (decide_eq_true hd))) rfl rfl rfl (by decide) (hts (.fieldLink RX4 17 "HailCity$Row" "riders" "[LHailCity$Request;") (by decide +kernel)) (fun _ h9 => h9) rfl dX4_riderAt_9 ?_
    refine zz_iload_n hx hb hl 1 dX4_riderAt_12 rfl rfl ?_
    refine zz_aald (w := zr ad 23 (σ 21 d ((a).toNat))) hx hb hK hW1 (zlN (hX 21 d (decide_eq_true hd))) rfl rfl (by show (0 : Int) ≤ a; omega) (by show a < (8 : Int); omega) rfl dX4_riderAt_13 ?_
    refine zz_goto (tgt := 18) hx hb dX4_riderAt_14 (by decide) ?_
    refine W.eq (g2 := F0 m 18 ls [zr ad 23 (σ 21 d ((a).toNat))]) rfl ?_
    refine zz_reta hx hb hr hlocks hW1 hS1 ?_ dX4_riderAt_18
    first | exact ⟨rfl, if_pos (by omega)⟩ | exact ⟨rfl, if_neg (by omega)⟩

set_option maxHeartbeats 4000000 in
set_option maxRecDepth 100000 in
theorem c_X4_isLetOutAt (l : Launch) (G : zG) (ad : zA) (A : Nat → Prop) (N0 : Nat) (σ : zS) (nd nr : Nat) (hX : zX ad nd nr) (d : Nat) (hd : d < nd) (a : Int) (ga : zg a) (h0 : 0 ≤ σ 18 d 3) (h8 : σ 18 d 3 ≤ 8) : Met l yX4_isLetOutAt wsX4_isLetOutAt ({ frames := 1, cells := 0, slots := 0, locals := 21 }) (zP G ad A N0 σ [zr ad 18 ((d : Nat) : Int), .int (zi a)]) (zQ G ad A zri (fun r u => σ = u ∧ zb ((0 ≤ a ∧ a < σ 18 d 3) ∧ σ 22 d a.toNat = 1) = r)) 0 0 A := by
  refine zz_of (cc := cX4_isLetOutAt) (maxL := 2) (ret := (some .boolean)) (by decide) rfl ⟨rfl, rfl⟩ (List.forall_mem_cons.mpr ⟨zr_cat _ _ _, List.forall_mem_cons.mpr ⟨rfl, fun _ h => absurd h List.not_mem_nil⟩⟩) (Nat.le_of_ble_eq_true rfl) ?_
  intro p e s m below meth c hx hb hr hml hts hown hlocks hsz hW0 hK ls hl
  have hS0 : va_S A s.heap s.heap [] := va_S.rf
  have hl : zh ls 2 [(0, zr ad 18 ((d : Nat) : Int)), (1, .int (zi a))] := hl
  have hinX4 : ∀ w ∈ u_ws RX4 TX4 4, w ∈ wsX4_isLetOutAt := by decide +kernel
  refine zz_aload_n hx hb hl 0 dX4_isLetOutAt_0 rfl rfl ?_
  refine zz_iload_n hx hb hl 1 dX4_isLetOutAt_1 rfl rfl ?_
  refine zz_callV (T := TX4) (N := 4) (As := [.int (zi a)]) (rest := []) (v := ((d : Nat) : Int)) (κ := 18) ⟨hx, hb, hml, hown, hts⟩ (c_X4_holds l G ad A N0 σ nd nr hX d hd a ga) (cwV 1 hts gX4_isLetOutAt_X4_holds rfl rfl rfl (by decide +kernel) ⟨Nat.le_of_ble_eq_true rfl, Nat.le_of_ble_eq_true rfl⟩) hK hW0 (zlN (hX 18 d (decide_eq_true hd))) rfl rfl (Nat.le_trans hsz hS0.1) hS0 rfl hl.1.1 rfl (Nat.le_of_ble_eq_true rfl) dX4_isLetOutAt_2 ⟨Nat.le_of_ble_eq_true rfl, Nat.le_of_ble_eq_true rfl⟩ (fun x1 σ1 H1 locs1 hp1 hW1 hz1 hS1 => ?_)
  obtain ⟨rfl, rfl⟩ := hp1
  refine W.eq (g2 := F0 m 5 ls [.int (zi (zb (0 ≤ a ∧ a < σ 18 d 3)))]) rfl ?_
  refine zz_if_eqb (tgt := 21) hx hb dX4_isLetOutAt_5 (by decide) (fun hc5 => ?_) (fun hc5 => ?_)
  · refine zz_iconst hx hb dX4_isLetOutAt_21 ?_
    refine W.eq (g2 := F0 m 22 ls [.int (zi 0)]) rfl ?_
    refine zz_retz hx hb hr hlocks hW1 hS1 (by decide) ?_ dX4_isLetOutAt_22
    first | exact ⟨rfl, zb_t (by omega)⟩ | exact ⟨rfl, zb_f (by omega)⟩
  · refine zz_aload_n hx hb hl 0 dX4_isLetOutAt_8 rfl rfl ?_
    have hq := hW1.2.2.2.2 22 d a.toNat rfl
    refine zz_get (T := TX4) (N := 4) (k := 2) (κ := 18) (w := zr ad 22 ((d : Nat) : Int)) hx hb hts hinX4 hown hK hW1 (zlN (hX 18 d (decide_eq_true hd))) rfl rfl rfl (by decide) (hts (.fieldLink RX4 21 "HailCity$Row" "letOuts" "[Z") (by decide +kernel)) (fun _ h9 => h9) rfl dX4_isLetOutAt_9 ?_
    refine zz_iload_n hx hb hl 1 dX4_isLetOutAt_12 rfl rfl ?_
    refine zz_zald (w := σ 22 d ((a).toNat)) hx hb hK hW1 (zlN (hX 22 d (decide_eq_true hd))) rfl rfl rfl (by show (0 : Int) ≤ a; omega) (by show a < (8 : Int); omega) rfl dX4_isLetOutAt_13 ?_
    refine zz_if_eq (tgt := 21) hx hb dX4_isLetOutAt_14 (by decide) (hW1.2.2.1 _ _ _) (fun hc14 => ?_) (fun hc14 => ?_)
    · refine zz_iconst hx hb dX4_isLetOutAt_21 ?_
      refine W.eq (g2 := F0 m 22 ls [.int (zi 0)]) rfl ?_
      refine zz_retz hx hb hr hlocks hW1 hS1 (by decide) ?_ dX4_isLetOutAt_22
      first | exact ⟨rfl, zb_t (by omega)⟩ | exact ⟨rfl, zb_f (by omega)⟩
    · refine zz_iconst hx hb dX4_isLetOutAt_17 ?_
      refine zz_goto (tgt := 22) hx hb dX4_isLetOutAt_18 (by decide) ?_
      refine W.eq (g2 := F0 m 22 ls [.int (zi 1)]) rfl ?_
      refine zz_retz hx hb hr hlocks hW1 hS1 (by decide) ?_ dX4_isLetOutAt_22
      first | exact ⟨rfl, zb_t (by omega)⟩ | exact ⟨rfl, zb_f (by omega)⟩

set_option maxHeartbeats 4000000 in
set_option maxRecDepth 100000 in
theorem c_X4_copyStop (l : Launch) (G : zG) (ad : zA) (A : Nat → Prop) (N0 : Nat) (σ : zS) (nd nr : Nat) (hX : zX ad nd nr) (d : Nat) (hd : d < nd) (a b : Int) (ga : zg a) (gb : zg b) (ha0 : 0 ≤ a) (ha8 : a < 8) (hb0 : 0 ≤ b) (hb8 : b < 8) : Met l yX4_copyStop wsX4_copyStop ({ frames := 0, cells := 0, slots := 0, locals := 0 }) (zP G ad A N0 σ [zr ad 18 ((d : Nat) : Int), .int (zi a), .int (zi b)]) (zQ G ad A zrv (fun _ u => zst σ d b.toNat (σ 20 d a.toNat) (σ 21 d a.toNat) (σ 22 d a.toNat) = u)) 0 0 A := by
  refine zz_of (cc := cX4_copyStop) (maxL := 3) (ret := none) (by decide) rfl ⟨rfl, rfl⟩ (List.forall_mem_cons.mpr ⟨zr_cat _ _ _, List.forall_mem_cons.mpr ⟨rfl, List.forall_mem_cons.mpr ⟨rfl, fun _ h => absurd h List.not_mem_nil⟩⟩⟩) (Nat.le_of_ble_eq_true rfl) ?_
  intro p e s m below meth c hx hb hr hml hts hown hlocks hsz hW0 hK ls hl
  have hS0 : va_S A s.heap s.heap [] := va_S.rf
  have hl : zh ls 3 [(0, zr ad 18 ((d : Nat) : Int)), (1, .int (zi a)), (2, .int (zi b))] := hl
  have hinX4 : ∀ w ∈ u_ws RX4 TX4 4, w ∈ wsX4_copyStop := by decide +kernel
  refine zz_aload_n hx hb hl 0 dX4_copyStop_0 rfl rfl ?_
  refine zz_get (T := TX4) (N := 4) (k := 0) (κ := 18) (w := zr ad 20 ((d : Nat) : Int)) hx hb hts hinX4 hown hK hW0 (zlN (hX 18 d (decide_eq_true hd))) rfl rfl rfl (by decide) (hts (.fieldLink RX4 11 "HailCity$Row" "places" "[I") (by decide +kernel)) (fun _ h9 => h9) rfl dX4_copyStop_1 ?_
  refine zz_iload_n hx hb hl 2 dX4_copyStop_4 rfl rfl ?_
  refine zz_aload_n hx hb hl 0 dX4_copyStop_5 rfl rfl ?_
  refine zz_get (T := TX4) (N := 4) (k := 0) (κ := 18) (w := zr ad 20 ((d : Nat) : Int)) hx hb hts hinX4 hown hK hW0 (zlN (hX 18 d (decide_eq_true hd))) rfl rfl rfl (by decide) (hts (.fieldLink RX4 11 "HailCity$Row" "places" "[I") (by decide +kernel)) (fun _ h9 => h9) rfl dX4_copyStop_6 ?_
  refine zz_iload_n hx hb hl 1 dX4_copyStop_9 rfl rfl ?_
  refine zz_iald (w := σ 20 d ((a).toNat)) hx hb hK hW0 (zlN (hX 20 d (decide_eq_true hd))) rfl rfl rfl (by show (0 : Int) ≤ a; omega) (by show a < (8 : Int); omega) rfl dX4_copyStop_10 ?_
  refine zz_iast (y := (σ 20 d ((a).toNat))) hx hb hK hW0 hS0 (zlN (hX 20 d (decide_eq_true hd))) rfl rfl rfl (by show (0 : Int) ≤ b; omega) (by show b < (8 : Int); omega) (hW0.2.2.1 _ _ _) dX4_copyStop_11 (fun H1 locs1 hW1' hS1 => ?_)
  obtain ⟨σ1, hs1⟩ : ∃ z, z = zu σ 20 d ((b).toNat) (σ 20 d ((a).toNat)) := ⟨_, rfl⟩
  have hW1 : ZW G ad A σ1 H1 := by rw [hs1]; exact hW1'
  refine zz_aload_n hx hb hl 0 dX4_copyStop_12 rfl rfl ?_
  refine zz_get (T := TX4) (N := 4) (k := 1) (κ := 18) (w := zr ad 21 ((d : Nat) : Int)) hx hb hts hinX4 hown hK hW1 (zlN (hX 18 d (decide_eq_true hd))) rfl rfl rfl (by decide) (hts (.fieldLink RX4 17 "HailCity$Row" "riders" "[LHailCity$Request;") (by decide +kernel)) (fun _ h9 => h9) rfl dX4_copyStop_13 ?_
  refine zz_iload_n hx hb hl 2 dX4_copyStop_16 rfl rfl ?_
  refine zz_aload_n hx hb hl 0 dX4_copyStop_17 rfl rfl ?_
  refine zz_get (T := TX4) (N := 4) (k := 1) (κ := 18) (w := zr ad 21 ((d : Nat) : Int)) hx hb hts hinX4 hown hK hW1 (zlN (hX 18 d (decide_eq_true hd))) rfl rfl rfl (by decide) (hts (.fieldLink RX4 17 "HailCity$Row" "riders" "[LHailCity$Request;") (by decide +kernel)) (fun _ h9 => h9) rfl dX4_copyStop_18 ?_
  refine zz_iload_n hx hb hl 1 dX4_copyStop_21 rfl rfl ?_
  refine zz_aald (w := zr ad 23 (σ1 21 d ((a).toNat))) hx hb hK hW1 (zlN (hX 21 d (decide_eq_true hd))) rfl rfl (by show (0 : Int) ≤ a; omega) (by show a < (8 : Int); omega) rfl dX4_copyStop_22 ?_
  refine zz_aast (κ := 21) (κ' := 23) (x := b) (y := (σ1 21 d ((a).toNat))) hx hb hK hW1 hS1 (zlN (hX 21 d (decide_eq_true hd))) rfl (Nat.le_of_ble_eq_true rfl) (Nat.le_of_ble_eq_true rfl) rfl rfl rfl rfl (by show (0 : Int) ≤ b; omega) (by show b < (8 : Int); omega) (hW1.2.2.2.1 21 _ ((a).toNat) ((zlN (hX 21 d (decide_eq_true hd)))).2 (Nat.le_of_ble_eq_true rfl) (Nat.le_of_ble_eq_true rfl)) (hW1.2.2.1 _ _ _) dX4_copyStop_23 (fun H2 locs2 hW2' hS2 => ?_)
  obtain ⟨σ2, hs2⟩ : ∃ z, z = zu σ1 21 d ((b).toNat) (σ1 21 d ((a).toNat)) := ⟨_, rfl⟩
  have hW2 : ZW G ad A σ2 H2 := by rw [hs2]; exact hW2'
  have hq := hW0.2.2.2.2 22 d a.toNat rfl
  refine zz_aload_n hx hb hl 0 dX4_copyStop_24 rfl rfl ?_
  refine zz_get (T := TX4) (N := 4) (k := 2) (κ := 18) (w := zr ad 22 ((d : Nat) : Int)) hx hb hts hinX4 hown hK hW2 (zlN (hX 18 d (decide_eq_true hd))) rfl rfl rfl (by decide) (hts (.fieldLink RX4 21 "HailCity$Row" "letOuts" "[Z") (by decide +kernel)) (fun _ h9 => h9) rfl dX4_copyStop_25 ?_
  refine zz_iload_n hx hb hl 2 dX4_copyStop_28 rfl rfl ?_
  refine zz_aload_n hx hb hl 0 dX4_copyStop_29 rfl rfl ?_
  refine zz_get (T := TX4) (N := 4) (k := 2) (κ := 18) (w := zr ad 22 ((d : Nat) : Int)) hx hb hts hinX4 hown hK hW2 (zlN (hX 18 d (decide_eq_true hd))) rfl rfl rfl (by decide) (hts (.fieldLink RX4 21 "HailCity$Row" "letOuts" "[Z") (by decide +kernel)) (fun _ h9 => h9) rfl dX4_copyStop_30 ?_
  refine zz_iload_n hx hb hl 1 dX4_copyStop_33 rfl rfl ?_
  refine zz_zald (w := σ 22 d ((a).toNat)) hx hb hK hW2 (zlN (hX 22 d (decide_eq_true hd))) rfl rfl rfl (by show (0 : Int) ≤ a; omega) (by show a < (8 : Int); omega) (show σ2 22 d ((a).toNat) = σ 22 d ((a).toNat) from by rw [hs2, zu_k (by decide), hs1, zu_k (by decide)]) dX4_copyStop_34 ?_
  refine zz_zast (y := (σ 22 d ((a).toNat))) hx hb hK hW2 hS2 (zlN (hX 22 d (decide_eq_true hd))) rfl rfl rfl (by show (0 : Int) ≤ b; omega) (by show b < (8 : Int); omega) (hW0.2.2.2.2 22 _ ((a).toNat) rfl) dX4_copyStop_35 (fun H3 locs3 hW3' hS3 => ?_)
  obtain ⟨σ3, hs3⟩ : ∃ z, z = zu σ2 22 d ((b).toNat) (σ 22 d ((a).toNat)) := ⟨_, rfl⟩
  have hW3 : ZW G ad A σ3 H3 := by rw [hs3]; exact hW3'
  refine W.eq (g2 := F0 m 36 ls []) rfl ?_
  refine zz_retv hx hb hr hlocks hW3 hS3 ?_ dX4_copyStop_36
  subst hs3 hs2 hs1; rfl

set_option maxHeartbeats 4000000 in
set_option maxRecDepth 100000 in
theorem c_X4_put (l : Launch) (G : zG) (ad : zA) (A : Nat → Prop) (N0 : Nat) (σ : zS) (nd nr : Nat) (hX : zX ad nd nr) (d : Nat) (hd : d < nd) (a pl v lo : Int) (ga : zg a) (gpl : zg pl) (gv : zg v) (hv : zln ad 23 v) (hlo : lo = 0 ∨ lo = 1) (ha0 : 0 ≤ a) (ha1 : a ≤ σ 18 d 3) (hs8 : σ 18 d 3 < 8) : Met l yX4_put wsX4_put ({ frames := 1, cells := 0, slots := 0, locals := 22 }) (zP G ad A N0 σ [zr ad 18 ((d : Nat) : Int), .int (zi a), .int (zi pl), zr ad 23 v, .int (zi lo)]) (zQ G ad A zrv (fun _ u => u 18 d 3 = σ 18 d 3 + 1 ∧ (∀ j : Nat, (j : Int) ≤ σ 18 d 3 → u 20 d j = zins a.toNat pl (σ 20 d) j ∧ u 21 d j = zins a.toNat v (σ 21 d) j ∧ u 22 d j = zins a.toNat lo (σ 22 d) j) ∧ zfr (fun κ i k => i = d ∧ (κ = 20 ∨ κ = 21 ∨ κ = 22 ∨ (κ = 18 ∧ k = 3))) σ u)) 0 0 A := by
  refine zz_of (cc := cX4_put) (maxL := 6) (ret := none) (by decide) rfl ⟨rfl, rfl⟩ (List.forall_mem_cons.mpr ⟨zr_cat _ _ _, List.forall_mem_cons.mpr ⟨rfl, List.forall_mem_cons.mpr ⟨rfl, List.forall_mem_cons.mpr ⟨zr_cat _ _ _, List.forall_mem_cons.mpr ⟨rfl, fun _ h => absurd h List.not_mem_nil⟩⟩⟩⟩⟩) (Nat.le_of_ble_eq_true rfl) ?_
  intro p e s m below meth c hx hb hr hml hts hown hlocks hsz hW0 hK ls hl
  have hS0 : va_S A s.heap s.heap [] := va_S.rf
  have hl : zh ls 6 [(0, zr ad 18 ((d : Nat) : Int)), (1, .int (zi a)), (2, .int (zi pl)), (3, zr ad 23 v), (4, .int (zi lo))] := hl
  have hinX4 : ∀ w ∈ u_ws RX4 TX4 4, w ∈ wsX4_put := by decide +kernel
  refine zz_iload_n hx hb hl 1 dX4_put_0 rfl rfl ?_
  refine zz_if_lt (tgt := 21) hx hb dX4_put_1 (by decide) ga (fun hc1 => ?_) (fun hc1 => ?_)
  · exfalso; omega
  · refine zz_iload_n hx hb hl 1 dX4_put_4 rfl rfl ?_
    refine zz_aload_n hx hb hl 0 dX4_put_5 rfl rfl ?_
    refine zz_get (T := TX4) (N := 4) (k := 3) (κ := 18) (w := .int (zi (σ 18 d 3))) hx hb hts hinX4 hown hK hW0 (zlN (hX 18 d (decide_eq_true hd))) rfl rfl rfl (by decide) (hts (.fieldLink RX4 25 "HailCity$Row" "size" "I") (by decide +kernel)) (fun _ h9 => h9) rfl dX4_put_6 ?_
    refine zz_icmp_gt (tgt := 21) hx hb dX4_put_9 (by decide) ga (hW0.2.2.1 _ _ _) (fun hc9 => ?_) (fun hc9 => ?_)
    · exfalso; omega
    · refine zz_aload_n hx hb hl 0 dX4_put_12 rfl rfl ?_
      refine zz_get (T := TX4) (N := 4) (k := 3) (κ := 18) (w := .int (zi (σ 18 d 3))) hx hb hts hinX4 hown hK hW0 (zlN (hX 18 d (decide_eq_true hd))) rfl rfl rfl (by decide) (hts (.fieldLink RX4 25 "HailCity$Row" "size" "I") (by decide +kernel)) (fun _ h9 => h9) rfl dX4_put_13 ?_
      refine zz_bipush hx hb dX4_put_16 (by decide +kernel) ?_
      refine zz_icmp_lt (tgt := 22) hx hb dX4_put_18 (by decide) (hW0.2.2.1 _ _ _) ⟨by decide, by decide⟩ (fun hc18 => ?_) (fun hc18 => ?_)
      · refine zz_aload_n hx hb hl 0 dX4_put_22 rfl rfl ?_
        refine zz_get (T := TX4) (N := 4) (k := 3) (κ := 18) (w := .int (zi (σ 18 d 3))) hx hb hts hinX4 hown hK hW0 (zlN (hX 18 d (decide_eq_true hd))) rfl rfl rfl (by decide) (hts (.fieldLink RX4 25 "HailCity$Row" "size" "I") (by decide +kernel)) (fun _ h9 => h9) rfl dX4_put_23 ?_
        refine zz_istore (lv' := [(5, .int (zi (σ 18 d 3))), (0, zr ad 18 ((d : Nat) : Int)), (1, .int (zi a)), (2, .int (zi pl)), (3, zr ad 23 v), (4, .int (zi lo))]) hx hb hl dX4_put_26 (by decide) rfl (fun ls hl => ?_)
        have hcut28 : ∀ (n9 : Nat) (i : Int)  (σ9 : zS) (H9 : Heap) (locs9 : List Loc) (ls : Array Slot), (a ≤ i ∧ i ≤ σ 18 d 3 ∧ (∀ j : Nat, (j : Int) ≤ σ 18 d 3 → σ9 20 d j = (if (j : Int) ≤ i then σ 20 d j else σ 20 d (j - 1)) ∧ σ9 21 d j = (if (j : Int) ≤ i then σ 21 d j else σ 21 d (j - 1)) ∧ σ9 22 d j = (if (j : Int) ≤ i then σ 22 d j else σ 22 d (j - 1))) ∧ zfr (fun κ i _ => i = d ∧ (κ = 20 ∨ κ = 21 ∨ κ = 22)) σ σ9) → i.toNat < n9 → ZW G ad A σ9 H9 → va_S A s.heap H9 locs9 → zh ls 6 [(0, zr ad 18 ((d : Nat) : Int)), (1, .int (zi a)), (2, .int (zi pl)), (3, zr ad 23 v), (4, .int (zi lo)), (5, .int (zi i))] → W p l e ({ frames := 1, cells := 0, slots := 0, locals := 22 }) s m ([zr ad 18 ((d : Nat) : Int), .int (zi a), .int (zi pl), zr ad 23 v, .int (zi lo)] : List Value).toArray below meth c H9 locs9 0 0 (MQ below (zQ G ad A zrv (fun _ u => u 18 d 3 = σ 18 d 3 + 1 ∧ (∀ j : Nat, (j : Int) ≤ σ 18 d 3 → u 20 d j = zins a.toNat pl (σ 20 d) j ∧ u 21 d j = zins a.toNat v (σ 21 d) j ∧ u 22 d j = zins a.toNat lo (σ 22 d) j) ∧ zfr (fun κ i k => i = d ∧ (κ = 20 ∨ κ = 21 ∨ κ = 22 ∨ (κ = 18 ∧ k = 3))) σ u)) ([zr ad 18 ((d : Nat) : Int), .int (zi a), .int (zi pl), zr ad 23 v, .int (zi lo)] : List Value).toArray s 0 0 A) (F0 m 28 ls []) := by
          intro n9
          induction n9 with
          | zero =>
            intro i σ1 H1 locs1 ls hI28 hm28 hW1 hS1 hl
            exact absurd hm28 (Nat.not_lt_zero _)
          | succ n9 ih28 =>
            intro i σ1 H1 locs1 ls hI28 hm28 hW1 hS1 hl
            obtain ⟨hi1, hi2, hi3, hi4⟩ := hI28
            have hi5 : σ1 18 d 3 = σ 18 d 3 := hi4 18 d 3 (by omega)
            refine zz_iload hx hb hl 5 dX4_put_28 rfl ?_
            refine zz_iload_n hx hb hl 1 dX4_put_30 rfl rfl ?_
            refine zz_icmp_le (tgt := 50) hx hb dX4_put_31 (by decide) ⟨by omega, by omega⟩ ga (fun hc31 => ?_) (fun hc31 => ?_)
            · refine zz_aload_n hx hb hl 0 dX4_put_50 rfl rfl ?_
              refine zz_get (T := TX4) (N := 4) (k := 0) (κ := 18) (w := zr ad 20 ((d : Nat) : Int)) hx hb hts hinX4 hown hK hW1 (zlN (hX 18 d (decide_eq_true hd))) rfl rfl rfl (by decide) (hts (.fieldLink RX4 11 "HailCity$Row" "places" "[I") (by decide +kernel)) (fun _ h9 => h9) rfl dX4_put_51 ?_
              refine zz_iload_n hx hb hl 1 dX4_put_54 rfl rfl ?_
              refine zz_iload_n hx hb hl 2 dX4_put_55 rfl rfl ?_
              refine zz_iast (y := pl) hx hb hK hW1 hS1 (zlN (hX 20 d (decide_eq_true hd))) rfl rfl rfl (by show (0 : Int) ≤ a; omega) (by show a < (8 : Int); omega) gpl dX4_put_56 (fun H2 locs2 hW2' hS2 => ?_)
              obtain ⟨σ2, hs2⟩ : ∃ z, z = zu σ1 20 d ((a).toNat) pl := ⟨_, rfl⟩
              have hW2 : ZW G ad A σ2 H2 := by rw [hs2]; exact hW2'
              refine zz_aload_n hx hb hl 0 dX4_put_57 rfl rfl ?_
              refine zz_get (T := TX4) (N := 4) (k := 1) (κ := 18) (w := zr ad 21 ((d : Nat) : Int)) hx hb hts hinX4 hown hK hW2 (zlN (hX 18 d (decide_eq_true hd))) rfl rfl rfl (by decide) (hts (.fieldLink RX4 17 "HailCity$Row" "riders" "[LHailCity$Request;") (by decide +kernel)) (fun _ h9 => h9) rfl dX4_put_58 ?_
              refine zz_iload_n hx hb hl 1 dX4_put_61 rfl rfl ?_
              refine zz_aload_n hx hb hl 3 dX4_put_62 rfl rfl ?_
              refine zz_aast (κ := 21) (κ' := 23) (x := a) (y := v) hx hb hK hW2 hS2 (zlN (hX 21 d (decide_eq_true hd))) rfl (Nat.le_of_ble_eq_true rfl) (Nat.le_of_ble_eq_true rfl) rfl rfl rfl rfl (by show (0 : Int) ≤ a; omega) (by show a < (8 : Int); omega) hv gv dX4_put_63 (fun H3 locs3 hW3' hS3 => ?_)
              obtain ⟨σ3, hs3⟩ : ∃ z, z = zu σ2 21 d ((a).toNat) v := ⟨_, rfl⟩
              have hW3 : ZW G ad A σ3 H3 := by rw [hs3]; exact hW3'
              refine zz_aload_n hx hb hl 0 dX4_put_64 rfl rfl ?_
              refine zz_get (T := TX4) (N := 4) (k := 2) (κ := 18) (w := zr ad 22 ((d : Nat) : Int)) hx hb hts hinX4 hown hK hW3 (zlN (hX 18 d (decide_eq_true hd))) rfl rfl rfl (by decide) (hts (.fieldLink RX4 21 "HailCity$Row" "letOuts" "[Z") (by decide +kernel)) (fun _ h9 => h9) rfl dX4_put_65 ?_
              refine zz_iload_n hx hb hl 1 dX4_put_68 rfl rfl ?_
              refine zz_iload hx hb hl 4 dX4_put_69 rfl ?_
              refine zz_zast (y := lo) hx hb hK hW3 hS3 (zlN (hX 22 d (decide_eq_true hd))) rfl rfl rfl (by show (0 : Int) ≤ a; omega) (by show a < (8 : Int); omega) hlo dX4_put_71 (fun H4 locs4 hW4' hS4 => ?_)
              obtain ⟨σ4, hs4⟩ : ∃ z, z = zu σ3 22 d ((a).toNat) lo := ⟨_, rfl⟩
              have hW4 : ZW G ad A σ4 H4 := by rw [hs4]; exact hW4'
              refine zz_aload_n hx hb hl 0 dX4_put_72 rfl rfl ?_
              refine lv_dup hx hb dX4_put_73 (zr_cat _ _ _) ?_
              refine zz_get (T := TX4) (N := 4) (k := 3) (κ := 18) (w := .int (zi (σ1 18 d 3))) hx hb hts hinX4 hown hK hW4 (zlN (hX 18 d (decide_eq_true hd))) rfl rfl rfl (by decide) (hts (.fieldLink RX4 25 "HailCity$Row" "size" "I") (by decide +kernel)) (fun _ h9 => h9) (congrArg (fun z => Value.int (zi z)) (show σ4 18 d 3 = σ1 18 d 3 from by rw [hs4, zu_k (by decide), hs3, zu_k (by decide), hs2, zu_k (by decide)])) dX4_put_74 ?_
              refine zz_iconst hx hb dX4_put_77 ?_
              refine zz_iadd hx hb dX4_put_78 ?_
              have hgp : zg (σ 18 d 3) := hW0.2.2.1 _ _ _
              refine zz_put (T := TX4) (N := 4) (k := 3) (κ := 18) (v := ((d : Nat) : Int)) (x := ((σ1 18 d 3) + 1)) (ty := .int) hx hb hts hinX4 tyX4 tyX4_ok nmX4 hown hK hW4 hS4 (zlN (hX 18 d (decide_eq_true hd))) rfl rfl rfl (by decide) (hts (.fieldLink RX4 25 "HailCity$Row" "size" "I") (by decide +kernel)) (fun _ h9 => h9) rfl (by decide +kernel) rfl rfl rfl ⟨by omega, by omega⟩ (fun h9 _ => absurd h9 (by decide)) (fun h9 => absurd h9 (by decide)) dX4_put_79 (fun H5 locs5 hW5' hS5 => ?_)
              obtain ⟨σ5, hs5⟩ : ∃ z, z = zu σ4 18 d 3 ((σ1 18 d 3) + 1) := ⟨_, rfl⟩
              have hW5 : ZW G ad A σ5 H5 := by rw [hs5]; exact hW5'
              refine W.eq (g2 := F0 m 82 ls []) rfl ?_
              refine zz_retv hx hb hr hlocks hW5 hS5 ?_ dX4_put_82
              have hia : i = a := by omega
              subst hia
              refine ⟨?_, fun j hj => ?_, fun κ' i' k' hn => ?_⟩
              · rw [hs5, zu_same]; omega
              · obtain ⟨q1, q2, q3⟩ := hi3 j hj
                simp only [hs5, hs4, hs3, hs2, zu, zins, q1, q2, q3, Nat.reduceEqDiff, false_and, and_false, true_and, and_true, reduceIte]
                refine ⟨?_, ?_, ?_⟩ <;> (repeat' split) <;> first | rfl | omega
              · rw [hs5, zu_ne (by omega), hs4, zu_ne (by omega), hs3, zu_ne (by omega), hs2, zu_ne (by omega)]
                exact hi4 _ _ _ (by omega)
            · refine zz_aload_n hx hb hl 0 dX4_put_34 rfl rfl ?_
              refine zz_iload hx hb hl 5 dX4_put_35 rfl ?_
              refine zz_iconst hx hb dX4_put_37 ?_
              refine zz_isub hx hb dX4_put_38 ?_
              refine zz_iload hx hb hl 5 dX4_put_39 rfl ?_
              refine zz_callV (T := TX4) (N := 4) (As := [.int (zi (i - 1)), .int (zi i)]) (rest := []) (v := ((d : Nat) : Int)) (κ := 18) ⟨hx, hb, hml, hown, hts⟩ (c_X4_copyStop l G ad A N0 σ1 nd nr hX d hd (i - 1) (i) ⟨by omega, by omega⟩ ⟨by omega, by omega⟩ (by omega) (by omega) (by omega) (by omega)) (cwV 2 hts gX4_put_X4_copyStop rfl rfl rfl (by decide +kernel) ⟨Nat.le_of_ble_eq_true rfl, Nat.le_of_ble_eq_true rfl⟩) hK hW1 (zlN (hX 18 d (decide_eq_true hd))) rfl rfl (Nat.le_trans hsz hS1.1) hS1 rfl hl.1.1 rfl (Nat.le_of_ble_eq_true rfl) dX4_put_41 ⟨Nat.le_of_ble_eq_true rfl, Nat.le_of_ble_eq_true rfl⟩ (fun x6 σ6 H6 locs6 hp6 hW6 hz6 hS6 => ?_)
              have hs6 := hp6.symm
              refine W.eq (g2 := F0 m 44 ls []) rfl ?_
              refine zz_iinc (lv' := [(5, .int (zi (i + (-1)))), (0, zr ad 18 ((d : Nat) : Int)), (1, .int (zi a)), (2, .int (zi pl)), (3, zr ad 23 v), (4, .int (zi lo))]) hx hb hl dX4_put_44 (k0 := 5) rfl (by decide) rfl (fun ls hl => ?_)
              refine zz_goto (tgt := 28) hx hb dX4_put_47 (by decide) ?_
              refine ih28 (i + (-1)) σ6 H6 locs6 ls ?_ (by omega) hW6 hS6 (zh_sub hl [1, 2, 3, 4, 5, 0] rfl)
              refine ⟨by omega, by omega, fun j hj => ?_, fun κ' i' k' hn => ?_⟩
              · obtain ⟨q1, q2, q3⟩ := hi3 (i - 1).toNat (by omega)
                obtain ⟨r1, r2, r3⟩ := hi3 j hj
                rw [hs6, zst_20, zst_21, zst_22, q1, q2, q3, r1, r2, r3]
                by_cases hji : j = i.toNat
                · rw [show (i - 1).toNat = j - 1 by omega]
                  refine ⟨?_, ?_, ?_⟩ <;> (repeat' split) <;> first | rfl | omega
                · refine ⟨?_, ?_, ?_⟩ <;> (repeat' split) <;> first | rfl | omega
              · rw [hs6, zst_fr hn]
                exact hi4 _ _ _ hn
        refine hcut28 _ (σ 18 d 3) σ s.heap [] ls ?_ (Nat.lt_succ_self _) hW0 hS0 (zh_sub hl [1, 2, 3, 4, 5, 0] rfl)
        exact ⟨ha1, Int.le_refl _, fun j hj => by rw [if_pos hj, if_pos hj, if_pos hj]; exact ⟨rfl, rfl, rfl⟩, fun _ _ _ _ => rfl⟩
      · exfalso; omega

set_option maxHeartbeats 4000000 in
set_option maxRecDepth 100000 in
theorem c_X4_take (l : Launch) (G : zG) (ad : zA) (A : Nat → Prop) (N0 : Nat) (σ : zS) (nd nr : Nat) (hX : zX ad nd nr) (d : Nat) (hd : d < nd) (a : Int) (ga : zg a) (ha0 : 0 ≤ a) (ha1 : a < σ 18 d 3) (h8 : σ 18 d 3 ≤ 8) : Met l yX4_take wsX4_take ({ frames := 1, cells := 0, slots := 0, locals := 22 }) (zP G ad A N0 σ [zr ad 18 ((d : Nat) : Int), .int (zi a)]) (zQ G ad A zrv (fun _ u => u 18 d 3 = σ 18 d 3 - 1 ∧ (∀ j : Nat, (j : Int) < σ 18 d 3 - 1 → u 20 d j = zdel a.toNat (σ 20 d) j ∧ u 21 d j = zdel a.toNat (σ 21 d) j ∧ u 22 d j = zdel a.toNat (σ 22 d) j) ∧ zfr (fun κ i k => i = d ∧ (κ = 20 ∨ κ = 21 ∨ κ = 22 ∨ (κ = 18 ∧ k = 3))) σ u)) 0 0 A := by
  refine zz_of (cc := cX4_take) (maxL := 3) (ret := none) (by decide) rfl ⟨rfl, rfl⟩ (List.forall_mem_cons.mpr ⟨zr_cat _ _ _, List.forall_mem_cons.mpr ⟨rfl, fun _ h => absurd h List.not_mem_nil⟩⟩) (Nat.le_of_ble_eq_true rfl) ?_
  intro p e s m below meth c hx hb hr hml hts hown hlocks hsz hW0 hK ls hl
  have hS0 : va_S A s.heap s.heap [] := va_S.rf
  have hl : zh ls 3 [(0, zr ad 18 ((d : Nat) : Int)), (1, .int (zi a))] := hl
  have hinX4 : ∀ w ∈ u_ws RX4 TX4 4, w ∈ wsX4_take := by decide +kernel
  refine zz_aload_n hx hb hl 0 dX4_take_0 rfl rfl ?_
  refine zz_iload_n hx hb hl 1 dX4_take_1 rfl rfl ?_
  refine zz_callV (T := TX4) (N := 4) (As := [.int (zi a)]) (rest := []) (v := ((d : Nat) : Int)) (κ := 18) ⟨hx, hb, hml, hown, hts⟩ (c_X4_holds l G ad A N0 σ nd nr hX d hd a ga) (cwV 1 hts gX4_take_X4_holds rfl rfl rfl (by decide +kernel) ⟨Nat.le_of_ble_eq_true rfl, Nat.le_of_ble_eq_true rfl⟩) hK hW0 (zlN (hX 18 d (decide_eq_true hd))) rfl rfl (Nat.le_trans hsz hS0.1) hS0 rfl hl.1.1 rfl (Nat.le_of_ble_eq_true rfl) dX4_take_2 ⟨Nat.le_of_ble_eq_true rfl, Nat.le_of_ble_eq_true rfl⟩ (fun x1 σ1 H1 locs1 hp1 hW1 hz1 hS1 => ?_)
  obtain ⟨rfl, rfl⟩ := hp1
  refine W.eq (g2 := F0 m 5 ls [.int (zi (zb (0 ≤ a ∧ a < σ 18 d 3)))]) rfl ?_
  refine zz_if_neb (tgt := 9) hx hb dX4_take_5 (by decide) (fun hc5 => ?_) (fun hc5 => ?_)
  · refine zz_iload_n hx hb hl 1 dX4_take_9 rfl rfl ?_
    refine zz_iconst hx hb dX4_take_10 ?_
    refine zz_iadd hx hb dX4_take_11 ?_
    refine zz_istore_n (lv' := [(2, .int (zi (a + 1))), (0, zr ad 18 ((d : Nat) : Int)), (1, .int (zi a))]) hx hb hl dX4_take_12 rfl (by decide) rfl (fun ls hl => ?_)
    have hcut13 : ∀ (n9 : Nat) (i : Int)  (σ9 : zS) (H9 : Heap) (locs9 : List Loc) (ls : Array Slot), (a + 1 ≤ i ∧ i ≤ σ 18 d 3 ∧ (∀ j : Nat, (j : Int) < σ 18 d 3 → σ9 20 d j = (if (j : Int) < a ∨ i - 1 ≤ j then σ 20 d j else σ 20 d (j + 1)) ∧ σ9 21 d j = (if (j : Int) < a ∨ i - 1 ≤ j then σ 21 d j else σ 21 d (j + 1)) ∧ σ9 22 d j = (if (j : Int) < a ∨ i - 1 ≤ j then σ 22 d j else σ 22 d (j + 1))) ∧ zfr (fun κ i _ => i = d ∧ (κ = 20 ∨ κ = 21 ∨ κ = 22)) σ σ9) → ((σ 18 d 3 - i).toNat) < n9 → ZW G ad A σ9 H9 → va_S A s.heap H9 locs9 → zh ls 3 [(0, zr ad 18 ((d : Nat) : Int)), (1, .int (zi a)), (2, .int (zi i))] → W p l e ({ frames := 1, cells := 0, slots := 0, locals := 22 }) s m ([zr ad 18 ((d : Nat) : Int), .int (zi a)] : List Value).toArray below meth c H9 locs9 0 0 (MQ below (zQ G ad A zrv (fun _ u => u 18 d 3 = σ 18 d 3 - 1 ∧ (∀ j : Nat, (j : Int) < σ 18 d 3 - 1 → u 20 d j = zdel a.toNat (σ 20 d) j ∧ u 21 d j = zdel a.toNat (σ 21 d) j ∧ u 22 d j = zdel a.toNat (σ 22 d) j) ∧ zfr (fun κ i k => i = d ∧ (κ = 20 ∨ κ = 21 ∨ κ = 22 ∨ (κ = 18 ∧ k = 3))) σ u)) ([zr ad 18 ((d : Nat) : Int), .int (zi a)] : List Value).toArray s 0 0 A) (F0 m 13 ls []) := by
      intro n9
      induction n9 with
      | zero =>
        intro i σ2 H2 locs2 ls hI13 hm13 hW2 hS2 hl
        exact absurd hm13 (Nat.not_lt_zero _)
      | succ n9 ih13 =>
        intro i σ2 H2 locs2 ls hI13 hm13 hW2 hS2 hl
        obtain ⟨hi1, hi2, hi3, hi4⟩ := hI13
        have hi5 : σ2 18 d 3 = σ 18 d 3 := hi4 18 d 3 (by omega)
        refine zz_iload_n hx hb hl 2 dX4_take_13 rfl rfl ?_
        refine zz_aload_n hx hb hl 0 dX4_take_14 rfl rfl ?_
        refine zz_get (T := TX4) (N := 4) (k := 3) (κ := 18) (w := .int (zi (σ2 18 d 3))) hx hb hts hinX4 hown hK hW2 (zlN (hX 18 d (decide_eq_true hd))) rfl rfl rfl (by decide) (hts (.fieldLink RX4 25 "HailCity$Row" "size" "I") (by decide +kernel)) (fun _ h9 => h9) rfl dX4_take_15 ?_
        refine zz_icmp_ge (tgt := 35) hx hb dX4_take_18 (by decide) ⟨by omega, by omega⟩ (hW2.2.2.1 _ _ _) (fun hc18 => ?_) (fun hc18 => ?_)
        · refine zz_aload_n hx hb hl 0 dX4_take_35 rfl rfl ?_
          refine lv_dup hx hb dX4_take_36 (zr_cat _ _ _) ?_
          refine zz_get (T := TX4) (N := 4) (k := 3) (κ := 18) (w := .int (zi (σ2 18 d 3))) hx hb hts hinX4 hown hK hW2 (zlN (hX 18 d (decide_eq_true hd))) rfl rfl rfl (by decide) (hts (.fieldLink RX4 25 "HailCity$Row" "size" "I") (by decide +kernel)) (fun _ h9 => h9) rfl dX4_take_37 ?_
          refine zz_iconst hx hb dX4_take_40 ?_
          refine zz_isub hx hb dX4_take_41 ?_
          have hgp : zg (σ 18 d 3) := hW0.2.2.1 _ _ _
          refine zz_put (T := TX4) (N := 4) (k := 3) (κ := 18) (v := ((d : Nat) : Int)) (x := ((σ2 18 d 3) - 1)) (ty := .int) hx hb hts hinX4 tyX4 tyX4_ok nmX4 hown hK hW2 hS2 (zlN (hX 18 d (decide_eq_true hd))) rfl rfl rfl (by decide) (hts (.fieldLink RX4 25 "HailCity$Row" "size" "I") (by decide +kernel)) (fun _ h9 => h9) rfl (by decide +kernel) rfl rfl rfl ⟨by omega, by omega⟩ (fun h9 _ => absurd h9 (by decide)) (fun h9 => absurd h9 (by decide)) dX4_take_42 (fun H3 locs3 hW3' hS3 => ?_)
          obtain ⟨σ3, hs3⟩ : ∃ z, z = zu σ2 18 d 3 ((σ2 18 d 3) - 1) := ⟨_, rfl⟩
          have hW3 : ZW G ad A σ3 H3 := by rw [hs3]; exact hW3'
          refine W.eq (g2 := F0 m 45 ls []) rfl ?_
          refine zz_retv hx hb hr hlocks hW3 hS3 ?_ dX4_take_45
          have hia : i = σ 18 d 3 := by omega
          refine ⟨?_, fun j hj => ?_, fun κ' i' k' hn => ?_⟩
          · rw [hs3, zu_same]; omega
          · obtain ⟨q1, q2, q3⟩ := hi3 j (by omega)
            simp only [hs3, zu, zdel, q1, q2, q3, Nat.reduceEqDiff, false_and, and_false, true_and, and_true, reduceIte]
            refine ⟨?_, ?_, ?_⟩ <;> (repeat' split) <;> first | rfl | omega
          · rw [hs3, zu_ne (by omega)]
            exact hi4 _ _ _ (by omega)
        · refine zz_aload_n hx hb hl 0 dX4_take_21 rfl rfl ?_
          refine zz_iload_n hx hb hl 2 dX4_take_22 rfl rfl ?_
          refine zz_iload_n hx hb hl 2 dX4_take_23 rfl rfl ?_
          refine zz_iconst hx hb dX4_take_24 ?_
          refine zz_isub hx hb dX4_take_25 ?_
          refine zz_callV (T := TX4) (N := 4) (As := [.int (zi i), .int (zi (i - 1))]) (rest := []) (v := ((d : Nat) : Int)) (κ := 18) ⟨hx, hb, hml, hown, hts⟩ (c_X4_copyStop l G ad A N0 σ2 nd nr hX d hd (i) (i - 1) ⟨by omega, by omega⟩ ⟨by omega, by omega⟩ (by omega) (by omega) (by omega) (by omega)) (cwV 2 hts gX4_take_X4_copyStop rfl rfl rfl (by decide +kernel) ⟨Nat.le_of_ble_eq_true rfl, Nat.le_of_ble_eq_true rfl⟩) hK hW2 (zlN (hX 18 d (decide_eq_true hd))) rfl rfl (Nat.le_trans hsz hS2.1) hS2 rfl hl.1.1 rfl (Nat.le_of_ble_eq_true rfl) dX4_take_26 ⟨Nat.le_of_ble_eq_true rfl, Nat.le_of_ble_eq_true rfl⟩ (fun x4 σ4 H4 locs4 hp4 hW4 hz4 hS4 => ?_)
          have hs4 := hp4.symm
          refine W.eq (g2 := F0 m 29 ls []) rfl ?_
          refine zz_iinc (lv' := [(2, .int (zi (i + 1))), (0, zr ad 18 ((d : Nat) : Int)), (1, .int (zi a))]) hx hb hl dX4_take_29 (k0 := 2) rfl (by decide) rfl (fun ls hl => ?_)
          refine zz_goto (tgt := 13) hx hb dX4_take_32 (by decide) ?_
          refine ih13 (i + 1) σ4 H4 locs4 ls ?_ (by omega) hW4 hS4 (zh_sub hl [1, 2, 0] rfl)
          refine ⟨by omega, by omega, fun j hj => ?_, fun κ' i' k' hn => ?_⟩
          · obtain ⟨q1, q2, q3⟩ := hi3 i.toNat (by omega)
            obtain ⟨r1, r2, r3⟩ := hi3 j hj
            rw [hs4, zst_20, zst_21, zst_22, q1, q2, q3, r1, r2, r3]
            by_cases hji : j = (i - 1).toNat
            · rw [show i.toNat = j + 1 by omega]
              refine ⟨?_, ?_, ?_⟩ <;> (repeat' split) <;> first | rfl | omega
            · refine ⟨?_, ?_, ?_⟩ <;> (repeat' split) <;> first | rfl | omega
          · rw [hs4, zst_fr hn]
            exact hi4 _ _ _ hn
    refine hcut13 _ (a + 1) σ H1 locs1 ls ?_ (Nat.lt_succ_self _) hW1 hS1 (zh_sub hl [1, 2, 0] rfl)
    refine ⟨by omega, by omega, fun j hj => ?_, fun _ _ _ _ => rfl⟩
    refine ⟨?_, ?_, ?_⟩ <;> split <;> first | rfl | omega
  · exfalso; exact hc5 ⟨ha0, ha1⟩

set_option maxHeartbeats 4000000 in
set_option maxRecDepth 100000 in
theorem c_X4_riderCount (l : Launch) (G : zG) (ad : zA) (A : Nat → Prop) (N0 : Nat) (σ : zS) (nd nr : Nat) (hX : zX ad nd nr) (d : Nat) (hd : d < nd) (h0 : 0 ≤ σ 18 d 3) (h8 : σ 18 d 3 ≤ 8) : Met l yX4_riderCount wsX4_riderCount ({ frames := 0, cells := 0, slots := 0, locals := 0 }) (zP G ad A N0 σ [zr ad 18 ((d : Nat) : Int)]) (zQ G ad A zri (fun r u => σ = u ∧ zcnt (σ 22 d) (σ 18 d 3).toNat = r)) 0 0 A := by
  refine zz_of (cc := cX4_riderCount) (maxL := 3) (ret := (some .int)) (by decide) rfl ⟨rfl, rfl⟩ (List.forall_mem_cons.mpr ⟨zr_cat _ _ _, fun _ h => absurd h List.not_mem_nil⟩) (Nat.le_of_ble_eq_true rfl) ?_
  intro p e s m below meth c hx hb hr hml hts hown hlocks hsz hW0 hK ls hl
  have hS0 : va_S A s.heap s.heap [] := va_S.rf
  have hl : zh ls 3 [(0, zr ad 18 ((d : Nat) : Int))] := hl
  have hinX4 : ∀ w ∈ u_ws RX4 TX4 4, w ∈ wsX4_riderCount := by decide +kernel
  refine zz_iconst hx hb dX4_riderCount_0 ?_
  refine zz_istore_n (lv' := [(1, .int (zi 0)), (0, zr ad 18 ((d : Nat) : Int))]) hx hb hl dX4_riderCount_1 rfl (by decide) rfl (fun ls hl => ?_)
  refine zz_iconst hx hb dX4_riderCount_2 ?_
  refine zz_istore_n (lv' := [(2, .int (zi 0)), (1, .int (zi 0)), (0, zr ad 18 ((d : Nat) : Int))]) hx hb hl dX4_riderCount_3 rfl (by decide) rfl (fun ls hl => ?_)
  have hcut4 : ∀ (n9 : Nat) (i : Nat)  (H9 : Heap) (locs9 : List Loc) (ls : Array Slot), ((i : Int) ≤ σ 18 d 3) → ((σ 18 d 3).toNat - i) < n9 → ZW G ad A σ H9 → va_S A s.heap H9 locs9 → zh ls 3 [(0, zr ad 18 ((d : Nat) : Int)), (1, .int (zi (zcnt (σ 22 d) i))), (2, .int (zi ((i : Nat) : Int)))] → W p l e ({ frames := 0, cells := 0, slots := 0, locals := 0 }) s m ([zr ad 18 ((d : Nat) : Int)] : List Value).toArray below meth c H9 locs9 0 0 (MQ below (zQ G ad A zri (fun r u => σ = u ∧ zcnt (σ 22 d) (σ 18 d 3).toNat = r)) ([zr ad 18 ((d : Nat) : Int)] : List Value).toArray s 0 0 A) (F0 m 4 ls []) := by
    intro n9
    induction n9 with
    | zero =>
      intro i H1 locs1 ls hI4 hm4 hW1 hS1 hl
      exact absurd hm4 (Nat.not_lt_zero _)
    | succ n9 ih4 =>
      intro i H1 locs1 ls hI4 hm4 hW1 hS1 hl
      have hcg := zcnt_ge (σ 22 d) i
      refine zz_iload_n hx hb hl 2 dX4_riderCount_4 rfl rfl ?_
      refine zz_aload_n hx hb hl 0 dX4_riderCount_5 rfl rfl ?_
      refine zz_get (T := TX4) (N := 4) (k := 3) (κ := 18) (w := .int (zi (σ 18 d 3))) hx hb hts hinX4 hown hK hW1 (zlN (hX 18 d (decide_eq_true hd))) rfl rfl rfl (by decide) (hts (.fieldLink RX4 25 "HailCity$Row" "size" "I") (by decide +kernel)) (fun _ h9 => h9) rfl dX4_riderCount_6 ?_
      refine zz_icmp_ge (tgt := 30) hx hb dX4_riderCount_9 (by decide) ⟨by omega, by omega⟩ (hW1.2.2.1 _ _ _) (fun hc9 => ?_) (fun hc9 => ?_)
      · refine zz_iload_n hx hb hl 1 dX4_riderCount_30 rfl rfl ?_
        refine W.eq (g2 := F0 m 31 ls [.int (zi (zcnt (σ 22 d) i))]) rfl ?_
        refine zz_reti hx hb hr hlocks hW1 hS1 ?_ dX4_riderCount_31
        exact ⟨rfl, by rw [show (σ 18 d 3).toNat = i by omega]⟩
      · refine zz_aload_n hx hb hl 0 dX4_riderCount_12 rfl rfl ?_
        refine zz_get (T := TX4) (N := 4) (k := 2) (κ := 18) (w := zr ad 22 ((d : Nat) : Int)) hx hb hts hinX4 hown hK hW1 (zlN (hX 18 d (decide_eq_true hd))) rfl rfl rfl (by decide) (hts (.fieldLink RX4 21 "HailCity$Row" "letOuts" "[Z") (by decide +kernel)) (fun _ h9 => h9) rfl dX4_riderCount_13 ?_
        refine zz_iload_n hx hb hl 2 dX4_riderCount_16 rfl rfl ?_
        refine zz_zald (w := σ 22 d i) hx hb hK hW1 (zlN (hX 22 d (decide_eq_true hd))) rfl rfl rfl (by show (0 : Int) ≤ ((i : Nat) : Int); omega) (by show ((i : Nat) : Int) < (8 : Int); omega) rfl dX4_riderCount_17 ?_
        have hq := hW1.2.2.2.2 22 d i rfl
        refine zz_if_eq (tgt := 24) hx hb dX4_riderCount_18 (by decide) (hW1.2.2.1 _ _ _) (fun hc18 => ?_) (fun hc18 => ?_)
        · refine zz_iinc (lv' := [(2, .int (zi (((i : Nat) : Int) + 1))), (0, zr ad 18 ((d : Nat) : Int)), (1, .int (zi (zcnt (σ 22 d) i)))]) hx hb hl dX4_riderCount_24 (k0 := 2) rfl (by decide) rfl (fun ls hl => ?_)
          refine zz_goto (tgt := 4) hx hb dX4_riderCount_27 (by decide) ?_
          refine ih4 (i + 1) H1 locs1 ls ?_ (by omega) hW1 hS1 (zh_sub hl [1, 2, 0] (by rw [zcnt_s, show zcnt (σ 22 d) i + (if σ 22 d i = 1 then 1 else 0) = zcnt (σ 22 d) i by split <;> omega]; rfl))
          omega
        · refine zz_iinc (lv' := [(1, .int (zi ((zcnt (σ 22 d) i) + 1))), (0, zr ad 18 ((d : Nat) : Int)), (2, .int (zi ((i : Nat) : Int)))]) hx hb hl dX4_riderCount_21 (k0 := 1) rfl (by decide) rfl (fun ls hl => ?_)
          refine zz_iinc (lv' := [(2, .int (zi (((i : Nat) : Int) + 1))), (1, .int (zi ((zcnt (σ 22 d) i) + 1))), (0, zr ad 18 ((d : Nat) : Int))]) hx hb hl dX4_riderCount_24 (k0 := 2) rfl (by decide) rfl (fun ls hl => ?_)
          refine zz_goto (tgt := 4) hx hb dX4_riderCount_27 (by decide) ?_
          refine ih4 (i + 1) H1 locs1 ls ?_ (by omega) hW1 hS1 (zh_sub hl [2, 1, 0] (by rw [zcnt_s, show zcnt (σ 22 d) i + (if σ 22 d i = 1 then 1 else 0) = (zcnt (σ 22 d) i) + 1 by split <;> omega]; rfl))
          omega
  refine hcut4 _ 0 s.heap [] ls ?_ (Nat.lt_succ_self _) hW0 hS0 (zh_sub hl [2, 1, 0] rfl)
  exact h0

set_option maxHeartbeats 4000000 in
set_option maxRecDepth 100000 in
theorem c_X4_canTakeOneMore (l : Launch) (G : zG) (ad : zA) (A : Nat → Prop) (N0 : Nat) (σ : zS) (nd nr : Nat) (hX : zX ad nd nr) (d : Nat) (hd : d < nd) (h0 : 0 ≤ σ 18 d 3) (h8 : σ 18 d 3 ≤ 8) : Met l yX4_canTakeOneMore wsX4_canTakeOneMore ({ frames := 1, cells := 0, slots := 0, locals := 22 }) (zP G ad A N0 σ [zr ad 18 ((d : Nat) : Int)]) (zQ G ad A zri (fun r u => σ = u ∧ zb ((∀ j : Nat, (j : Int) < σ 18 d 3 → 0 ≤ σ 21 d j ∧ σ 23 (σ 21 d j).toNat 3 = 1) ∧ 1 ≤ zcnt (σ 22 d) (σ 18 d 3).toNat ∧ zcnt (σ 22 d) (σ 18 d 3).toNat ≤ 3) = r)) 0 0 A := by
  refine zz_of (cc := cX4_canTakeOneMore) (maxL := 2) (ret := (some .boolean)) (by decide) rfl ⟨rfl, rfl⟩ (List.forall_mem_cons.mpr ⟨zr_cat _ _ _, fun _ h => absurd h List.not_mem_nil⟩) (Nat.le_of_ble_eq_true rfl) ?_
  intro p e s m below meth c hx hb hr hml hts hown hlocks hsz hW0 hK ls hl
  have hS0 : va_S A s.heap s.heap [] := va_S.rf
  have hl : zh ls 2 [(0, zr ad 18 ((d : Nat) : Int))] := hl
  have hinX3 : ∀ w ∈ u_ws RX3 TX3 12, w ∈ wsX4_canTakeOneMore := by decide +kernel
  have hinX4 : ∀ w ∈ u_ws RX4 TX4 4, w ∈ wsX4_canTakeOneMore := by decide +kernel
  refine zz_iconst hx hb dX4_canTakeOneMore_0 ?_
  refine zz_istore_n (lv' := [(1, .int (zi 0)), (0, zr ad 18 ((d : Nat) : Int))]) hx hb hl dX4_canTakeOneMore_1 rfl (by decide) rfl (fun ls hl => ?_)
  have hcut2 : ∀ (n9 : Nat) (i : Nat)  (H9 : Heap) (locs9 : List Loc) (ls : Array Slot), ((i : Int) ≤ σ 18 d 3 ∧ ∀ j : Nat, j < i → 0 ≤ σ 21 d j ∧ σ 23 (σ 21 d j).toNat 3 = 1) → ((σ 18 d 3).toNat - i) < n9 → ZW G ad A σ H9 → va_S A s.heap H9 locs9 → zh ls 2 [(0, zr ad 18 ((d : Nat) : Int)), (1, .int (zi ((i : Nat) : Int)))] → W p l e ({ frames := 1, cells := 0, slots := 0, locals := 22 }) s m ([zr ad 18 ((d : Nat) : Int)] : List Value).toArray below meth c H9 locs9 0 0 (MQ below (zQ G ad A zri (fun r u => σ = u ∧ zb ((∀ j : Nat, (j : Int) < σ 18 d 3 → 0 ≤ σ 21 d j ∧ σ 23 (σ 21 d j).toNat 3 = 1) ∧ 1 ≤ zcnt (σ 22 d) (σ 18 d 3).toNat ∧ zcnt (σ 22 d) (σ 18 d 3).toNat ≤ 3) = r)) ([zr ad 18 ((d : Nat) : Int)] : List Value).toArray s 0 0 A) (F0 m 2 ls []) := by
    intro n9
    induction n9 with
    | zero =>
      intro i H1 locs1 ls hI2 hm2 hW1 hS1 hl
      exact absurd hm2 (Nat.not_lt_zero _)
    | succ n9 ih2 =>
      intro i H1 locs1 ls hI2 hm2 hW1 hS1 hl
      obtain ⟨hi1, hi2⟩ := hI2
      refine zz_iload_n hx hb hl 1 dX4_canTakeOneMore_2 rfl rfl ?_
      refine zz_aload_n hx hb hl 0 dX4_canTakeOneMore_3 rfl rfl ?_
      refine zz_get (T := TX4) (N := 4) (k := 3) (κ := 18) (w := .int (zi (σ 18 d 3))) hx hb hts hinX4 hown hK hW1 (zlN (hX 18 d (decide_eq_true hd))) rfl rfl rfl (by decide) (hts (.fieldLink RX4 25 "HailCity$Row" "size" "I") (by decide +kernel)) (fun _ h9 => h9) rfl dX4_canTakeOneMore_4 ?_
      refine zz_icmp_ge (tgt := 39) hx hb dX4_canTakeOneMore_7 (by decide) ⟨by omega, by omega⟩ (hW1.2.2.1 _ _ _) (fun hc7 => ?_) (fun hc7 => ?_)
      · refine zz_aload_n hx hb hl 0 dX4_canTakeOneMore_39 rfl rfl ?_
        refine zz_callV (T := TX4) (N := 4) (As := []) (rest := []) (v := ((d : Nat) : Int)) (κ := 18) ⟨hx, hb, hml, hown, hts⟩ (c_X4_riderCount l G ad A N0 σ nd nr hX d hd h0 h8) (cwV 0 hts gX4_canTakeOneMore_X4_riderCount rfl rfl rfl (by decide +kernel) ⟨Nat.le_of_ble_eq_true rfl, Nat.le_of_ble_eq_true rfl⟩) hK hW1 (zlN (hX 18 d (decide_eq_true hd))) rfl rfl (Nat.le_trans hsz hS1.1) hS1 rfl hl.1.1 rfl (Nat.le_of_ble_eq_true rfl) dX4_canTakeOneMore_40 ⟨Nat.le_of_ble_eq_true rfl, Nat.le_of_ble_eq_true rfl⟩ (fun x2 σ2 H2 locs2 hp2 hW2 hz2 hS2 => ?_)
        obtain ⟨rfl, rfl⟩ := hp2
        have hcg := zcnt_ge (σ 22 d) (σ 18 d 3).toNat
        refine W.eq (g2 := F0 m 43 ls [.int (zi (zcnt (σ 22 d) (σ 18 d 3).toNat))]) rfl ?_
        refine zz_istore_n (lv' := [(1, .int (zi (zcnt (σ 22 d) (σ 18 d 3).toNat))), (0, zr ad 18 ((d : Nat) : Int))]) hx hb hl dX4_canTakeOneMore_43 rfl (by decide) rfl (fun ls hl => ?_)
        refine zz_iload_n hx hb hl 0 dX4_canTakeOneMore_44 rfl rfl ?_
        refine zz_iconst hx hb dX4_canTakeOneMore_45 ?_
        refine zz_icmp_lt (tgt := 58) hx hb dX4_canTakeOneMore_46 (by decide) ⟨by omega, by omega⟩ ⟨by decide, by decide⟩ (fun hc46 => ?_) (fun hc46 => ?_)
        · refine zz_iconst hx hb dX4_canTakeOneMore_58 ?_
          refine W.eq (g2 := F0 m 59 ls [.int (zi 0)]) rfl ?_
          refine zz_retz hx hb hr hlocks hW2 hS2 (by decide) ?_ dX4_canTakeOneMore_59
          first | exact ⟨rfl, zb_t ⟨fun j hj => hi2 j (by omega), by omega, by omega⟩⟩ | exact ⟨rfl, zb_f (fun q => by have q2 := q.2; omega)⟩
        · refine zz_iload_n hx hb hl 0 dX4_canTakeOneMore_49 rfl rfl ?_
          refine zz_iconst hx hb dX4_canTakeOneMore_50 ?_
          refine zz_icmp_gt (tgt := 58) hx hb dX4_canTakeOneMore_51 (by decide) ⟨by omega, by omega⟩ ⟨by decide, by decide⟩ (fun hc51 => ?_) (fun hc51 => ?_)
          · refine zz_iconst hx hb dX4_canTakeOneMore_58 ?_
            refine W.eq (g2 := F0 m 59 ls [.int (zi 0)]) rfl ?_
            refine zz_retz hx hb hr hlocks hW2 hS2 (by decide) ?_ dX4_canTakeOneMore_59
            first | exact ⟨rfl, zb_t ⟨fun j hj => hi2 j (by omega), by omega, by omega⟩⟩ | exact ⟨rfl, zb_f (fun q => by have q2 := q.2; omega)⟩
          · refine zz_iconst hx hb dX4_canTakeOneMore_54 ?_
            refine zz_goto (tgt := 59) hx hb dX4_canTakeOneMore_55 (by decide) ?_
            refine W.eq (g2 := F0 m 59 ls [.int (zi 1)]) rfl ?_
            refine zz_retz hx hb hr hlocks hW2 hS2 (by decide) ?_ dX4_canTakeOneMore_59
            first | exact ⟨rfl, zb_t ⟨fun j hj => hi2 j (by omega), by omega, by omega⟩⟩ | exact ⟨rfl, zb_f (fun q => by have q2 := q.2; omega)⟩
      · refine zz_aload_n hx hb hl 0 dX4_canTakeOneMore_10 rfl rfl ?_
        refine zz_get (T := TX4) (N := 4) (k := 1) (κ := 18) (w := zr ad 21 ((d : Nat) : Int)) hx hb hts hinX4 hown hK hW1 (zlN (hX 18 d (decide_eq_true hd))) rfl rfl rfl (by decide) (hts (.fieldLink RX4 17 "HailCity$Row" "riders" "[LHailCity$Request;") (by decide +kernel)) (fun _ h9 => h9) rfl dX4_canTakeOneMore_11 ?_
        refine zz_iload_n hx hb hl 1 dX4_canTakeOneMore_14 rfl rfl ?_
        refine zz_aald (w := zr ad 23 (σ 21 d i)) hx hb hK hW1 (zlN (hX 21 d (decide_eq_true hd))) rfl rfl (by show (0 : Int) ≤ ((i : Nat) : Int); omega) (by show ((i : Nat) : Int) < (8 : Int); omega) rfl dX4_canTakeOneMore_15 ?_
        refine zz_ifnull (tgt := 31) hx hb (hW1.2.2.2.1 21 _ i ((zlN (hX 21 d (decide_eq_true hd)))).2 (Nat.le_of_ble_eq_true rfl) (Nat.le_of_ble_eq_true rfl)) dX4_canTakeOneMore_16 (by decide) (fun hc16 => ?_) (fun hc16 => ?_)
        · refine zz_iconst hx hb dX4_canTakeOneMore_31 ?_
          refine W.eq (g2 := F0 m 32 ls [.int (zi 0)]) rfl ?_
          refine zz_retz hx hb hr hlocks hW1 hS1 (by decide) ?_ dX4_canTakeOneMore_32
          exact ⟨rfl, zb_f (fun q => by have q1 := q.1 i (by omega); first | (have q2 := q1.1; omega) | (have q2 := q1.2; omega))⟩
        · refine zz_aload_n hx hb hl 0 dX4_canTakeOneMore_19 rfl rfl ?_
          refine zz_get (T := TX4) (N := 4) (k := 1) (κ := 18) (w := zr ad 21 ((d : Nat) : Int)) hx hb hts hinX4 hown hK hW1 (zlN (hX 18 d (decide_eq_true hd))) rfl rfl rfl (by decide) (hts (.fieldLink RX4 17 "HailCity$Row" "riders" "[LHailCity$Request;") (by decide +kernel)) (fun _ h9 => h9) rfl dX4_canTakeOneMore_20 ?_
          refine zz_iload_n hx hb hl 1 dX4_canTakeOneMore_23 rfl rfl ?_
          refine zz_aald (w := zr ad 23 (σ 21 d i)) hx hb hK hW1 (zlN (hX 21 d (decide_eq_true hd))) rfl rfl (by show (0 : Int) ≤ ((i : Nat) : Int); omega) (by show ((i : Nat) : Int) < (8 : Int); omega) rfl dX4_canTakeOneMore_24 ?_
          refine zz_getN (T := TX3) (N := 12) (k := 3) (κ := 23) (w := .int (zi (σ 23 ((σ 21 d i).toNat) 3))) hx hb hts hinX3 hown hK hW1 hc16 rfl rfl rfl (by decide) (host := "HailCity") (List.mem_of_getElem? (i := 30) rfl) (fun _ h9 => h9) rfl dX4_canTakeOneMore_25 ?_
          have hq := hW1.2.2.2.2 23 (σ 21 d i).toNat 3 rfl
          refine zz_if_ne (tgt := 33) hx hb dX4_canTakeOneMore_28 (by decide) (hW1.2.2.1 _ _ _) (fun hc28 => ?_) (fun hc28 => ?_)
          · refine zz_iinc (lv' := [(1, .int (zi (((i : Nat) : Int) + 1))), (0, zr ad 18 ((d : Nat) : Int))]) hx hb hl dX4_canTakeOneMore_33 (k0 := 1) rfl (by decide) rfl (fun ls hl => ?_)
            refine zz_goto (tgt := 2) hx hb dX4_canTakeOneMore_36 (by decide) ?_
            refine ih2 (i + 1) H1 locs1 ls ?_ (by omega) hW1 hS1 (zh_sub hl [1, 0] rfl)
            refine ⟨by omega, fun j hj => ?_⟩
            rcases Nat.lt_or_ge j i with q | q
            · exact hi2 j q
            · rw [show j = i by omega]
              exact ⟨hc16.1, by omega⟩
          · refine zz_iconst hx hb dX4_canTakeOneMore_31 ?_
            refine W.eq (g2 := F0 m 32 ls [.int (zi 0)]) rfl ?_
            refine zz_retz hx hb hr hlocks hW1 hS1 (by decide) ?_ dX4_canTakeOneMore_32
            exact ⟨rfl, zb_f (fun q => by have q1 := q.1 i (by omega); first | (have q2 := q1.1; omega) | (have q2 := q1.2; omega))⟩
  refine hcut2 _ 0 s.heap [] ls ?_ (Nat.lt_succ_self _) hW0 hS0 (zh_sub hl [1, 0] rfl)
  exact ⟨h0, fun j hj => absurd hj (Nat.not_lt_zero j)⟩

set_option maxHeartbeats 4000000 in
set_option maxRecDepth 100000 in
theorem c_X4_dropRider (l : Launch) (G : zG) (ad : zA) (A : Nat → Prop) (N0 : Nat) (σ : zS) (nd nr : Nat) (hX : zX ad nd nr) (d : Nat) (hd : d < nd) (v : Int) (gv : zg v) (hv0 : zl ad 23 v) (q : Nat) (hq : (q : Int) < σ 18 d 3) (hq1 : σ 21 d q = v) (hq2 : σ 22 d q = 1) (hu : ∀ j : Nat, (j : Int) < σ 18 d 3 → j ≠ q → σ 21 d j = v → σ 22 d j = 0) (h8 : σ 18 d 3 ≤ 8) : Met l yX4_dropRider wsX4_dropRider ({ frames := 2, cells := 0, slots := 0, locals := 44 }) (zP G ad A N0 σ [zr ad 18 ((d : Nat) : Int), zr ad 23 v]) (zQ G ad A zrv (fun _ u => u 18 d 3 = σ 18 d 3 - 1 ∧ (∀ j : Nat, (j : Int) < σ 18 d 3 - 1 → u 20 d j = zdel q (σ 20 d) j ∧ u 21 d j = (if zdel q (σ 21 d) j = v then -1 else zdel q (σ 21 d) j) ∧ u 22 d j = zdel q (σ 22 d) j) ∧ zfr (fun κ i k => i = d ∧ (κ = 20 ∨ κ = 21 ∨ κ = 22 ∨ (κ = 18 ∧ k = 3))) σ u)) 0 0 A := by
  refine zz_of (cc := cX4_dropRider) (maxL := 3) (ret := none) (by decide) rfl ⟨rfl, rfl⟩ (List.forall_mem_cons.mpr ⟨zr_cat _ _ _, List.forall_mem_cons.mpr ⟨zr_cat _ _ _, fun _ h => absurd h List.not_mem_nil⟩⟩) (Nat.le_of_ble_eq_true rfl) ?_
  intro p e s m below meth c hx hb hr hml hts hown hlocks hsz hW0 hK ls hl
  have hS0 : va_S A s.heap s.heap [] := va_S.rf
  have hl : zh ls 3 [(0, zr ad 18 ((d : Nat) : Int)), (1, zr ad 23 v)] := hl
  have hinX4 : ∀ w ∈ u_ws RX4 TX4 4, w ∈ wsX4_dropRider := by decide +kernel
  have hgp : zg (σ 18 d 3) := hW0.2.2.1 _ _ _
  refine zz_aload_n hx hb hl 0 dX4_dropRider_0 rfl rfl ?_
  refine zz_get (T := TX4) (N := 4) (k := 3) (κ := 18) (w := .int (zi (σ 18 d 3))) hx hb hts hinX4 hown hK hW0 (zlN (hX 18 d (decide_eq_true hd))) rfl rfl rfl (by decide) (hts (.fieldLink RX4 25 "HailCity$Row" "size" "I") (by decide +kernel)) (fun _ h9 => h9) rfl dX4_dropRider_1 ?_
  refine zz_iconst hx hb dX4_dropRider_4 ?_
  refine zz_isub hx hb dX4_dropRider_5 ?_
  refine zz_istore_n (lv' := [(2, .int (zi ((σ 18 d 3) - 1))), (0, zr ad 18 ((d : Nat) : Int)), (1, zr ad 23 v)]) hx hb hl dX4_dropRider_6 rfl (by decide) rfl (fun ls hl => ?_)
  have hcut7 : ∀ (n9 : Nat) (i : Int)  (σ9 : zS) (H9 : Heap) (locs9 : List Loc) (ls : Array Slot), (-1 ≤ i ∧ i < σ 18 d 3 ∧ (((q : Int) ≤ i ∧ σ9 18 d 3 = σ 18 d 3 ∧ ∀ j : Nat, (j : Int) < σ 18 d 3 → σ9 20 d j = σ 20 d j ∧ σ9 21 d j = (if i < (j : Int) ∧ σ 21 d j = v then -1 else σ 21 d j) ∧ σ9 22 d j = σ 22 d j) ∨ (i < (q : Int) ∧ σ9 18 d 3 = σ 18 d 3 - 1 ∧ ∀ j : Nat, (j : Int) < σ 18 d 3 - 1 → σ9 20 d j = zdel q (σ 20 d) j ∧ σ9 21 d j = (if i < (j : Int) ∧ zdel q (σ 21 d) j = v then -1 else zdel q (σ 21 d) j) ∧ σ9 22 d j = zdel q (σ 22 d) j)) ∧ zfr (fun κ i k => i = d ∧ (κ = 20 ∨ κ = 21 ∨ κ = 22 ∨ (κ = 18 ∧ k = 3))) σ σ9) → ((i + 1).toNat) < n9 → ZW G ad A σ9 H9 → va_S A s.heap H9 locs9 → zh ls 3 [(0, zr ad 18 ((d : Nat) : Int)), (1, zr ad 23 v), (2, .int (zi i))] → W p l e ({ frames := 2, cells := 0, slots := 0, locals := 44 }) s m ([zr ad 18 ((d : Nat) : Int), zr ad 23 v] : List Value).toArray below meth c H9 locs9 0 0 (MQ below (zQ G ad A zrv (fun _ u => u 18 d 3 = σ 18 d 3 - 1 ∧ (∀ j : Nat, (j : Int) < σ 18 d 3 - 1 → u 20 d j = zdel q (σ 20 d) j ∧ u 21 d j = (if zdel q (σ 21 d) j = v then -1 else zdel q (σ 21 d) j) ∧ u 22 d j = zdel q (σ 22 d) j) ∧ zfr (fun κ i k => i = d ∧ (κ = 20 ∨ κ = 21 ∨ κ = 22 ∨ (κ = 18 ∧ k = 3))) σ u)) ([zr ad 18 ((d : Nat) : Int), zr ad 23 v] : List Value).toArray s 0 0 A) (F0 m 7 ls []) := by
    intro n9
    induction n9 with
    | zero =>
      intro i σ1 H1 locs1 ls hI7 hm7 hW1 hS1 hl
      exact absurd hm7 (Nat.not_lt_zero _)
    | succ n9 ih7 =>
      intro i σ1 H1 locs1 ls hI7 hm7 hW1 hS1 hl
      obtain ⟨hi1, hi2, hi3, hi4⟩ := hI7
      have hsq : 0 ≤ σ1 18 d 3 ∧ σ1 18 d 3 ≤ 8 ∧ i < σ1 18 d 3 + 1 := by rcases hi3 with ⟨a1, a2, a3⟩ | ⟨a1, a2, a3⟩ <;> omega
      refine zz_iload_n hx hb hl 2 dX4_dropRider_7 rfl rfl ?_
      refine zz_if_lt (tgt := 61) hx hb dX4_dropRider_8 (by decide) ⟨by omega, by omega⟩ (fun hc8 => ?_) (fun hc8 => ?_)
      · refine W.eq (g2 := F0 m 61 ls []) rfl ?_
        refine zz_retv hx hb hr hlocks hW1 hS1 ?_ dX4_dropRider_61
        rcases hi3 with ⟨a1, a2, a3⟩ | ⟨a1, a2, a3⟩
        · exfalso; omega
        · refine ⟨a2, fun j hj => ?_, hi4⟩
          obtain ⟨c1, c2, c3⟩ := a3 j hj
          rw [c1, c2, c3]
          refine ⟨?_, ?_, ?_⟩ <;> (repeat' split) <;> first | rfl | omega
      · refine zz_aload_n hx hb hl 0 dX4_dropRider_11 rfl rfl ?_
        refine zz_get (T := TX4) (N := 4) (k := 1) (κ := 18) (w := zr ad 21 ((d : Nat) : Int)) hx hb hts hinX4 hown hK hW1 (zlN (hX 18 d (decide_eq_true hd))) rfl rfl rfl (by decide) (hts (.fieldLink RX4 17 "HailCity$Row" "riders" "[LHailCity$Request;") (by decide +kernel)) (fun _ h9 => h9) rfl dX4_dropRider_12 ?_
        refine zz_iload_n hx hb hl 2 dX4_dropRider_15 rfl rfl ?_
        refine zz_aald (w := zr ad 23 (σ1 21 d ((i).toNat))) hx hb hK hW1 (zlN (hX 21 d (decide_eq_true hd))) rfl rfl (by show (0 : Int) ≤ i; omega) (by show i < (8 : Int); omega) rfl dX4_dropRider_16 ?_
        refine zz_aload_n hx hb hl 1 dX4_dropRider_17 rfl rfl ?_
        refine zz_acmp_ne (tgt := 38) hx hb hW1 (hW1.2.2.2.1 21 _ ((i).toNat) ((zlN (hX 21 d (decide_eq_true hd)))).2 (Nat.le_of_ble_eq_true rfl) (Nat.le_of_ble_eq_true rfl)) hv0 dX4_dropRider_18 (by decide) (fun hc18 => ?_) (fun hc18 => ?_)
        · refine zz_aload_n hx hb hl 0 dX4_dropRider_38 rfl rfl ?_
          refine zz_get (T := TX4) (N := 4) (k := 1) (κ := 18) (w := zr ad 21 ((d : Nat) : Int)) hx hb hts hinX4 hown hK hW1 (zlN (hX 18 d (decide_eq_true hd))) rfl rfl rfl (by decide) (hts (.fieldLink RX4 17 "HailCity$Row" "riders" "[LHailCity$Request;") (by decide +kernel)) (fun _ h9 => h9) rfl dX4_dropRider_39 ?_
          refine zz_iload_n hx hb hl 2 dX4_dropRider_42 rfl rfl ?_
          refine zz_aald (w := zr ad 23 (σ1 21 d ((i).toNat))) hx hb hK hW1 (zlN (hX 21 d (decide_eq_true hd))) rfl rfl (by show (0 : Int) ≤ i; omega) (by show i < (8 : Int); omega) rfl dX4_dropRider_43 ?_
          refine zz_aload_n hx hb hl 1 dX4_dropRider_44 rfl rfl ?_
          refine zz_acmp_ne (tgt := 55) hx hb hW1 (hW1.2.2.2.1 21 _ ((i).toNat) ((zlN (hX 21 d (decide_eq_true hd)))).2 (Nat.le_of_ble_eq_true rfl) (Nat.le_of_ble_eq_true rfl)) hv0 dX4_dropRider_45 (by decide) (fun hc45 => ?_) (fun hc45 => ?_)
          · refine zz_iinc (lv' := [(2, .int (zi (i + (-1)))), (0, zr ad 18 ((d : Nat) : Int)), (1, zr ad 23 v)]) hx hb hl dX4_dropRider_55 (k0 := 2) rfl (by decide) rfl (fun ls hl => ?_)
            refine zz_goto (tgt := 7) hx hb dX4_dropRider_58 (by decide) ?_
            refine ih7 (i + (-1)) σ1 H1 locs1 ls ?_ (by omega) hW1 hS1 (zh_sub hl [1, 2, 0] rfl)
            refine ⟨by omega, by omega, ?_, ?_⟩
            · rcases hi3 with ⟨a1, a2, a3⟩ | ⟨a1, a2, a3⟩
              · obtain ⟨b1, b2, b3⟩ := a3 i.toNat (by omega)
                have hne : (q : Int) ≠ i := fun w => by rw [show i.toNat = q by omega] at *; split at b2 <;> omega
                refine Or.inl ⟨by omega, a2, fun j hj => ?_⟩
                obtain ⟨c1, c2, c3⟩ := a3 j hj
                rw [c1, c2, c3]
                by_cases hji : j = i.toNat
                · subst hji
                  refine ⟨?_, ?_, ?_⟩ <;> (repeat' split) <;> first | rfl | omega
                · refine ⟨?_, ?_, ?_⟩ <;> (repeat' split) <;> first | rfl | omega
              · obtain ⟨b1, b2, b3⟩ := a3 i.toNat (by omega)
                refine Or.inr ⟨by omega, a2, fun j hj => ?_⟩
                obtain ⟨c1, c2, c3⟩ := a3 j hj
                rw [c1, c2, c3]
                by_cases hji : j = i.toNat
                · subst hji
                  refine ⟨?_, ?_, ?_⟩ <;> (repeat' split) <;> first | rfl | omega
                · refine ⟨?_, ?_, ?_⟩ <;> (repeat' split) <;> first | rfl | omega
            · exact hi4
          · refine zz_aload_n hx hb hl 0 dX4_dropRider_48 rfl rfl ?_
            refine zz_get (T := TX4) (N := 4) (k := 1) (κ := 18) (w := zr ad 21 ((d : Nat) : Int)) hx hb hts hinX4 hown hK hW1 (zlN (hX 18 d (decide_eq_true hd))) rfl rfl rfl (by decide) (hts (.fieldLink RX4 17 "HailCity$Row" "riders" "[LHailCity$Request;") (by decide +kernel)) (fun _ h9 => h9) rfl dX4_dropRider_49 ?_
            refine zz_iload_n hx hb hl 2 dX4_dropRider_52 rfl rfl ?_
            refine zz_null hx hb dX4_dropRider_53 ad 23 ?_
            refine zz_aast (κ := 21) (κ' := 23) (x := i) (y := (-1)) hx hb hK hW1 hS1 (zlN (hX 21 d (decide_eq_true hd))) rfl (Nat.le_of_ble_eq_true rfl) (Nat.le_of_ble_eq_true rfl) rfl rfl rfl rfl (by show (0 : Int) ≤ i; omega) (by show i < (8 : Int); omega) (Or.inl (by decide)) ⟨by decide, by decide⟩ dX4_dropRider_54 (fun H2 locs2 hW2' hS2 => ?_)
            obtain ⟨σ2, hs2⟩ : ∃ z, z = zu σ1 21 d ((i).toNat) (-1) := ⟨_, rfl⟩
            have hW2 : ZW G ad A σ2 H2 := by rw [hs2]; exact hW2'
            refine zz_iinc (lv' := [(2, .int (zi (i + (-1)))), (0, zr ad 18 ((d : Nat) : Int)), (1, zr ad 23 v)]) hx hb hl dX4_dropRider_55 (k0 := 2) rfl (by decide) rfl (fun ls hl => ?_)
            refine zz_goto (tgt := 7) hx hb dX4_dropRider_58 (by decide) ?_
            refine ih7 (i + (-1)) σ2 H2 locs2 ls ?_ (by omega) hW2 hS2 (zh_sub hl [1, 2, 0] rfl)
            refine ⟨by omega, by omega, ?_, ?_⟩
            · rcases hi3 with ⟨a1, a2, a3⟩ | ⟨a1, a2, a3⟩
              · obtain ⟨b1, b2, b3⟩ := a3 i.toNat (by omega)
                have hne : (q : Int) ≠ i := fun w => by rw [show i.toNat = q by omega] at *; omega
                refine Or.inl ⟨by omega, by rw [hs2, zu_ne (by omega)]; exact a2, fun j hj => ?_⟩
                obtain ⟨c1, c2, c3⟩ := a3 j hj
                rw [if_neg (by omega)] at b2
                simp only [hs2, zu, Nat.reduceEqDiff, false_and, and_false, true_and, and_true, reduceIte]
                rw [c1, c2, c3]
                by_cases hji : j = i.toNat
                · subst hji
                  refine ⟨?_, ?_, ?_⟩ <;> (repeat' split) <;> first | rfl | omega
                · refine ⟨?_, ?_, ?_⟩ <;> (repeat' split) <;> first | rfl | omega
              · obtain ⟨b1, b2, b3⟩ := a3 i.toNat (by omega)
                refine Or.inr ⟨by omega, by rw [hs2, zu_ne (by omega)]; exact a2, fun j hj => ?_⟩
                obtain ⟨c1, c2, c3⟩ := a3 j hj
                rw [if_neg (by omega)] at b2
                simp only [hs2, zu, Nat.reduceEqDiff, false_and, and_false, true_and, and_true, reduceIte]
                rw [c1, c2, c3]
                by_cases hji : j = i.toNat
                · subst hji
                  refine ⟨?_, ?_, ?_⟩ <;> (repeat' split) <;> first | rfl | omega
                · refine ⟨?_, ?_, ?_⟩ <;> (repeat' split) <;> first | rfl | omega
            · intro κ' i' k' hn
              rw [hs2, zu_ne (by omega)]
              exact hi4 _ _ _ hn
        · refine zz_aload_n hx hb hl 0 dX4_dropRider_21 rfl rfl ?_
          refine zz_get (T := TX4) (N := 4) (k := 2) (κ := 18) (w := zr ad 22 ((d : Nat) : Int)) hx hb hts hinX4 hown hK hW1 (zlN (hX 18 d (decide_eq_true hd))) rfl rfl rfl (by decide) (hts (.fieldLink RX4 21 "HailCity$Row" "letOuts" "[Z") (by decide +kernel)) (fun _ h9 => h9) rfl dX4_dropRider_22 ?_
          refine zz_iload_n hx hb hl 2 dX4_dropRider_25 rfl rfl ?_
          refine zz_zald (w := σ1 22 d ((i).toNat)) hx hb hK hW1 (zlN (hX 22 d (decide_eq_true hd))) rfl rfl rfl (by show (0 : Int) ≤ i; omega) (by show i < (8 : Int); omega) rfl dX4_dropRider_26 ?_
          have hb22 := hW1.2.2.2.2 22 d i.toNat rfl
          refine zz_if_eq (tgt := 38) hx hb dX4_dropRider_27 (by decide) (hW1.2.2.1 _ _ _) (fun hc27 => ?_) (fun hc27 => ?_)
          · refine zz_aload_n hx hb hl 0 dX4_dropRider_38 rfl rfl ?_
            refine zz_get (T := TX4) (N := 4) (k := 1) (κ := 18) (w := zr ad 21 ((d : Nat) : Int)) hx hb hts hinX4 hown hK hW1 (zlN (hX 18 d (decide_eq_true hd))) rfl rfl rfl (by decide) (hts (.fieldLink RX4 17 "HailCity$Row" "riders" "[LHailCity$Request;") (by decide +kernel)) (fun _ h9 => h9) rfl dX4_dropRider_39 ?_
            refine zz_iload_n hx hb hl 2 dX4_dropRider_42 rfl rfl ?_
            refine zz_aald (w := zr ad 23 (σ1 21 d ((i).toNat))) hx hb hK hW1 (zlN (hX 21 d (decide_eq_true hd))) rfl rfl (by show (0 : Int) ≤ i; omega) (by show i < (8 : Int); omega) rfl dX4_dropRider_43 ?_
            refine zz_aload_n hx hb hl 1 dX4_dropRider_44 rfl rfl ?_
            refine zz_acmp_ne (tgt := 55) hx hb hW1 (hW1.2.2.2.1 21 _ ((i).toNat) ((zlN (hX 21 d (decide_eq_true hd)))).2 (Nat.le_of_ble_eq_true rfl) (Nat.le_of_ble_eq_true rfl)) hv0 dX4_dropRider_45 (by decide) (fun hc45 => ?_) (fun hc45 => ?_)
            · refine zz_iinc (lv' := [(2, .int (zi (i + (-1)))), (0, zr ad 18 ((d : Nat) : Int)), (1, zr ad 23 v)]) hx hb hl dX4_dropRider_55 (k0 := 2) rfl (by decide) rfl (fun ls hl => ?_)
              refine zz_goto (tgt := 7) hx hb dX4_dropRider_58 (by decide) ?_
              refine ih7 (i + (-1)) σ1 H1 locs1 ls ?_ (by omega) hW1 hS1 (zh_sub hl [1, 2, 0] rfl)
              refine ⟨by omega, by omega, ?_, ?_⟩
              · rcases hi3 with ⟨a1, a2, a3⟩ | ⟨a1, a2, a3⟩
                · obtain ⟨b1, b2, b3⟩ := a3 i.toNat (by omega)
                  have hne : (q : Int) ≠ i := fun w => by rw [show i.toNat = q by omega] at *; split at b2 <;> omega
                  refine Or.inl ⟨by omega, a2, fun j hj => ?_⟩
                  obtain ⟨c1, c2, c3⟩ := a3 j hj
                  rw [c1, c2, c3]
                  by_cases hji : j = i.toNat
                  · subst hji
                    refine ⟨?_, ?_, ?_⟩ <;> (repeat' split) <;> first | rfl | omega
                  · refine ⟨?_, ?_, ?_⟩ <;> (repeat' split) <;> first | rfl | omega
                · obtain ⟨b1, b2, b3⟩ := a3 i.toNat (by omega)
                  refine Or.inr ⟨by omega, a2, fun j hj => ?_⟩
                  obtain ⟨c1, c2, c3⟩ := a3 j hj
                  rw [c1, c2, c3]
                  by_cases hji : j = i.toNat
                  · subst hji
                    refine ⟨?_, ?_, ?_⟩ <;> (repeat' split) <;> first | rfl | omega
                  · refine ⟨?_, ?_, ?_⟩ <;> (repeat' split) <;> first | rfl | omega
              · exact hi4
            · refine zz_aload_n hx hb hl 0 dX4_dropRider_48 rfl rfl ?_
              refine zz_get (T := TX4) (N := 4) (k := 1) (κ := 18) (w := zr ad 21 ((d : Nat) : Int)) hx hb hts hinX4 hown hK hW1 (zlN (hX 18 d (decide_eq_true hd))) rfl rfl rfl (by decide) (hts (.fieldLink RX4 17 "HailCity$Row" "riders" "[LHailCity$Request;") (by decide +kernel)) (fun _ h9 => h9) rfl dX4_dropRider_49 ?_
              refine zz_iload_n hx hb hl 2 dX4_dropRider_52 rfl rfl ?_
              refine zz_null hx hb dX4_dropRider_53 ad 23 ?_
              refine zz_aast (κ := 21) (κ' := 23) (x := i) (y := (-1)) hx hb hK hW1 hS1 (zlN (hX 21 d (decide_eq_true hd))) rfl (Nat.le_of_ble_eq_true rfl) (Nat.le_of_ble_eq_true rfl) rfl rfl rfl rfl (by show (0 : Int) ≤ i; omega) (by show i < (8 : Int); omega) (Or.inl (by decide)) ⟨by decide, by decide⟩ dX4_dropRider_54 (fun H3 locs3 hW3' hS3 => ?_)
              obtain ⟨σ3, hs3⟩ : ∃ z, z = zu σ1 21 d ((i).toNat) (-1) := ⟨_, rfl⟩
              have hW3 : ZW G ad A σ3 H3 := by rw [hs3]; exact hW3'
              refine zz_iinc (lv' := [(2, .int (zi (i + (-1)))), (0, zr ad 18 ((d : Nat) : Int)), (1, zr ad 23 v)]) hx hb hl dX4_dropRider_55 (k0 := 2) rfl (by decide) rfl (fun ls hl => ?_)
              refine zz_goto (tgt := 7) hx hb dX4_dropRider_58 (by decide) ?_
              refine ih7 (i + (-1)) σ3 H3 locs3 ls ?_ (by omega) hW3 hS3 (zh_sub hl [1, 2, 0] rfl)
              refine ⟨by omega, by omega, ?_, ?_⟩
              · rcases hi3 with ⟨a1, a2, a3⟩ | ⟨a1, a2, a3⟩
                · obtain ⟨b1, b2, b3⟩ := a3 i.toNat (by omega)
                  have hne : (q : Int) ≠ i := fun w => by rw [show i.toNat = q by omega] at *; omega
                  refine Or.inl ⟨by omega, by rw [hs3, zu_ne (by omega)]; exact a2, fun j hj => ?_⟩
                  obtain ⟨c1, c2, c3⟩ := a3 j hj
                  rw [if_neg (by omega)] at b2
                  simp only [hs3, zu, Nat.reduceEqDiff, false_and, and_false, true_and, and_true, reduceIte]
                  rw [c1, c2, c3]
                  by_cases hji : j = i.toNat
                  · subst hji
                    refine ⟨?_, ?_, ?_⟩ <;> (repeat' split) <;> first | rfl | omega
                  · refine ⟨?_, ?_, ?_⟩ <;> (repeat' split) <;> first | rfl | omega
                · obtain ⟨b1, b2, b3⟩ := a3 i.toNat (by omega)
                  refine Or.inr ⟨by omega, by rw [hs3, zu_ne (by omega)]; exact a2, fun j hj => ?_⟩
                  obtain ⟨c1, c2, c3⟩ := a3 j hj
                  rw [if_neg (by omega)] at b2
                  simp only [hs3, zu, Nat.reduceEqDiff, false_and, and_false, true_and, and_true, reduceIte]
                  rw [c1, c2, c3]
                  by_cases hji : j = i.toNat
                  · subst hji
                    refine ⟨?_, ?_, ?_⟩ <;> (repeat' split) <;> first | rfl | omega
                  · refine ⟨?_, ?_, ?_⟩ <;> (repeat' split) <;> first | rfl | omega
              · intro κ' i' k' hn
                rw [hs3, zu_ne (by omega)]
                exact hi4 _ _ _ hn
          · refine zz_aload_n hx hb hl 0 dX4_dropRider_30 rfl rfl ?_
            refine zz_iload_n hx hb hl 2 dX4_dropRider_31 rfl rfl ?_
            refine zz_callV (T := TX4) (N := 4) (As := [.int (zi i)]) (rest := []) (v := ((d : Nat) : Int)) (κ := 18) ⟨hx, hb, hml, hown, hts⟩ (c_X4_take l G ad A N0 σ1 nd nr hX d hd i ⟨by omega, by omega⟩ (by omega) (by rcases hi3 with ⟨a1, a2, a3⟩ | ⟨a1, a2, a3⟩ <;> omega) (by omega)) (cwV 1 hts gX4_dropRider_X4_take rfl rfl rfl (by decide +kernel) ⟨Nat.le_of_ble_eq_true rfl, Nat.le_of_ble_eq_true rfl⟩) hK hW1 (zlN (hX 18 d (decide_eq_true hd))) rfl rfl (Nat.le_trans hsz hS1.1) hS1 rfl hl.1.1 rfl (Nat.le_of_ble_eq_true rfl) dX4_dropRider_32 ⟨Nat.le_of_ble_eq_true rfl, Nat.le_of_ble_eq_true rfl⟩ (fun x4 σ4 H4 locs4 hp4 hW4 hz4 hS4 => ?_)
            refine W.eq (g2 := F0 m 35 ls []) rfl ?_
            refine zz_goto (tgt := 55) hx hb dX4_dropRider_35 (by decide) ?_
            refine zz_iinc (lv' := [(2, .int (zi (i + (-1)))), (0, zr ad 18 ((d : Nat) : Int)), (1, zr ad 23 v)]) hx hb hl dX4_dropRider_55 (k0 := 2) rfl (by decide) rfl (fun ls hl => ?_)
            refine zz_goto (tgt := 7) hx hb dX4_dropRider_58 (by decide) ?_
            refine ih7 (i + (-1)) σ4 H4 locs4 ls ?_ (by omega) hW4 hS4 (zh_sub hl [1, 2, 0] rfl)
            refine ⟨by omega, by omega, ?_, ?_⟩
            · rcases hi3 with ⟨a1, a2, a3⟩ | ⟨a1, a2, a3⟩
              · obtain ⟨b1, b2, b3⟩ := a3 i.toNat (by omega)
                have hiq : i = q := by
                  rcases Nat.lt_or_ge q i.toNat with w | w
                  · have := hu i.toNat (by omega) (by omega) (by split at b2 <;> omega)
                    omega
                  · omega
                obtain ⟨e1, e2, e3⟩ := hp4
                refine Or.inr ⟨by omega, by omega, fun j hj => ?_⟩
                obtain ⟨c1, c2, c3⟩ := e2 j (by omega)
                obtain ⟨f1, f2, f3⟩ := a3 j (by omega)
                obtain ⟨g1, g2, g3⟩ := a3 (j + 1) (by omega)
                rw [c1, c2, c3]
                unfold zdel
                rw [f1, f2, f3, g1, g2, g3]
                refine ⟨?_, ?_, ?_⟩ <;> (repeat' split) <;> first | rfl | omega
              · obtain ⟨b1, b2, b3⟩ := a3 i.toNat (by omega)
                exfalso
                have hdz : zdel q (σ 21 d) i.toNat = σ 21 d i.toNat := if_pos (by omega)
                have hdz2 : zdel q (σ 22 d) i.toNat = σ 22 d i.toNat := if_pos (by omega)
                have := hu i.toNat (by omega) (by omega) (by split at b2 <;> omega)
                omega
            · intro κ' i' k' hn
              rw [hp4.2.2 _ _ _ hn]
              exact hi4 _ _ _ hn
  refine hcut7 _ (σ 18 d 3 - 1) σ s.heap [] ls ?_ (Nat.lt_succ_self _) hW0 hS0 (zh_sub hl [1, 2, 0] rfl)
  refine ⟨by omega, by omega, Or.inl ⟨by omega, rfl, fun j hj => ⟨rfl, ?_, rfl⟩⟩, fun _ _ _ _ => rfl⟩
  rw [if_neg (by omega)]
