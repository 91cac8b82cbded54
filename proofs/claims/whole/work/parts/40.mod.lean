set_option maxHeartbeats 4000000 in
set_option maxRecDepth 100000 in
theorem c_X7_thrown (l : Launch) (G : zG) (ad : zA) (A : Nat → Prop) (N0 : Nat) (σ : zS) (hM : zMm ad) : Met l yX7_thrown wsX7_thrown ({ frames := 0, cells := 0, slots := 0, locals := 0 }) (zP G ad A N0 σ [zr ad 30 ((0 : Nat) : Int)]) (zQ G ad A zri (fun r u => σ = u ∧ σ 30 0 0 = r)) 0 0 A := by
  refine zz_of (cc := cX7_thrown) (maxL := 1) (ret := (some .int)) (by decide) rfl ⟨rfl, rfl⟩ (List.forall_mem_cons.mpr ⟨zr_cat _ _ _, fun _ h => absurd h List.not_mem_nil⟩) (Nat.le_of_ble_eq_true rfl) ?_
  intro p e s m below meth c hx hb hr hml hts hown hlocks hsz hW0 hK ls hl
  have hS0 : va_S A s.heap s.heap [] := va_S.rf
  have hl : zh ls 1 [(0, zr ad 30 ((0 : Nat) : Int))] := hl
  have hinX7 : ∀ w ∈ u_ws RX7 TX7 42, w ∈ wsX7_thrown := by decide +kernel
  refine zz_aload_n hx hb hl 0 dX7_thrown_0 rfl rfl ?_
  refine zz_get (T := TX7) (N := 42) (k := 0) (κ := 30) (w := .int (zi (σ 30 0 0))) hx hb hts hinX7 hown hK hW0 (zlN (hM 30 rfl)) rfl rfl rfl (by decide) (hts (.fieldLink RX7 120 "HailCityModel" "thrown" "I") (by decide +kernel)) (fun _ h9 => h9) rfl dX7_thrown_1 ?_
  refine W.eq (g2 := F0 m 4 ls [.int (zi (σ 30 0 0))]) rfl ?_
  refine zz_reti hx hb hr hlocks hW0 hS0 ?_ dX7_thrown_4
  exact ⟨rfl, rfl⟩

set_option maxHeartbeats 4000000 in
set_option maxRecDepth 100000 in
theorem c_X7_in (l : Launch) (G : zG) (ad : zA) (A : Nat → Prop) (N0 : Nat) (σ : zS) (a b c9 : Int) (ga : zg a) (gb : zg b) (gc : zg c9) : Met l yX7_in wsX7_in ({ frames := 0, cells := 0, slots := 0, locals := 0 }) (zP G ad A N0 σ [.int (zi a), .int (zi b), .int (zi c9)]) (zQ G ad A zri (fun r u => σ = u ∧ zb (b ≤ a ∧ a ≤ c9) = r)) 0 0 A := by
  refine zz_of (cc := cX7_in) (maxL := 3) (ret := (some .boolean)) (by decide) rfl ⟨rfl, rfl⟩ (List.forall_mem_cons.mpr ⟨rfl, List.forall_mem_cons.mpr ⟨rfl, List.forall_mem_cons.mpr ⟨rfl, fun _ h => absurd h List.not_mem_nil⟩⟩⟩) (Nat.le_of_ble_eq_true rfl) ?_
  intro p e s m below meth c hx hb hr hml hts hown hlocks hsz hW0 hK ls hl
  have hS0 : va_S A s.heap s.heap [] := va_S.rf
  have hl : zh ls 3 [(0, .int (zi a)), (1, .int (zi b)), (2, .int (zi c9))] := hl
  refine zz_iload_n hx hb hl 0 dX7_in_0 rfl rfl ?_
  refine zz_iload_n hx hb hl 1 dX7_in_1 rfl rfl ?_
  refine zz_icmp_lt (tgt := 14) hx hb dX7_in_2 (by decide) ga gb (fun hc2 => ?_) (fun hc2 => ?_)
  · refine zz_iconst hx hb dX7_in_14 ?_
    refine W.eq (g2 := F0 m 15 ls [.int (zi 0)]) rfl ?_
    refine zz_retz hx hb hr hlocks hW0 hS0 (by decide) ?_ dX7_in_15
    first | exact ⟨rfl, zb_t (by omega)⟩ | exact ⟨rfl, zb_f (by omega)⟩
  · refine zz_iload_n hx hb hl 0 dX7_in_5 rfl rfl ?_
    refine zz_iload_n hx hb hl 2 dX7_in_6 rfl rfl ?_
    refine zz_icmp_gt (tgt := 14) hx hb dX7_in_7 (by decide) ga gc (fun hc7 => ?_) (fun hc7 => ?_)
    · refine zz_iconst hx hb dX7_in_14 ?_
      refine W.eq (g2 := F0 m 15 ls [.int (zi 0)]) rfl ?_
      refine zz_retz hx hb hr hlocks hW0 hS0 (by decide) ?_ dX7_in_15
      first | exact ⟨rfl, zb_t (by omega)⟩ | exact ⟨rfl, zb_f (by omega)⟩
    · refine zz_iconst hx hb dX7_in_10 ?_
      refine zz_goto (tgt := 15) hx hb dX7_in_11 (by decide) ?_
      refine W.eq (g2 := F0 m 15 ls [.int (zi 1)]) rfl ?_
      refine zz_retz hx hb hr hlocks hW0 hS0 (by decide) ?_ dX7_in_15
      first | exact ⟨rfl, zb_t (by omega)⟩ | exact ⟨rfl, zb_f (by omega)⟩

set_option maxHeartbeats 4000000 in
set_option maxRecDepth 100000 in
theorem c_X7_refused (l : Launch) (G : zG) (ad : zA) (A : Nat → Prop) (N0 : Nat) (σ : zS) (hM : zMm ad) (w : Int) (gw : zg w) : Met l yX7_refused wsX7_refused ({ frames := 0, cells := 0, slots := 0, locals := 0 }) (zP G ad A N0 σ [zr ad 30 ((0 : Nat) : Int), .int (zi w)]) (zQ G ad A zri (fun r u => zu σ 30 0 0 w = u ∧ zb (w ≠ 0) = r)) 0 0 A := by
  refine zz_of (cc := cX7_refused) (maxL := 2) (ret := (some .boolean)) (by decide) rfl ⟨rfl, rfl⟩ (List.forall_mem_cons.mpr ⟨zr_cat _ _ _, List.forall_mem_cons.mpr ⟨rfl, fun _ h => absurd h List.not_mem_nil⟩⟩) (Nat.le_of_ble_eq_true rfl) ?_
  intro p e s m below meth c hx hb hr hml hts hown hlocks hsz hW0 hK ls hl
  have hS0 : va_S A s.heap s.heap [] := va_S.rf
  have hl : zh ls 2 [(0, zr ad 30 ((0 : Nat) : Int)), (1, .int (zi w))] := hl
  have hinX7 : ∀ w ∈ u_ws RX7 TX7 42, w ∈ wsX7_refused := by decide +kernel
  refine zz_aload_n hx hb hl 0 dX7_refused_0 rfl rfl ?_
  refine zz_iload_n hx hb hl 1 dX7_refused_1 rfl rfl ?_
  refine zz_put (T := TX7) (N := 42) (k := 0) (κ := 30) (v := ((0 : Nat) : Int)) (x := w) (ty := .int) hx hb hts hinX7 tyX7 tyX7_ok nmX7 hown hK hW0 hS0 (zlN (hM 30 rfl)) rfl rfl rfl (by decide) (hts (.fieldLink RX7 120 "HailCityModel" "thrown" "I") (by decide +kernel)) (fun _ h9 => h9) rfl (by decide +kernel) rfl rfl rfl gw (fun h9 _ => absurd h9 (by decide)) (fun h9 => absurd h9 (by decide)) dX7_refused_2 (fun H1 locs1 hW1' hS1 => ?_)
  obtain ⟨σ1, hs1⟩ : ∃ z, z = zu σ 30 0 0 w := ⟨_, rfl⟩
  have hW1 : ZW G ad A σ1 H1 := by rw [hs1]; exact hW1'
  refine zz_iload_n hx hb hl 1 dX7_refused_5 rfl rfl ?_
  refine zz_if_eq (tgt := 13) hx hb dX7_refused_6 (by decide) gw (fun hc6 => ?_) (fun hc6 => ?_)
  · refine zz_iconst hx hb dX7_refused_13 ?_
    refine W.eq (g2 := F0 m 14 ls [.int (zi 0)]) rfl ?_
    refine zz_retz hx hb hr hlocks hW1 hS1 (by decide) ?_ dX7_refused_14
    first | exact ⟨hs1.symm, zb_t hc6⟩ | exact ⟨hs1.symm, zb_f (fun q => q hc6)⟩
  · refine zz_iconst hx hb dX7_refused_9 ?_
    refine zz_goto (tgt := 14) hx hb dX7_refused_10 (by decide) ?_
    refine W.eq (g2 := F0 m 14 ls [.int (zi 1)]) rfl ?_
    refine zz_retz hx hb hr hlocks hW1 hS1 (by decide) ?_ dX7_refused_14
    first | exact ⟨hs1.symm, zb_t hc6⟩ | exact ⟨hs1.symm, zb_f (fun q => q hc6)⟩

set_option maxHeartbeats 4000000 in
set_option maxRecDepth 100000 in
theorem c_X7_isPlace (l : Launch) (G : zG) (ad : zA) (A : Nat → Prop) (N0 : Nat) (σ : zS) (a : Int) (ga : zg a) : Met l yX7_isPlace wsX7_isPlace ({ frames := 1, cells := 0, slots := 0, locals := 22 }) (zP G ad A N0 σ [.int (zi a)]) (zQ G ad A zri (fun r u => σ = u ∧ zb (0 ≤ a ∧ a ≤ 9) = r)) 0 0 A := by
  refine zz_of (cc := cX7_isPlace) (maxL := 1) (ret := (some .boolean)) (by decide) rfl ⟨rfl, rfl⟩ (List.forall_mem_cons.mpr ⟨rfl, fun _ h => absurd h List.not_mem_nil⟩) (Nat.le_of_ble_eq_true rfl) ?_
  intro p e s m below meth c hx hb hr hml hts hown hlocks hsz hW0 hK ls hl
  have hS0 : va_S A s.heap s.heap [] := va_S.rf
  have hl : zh ls 1 [(0, .int (zi a))] := hl
  refine zz_iload_n hx hb hl 0 dX7_isPlace_0 rfl rfl ?_
  refine zz_iconst hx hb dX7_isPlace_1 ?_
  refine zz_bipush hx hb dX7_isPlace_2 (by decide +kernel) ?_
  refine zz_callS (As := [.int (zi a), .int (zi 0), .int (zi 9)]) (rest := []) ⟨hx, hb, hml, hown, hts⟩ (c_X7_in l G ad A N0 σ a 0 9 ga ⟨by decide, by decide⟩ ⟨by decide, by decide⟩) (va_cwS 3 hts gX7_isPlace_X7_in rfl rfl rfl (by decide +kernel) ⟨Nat.le_of_ble_eq_true rfl, Nat.le_of_ble_eq_true rfl⟩) hK hW0 (Nat.le_trans hsz hS0.1) hS0 rfl hl.1.1 rfl (Nat.le_of_ble_eq_true rfl) dX7_isPlace_4 ⟨Nat.le_of_ble_eq_true rfl, Nat.le_of_ble_eq_true rfl⟩ (fun x1 σ1 H1 locs1 hp1 hW1 hz1 hS1 => ?_)
  obtain ⟨rfl, rfl⟩ := hp1
  refine W.eq (g2 := F0 m 7 ls [.int (zi (zb (0 ≤ a ∧ a ≤ 9)))]) rfl ?_
  refine W.eq (g2 := F0 m 7 ls [.int (zi (zb (0 ≤ a ∧ a ≤ 9)))]) rfl ?_
  refine zz_retz hx hb hr hlocks hW1 hS1 (zb_01 _) ?_ dX7_isPlace_7
  exact ⟨rfl, rfl⟩

set_option maxHeartbeats 4000000 in
set_option maxRecDepth 100000 in
theorem c_X7_isDriver (l : Launch) (G : zG) (ad : zA) (A : Nat → Prop) (N0 : Nat) (σ : zS) (hM : zMm ad) (a : Int) (ga : zg a) (hn : 0 ≤ σ 30 0 8 ∧ σ 30 0 8 ≤ 8) : Met l yX7_isDriver wsX7_isDriver ({ frames := 1, cells := 0, slots := 0, locals := 22 }) (zP G ad A N0 σ [zr ad 30 ((0 : Nat) : Int), .int (zi a)]) (zQ G ad A zri (fun r u => σ = u ∧ zb (0 ≤ a ∧ a ≤ σ 30 0 8 - 1) = r)) 0 0 A := by
  refine zz_of (cc := cX7_isDriver) (maxL := 2) (ret := (some .boolean)) (by decide) rfl ⟨rfl, rfl⟩ (List.forall_mem_cons.mpr ⟨zr_cat _ _ _, List.forall_mem_cons.mpr ⟨rfl, fun _ h => absurd h List.not_mem_nil⟩⟩) (Nat.le_of_ble_eq_true rfl) ?_
  intro p e s m below meth c hx hb hr hml hts hown hlocks hsz hW0 hK ls hl
  have hS0 : va_S A s.heap s.heap [] := va_S.rf
  have hl : zh ls 2 [(0, zr ad 30 ((0 : Nat) : Int)), (1, .int (zi a))] := hl
  have hinX7 : ∀ w ∈ u_ws RX7 TX7 42, w ∈ wsX7_isDriver := by decide +kernel
  refine zz_iload_n hx hb hl 1 dX7_isDriver_0 rfl rfl ?_
  refine zz_iconst hx hb dX7_isDriver_1 ?_
  refine zz_aload_n hx hb hl 0 dX7_isDriver_2 rfl rfl ?_
  refine zz_get (T := TX7) (N := 42) (k := 8) (κ := 30) (w := .int (zi (σ 30 0 8))) hx hb hts hinX7 hown hK hW0 (zlN (hM 30 rfl)) rfl rfl rfl (by decide) (hts (.fieldLink RX7 127 "HailCityModel" "drivers" "I") (by decide +kernel)) (fun _ h9 => h9) rfl dX7_isDriver_3 ?_
  refine zz_iconst hx hb dX7_isDriver_6 ?_
  refine zz_isub hx hb dX7_isDriver_7 ?_
  refine zz_callS (As := [.int (zi a), .int (zi 0), .int (zi ((σ 30 0 8) - 1))]) (rest := []) ⟨hx, hb, hml, hown, hts⟩ (c_X7_in l G ad A N0 σ a 0 (σ 30 0 8 - 1) ga ⟨by decide, by decide⟩ ⟨by omega, by omega⟩) (va_cwS 3 hts gX7_isDriver_X7_in rfl rfl rfl (by decide +kernel) ⟨Nat.le_of_ble_eq_true rfl, Nat.le_of_ble_eq_true rfl⟩) hK hW0 (Nat.le_trans hsz hS0.1) hS0 rfl hl.1.1 rfl (Nat.le_of_ble_eq_true rfl) dX7_isDriver_8 ⟨Nat.le_of_ble_eq_true rfl, Nat.le_of_ble_eq_true rfl⟩ (fun x1 σ1 H1 locs1 hp1 hW1 hz1 hS1 => ?_)
  obtain ⟨rfl, rfl⟩ := hp1
  refine W.eq (g2 := F0 m 11 ls [.int (zi (zb (0 ≤ a ∧ a ≤ σ 30 0 8 - 1)))]) rfl ?_
  refine W.eq (g2 := F0 m 11 ls [.int (zi (zb (0 ≤ a ∧ a ≤ σ 30 0 8 - 1)))]) rfl ?_
  refine zz_retz hx hb hr hlocks hW1 hS1 (zb_01 _) ?_ dX7_isDriver_11
  exact ⟨rfl, rfl⟩

set_option maxHeartbeats 4000000 in
set_option maxRecDepth 100000 in
theorem c_X7_isRequest (l : Launch) (G : zG) (ad : zA) (A : Nat → Prop) (N0 : Nat) (σ : zS) (hM : zMm ad) (a : Int) (ga : zg a) (hn : 0 ≤ σ 30 0 23 ∧ σ 30 0 23 ≤ 60) : Met l yX7_isRequest wsX7_isRequest ({ frames := 1, cells := 0, slots := 0, locals := 22 }) (zP G ad A N0 σ [zr ad 30 ((0 : Nat) : Int), .int (zi a)]) (zQ G ad A zri (fun r u => σ = u ∧ zb (0 ≤ a ∧ a ≤ σ 30 0 23 - 1) = r)) 0 0 A := by
  refine zz_of (cc := cX7_isRequest) (maxL := 2) (ret := (some .boolean)) (by decide) rfl ⟨rfl, rfl⟩ (List.forall_mem_cons.mpr ⟨zr_cat _ _ _, List.forall_mem_cons.mpr ⟨rfl, fun _ h => absurd h List.not_mem_nil⟩⟩) (Nat.le_of_ble_eq_true rfl) ?_
  intro p e s m below meth c hx hb hr hml hts hown hlocks hsz hW0 hK ls hl
  have hS0 : va_S A s.heap s.heap [] := va_S.rf
  have hl : zh ls 2 [(0, zr ad 30 ((0 : Nat) : Int)), (1, .int (zi a))] := hl
  have hinX7 : ∀ w ∈ u_ws RX7 TX7 42, w ∈ wsX7_isRequest := by decide +kernel
  refine zz_iload_n hx hb hl 1 dX7_isRequest_0 rfl rfl ?_
  refine zz_iconst hx hb dX7_isRequest_1 ?_
  refine zz_aload_n hx hb hl 0 dX7_isRequest_2 rfl rfl ?_
  refine zz_get (T := TX7) (N := 42) (k := 23) (κ := 30) (w := .int (zi (σ 30 0 23))) hx hb hts hinX7 hown hK hW0 (zlN (hM 30 rfl)) rfl rfl rfl (by decide) (hts (.fieldLink RX7 130 "HailCityModel" "requests" "I") (by decide +kernel)) (fun _ h9 => h9) rfl dX7_isRequest_3 ?_
  refine zz_iconst hx hb dX7_isRequest_6 ?_
  refine zz_isub hx hb dX7_isRequest_7 ?_
  refine zz_callS (As := [.int (zi a), .int (zi 0), .int (zi ((σ 30 0 23) - 1))]) (rest := []) ⟨hx, hb, hml, hown, hts⟩ (c_X7_in l G ad A N0 σ a 0 (σ 30 0 23 - 1) ga ⟨by decide, by decide⟩ ⟨by omega, by omega⟩) (va_cwS 3 hts gX7_isRequest_X7_in rfl rfl rfl (by decide +kernel) ⟨Nat.le_of_ble_eq_true rfl, Nat.le_of_ble_eq_true rfl⟩) hK hW0 (Nat.le_trans hsz hS0.1) hS0 rfl hl.1.1 rfl (Nat.le_of_ble_eq_true rfl) dX7_isRequest_8 ⟨Nat.le_of_ble_eq_true rfl, Nat.le_of_ble_eq_true rfl⟩ (fun x1 σ1 H1 locs1 hp1 hW1 hz1 hS1 => ?_)
  obtain ⟨rfl, rfl⟩ := hp1
  refine W.eq (g2 := F0 m 11 ls [.int (zi (zb (0 ≤ a ∧ a ≤ σ 30 0 23 - 1)))]) rfl ?_
  refine W.eq (g2 := F0 m 11 ls [.int (zi (zb (0 ≤ a ∧ a ≤ σ 30 0 23 - 1)))]) rfl ?_
  refine zz_retz hx hb hr hlocks hW1 hS1 (zb_01 _) ?_ dX7_isRequest_11
  exact ⟨rfl, rfl⟩

set_option maxHeartbeats 4000000 in
set_option maxRecDepth 100000 in
theorem c_X7_wayOf (l : Launch) (G : zG) (ad : zA) (A : Nat → Prop) (N0 : Nat) (σ : zS) (hM : zMm ad) (a b : Nat) (ha : a < 10) (hb9 : b < 10) : Met l yX7_wayOf wsX7_wayOf ({ frames := 0, cells := 0, slots := 0, locals := 0 }) (zP G ad A N0 σ [zr ad 30 ((0 : Nat) : Int), .int (zi ((a : Nat) : Int)), .int (zi ((b : Nat) : Int))]) (zQ G ad A zri (fun r u => σ = u ∧ σ 47 0 (10 * a + b) = r)) 0 0 A := by
  refine zz_of (cc := cX7_wayOf) (maxL := 3) (ret := (some .int)) (by decide) rfl ⟨rfl, rfl⟩ (List.forall_mem_cons.mpr ⟨zr_cat _ _ _, List.forall_mem_cons.mpr ⟨rfl, List.forall_mem_cons.mpr ⟨rfl, fun _ h => absurd h List.not_mem_nil⟩⟩⟩) (Nat.le_of_ble_eq_true rfl) ?_
  intro p e s m below meth c hx hb hr hml hts hown hlocks hsz hW0 hK ls hl
  have hS0 : va_S A s.heap s.heap [] := va_S.rf
  have hl : zh ls 3 [(0, zr ad 30 ((0 : Nat) : Int)), (1, .int (zi ((a : Nat) : Int))), (2, .int (zi ((b : Nat) : Int)))] := hl
  have hinX7 : ∀ w ∈ u_ws RX7 TX7 42, w ∈ wsX7_wayOf := by decide +kernel
  refine zz_aload_n hx hb hl 0 dX7_wayOf_0 rfl rfl ?_
  refine zz_get (T := TX7) (N := 42) (k := 7) (κ := 30) (w := zr ad 47 ((0 : Nat) : Int)) hx hb hts hinX7 hown hK hW0 (zlN (hM 30 rfl)) rfl rfl rfl (by decide) (hts (.fieldLink RX7 23 "HailCityModel" "ways" "[I") (by decide +kernel)) (fun _ h9 => h9) rfl dX7_wayOf_1 ?_
  refine zz_bipush hx hb dX7_wayOf_4 (by decide +kernel) ?_
  refine zz_iload_n hx hb hl 1 dX7_wayOf_6 rfl rfl ?_
  refine zz_imul hx hb dX7_wayOf_7 ?_
  refine zz_iload_n hx hb hl 2 dX7_wayOf_8 rfl rfl ?_
  refine zz_iadd hx hb dX7_wayOf_9 ?_
  refine zz_iald (w := σ 47 0 ((10 * a) + b)) hx hb hK hW0 (zlN (hM 47 rfl)) rfl rfl rfl (by show (0 : Int) ≤ (((10 * a) + b : Nat) : Int); omega) (by show (((10 * a) + b : Nat) : Int) < (100 : Int); omega) rfl dX7_wayOf_10 ?_
  refine W.eq (g2 := F0 m 11 ls [.int (zi (σ 47 0 ((10 * a) + b)))]) rfl ?_
  refine zz_reti hx hb hr hlocks hW0 hS0 ?_ dX7_wayOf_11
  exact ⟨rfl, rfl⟩

def ymf (σ : zS) (d : Nat) : Prop := σ 52 0 d = 0 ∧ σ 50 0 d = 0 ∧ σ 51 0 d = 0
noncomputable def ybf (σ : zS) (d : Nat) : zS := @ite zS (ymf σ d) (Classical.propDecidable _) (zu (zu σ 30 0 17 (σ 30 0 17 + 1)) 56 0 d (σ 30 0 17 + 1)) σ
/-- the stops of d, n of them, one place down -/
def yms (σ : zS) (d n : Nat) : zS := fun κ i k => if (κ = 53 ∨ κ = 54) ∧ i = 0 ∧ 8 * d ≤ k ∧ k < 8 * d + n then σ κ i (k + 1) else σ κ i k
noncomputable def ymt (σ : zS) (d n : Nat) : zS :=
  if 100 ≤ σ 54 0 (8 * d) then zu (zu (zu (zu (zu (yms (zu σ 49 0 d (σ 53 0 (8 * d))) d n) 52 0 d n) 64 0 (σ 54 0 (8 * d) - 100).toNat 3) 72 0 (σ 54 0 (8 * d) - 100).toNat (σ 30 0 1)) 61 0 d (σ 61 0 d + 1)) 62 0 d (σ 62 0 d + σ 69 0 (σ 54 0 (8 * d) - 100).toNat)
  else if 0 ≤ σ 54 0 (8 * d) then zu (zu (yms (zu σ 49 0 d (σ 53 0 (8 * d))) d n) 52 0 d n) 64 0 (σ 54 0 (8 * d)).toNat 2
  else zu (yms (zu σ 49 0 d (σ 53 0 (8 * d))) d n) 52 0 d n

set_option maxHeartbeats 4000000 in
set_option maxRecDepth 100000 in
theorem c_X7_isFree (l : Launch) (G : zG) (ad : zA) (A : Nat → Prop) (N0 : Nat) (σ : zS) (hM : zMm ad) (d : Nat) (hd : d < 8) : Met l yX7_isFree wsX7_isFree ({ frames := 0, cells := 0, slots := 0, locals := 0 }) (zP G ad A N0 σ [zr ad 30 ((0 : Nat) : Int), .int (zi ((d : Nat) : Int))]) (zQ G ad A zri (fun r u => σ = u ∧ zb (ymf σ d) = r)) 0 0 A := by
  refine zz_of (cc := cX7_isFree) (maxL := 2) (ret := (some .boolean)) (by decide) rfl ⟨rfl, rfl⟩ (List.forall_mem_cons.mpr ⟨zr_cat _ _ _, List.forall_mem_cons.mpr ⟨rfl, fun _ h => absurd h List.not_mem_nil⟩⟩) (Nat.le_of_ble_eq_true rfl) ?_
  intro p e s m below meth c hx hb hr hml hts hown hlocks hsz hW0 hK ls hl
  have hS0 : va_S A s.heap s.heap [] := va_S.rf
  have hl : zh ls 2 [(0, zr ad 30 ((0 : Nat) : Int)), (1, .int (zi ((d : Nat) : Int)))] := hl
  have hinX7 : ∀ w ∈ u_ws RX7 TX7 42, w ∈ wsX7_isFree := by decide +kernel
  refine zz_aload_n hx hb hl 0 dX7_isFree_0 rfl rfl ?_
  refine zz_get (T := TX7) (N := 42) (k := 12) (κ := 30) (w := zr ad 52 ((0 : Nat) : Int)) hx hb hts hinX7 hown hK hW0 (zlN (hM 30 rfl)) rfl rfl rfl (by decide) (hts (.fieldLink RX7 36 "HailCityModel" "stops" "[I") (by decide +kernel)) (fun _ h9 => h9) rfl dX7_isFree_1 ?_
  refine zz_iload_n hx hb hl 1 dX7_isFree_4 rfl rfl ?_
  refine zz_iald (w := σ 52 0 d) hx hb hK hW0 (zlN (hM 52 rfl)) rfl rfl rfl (by show (0 : Int) ≤ ((d : Nat) : Int); omega) (by show ((d : Nat) : Int) < (8 : Int); omega) rfl dX7_isFree_5 ?_
  refine zz_if_ne (tgt := 31) hx hb dX7_isFree_6 (by decide) (hW0.2.2.1 _ _ _) (fun hc6 => ?_) (fun hc6 => ?_)
  · refine zz_iconst hx hb dX7_isFree_31 ?_
    refine W.eq (g2 := F0 m 32 ls [.int (zi 0)]) rfl ?_
    refine zz_retz hx hb hr hlocks hW0 hS0 (by decide) ?_ dX7_isFree_32
    first | exact ⟨rfl, zb_t ⟨hc6, hc15, hc24⟩⟩ | exact ⟨rfl, zb_f (fun q => hc6 q.1)⟩ | exact ⟨rfl, zb_f (fun q => hc15 q.2.1)⟩ | exact ⟨rfl, zb_f (fun q => hc24 q.2.2)⟩
  · refine zz_aload_n hx hb hl 0 dX7_isFree_9 rfl rfl ?_
    refine zz_get (T := TX7) (N := 42) (k := 10) (κ := 30) (w := zr ad 50 ((0 : Nat) : Int)) hx hb hts hinX7 hown hK hW0 (zlN (hM 30 rfl)) rfl rfl rfl (by decide) (hts (.fieldLink RX7 29 "HailCityModel" "isResting" "[Z") (by decide +kernel)) (fun _ h9 => h9) rfl dX7_isFree_10 ?_
    refine zz_iload_n hx hb hl 1 dX7_isFree_13 rfl rfl ?_
    refine zz_zald (w := σ 50 0 d) hx hb hK hW0 (zlN (hM 50 rfl)) rfl rfl rfl (by show (0 : Int) ≤ ((d : Nat) : Int); omega) (by show ((d : Nat) : Int) < (8 : Int); omega) rfl dX7_isFree_14 ?_
    refine zz_if_ne (tgt := 31) hx hb dX7_isFree_15 (by decide) (hW0.2.2.1 _ _ _) (fun hc15 => ?_) (fun hc15 => ?_)
    · refine zz_iconst hx hb dX7_isFree_31 ?_
      refine W.eq (g2 := F0 m 32 ls [.int (zi 0)]) rfl ?_
      refine zz_retz hx hb hr hlocks hW0 hS0 (by decide) ?_ dX7_isFree_32
      first | exact ⟨rfl, zb_t ⟨hc6, hc15, hc24⟩⟩ | exact ⟨rfl, zb_f (fun q => hc6 q.1)⟩ | exact ⟨rfl, zb_f (fun q => hc15 q.2.1)⟩ | exact ⟨rfl, zb_f (fun q => hc24 q.2.2)⟩
    · refine zz_aload_n hx hb hl 0 dX7_isFree_18 rfl rfl ?_
      refine zz_get (T := TX7) (N := 42) (k := 11) (κ := 30) (w := zr ad 51 ((0 : Nat) : Int)) hx hb hts hinX7 hown hK hW0 (zlN (hM 30 rfl)) rfl rfl rfl (by decide) (hts (.fieldLink RX7 33 "HailCityModel" "isBarred" "[Z") (by decide +kernel)) (fun _ h9 => h9) rfl dX7_isFree_19 ?_
      refine zz_iload_n hx hb hl 1 dX7_isFree_22 rfl rfl ?_
      refine zz_zald (w := σ 51 0 d) hx hb hK hW0 (zlN (hM 51 rfl)) rfl rfl rfl (by show (0 : Int) ≤ ((d : Nat) : Int); omega) (by show ((d : Nat) : Int) < (8 : Int); omega) rfl dX7_isFree_23 ?_
      refine zz_if_ne (tgt := 31) hx hb dX7_isFree_24 (by decide) (hW0.2.2.1 _ _ _) (fun hc24 => ?_) (fun hc24 => ?_)
      · refine zz_iconst hx hb dX7_isFree_31 ?_
        refine W.eq (g2 := F0 m 32 ls [.int (zi 0)]) rfl ?_
        refine zz_retz hx hb hr hlocks hW0 hS0 (by decide) ?_ dX7_isFree_32
        first | exact ⟨rfl, zb_t ⟨hc6, hc15, hc24⟩⟩ | exact ⟨rfl, zb_f (fun q => hc6 q.1)⟩ | exact ⟨rfl, zb_f (fun q => hc15 q.2.1)⟩ | exact ⟨rfl, zb_f (fun q => hc24 q.2.2)⟩
      · refine zz_iconst hx hb dX7_isFree_27 ?_
        refine zz_goto (tgt := 32) hx hb dX7_isFree_28 (by decide) ?_
        refine W.eq (g2 := F0 m 32 ls [.int (zi 1)]) rfl ?_
        refine zz_retz hx hb hr hlocks hW0 hS0 (by decide) ?_ dX7_isFree_32
        first | exact ⟨rfl, zb_t ⟨hc6, hc15, hc24⟩⟩ | exact ⟨rfl, zb_f (fun q => hc6 q.1)⟩ | exact ⟨rfl, zb_f (fun q => hc15 q.2.1)⟩ | exact ⟨rfl, zb_f (fun q => hc24 q.2.2)⟩

set_option maxHeartbeats 4000000 in
set_option maxRecDepth 100000 in
theorem c_X7_becomesFree (l : Launch) (G : zG) (ad : zA) (A : Nat → Prop) (N0 : Nat) (σ : zS) (hM : zMm ad) (d : Nat) (hd : d < 8) (hgo : 0 ≤ σ 30 0 17 ∧ σ 30 0 17 < 2000000000) : Met l yX7_becomesFree wsX7_becomesFree ({ frames := 1, cells := 0, slots := 0, locals := 21 }) (zP G ad A N0 σ [zr ad 30 ((0 : Nat) : Int), .int (zi ((d : Nat) : Int))]) (zQ G ad A zrv (fun _ u => ybf σ d = u)) 0 0 A := by
  refine zz_of (cc := cX7_becomesFree) (maxL := 2) (ret := none) (by decide) rfl ⟨rfl, rfl⟩ (List.forall_mem_cons.mpr ⟨zr_cat _ _ _, List.forall_mem_cons.mpr ⟨rfl, fun _ h => absurd h List.not_mem_nil⟩⟩) (Nat.le_of_ble_eq_true rfl) ?_
  intro p e s m below meth c hx hb hr hml hts hown hlocks hsz hW0 hK ls hl
  have hS0 : va_S A s.heap s.heap [] := va_S.rf
  have hl : zh ls 2 [(0, zr ad 30 ((0 : Nat) : Int)), (1, .int (zi ((d : Nat) : Int)))] := hl
  have hinX7 : ∀ w ∈ u_ws RX7 TX7 42, w ∈ wsX7_becomesFree := by decide +kernel
  refine zz_aload_n hx hb hl 0 dX7_becomesFree_0 rfl rfl ?_
  refine zz_iload_n hx hb hl 1 dX7_becomesFree_1 rfl rfl ?_
  refine zz_callV (T := TX7) (N := 42) (As := [.int (zi ((d : Nat) : Int))]) (rest := []) (v := ((0 : Nat) : Int)) (κ := 30) ⟨hx, hb, hml, hown, hts⟩ (c_X7_isFree l G ad A N0 σ hM d hd) (cwV 1 hts gX7_becomesFree_X7_isFree rfl rfl rfl (by decide +kernel) ⟨Nat.le_of_ble_eq_true rfl, Nat.le_of_ble_eq_true rfl⟩) hK hW0 (zlN (hM 30 rfl)) rfl rfl (Nat.le_trans hsz hS0.1) hS0 rfl hl.1.1 rfl (Nat.le_of_ble_eq_true rfl) dX7_becomesFree_2 ⟨Nat.le_of_ble_eq_true rfl, Nat.le_of_ble_eq_true rfl⟩ (fun x1 σ1 H1 locs1 hp1 hW1 hz1 hS1 => ?_)
  obtain ⟨rfl, rfl⟩ := hp1
  refine W.eq (g2 := F0 m 5 ls [.int (zi (zb (ymf σ d)))]) rfl ?_
  refine zz_if_eqb (tgt := 28) hx hb dX7_becomesFree_5 (by decide) (fun hc5 => ?_) (fun hc5 => ?_)
  · refine W.eq (g2 := F0 m 28 ls []) rfl ?_
    refine zz_retv hx hb hr hlocks hW1 hS1 ?_ dX7_becomesFree_28
    first | exact (if_neg hc5) | exact (if_pos hc5).trans (by rw [])
  · refine zz_aload_n hx hb hl 0 dX7_becomesFree_8 rfl rfl ?_
    refine lv_dup hx hb dX7_becomesFree_9 (zr_cat _ _ _) ?_
    refine zz_get (T := TX7) (N := 42) (k := 17) (κ := 30) (w := .int (zi (σ 30 0 17))) hx hb hts hinX7 hown hK hW1 (zlN (hM 30 rfl)) rfl rfl rfl (by decide) (hts (.fieldLink RX7 151 "HailCityModel" "order" "I") (by decide +kernel)) (fun _ h9 => h9) rfl dX7_becomesFree_10 ?_
    refine zz_iconst hx hb dX7_becomesFree_13 ?_
    refine zz_iadd hx hb dX7_becomesFree_14 ?_
    refine zz_put (T := TX7) (N := 42) (k := 17) (κ := 30) (v := ((0 : Nat) : Int)) (x := ((σ 30 0 17) + 1)) (ty := .int) hx hb hts hinX7 tyX7 tyX7_ok nmX7 hown hK hW1 hS1 (zlN (hM 30 rfl)) rfl rfl rfl (by decide) (hts (.fieldLink RX7 151 "HailCityModel" "order" "I") (by decide +kernel)) (fun _ h9 => h9) rfl (by decide +kernel) rfl rfl rfl ⟨by omega, by omega⟩ (fun h9 _ => absurd h9 (by decide)) (fun h9 => absurd h9 (by decide)) dX7_becomesFree_15 (fun H2 locs2 hW2' hS2 => ?_)
    obtain ⟨σ2, hs2⟩ : ∃ z, z = zu σ 30 0 17 ((σ 30 0 17) + 1) := ⟨_, rfl⟩
    have hW2 : ZW G ad A σ2 H2 := by rw [hs2]; exact hW2'
    refine zz_aload_n hx hb hl 0 dX7_becomesFree_18 rfl rfl ?_
    refine zz_get (T := TX7) (N := 42) (k := 16) (κ := 30) (w := zr ad 56 ((0 : Nat) : Int)) hx hb hts hinX7 hown hK hW2 (zlN (hM 30 rfl)) rfl rfl rfl (by decide) (hts (.fieldLink RX7 48 "HailCityModel" "freeSince" "[I") (by decide +kernel)) (fun _ h9 => h9) rfl dX7_becomesFree_19 ?_
    refine zz_iload_n hx hb hl 1 dX7_becomesFree_22 rfl rfl ?_
    refine zz_aload_n hx hb hl 0 dX7_becomesFree_23 rfl rfl ?_
    refine zz_get (T := TX7) (N := 42) (k := 17) (κ := 30) (w := .int (zi ((σ 30 0 17) + 1))) hx hb hts hinX7 hown hK hW2 (zlN (hM 30 rfl)) rfl rfl rfl (by decide) (hts (.fieldLink RX7 151 "HailCityModel" "order" "I") (by decide +kernel)) (fun _ h9 => h9) (congrArg (fun z => Value.int (zi z)) (show σ2 30 0 17 = (σ 30 0 17) + 1 from by rw [hs2, zu_same])) dX7_becomesFree_24 ?_
    refine zz_iast (y := ((σ 30 0 17) + 1)) hx hb hK hW2 hS2 (zlN (hM 56 rfl)) rfl rfl rfl (by show (0 : Int) ≤ ((d : Nat) : Int); omega) (by show ((d : Nat) : Int) < (8 : Int); omega) ⟨by omega, by omega⟩ dX7_becomesFree_27 (fun H3 locs3 hW3' hS3 => ?_)
    obtain ⟨σ3, hs3⟩ : ∃ z, z = zu σ2 56 0 d ((σ 30 0 17) + 1) := ⟨_, rfl⟩
    have hW3 : ZW G ad A σ3 H3 := by rw [hs3]; exact hW3'
    refine W.eq (g2 := F0 m 28 ls []) rfl ?_
    refine zz_retv hx hb hr hlocks hW3 hS3 ?_ dX7_becomesFree_28
    first | exact (if_neg hc5) | exact (if_pos hc5).trans (by rw [hs3, hs2])

set_option maxHeartbeats 4000000 in
set_option maxRecDepth 100000 in
theorem c_X7_add (l : Launch) (G : zG) (ad : zA) (A : Nat → Prop) (N0 : Nat) (σ : zS) (hM : zMm ad) (d : Nat) (hd : d < 8) (n : Nat) (hn : σ 52 0 d = (n : Int)) (hn8 : n < 8) (a w : Int) (ga : zg a) (gw : zg w) : Met l yX7_add wsX7_add ({ frames := 0, cells := 0, slots := 0, locals := 0 }) (zP G ad A N0 σ [zr ad 30 ((0 : Nat) : Int), .int (zi ((d : Nat) : Int)), .int (zi a), .int (zi w)]) (zQ G ad A zrv (fun _ u => zu (zu (zu σ 53 0 (8 * d + n) a) 54 0 (8 * d + n) w) 52 0 d ((n : Int) + 1) = u)) 0 0 A := by
  refine zz_of (cc := cX7_add) (maxL := 4) (ret := none) (by decide) rfl ⟨rfl, rfl⟩ (List.forall_mem_cons.mpr ⟨zr_cat _ _ _, List.forall_mem_cons.mpr ⟨rfl, List.forall_mem_cons.mpr ⟨rfl, List.forall_mem_cons.mpr ⟨rfl, fun _ h => absurd h List.not_mem_nil⟩⟩⟩⟩) (Nat.le_of_ble_eq_true rfl) ?_
  intro p e s m below meth c hx hb hr hml hts hown hlocks hsz hW0 hK ls hl
  have hS0 : va_S A s.heap s.heap [] := va_S.rf
  have hl : zh ls 4 [(0, zr ad 30 ((0 : Nat) : Int)), (1, .int (zi ((d : Nat) : Int))), (2, .int (zi a)), (3, .int (zi w))] := hl
  have hinX7 : ∀ w ∈ u_ws RX7 TX7 42, w ∈ wsX7_add := by decide +kernel
  refine zz_aload_n hx hb hl 0 dX7_add_0 rfl rfl ?_
  refine zz_get (T := TX7) (N := 42) (k := 13) (κ := 30) (w := zr ad 53 ((0 : Nat) : Int)) hx hb hts hinX7 hown hK hW0 (zlN (hM 30 rfl)) rfl rfl rfl (by decide) (hts (.fieldLink RX7 39 "HailCityModel" "stopAt" "[I") (by decide +kernel)) (fun _ h9 => h9) rfl dX7_add_1 ?_
  refine zz_bipush hx hb dX7_add_4 (by decide +kernel) ?_
  refine zz_iload_n hx hb hl 1 dX7_add_6 rfl rfl ?_
  refine zz_imul hx hb dX7_add_7 ?_
  refine zz_aload_n hx hb hl 0 dX7_add_8 rfl rfl ?_
  refine zz_get (T := TX7) (N := 42) (k := 12) (κ := 30) (w := zr ad 52 ((0 : Nat) : Int)) hx hb hts hinX7 hown hK hW0 (zlN (hM 30 rfl)) rfl rfl rfl (by decide) (hts (.fieldLink RX7 36 "HailCityModel" "stops" "[I") (by decide +kernel)) (fun _ h9 => h9) rfl dX7_add_9 ?_
  refine zz_iload_n hx hb hl 1 dX7_add_12 rfl rfl ?_
  refine zz_iald (w := ((n : Nat) : Int)) hx hb hK hW0 (zlN (hM 52 rfl)) rfl rfl rfl (by show (0 : Int) ≤ ((d : Nat) : Int); omega) (by show ((d : Nat) : Int) < (8 : Int); omega) (show σ 52 0 d = ((n : Nat) : Int) from by rw [hn]) dX7_add_13 ?_
  refine zz_iadd hx hb dX7_add_14 ?_
  refine zz_iload_n hx hb hl 2 dX7_add_15 rfl rfl ?_
  refine zz_iast (y := a) hx hb hK hW0 hS0 (zlN (hM 53 rfl)) rfl rfl rfl (by show (0 : Int) ≤ (((8 * d) + n : Nat) : Int); omega) (by show (((8 * d) + n : Nat) : Int) < (64 : Int); omega) ga dX7_add_16 (fun H1 locs1 hW1' hS1 => ?_)
  obtain ⟨σ1, hs1⟩ : ∃ z, z = zu σ 53 0 ((8 * d) + n) a := ⟨_, rfl⟩
  have hW1 : ZW G ad A σ1 H1 := by rw [hs1]; exact hW1'
  refine zz_aload_n hx hb hl 0 dX7_add_17 rfl rfl ?_
  refine zz_get (T := TX7) (N := 42) (k := 14) (κ := 30) (w := zr ad 54 ((0 : Nat) : Int)) hx hb hts hinX7 hown hK hW1 (zlN (hM 30 rfl)) rfl rfl rfl (by decide) (hts (.fieldLink RX7 42 "HailCityModel" "stopWhom" "[I") (by decide +kernel)) (fun _ h9 => h9) rfl dX7_add_18 ?_
  refine zz_bipush hx hb dX7_add_21 (by decide +kernel) ?_
  refine zz_iload_n hx hb hl 1 dX7_add_23 rfl rfl ?_
  refine zz_imul hx hb dX7_add_24 ?_
  refine zz_aload_n hx hb hl 0 dX7_add_25 rfl rfl ?_
  refine zz_get (T := TX7) (N := 42) (k := 12) (κ := 30) (w := zr ad 52 ((0 : Nat) : Int)) hx hb hts hinX7 hown hK hW1 (zlN (hM 30 rfl)) rfl rfl rfl (by decide) (hts (.fieldLink RX7 36 "HailCityModel" "stops" "[I") (by decide +kernel)) (fun _ h9 => h9) rfl dX7_add_26 ?_
  refine zz_iload_n hx hb hl 1 dX7_add_29 rfl rfl ?_
  refine zz_iald (w := ((n : Nat) : Int)) hx hb hK hW1 (zlN (hM 52 rfl)) rfl rfl rfl (by show (0 : Int) ≤ ((d : Nat) : Int); omega) (by show ((d : Nat) : Int) < (8 : Int); omega) (show σ1 52 0 d = ((n : Nat) : Int) from by rw [hs1, zu_k (by decide), hn]) dX7_add_30 ?_
  refine zz_iadd hx hb dX7_add_31 ?_
  refine zz_iload_n hx hb hl 3 dX7_add_32 rfl rfl ?_
  refine zz_iast (y := w) hx hb hK hW1 hS1 (zlN (hM 54 rfl)) rfl rfl rfl (by show (0 : Int) ≤ (((8 * d) + n : Nat) : Int); omega) (by show (((8 * d) + n : Nat) : Int) < (64 : Int); omega) gw dX7_add_33 (fun H2 locs2 hW2' hS2 => ?_)
  obtain ⟨σ2, hs2⟩ : ∃ z, z = zu σ1 54 0 ((8 * d) + n) w := ⟨_, rfl⟩
  have hW2 : ZW G ad A σ2 H2 := by rw [hs2]; exact hW2'
  refine zz_aload_n hx hb hl 0 dX7_add_34 rfl rfl ?_
  refine zz_get (T := TX7) (N := 42) (k := 12) (κ := 30) (w := zr ad 52 ((0 : Nat) : Int)) hx hb hts hinX7 hown hK hW2 (zlN (hM 30 rfl)) rfl rfl rfl (by decide) (hts (.fieldLink RX7 36 "HailCityModel" "stops" "[I") (by decide +kernel)) (fun _ h9 => h9) rfl dX7_add_35 ?_
  refine zz_iload_n hx hb hl 1 dX7_add_38 rfl rfl ?_
  refine zz_dup2 hx hb dX7_add_39 rfl (zr_cat _ _ _) ?_
  refine zz_iald (w := ((n : Nat) : Int)) hx hb hK hW2 (zlN (hM 52 rfl)) rfl rfl rfl (by show (0 : Int) ≤ ((d : Nat) : Int); omega) (by show ((d : Nat) : Int) < (8 : Int); omega) (show σ2 52 0 d = ((n : Nat) : Int) from by rw [hs2, zu_k (by decide), hs1, zu_k (by decide), hn]) dX7_add_40 ?_
  refine zz_iconst hx hb dX7_add_41 ?_
  refine zz_iadd hx hb dX7_add_42 ?_
  refine zz_iast (y := ((n + 1 : Nat) : Int)) hx hb hK hW2 hS2 (zlN (hM 52 rfl)) rfl rfl rfl (by show (0 : Int) ≤ ((d : Nat) : Int); omega) (by show ((d : Nat) : Int) < (8 : Int); omega) ⟨by omega, by omega⟩ dX7_add_43 (fun H3 locs3 hW3' hS3 => ?_)
  obtain ⟨σ3, hs3⟩ : ∃ z, z = zu σ2 52 0 d ((n + 1 : Nat) : Int) := ⟨_, rfl⟩
  have hW3 : ZW G ad A σ3 H3 := by rw [hs3]; exact hW3'
  refine W.eq (g2 := F0 m 44 ls []) rfl ?_
  refine zz_retv hx hb hr hlocks hW3 hS3 ?_ dX7_add_44
  rw [hs3, hs2, hs1]; rfl

set_option maxHeartbeats 4000000 in
set_option maxRecDepth 100000 in
theorem c_X7_takeFirst (l : Launch) (G : zG) (ad : zA) (A : Nat → Prop) (N0 : Nat) (σ : zS) (hM : zMm ad) (d : Nat) (hd : d < 8) (n : Nat) (hn : σ 52 0 d = ((n + 1 : Nat) : Int)) (hn8 : n + 1 ≤ 8) (hw1 : σ 54 0 (8 * d) < 160) (hw2 : σ 54 0 (8 * d) < 100 → σ 54 0 (8 * d) < 60) (hdn : 0 ≤ σ 61 0 d ∧ σ 61 0 d ≤ 1000) (her : 0 ≤ σ 62 0 d ∧ σ 62 0 d ≤ 1000000000) (hpr : 100 ≤ σ 54 0 (8 * d) → 0 ≤ σ 69 0 (σ 54 0 (8 * d) - 100).toNat ∧ σ 69 0 (σ 54 0 (8 * d) - 100).toNat ≤ 3000000) : Met l yX7_takeFirst wsX7_takeFirst ({ frames := 0, cells := 0, slots := 0, locals := 0 }) (zP G ad A N0 σ [zr ad 30 ((0 : Nat) : Int), .int (zi ((d : Nat) : Int))]) (zQ G ad A zrv (fun _ u => ymt σ d n = u)) 0 0 A := by
  refine zz_of (cc := cX7_takeFirst) (maxL := 5) (ret := none) (by decide) rfl ⟨rfl, rfl⟩ (List.forall_mem_cons.mpr ⟨zr_cat _ _ _, List.forall_mem_cons.mpr ⟨rfl, fun _ h => absurd h List.not_mem_nil⟩⟩) (Nat.le_of_ble_eq_true rfl) ?_
  intro p e s m below meth c hx hb hr hml hts hown hlocks hsz hW0 hK ls hl
  have hS0 : va_S A s.heap s.heap [] := va_S.rf
  have hl : zh ls 5 [(0, zr ad 30 ((0 : Nat) : Int)), (1, .int (zi ((d : Nat) : Int)))] := hl
  have hinX7 : ∀ w ∈ u_ws RX7 TX7 42, w ∈ wsX7_takeFirst := by decide +kernel
  have hq9 : zg (σ 54 0 (8 * d)) := hW0.2.2.1 _ _ _
  refine zz_bipush hx hb dX7_takeFirst_0 (by decide +kernel) ?_
  refine zz_iload_n hx hb hl 1 dX7_takeFirst_2 rfl rfl ?_
  refine zz_imul hx hb dX7_takeFirst_3 ?_
  refine zz_istore_n (lv' := [(2, .int (zi ((8 * d : Nat) : Int))), (0, zr ad 30 ((0 : Nat) : Int)), (1, .int (zi ((d : Nat) : Int)))]) hx hb hl dX7_takeFirst_4 rfl (by decide) rfl (fun ls hl => ?_)
  refine zz_aload_n hx hb hl 1 dX7_takeFirst_5 rfl rfl ?_
  refine zz_get (T := TX7) (N := 42) (k := 14) (κ := 30) (w := zr ad 54 ((0 : Nat) : Int)) hx hb hts hinX7 hown hK hW0 (zlN (hM 30 rfl)) rfl rfl rfl (by decide) (hts (.fieldLink RX7 42 "HailCityModel" "stopWhom" "[I") (by decide +kernel)) (fun _ h9 => h9) rfl dX7_takeFirst_6 ?_
  refine zz_iload_n hx hb hl 0 dX7_takeFirst_9 rfl rfl ?_
  refine zz_iald (w := σ 54 0 (8 * d)) hx hb hK hW0 (zlN (hM 54 rfl)) rfl rfl rfl (by show (0 : Int) ≤ ((8 * d : Nat) : Int); omega) (by show ((8 * d : Nat) : Int) < (64 : Int); omega) rfl dX7_takeFirst_10 ?_
  refine zz_istore_n (lv' := [(3, .int (zi (σ 54 0 (8 * d)))), (2, .int (zi ((8 * d : Nat) : Int))), (0, zr ad 30 ((0 : Nat) : Int)), (1, .int (zi ((d : Nat) : Int)))]) hx hb hl dX7_takeFirst_11 rfl (by decide) rfl (fun ls hl => ?_)
  refine zz_aload_n hx hb hl 2 dX7_takeFirst_12 rfl rfl ?_
  refine zz_get (T := TX7) (N := 42) (k := 9) (κ := 30) (w := zr ad 49 ((0 : Nat) : Int)) hx hb hts hinX7 hown hK hW0 (zlN (hM 30 rfl)) rfl rfl rfl (by decide) (hts (.fieldLink RX7 26 "HailCityModel" "place" "[I") (by decide +kernel)) (fun _ h9 => h9) rfl dX7_takeFirst_13 ?_
  refine zz_iload_n hx hb hl 3 dX7_takeFirst_16 rfl rfl ?_
  refine zz_aload_n hx hb hl 2 dX7_takeFirst_17 rfl rfl ?_
  refine zz_get (T := TX7) (N := 42) (k := 13) (κ := 30) (w := zr ad 53 ((0 : Nat) : Int)) hx hb hts hinX7 hown hK hW0 (zlN (hM 30 rfl)) rfl rfl rfl (by decide) (hts (.fieldLink RX7 39 "HailCityModel" "stopAt" "[I") (by decide +kernel)) (fun _ h9 => h9) rfl dX7_takeFirst_18 ?_
  refine zz_iload_n hx hb hl 1 dX7_takeFirst_21 rfl rfl ?_
  refine zz_iald (w := σ 53 0 (8 * d)) hx hb hK hW0 (zlN (hM 53 rfl)) rfl rfl rfl (by show (0 : Int) ≤ ((8 * d : Nat) : Int); omega) (by show ((8 * d : Nat) : Int) < (64 : Int); omega) rfl dX7_takeFirst_22 ?_
  refine zz_iast (y := (σ 53 0 (8 * d))) hx hb hK hW0 hS0 (zlN (hM 49 rfl)) rfl rfl rfl (by show (0 : Int) ≤ ((d : Nat) : Int); omega) (by show ((d : Nat) : Int) < (8 : Int); omega) (hW0.2.2.1 _ _ _) dX7_takeFirst_23 (fun H1 locs1 hW1' hS1 => ?_)
  obtain ⟨σ1, hs1⟩ : ∃ z, z = zu σ 49 0 d (σ 53 0 (8 * d)) := ⟨_, rfl⟩
  have hW1 : ZW G ad A σ1 H1 := by rw [hs1]; exact hW1'
  refine zz_iload_n hx hb hl 1 dX7_takeFirst_24 rfl rfl ?_
  refine zz_istore (lv' := [(4, .int (zi ((8 * d : Nat) : Int))), (3, .int (zi (σ 54 0 (8 * d)))), (2, .int (zi ((8 * d : Nat) : Int))), (0, zr ad 30 ((0 : Nat) : Int)), (1, .int (zi ((d : Nat) : Int)))]) hx hb hl dX7_takeFirst_25 (by decide) rfl (fun ls hl => ?_)
  have hcut27 : ∀ (n9 : Nat) (i : Nat)  (σ9 : zS) (H9 : Heap) (locs9 : List Loc) (ls : Array Slot), (i ≤ n ∧ σ9 = yms σ1 d i) → (n - i) < n9 → ZW G ad A σ9 H9 → va_S A s.heap H9 locs9 → zh ls 5 [(0, zr ad 30 ((0 : Nat) : Int)), (1, .int (zi ((d : Nat) : Int))), (2, .int (zi ((8 * d : Nat) : Int))), (3, .int (zi (σ 54 0 (8 * d)))), (4, .int (zi ((8 * d + i : Nat) : Int)))] → W p l e ({ frames := 0, cells := 0, slots := 0, locals := 0 }) s m ([zr ad 30 ((0 : Nat) : Int), .int (zi ((d : Nat) : Int))] : List Value).toArray below meth c H9 locs9 0 0 (MQ below (zQ G ad A zrv (fun _ u => ymt σ d n = u)) ([zr ad 30 ((0 : Nat) : Int), .int (zi ((d : Nat) : Int))] : List Value).toArray s 0 0 A) (F0 m 27 ls []) := by
    intro n9
    induction n9 with
    | zero =>
      intro i σ2 H2 locs2 ls hI27 hm27 hW2 hS2 hl
      exact absurd hm27 (Nat.not_lt_zero _)
    | succ n9 ih27 =>
      intro i σ2 H2 locs2 ls hI27 hm27 hW2 hS2 hl
      obtain ⟨hi1, hi2⟩ := hI27
      have hi3 : zfr (fun κ _ _ => κ = 53 ∨ κ = 54) σ1 σ2 := by
        rw [hi2]
        intro κ i9 k h
        exact if_neg (fun q => h q.1)
      have e52 : σ2 52 0 d = ((n + 1 : Nat) : Int) := by
        rw [hi2]
        show (if _ then _ else _) = _
        rw [if_neg (by omega), hs1, zu_k (by decide), hn]
      refine zz_iload hx hb hl 4 dX7_takeFirst_27 rfl ?_
      refine zz_iload_n hx hb hl 2 dX7_takeFirst_29 rfl rfl ?_
      refine zz_aload_n hx hb hl 0 dX7_takeFirst_30 rfl rfl ?_
      refine zz_get (T := TX7) (N := 42) (k := 12) (κ := 30) (w := zr ad 52 ((0 : Nat) : Int)) hx hb hts hinX7 hown hK hW2 (zlN (hM 30 rfl)) rfl rfl rfl (by decide) (hts (.fieldLink RX7 36 "HailCityModel" "stops" "[I") (by decide +kernel)) (fun _ h9 => h9) rfl dX7_takeFirst_31 ?_
      refine zz_iload_n hx hb hl 1 dX7_takeFirst_34 rfl rfl ?_
      refine zz_iald (w := σ 52 0 d) hx hb hK hW2 (zlN (hM 52 rfl)) rfl rfl rfl (by show (0 : Int) ≤ ((d : Nat) : Int); omega) (by show ((d : Nat) : Int) < (8 : Int); omega) (show σ2 52 0 d = σ 52 0 d from by rw [hi3 52 0 d (by omega), hs1, zu_k (by decide)]) dX7_takeFirst_35 ?_
      refine zz_iadd hx hb dX7_takeFirst_36 ?_
      refine zz_iconst hx hb dX7_takeFirst_37 ?_
      refine zz_isub hx hb dX7_takeFirst_38 ?_
      refine zz_icmp_ge (tgt := 80) hx hb dX7_takeFirst_39 (by decide) ⟨by omega, by omega⟩ ⟨by omega, by omega⟩ (fun hc39 => ?_) (fun hc39 => ?_)
      · refine zz_aload_n hx hb hl 0 dX7_takeFirst_80 rfl rfl ?_
        refine zz_get (T := TX7) (N := 42) (k := 12) (κ := 30) (w := zr ad 52 ((0 : Nat) : Int)) hx hb hts hinX7 hown hK hW2 (zlN (hM 30 rfl)) rfl rfl rfl (by decide) (hts (.fieldLink RX7 36 "HailCityModel" "stops" "[I") (by decide +kernel)) (fun _ h9 => h9) rfl dX7_takeFirst_81 ?_
        refine zz_iload_n hx hb hl 1 dX7_takeFirst_84 rfl rfl ?_
        refine zz_dup2 hx hb dX7_takeFirst_85 rfl (zr_cat _ _ _) ?_
        refine zz_iald (w := σ 52 0 d) hx hb hK hW2 (zlN (hM 52 rfl)) rfl rfl rfl (by show (0 : Int) ≤ ((d : Nat) : Int); omega) (by show ((d : Nat) : Int) < (8 : Int); omega) (show σ2 52 0 d = σ 52 0 d from by rw [hi3 52 0 d (by omega), hs1, zu_k (by decide)]) dX7_takeFirst_86 ?_
        refine zz_iconst hx hb dX7_takeFirst_87 ?_
        refine zz_isub hx hb dX7_takeFirst_88 ?_
        refine zz_iast (y := ((σ 52 0 d) - 1)) hx hb hK hW2 hS2 (zlN (hM 52 rfl)) rfl rfl rfl (by show (0 : Int) ≤ ((d : Nat) : Int); omega) (by show ((d : Nat) : Int) < (8 : Int); omega) ⟨by omega, by omega⟩ dX7_takeFirst_89 (fun H3 locs3 hW3' hS3 => ?_)
        obtain ⟨σ3, hs3⟩ : ∃ z, z = zu σ2 52 0 d ((σ 52 0 d) - 1) := ⟨_, rfl⟩
        have hW3 : ZW G ad A σ3 H3 := by rw [hs3]; exact hW3'
        refine zz_iload_n hx hb hl 3 dX7_takeFirst_90 rfl rfl ?_
        refine zz_bipush hx hb dX7_takeFirst_91 (by decide +kernel) ?_
        refine zz_icmp_lt (tgt := 150) hx hb dX7_takeFirst_93 (by decide) hq9 ⟨by decide, by decide⟩ (fun hc93 => ?_) (fun hc93 => ?_)
        · refine zz_iload_n hx hb hl 3 dX7_takeFirst_150 rfl rfl ?_
          refine zz_if_lt (tgt := 161) hx hb dX7_takeFirst_151 (by decide) hq9 (fun hc151 => ?_) (fun hc151 => ?_)
          · refine W.eq (g2 := F0 m 161 ls []) rfl ?_
            refine zz_retv hx hb hr hlocks hW3 hS3 ?_ dX7_takeFirst_161
            show ymt σ d n = _
            unfold ymt
            rw [if_neg (by omega), if_neg (by omega)]
            rw [hs3, hi2, hs1, show i = n by omega, show σ 52 0 d - 1 = (n : Int) by omega]
          · refine zz_aload_n hx hb hl 0 dX7_takeFirst_154 rfl rfl ?_
            refine zz_get (T := TX7) (N := 42) (k := 24) (κ := 30) (w := zr ad 64 ((0 : Nat) : Int)) hx hb hts hinX7 hown hK hW3 (zlN (hM 30 rfl)) rfl rfl rfl (by decide) (hts (.fieldLink RX7 66 "HailCityModel" "state" "[I") (by decide +kernel)) (fun _ h9 => h9) rfl dX7_takeFirst_155 ?_
            refine zz_iload_n hx hb hl 3 dX7_takeFirst_158 rfl rfl ?_
            refine zz_iconst hx hb dX7_takeFirst_159 ?_
            refine zz_iast (y := 2) hx hb hK hW3 hS3 (zlN (hM 64 rfl)) rfl rfl rfl (by show (0 : Int) ≤ σ 54 0 (8 * d); omega) (by show (σ 54 0 (8 * d)) < (60 : Int); omega) ⟨by decide, by decide⟩ dX7_takeFirst_160 (fun H4 locs4 hW4' hS4 => ?_)
            obtain ⟨σ4, hs4⟩ : ∃ z, z = zu σ3 64 0 ((σ 54 0 (8 * d)).toNat) 2 := ⟨_, rfl⟩
            have hW4 : ZW G ad A σ4 H4 := by rw [hs4]; exact hW4'
            refine W.eq (g2 := F0 m 161 ls []) rfl ?_
            refine zz_retv hx hb hr hlocks hW4 hS4 ?_ dX7_takeFirst_161
            show ymt σ d n = _
            unfold ymt
            rw [if_neg (by omega), if_pos (by omega)]
            rw [hs4, hs3, hi2, hs1, show i = n by omega, show σ 52 0 d - 1 = (n : Int) by omega]
        · refine zz_iload_n hx hb hl 3 dX7_takeFirst_96 rfl rfl ?_
          refine zz_bipush hx hb dX7_takeFirst_97 (by decide +kernel) ?_
          refine zz_isub hx hb dX7_takeFirst_99 ?_
          refine zz_istore (lv' := [(4, .int (zi ((σ 54 0 (8 * d)) - 100))), (0, zr ad 30 ((0 : Nat) : Int)), (1, .int (zi ((d : Nat) : Int))), (2, .int (zi ((8 * d : Nat) : Int))), (3, .int (zi (σ 54 0 (8 * d))))]) hx hb hl dX7_takeFirst_100 (by decide) rfl (fun ls hl => ?_)
          refine zz_aload_n hx hb hl 1 dX7_takeFirst_102 rfl rfl ?_
          refine zz_get (T := TX7) (N := 42) (k := 24) (κ := 30) (w := zr ad 64 ((0 : Nat) : Int)) hx hb hts hinX7 hown hK hW3 (zlN (hM 30 rfl)) rfl rfl rfl (by decide) (hts (.fieldLink RX7 66 "HailCityModel" "state" "[I") (by decide +kernel)) (fun _ h9 => h9) rfl dX7_takeFirst_103 ?_
          refine zz_iload hx hb hl 0 dX7_takeFirst_106 rfl ?_
          refine zz_iconst hx hb dX7_takeFirst_108 ?_
          refine zz_iast (y := 3) hx hb hK hW3 hS3 (zlN (hM 64 rfl)) rfl rfl rfl (by show (0 : Int) ≤ (σ 54 0 (8 * d)) - 100; omega) (by show ((σ 54 0 (8 * d)) - 100) < (60 : Int); omega) ⟨by decide, by decide⟩ dX7_takeFirst_109 (fun H5 locs5 hW5' hS5 => ?_)
          obtain ⟨σ5, hs5⟩ : ∃ z, z = zu σ3 64 0 (((σ 54 0 (8 * d)) - 100).toNat) 3 := ⟨_, rfl⟩
          have hW5 : ZW G ad A σ5 H5 := by rw [hs5]; exact hW5'
          refine zz_aload_n hx hb hl 1 dX7_takeFirst_110 rfl rfl ?_
          refine zz_get (T := TX7) (N := 42) (k := 32) (κ := 30) (w := zr ad 72 ((0 : Nat) : Int)) hx hb hts hinX7 hown hK hW5 (zlN (hM 30 rfl)) rfl rfl rfl (by decide) (hts (.fieldLink RX7 90 "HailCityModel" "letOut" "[I") (by decide +kernel)) (fun _ h9 => h9) rfl dX7_takeFirst_111 ?_
          refine zz_iload hx hb hl 0 dX7_takeFirst_114 rfl ?_
          refine zz_aload_n hx hb hl 1 dX7_takeFirst_116 rfl rfl ?_
          refine zz_get (T := TX7) (N := 42) (k := 1) (κ := 30) (w := .int (zi (σ 30 0 1))) hx hb hts hinX7 hown hK hW5 (zlN (hM 30 rfl)) rfl rfl rfl (by decide) (hts (.fieldLink RX7 161 "HailCityModel" "now" "I") (by decide +kernel)) (fun _ h9 => h9) (congrArg (fun z => Value.int (zi z)) (show σ5 30 0 1 = σ 30 0 1 from by rw [hs5, zu_k (by decide), hs3, zu_k (by decide), hi3 30 0 1 (by omega), hs1, zu_k (by decide)])) dX7_takeFirst_117 ?_
          refine zz_iast (y := (σ 30 0 1)) hx hb hK hW5 hS5 (zlN (hM 72 rfl)) rfl rfl rfl (by show (0 : Int) ≤ (σ 54 0 (8 * d)) - 100; omega) (by show ((σ 54 0 (8 * d)) - 100) < (60 : Int); omega) (hW0.2.2.1 _ _ _) dX7_takeFirst_120 (fun H6 locs6 hW6' hS6 => ?_)
          obtain ⟨σ6, hs6⟩ : ∃ z, z = zu σ5 72 0 (((σ 54 0 (8 * d)) - 100).toNat) (σ 30 0 1) := ⟨_, rfl⟩
          have hW6 : ZW G ad A σ6 H6 := by rw [hs6]; exact hW6'
          refine zz_aload_n hx hb hl 1 dX7_takeFirst_121 rfl rfl ?_
          refine zz_get (T := TX7) (N := 42) (k := 21) (κ := 30) (w := zr ad 61 ((0 : Nat) : Int)) hx hb hts hinX7 hown hK hW6 (zlN (hM 30 rfl)) rfl rfl rfl (by decide) (hts (.fieldLink RX7 60 "HailCityModel" "done" "[I") (by decide +kernel)) (fun _ h9 => h9) rfl dX7_takeFirst_122 ?_
          refine zz_iload_n hx hb hl 2 dX7_takeFirst_125 rfl rfl ?_
          refine zz_dup2 hx hb dX7_takeFirst_126 rfl (zr_cat _ _ _) ?_
          refine zz_iald (w := σ 61 0 d) hx hb hK hW6 (zlN (hM 61 rfl)) rfl rfl rfl (by show (0 : Int) ≤ ((d : Nat) : Int); omega) (by show ((d : Nat) : Int) < (8 : Int); omega) (show σ6 61 0 d = σ 61 0 d from by rw [hs6, zu_k (by decide), hs5, zu_k (by decide), hs3, zu_k (by decide), hi3 61 0 d (by omega), hs1, zu_k (by decide)]) dX7_takeFirst_127 ?_
          refine zz_iconst hx hb dX7_takeFirst_128 ?_
          refine zz_iadd hx hb dX7_takeFirst_129 ?_
          refine zz_iast (y := ((σ 61 0 d) + 1)) hx hb hK hW6 hS6 (zlN (hM 61 rfl)) rfl rfl rfl (by show (0 : Int) ≤ ((d : Nat) : Int); omega) (by show ((d : Nat) : Int) < (8 : Int); omega) ⟨by omega, by omega⟩ dX7_takeFirst_130 (fun H7 locs7 hW7' hS7 => ?_)
          obtain ⟨σ7, hs7⟩ : ∃ z, z = zu σ6 61 0 d ((σ 61 0 d) + 1) := ⟨_, rfl⟩
          have hW7 : ZW G ad A σ7 H7 := by rw [hs7]; exact hW7'
          refine zz_aload_n hx hb hl 1 dX7_takeFirst_131 rfl rfl ?_
          refine zz_get (T := TX7) (N := 42) (k := 22) (κ := 30) (w := zr ad 62 ((0 : Nat) : Int)) hx hb hts hinX7 hown hK hW7 (zlN (hM 30 rfl)) rfl rfl rfl (by decide) (hts (.fieldLink RX7 63 "HailCityModel" "earned" "[I") (by decide +kernel)) (fun _ h9 => h9) rfl dX7_takeFirst_132 ?_
          refine zz_iload_n hx hb hl 2 dX7_takeFirst_135 rfl rfl ?_
          have hpr2 := hpr (by omega)
          refine zz_dup2 hx hb dX7_takeFirst_136 rfl (zr_cat _ _ _) ?_
          refine zz_iald (w := σ 62 0 d) hx hb hK hW7 (zlN (hM 62 rfl)) rfl rfl rfl (by show (0 : Int) ≤ ((d : Nat) : Int); omega) (by show ((d : Nat) : Int) < (8 : Int); omega) (show σ7 62 0 d = σ 62 0 d from by rw [hs7, zu_k (by decide), hs6, zu_k (by decide), hs5, zu_k (by decide), hs3, zu_k (by decide), hi3 62 0 d (by omega), hs1, zu_k (by decide)]) dX7_takeFirst_137 ?_
          refine zz_aload_n hx hb hl 1 dX7_takeFirst_138 rfl rfl ?_
          refine zz_get (T := TX7) (N := 42) (k := 29) (κ := 30) (w := zr ad 69 ((0 : Nat) : Int)) hx hb hts hinX7 hown hK hW7 (zlN (hM 30 rfl)) rfl rfl rfl (by decide) (hts (.fieldLink RX7 81 "HailCityModel" "price" "[I") (by decide +kernel)) (fun _ h9 => h9) rfl dX7_takeFirst_139 ?_
          refine zz_iload hx hb hl 0 dX7_takeFirst_142 rfl ?_
          refine zz_iald (w := σ 69 0 (((σ 54 0 (8 * d)) - 100).toNat)) hx hb hK hW7 (zlN (hM 69 rfl)) rfl rfl rfl (by show (0 : Int) ≤ (σ 54 0 (8 * d)) - 100; omega) (by show ((σ 54 0 (8 * d)) - 100) < (60 : Int); omega) (show σ7 69 0 (((σ 54 0 (8 * d)) - 100).toNat) = σ 69 0 (((σ 54 0 (8 * d)) - 100).toNat) from by rw [hs7, zu_k (by decide), hs6, zu_k (by decide), hs5, zu_k (by decide), hs3, zu_k (by decide), hi3 69 0 (((σ 54 0 (8 * d)) - 100).toNat) (by omega), hs1, zu_k (by decide)]) dX7_takeFirst_144 ?_
          refine zz_iadd hx hb dX7_takeFirst_145 ?_
          refine zz_iast (y := ((σ 62 0 d) + (σ 69 0 (((σ 54 0 (8 * d)) - 100).toNat)))) hx hb hK hW7 hS7 (zlN (hM 62 rfl)) rfl rfl rfl (by show (0 : Int) ≤ ((d : Nat) : Int); omega) (by show ((d : Nat) : Int) < (8 : Int); omega) ⟨by omega, by omega⟩ dX7_takeFirst_146 (fun H8 locs8 hW8' hS8 => ?_)
          obtain ⟨σ8, hs8⟩ : ∃ z, z = zu σ7 62 0 d ((σ 62 0 d) + (σ 69 0 (((σ 54 0 (8 * d)) - 100).toNat))) := ⟨_, rfl⟩
          have hW8 : ZW G ad A σ8 H8 := by rw [hs8]; exact hW8'
          refine zz_goto (tgt := 161) hx hb dX7_takeFirst_147 (by decide) ?_
          refine W.eq (g2 := F0 m 161 ls []) rfl ?_
          refine zz_retv hx hb hr hlocks hW8 hS8 ?_ dX7_takeFirst_161
          show ymt σ d n = _
          unfold ymt
          rw [if_pos (by omega)]
          rw [hs8, hs7, hs6, hs5, hs3, hi2, hs1, show i = n by omega, show σ 52 0 d - 1 = (n : Int) by omega]
      · refine zz_aload_n hx hb hl 0 dX7_takeFirst_42 rfl rfl ?_
        refine zz_get (T := TX7) (N := 42) (k := 13) (κ := 30) (w := zr ad 53 ((0 : Nat) : Int)) hx hb hts hinX7 hown hK hW2 (zlN (hM 30 rfl)) rfl rfl rfl (by decide) (hts (.fieldLink RX7 39 "HailCityModel" "stopAt" "[I") (by decide +kernel)) (fun _ h9 => h9) rfl dX7_takeFirst_43 ?_
        refine zz_iload hx hb hl 4 dX7_takeFirst_46 rfl ?_
        refine zz_aload_n hx hb hl 0 dX7_takeFirst_48 rfl rfl ?_
        refine zz_get (T := TX7) (N := 42) (k := 13) (κ := 30) (w := zr ad 53 ((0 : Nat) : Int)) hx hb hts hinX7 hown hK hW2 (zlN (hM 30 rfl)) rfl rfl rfl (by decide) (hts (.fieldLink RX7 39 "HailCityModel" "stopAt" "[I") (by decide +kernel)) (fun _ h9 => h9) rfl dX7_takeFirst_49 ?_
        refine zz_iload hx hb hl 4 dX7_takeFirst_52 rfl ?_
        refine zz_iconst hx hb dX7_takeFirst_54 ?_
        refine zz_iadd hx hb dX7_takeFirst_55 ?_
        refine zz_iald (w := σ2 53 0 ((8 * d + i) + 1)) hx hb hK hW2 (zlN (hM 53 rfl)) rfl rfl rfl (by show (0 : Int) ≤ (((8 * d + i) + 1 : Nat) : Int); omega) (by show (((8 * d + i) + 1 : Nat) : Int) < (64 : Int); omega) rfl dX7_takeFirst_56 ?_
        refine zz_iast (y := (σ2 53 0 ((8 * d + i) + 1))) hx hb hK hW2 hS2 (zlN (hM 53 rfl)) rfl rfl rfl (by show (0 : Int) ≤ ((8 * d + i : Nat) : Int); omega) (by show ((8 * d + i : Nat) : Int) < (64 : Int); omega) (hW2.2.2.1 _ _ _) dX7_takeFirst_57 (fun H9 locs9 hW9' hS9 => ?_)
        obtain ⟨σ9, hs9⟩ : ∃ z, z = zu σ2 53 0 (8 * d + i) (σ2 53 0 ((8 * d + i) + 1)) := ⟨_, rfl⟩
        have hW9 : ZW G ad A σ9 H9 := by rw [hs9]; exact hW9'
        refine zz_aload_n hx hb hl 0 dX7_takeFirst_58 rfl rfl ?_
        refine zz_get (T := TX7) (N := 42) (k := 14) (κ := 30) (w := zr ad 54 ((0 : Nat) : Int)) hx hb hts hinX7 hown hK hW9 (zlN (hM 30 rfl)) rfl rfl rfl (by decide) (hts (.fieldLink RX7 42 "HailCityModel" "stopWhom" "[I") (by decide +kernel)) (fun _ h9 => h9) rfl dX7_takeFirst_59 ?_
        refine zz_iload hx hb hl 4 dX7_takeFirst_62 rfl ?_
        refine zz_aload_n hx hb hl 0 dX7_takeFirst_64 rfl rfl ?_
        refine zz_get (T := TX7) (N := 42) (k := 14) (κ := 30) (w := zr ad 54 ((0 : Nat) : Int)) hx hb hts hinX7 hown hK hW9 (zlN (hM 30 rfl)) rfl rfl rfl (by decide) (hts (.fieldLink RX7 42 "HailCityModel" "stopWhom" "[I") (by decide +kernel)) (fun _ h9 => h9) rfl dX7_takeFirst_65 ?_
        refine zz_iload hx hb hl 4 dX7_takeFirst_68 rfl ?_
        refine zz_iconst hx hb dX7_takeFirst_70 ?_
        refine zz_iadd hx hb dX7_takeFirst_71 ?_
        refine zz_iald (w := σ2 54 0 ((8 * d + i) + 1)) hx hb hK hW9 (zlN (hM 54 rfl)) rfl rfl rfl (by show (0 : Int) ≤ (((8 * d + i) + 1 : Nat) : Int); omega) (by show (((8 * d + i) + 1 : Nat) : Int) < (64 : Int); omega) (show σ9 54 0 ((8 * d + i) + 1) = σ2 54 0 ((8 * d + i) + 1) from by rw [hs9, zu_k (by decide)]) dX7_takeFirst_72 ?_
        refine zz_iast (y := (σ2 54 0 ((8 * d + i) + 1))) hx hb hK hW9 hS9 (zlN (hM 54 rfl)) rfl rfl rfl (by show (0 : Int) ≤ ((8 * d + i : Nat) : Int); omega) (by show ((8 * d + i : Nat) : Int) < (64 : Int); omega) (hW2.2.2.1 _ _ _) dX7_takeFirst_73 (fun H10 locs10 hW10' hS10 => ?_)
        obtain ⟨σ10, hs10⟩ : ∃ z, z = zu σ9 54 0 (8 * d + i) (σ2 54 0 ((8 * d + i) + 1)) := ⟨_, rfl⟩
        have hW10 : ZW G ad A σ10 H10 := by rw [hs10]; exact hW10'
        refine zz_iinc (lv' := [(4, .int (zi (((8 * d + i) + 1 : Nat) : Int))), (0, zr ad 30 ((0 : Nat) : Int)), (1, .int (zi ((d : Nat) : Int))), (2, .int (zi ((8 * d : Nat) : Int))), (3, .int (zi (σ 54 0 (8 * d))))]) hx hb hl dX7_takeFirst_74 (k0 := 4) rfl (by decide) rfl (fun ls hl => ?_)
        refine zz_goto (tgt := 27) hx hb dX7_takeFirst_77 (by decide) ?_
        refine ih27 (i + 1) σ10 H10 locs10 ls ?_ (by omega) hW10 hS10 (zh_sub hl [1, 2, 3, 4, 0] rfl)
        refine ⟨by omega, ?_⟩
        funext κ i9 k
        by_cases h4 : κ = 54 ∧ i9 = 0 ∧ k = 8 * d + i
        · obtain ⟨rfl, rfl, rfl⟩ := h4
          rw [hs10, zu_same, hi2]
          unfold yms
          rw [if_neg (by omega), if_pos (by omega)]
        · by_cases h3 : κ = 53 ∧ i9 = 0 ∧ k = 8 * d + i
          · obtain ⟨rfl, rfl, rfl⟩ := h3
            rw [hs10, zu_ne h4, hs9, zu_same, hi2]
            unfold yms
            rw [if_neg (by omega), if_pos (by omega)]
          · rw [hs10, zu_ne h4, hs9, zu_ne h3, hi2]
            unfold yms
            by_cases h : (κ = 53 ∨ κ = 54) ∧ i9 = 0 ∧ 8 * d ≤ k ∧ k < 8 * d + i
            · rw [if_pos h, if_pos (by omega)]
            · rw [if_neg h, if_neg (by omega)]
  refine hcut27 _ 0 σ1 H1 locs1 ls ?_ (Nat.lt_succ_self _) hW1 hS1 (zh_sub hl [3, 4, 2, 1, 0] rfl)
  refine ⟨Nat.zero_le _, ?_⟩
  funext κ i k
  exact (if_neg (by omega)).symm
