/-! the class: its public methods -/

set_option maxHeartbeats 4000000 in
set_option maxRecDepth 100000 in
theorem c_X6_way (l : Launch) (hst : l.stackTraces = false) (G : zG) (ad : zA) (A : Nat → Prop) (N0 : Nat) (σ : zS) (nd nr ns : Nat) (hX : zX ad nd nr) (c9 B9 : Int) (t : zS) (hCP : CP σ t nd nr ns) (hWF : yWF t nd nr ns c9 B9) (hB9 : B9 ≤ 1000000) (a b : Int) (ga : zg a) (gb : zg b) : vx_Met l yX6_way wsX6_way ({ frames := 7, cells := 2, slots := 12, locals := 220 }) (zPx G ad A N0 σ [zr ad 0 ((0 : Nat) : Int), .int (zi a), .int (zi b)]) (zQ G ad A zri (fun r u => σ = u ∧ ((0 ≤ a ∧ a ≤ 9) ∧ (0 ≤ b ∧ b ≤ 9)) ∧ (if t 47 0 (10 * a.toNat + b.toNat) < 100000 then t 47 0 (10 * a.toNat + b.toNat) else -1) = r)) (zXC G ad A (fun E u => σ = u ∧ E = "java/lang/IndexOutOfBoundsException" ∧ ¬ ((0 ≤ a ∧ a ≤ 9) ∧ (0 ≤ b ∧ b ≤ 9)))) 2 12 A := by
  refine zx_of (cc := cX6_way) (maxL := 3) (ret := (some .int)) (by decide) rfl (List.forall_mem_cons.mpr ⟨zr_cat _ _ _, List.forall_mem_cons.mpr ⟨rfl, List.forall_mem_cons.mpr ⟨rfl, fun _ h => absurd h List.not_mem_nil⟩⟩⟩) (Nat.le_of_ble_eq_true rfl) ?_
  intro p e s m below meth c hx hb hr hml hts hown hlocks hout hsz hW0 hK hE ls hl
  have hS0 : va_S A s.heap s.heap [] := va_S.rf
  have hl : zh ls 3 [(0, zr ad 0 ((0 : Nat) : Int)), (1, .int (zi a)), (2, .int (zi b))] := hl
  have hinX6 : ∀ w ∈ u_ws RX6 TX6 10, w ∈ wsX6_way := by decide +kernel
  have hc9 := hCP
  have hg5 := hc9.1.1.1
  have hg6 := hc9.1.1.2.1
  have hg8 := hc9.1.2.1.2.1
  have hgD := hc9.1.2.2.1
  have hgQ := hc9.1.2.2.2.1
  have hnd := hWF.1.1.1
  have hnr := hWF.1.1.2.1
  have hnow0 := hWF.1.2.2.1
  have hord := hWF.1.2.2.2.2.1
  have hg9 := hCP.1.2.1.2.2
  have hg4 := hCP.1.1.2.2
  refine zz_iload_n hx hb hl 1 dX6_way_0 rfl rfl ?_
  refine zx_callS (As := [.int (zi a)]) (rest := []) ⟨hx, hb, hml, hown, hts⟩ (c_X6_checkPlace l hst G ad A N0 σ a ga) (va_cwS 1 hts gX6_way_X6_checkPlace rfl rfl rfl (by decide +kernel) ⟨Nat.le_of_ble_eq_true rfl, Nat.le_of_ble_eq_true rfl⟩) hK hE hW0 (Nat.le_trans hsz hS0.1) hS0 rfl hl.1.1 rfl (Nat.le_of_ble_eq_true rfl) dX6_way_1 ⟨Nat.le_of_ble_eq_true rfl, Nat.le_of_ble_eq_true rfl⟩ (fun E9 ce9 q9 u9 H9 locs9 hpx hWx hSx hce hcv hclx => zx_out hout hlocks hce hcv hclx hWx hSx ((by obtain ⟨rfl, rfl, h9⟩ := hpx; exact ⟨rfl, rfl, fun q => h9 (by omega)⟩)) (Nat.le_of_ble_eq_true rfl) (Nat.le_of_ble_eq_true rfl)) (fun x1 σ1 H1 locs1 hp1 hW1 hz1 hS1 => ?_)
  obtain ⟨rfl, hka⟩ := hp1
  refine W.eq (g2 := F0 m 4 ls []) rfl ?_
  refine zz_iload_n hx hb hl 2 dX6_way_4 rfl rfl ?_
  refine zx_callS (As := [.int (zi b)]) (rest := []) ⟨hx, hb, hml, hown, hts⟩ (c_X6_checkPlace l hst G ad A N0 σ b gb) (va_cwS 1 hts gX6_way_X6_checkPlace rfl rfl rfl (by decide +kernel) ⟨Nat.le_of_ble_eq_true rfl, Nat.le_of_ble_eq_true rfl⟩) hK hE hW1 (Nat.le_trans hsz hS1.1) hS1 rfl hl.1.1 rfl (Nat.le_of_ble_eq_true rfl) dX6_way_5 ⟨Nat.le_of_ble_eq_true rfl, Nat.le_of_ble_eq_true rfl⟩ (fun E9 ce9 q9 u9 H9 locs9 hpx hWx hSx hce hcv hclx => zx_out hout hlocks hce hcv hclx hWx hSx ((by obtain ⟨rfl, rfl, h9⟩ := hpx; exact ⟨rfl, rfl, fun q => h9 (by omega)⟩)) (Nat.le_of_ble_eq_true rfl) (Nat.le_of_ble_eq_true rfl)) (fun x2 σ2 H2 locs2 hp2 hW2 hz2 hS2 => ?_)
  obtain ⟨rfl, hkb⟩ := hp2
  refine W.eq (g2 := F0 m 8 ls []) rfl ?_
  refine zz_aload_n hx hb hl 0 dX6_way_8 rfl rfl ?_
  refine zz_get (T := TX6) (N := 10) (k := 0) (κ := 0) (w := zr ad 1 ((0 : Nat) : Int)) hx hb hts hinX6 hown hK hW2 (zlN (hX 0 0 rfl)) rfl rfl rfl (by decide) (hts (.fieldLink RX6 10 "HailCity" "map" "LHailCity$CityMap;") (by decide +kernel)) (fun _ h9 => h9) rfl dX6_way_9 ?_
  refine zz_iload_n hx hb hl 1 dX6_way_12 rfl rfl ?_
  refine zz_iload_n hx hb hl 2 dX6_way_13 rfl rfl ?_
  refine zz_callV (T := TX0) (N := 5) (As := [.int (zi a), .int (zi b)]) (rest := []) (v := ((0 : Nat) : Int)) (κ := 1) ⟨hx, hb, hml, hown, hts⟩ (c_X0_minutesBetween l G ad A N0 σ nd nr hX a b ga gb) (cwV 2 hts gX6_way_X0_minutesBetween rfl rfl rfl (by decide +kernel) ⟨Nat.le_of_ble_eq_true rfl, Nat.le_of_ble_eq_true rfl⟩) hK hW2 (zlN (hX 1 0 rfl)) rfl rfl (Nat.le_trans hsz hS2.1) hS2 rfl hl.1.1 rfl (Nat.le_of_ble_eq_true rfl) dX6_way_14 ⟨Nat.le_of_ble_eq_true rfl, Nat.le_of_ble_eq_true rfl⟩ (fun x3 σ3 H3 locs3 hp3 hW3 hz3 hS3 => ?_)
  obtain ⟨rfl, rfl⟩ := hp3
  refine W.eq (g2 := F0 m 17 ls [.int (zi (if (0 ≤ a ∧ a < 10) ∧ (0 ≤ b ∧ b < 10) ∧ σ 6 a.toNat b.toNat < 1000000 then σ 6 a.toNat b.toNat else -1))]) rfl ?_
  refine W.eq (g2 := F0 m 17 ls [.int (zi (if (0 ≤ a ∧ a < 10) ∧ (0 ≤ b ∧ b < 10) ∧ σ 6 a.toNat b.toNat < 1000000 then σ 6 a.toNat b.toNat else -1))]) rfl ?_
  refine zw_widen (k := 2) (n := 12) (Nat.le_of_ble_eq_true rfl) (Nat.le_of_ble_eq_true rfl) (vx_ret ?_)
  refine zz_reti hx hb hr hlocks hW3 hS3 ?_ dX6_way_17
  exact ⟨rfl, ⟨by omega, by omega⟩, (CP_mb hCP.1 hka hkb).symm⟩

set_option maxHeartbeats 4000000 in
set_option maxRecDepth 100000 in
theorem c_X6_cap (l : Launch) (hst : l.stackTraces = false) (G : zG) (ad : zA) (A : Nat → Prop) (N0 : Nat) (σ : zS) (nd nr ns : Nat) (hX : zX ad nd nr) (c9 B9 : Int) (t : zS) (hCP : CP σ t nd nr ns) (hWF : yWF t nd nr ns c9 B9) (hB9 : B9 ≤ 1000000) (a : Int) (ga : zg a) : vx_Met l yX6_cap wsX6_cap ({ frames := 7, cells := 1, slots := 6, locals := 222 }) (zPx G ad A N0 σ [zr ad 0 ((0 : Nat) : Int), .int (zi a)]) (zQ G ad A zri (fun r u => (100 ≤ a ∧ a ≤ 300) ∧ t 30 0 2 = r ∧ CP u (zu (zu t 30 0 0 0) 30 0 2 a) nd nr ns)) (zXC G ad A (fun E u => σ = u ∧ E = "java/lang/IllegalArgumentException" ∧ ¬ (100 ≤ a ∧ a ≤ 300))) 1 6 A := by
  refine zx_of (cc := cX6_cap) (maxL := 3) (ret := (some .int)) (by decide) rfl (List.forall_mem_cons.mpr ⟨zr_cat _ _ _, List.forall_mem_cons.mpr ⟨rfl, fun _ h => absurd h List.not_mem_nil⟩⟩) (Nat.le_of_ble_eq_true rfl) ?_
  intro p e s m below meth c hx hb hr hml hts hown hlocks hout hsz hW0 hK hE ls hl
  have hS0 : va_S A s.heap s.heap [] := va_S.rf
  have hl : zh ls 3 [(0, zr ad 0 ((0 : Nat) : Int)), (1, .int (zi a))] := hl
  have hinX6 : ∀ w ∈ u_ws RX6 TX6 10, w ∈ wsX6_cap := by decide +kernel
  have hc9 := hCP
  have hg5 := hc9.1.1.1
  have hg6 := hc9.1.1.2.1
  have hg8 := hc9.1.2.1.2.1
  have hgD := hc9.1.2.2.1
  have hgQ := hc9.1.2.2.2.1
  have hnd := hWF.1.1.1
  have hnr := hWF.1.1.2.1
  have hnow0 := hWF.1.2.2.1
  have hord := hWF.1.2.2.2.2.1
  have hg9 := hCP.1.2.1.2.2
  have hg4 := hCP.1.1.2.2
  refine zz_iload_n hx hb hl 1 dX6_cap_0 rfl rfl ?_
  refine zz_bipush hx hb dX6_cap_1 (by decide +kernel) ?_
  refine zz_sipush hx hb dX6_cap_3 (by decide +kernel) ?_
  refine zx_callS (As := [.int (zi a), .int (zi 100), .int (zi 300)]) (rest := []) ⟨hx, hb, hml, hown, hts⟩ (c_X6_checkRange l hst G ad A N0 σ a 100 300 ga ⟨by decide, by decide⟩ ⟨by decide, by decide⟩) (va_cwS 3 hts gX6_cap_X6_checkRange rfl rfl rfl (by decide +kernel) ⟨Nat.le_of_ble_eq_true rfl, Nat.le_of_ble_eq_true rfl⟩) hK hE hW0 (Nat.le_trans hsz hS0.1) hS0 rfl hl.1.1 rfl (Nat.le_of_ble_eq_true rfl) dX6_cap_6 ⟨Nat.le_of_ble_eq_true rfl, Nat.le_of_ble_eq_true rfl⟩ (fun E9 ce9 q9 u9 H9 locs9 hpx hWx hSx hce hcv hclx => zx_out hout hlocks hce hcv hclx hWx hSx ((by obtain ⟨rfl, rfl, h9⟩ := hpx; exact ⟨rfl, rfl, h9⟩)) (Nat.le_of_ble_eq_true rfl) (Nat.le_of_ble_eq_true rfl)) (fun x1 σ1 H1 locs1 hp1 hW1 hz1 hS1 => ?_)
  obtain ⟨rfl, hra⟩ := hp1
  refine W.eq (g2 := F0 m 9 ls []) rfl ?_
  refine zz_aload_n hx hb hl 0 dX6_cap_9 rfl rfl ?_
  refine zz_get (T := TX6) (N := 10) (k := 7) (κ := 0) (w := .int (zi (σ 0 0 7))) hx hb hts hinX6 hown hK hW1 (zlN (hX 0 0 rfl)) rfl rfl rfl (by decide) (hts (.fieldLink RX6 44 "HailCity" "heightCap" "I") (by decide +kernel)) (fun _ h9 => h9) rfl dX6_cap_10 ?_
  refine zz_istore_n (lv' := [(2, .int (zi (σ 0 0 7))), (0, zr ad 0 ((0 : Nat) : Int)), (1, .int (zi a))]) hx hb hl dX6_cap_13 rfl (by decide) rfl (fun ls hl => ?_)
  refine zz_aload_n hx hb hl 1 dX6_cap_14 rfl rfl ?_
  refine zz_iload_n hx hb hl 2 dX6_cap_15 rfl rfl ?_
  refine zz_put (T := TX6) (N := 10) (k := 7) (κ := 0) (v := ((0 : Nat) : Int)) (x := a) (ty := .int) hx hb hts hinX6 tyX6 tyX6_ok nmX6 hown hK hW1 hS1 (zlN (hX 0 0 rfl)) rfl rfl rfl (by decide) (hts (.fieldLink RX6 44 "HailCity" "heightCap" "I") (by decide +kernel)) (fun _ h9 => h9) rfl (by decide +kernel) rfl rfl rfl ga (fun h9 _ => absurd h9 (by decide)) (fun h9 => absurd h9 (by decide)) dX6_cap_16 (fun H2 locs2 hW2' hS2 => ?_)
  obtain ⟨σ2, hs2⟩ : ∃ z, z = zu σ 0 0 7 a := ⟨_, rfl⟩
  have hW2 : ZW G ad A σ2 H2 := by rw [hs2]; exact hW2'
  refine zz_iload_n hx hb hl 0 dX6_cap_19 rfl rfl ?_
  refine W.eq (g2 := F0 m 20 ls [.int (zi (σ 0 0 7))]) rfl ?_
  refine zw_widen (k := 1) (n := 6) (Nat.le_of_ble_eq_true rfl) (Nat.le_of_ble_eq_true rfl) (vx_ret ?_)
  refine zz_reti hx hb hr hlocks hW2 hS2 ?_ dX6_cap_20
  refine ⟨hra, hCP.1.2.1.1.symm, ?_⟩
  rw [hs2]
  exact CP_cap (CP_0 hCP hWF) (yWF_z hWF)

set_option maxHeartbeats 4000000 in
set_option maxRecDepth 100000 in
theorem c_X6_height (l : Launch) (hst : l.stackTraces = false) (G : zG) (ad : zA) (A : Nat → Prop) (N0 : Nat) (σ : zS) (nd nr ns : Nat) (hX : zX ad nd nr) (c9 B9 : Int) (t : zS) (hCP : CP σ t nd nr ns) (hWF : yWF t nd nr ns c9 B9) (hB9 : B9 ≤ 1000000) (a : Int) (ga : zg a) : vx_Met l yX6_height wsX6_height ({ frames := 6, cells := 1, slots := 6, locals := 200 }) (zPx G ad A N0 σ [zr ad 0 ((0 : Nat) : Int), .int (zi a)]) (zQ G ad A zri (fun r u => σ = u ∧ (0 ≤ a ∧ a ≤ 3) ∧ yht t nd nr a = r)) (zXC G ad A (fun E u => σ = u ∧ E = "java/lang/IndexOutOfBoundsException" ∧ ¬ (0 ≤ a ∧ a ≤ 3))) 1 6 A := by
  refine zx_of (cc := cX6_height) (maxL := 2) (ret := (some .int)) (by decide) rfl (List.forall_mem_cons.mpr ⟨zr_cat _ _ _, List.forall_mem_cons.mpr ⟨rfl, fun _ h => absurd h List.not_mem_nil⟩⟩) (Nat.le_of_ble_eq_true rfl) ?_
  intro p e s m below meth c hx hb hr hml hts hown hlocks hout hsz hW0 hK hE ls hl
  have hS0 : va_S A s.heap s.heap [] := va_S.rf
  have hl : zh ls 2 [(0, zr ad 0 ((0 : Nat) : Int)), (1, .int (zi a))] := hl
  have hc9 := hCP
  have hg5 := hc9.1.1.1
  have hg6 := hc9.1.1.2.1
  have hg8 := hc9.1.2.1.2.1
  have hgD := hc9.1.2.2.1
  have hgQ := hc9.1.2.2.2.1
  have hnd := hWF.1.1.1
  have hnr := hWF.1.1.2.1
  have hnow0 := hWF.1.2.2.1
  have hord := hWF.1.2.2.2.2.1
  have hg9 := hCP.1.2.1.2.2
  have hg4 := hCP.1.1.2.2
  refine zz_iload_n hx hb hl 1 dX6_height_0 rfl rfl ?_
  refine zz_if_lt (tgt := 9) hx hb dX6_height_1 (by decide) ga (fun hc1 => ?_) (fun hc1 => ?_)
  · refine zx_throw (ik := 75) (is := 140) (ic := 79) (cls := "java/lang/IndexOutOfBoundsException") (text := "no such zone") (rest := []) ⟨hx, hb, hml, hown, hts⟩ hst hlocks hout hE hW0 hS0 (by decide +kernel) (by decide) (by decide +kernel) (by decide +kernel) (by decide +kernel) zat0 zot0 (by decide) hl.1.1 dX6_height_9 dX6_height_12 dX6_height_13 dX6_height_15 dX6_height_18 ⟨Nat.le_of_ble_eq_true rfl, (Nat.le_of_ble_eq_true rfl), Nat.le_of_ble_eq_true rfl, Nat.le_of_ble_eq_true rfl⟩ (Nat.le_of_ble_eq_true rfl) (Nat.le_of_ble_eq_true rfl) ?_
    exact ⟨rfl, rfl, by omega⟩
  · refine zz_iload_n hx hb hl 1 dX6_height_4 rfl rfl ?_
    refine zz_iconst hx hb dX6_height_5 ?_
    refine zz_icmp_lt (tgt := 19) hx hb dX6_height_6 (by decide) ga ⟨by decide, by decide⟩ (fun hc6 => ?_) (fun hc6 => ?_)
    · refine zz_aload_n hx hb hl 0 dX6_height_19 rfl rfl ?_
      refine zz_iload_n hx hb hl 1 dX6_height_20 rfl rfl ?_
      refine zz_callV (T := TX6) (N := 10) (As := [.int (zi a)]) (rest := []) (v := ((0 : Nat) : Int)) (κ := 0) ⟨hx, hb, hml, hown, hts⟩ (c_X6_heightOf l G ad A N0 σ nd nr hX hnd hnr hg5 hg6 hgD hgQ a ga (fun i hi => by rw [(hCP.2.2 i hi).1]; exact (hWF.2.2.1 i hi).1.1) (fun i hi => by rw [(hCP.2.1 i hi).1.1.2.2.2.1]; exact (hWF.2.1 i hi).1.1.1)) (cwV 1 hts gX6_height_X6_heightOf rfl rfl rfl (by decide +kernel) ⟨Nat.le_of_ble_eq_true rfl, Nat.le_of_ble_eq_true rfl⟩) hK hW0 (zlN (hX 0 0 rfl)) rfl rfl (Nat.le_trans hsz hS0.1) hS0 rfl hl.1.1 rfl (Nat.le_of_ble_eq_true rfl) dX6_height_21 ⟨Nat.le_of_ble_eq_true rfl, Nat.le_of_ble_eq_true rfl⟩ (fun x1 σ1 H1 locs1 hp1 hW1 hz1 hS1 => ?_)
      obtain ⟨rfl, hx9⟩ := hp1
      rw [CP_ht hCP] at hx9
      obtain rfl := hx9
      refine W.eq (g2 := F0 m 24 ls [.int (zi (yht t nd nr a))]) rfl ?_
      refine W.eq (g2 := F0 m 24 ls [.int (zi (yht t nd nr a))]) rfl ?_
      refine zw_widen (k := 1) (n := 6) (Nat.le_of_ble_eq_true rfl) (Nat.le_of_ble_eq_true rfl) (vx_ret ?_)
      refine zz_reti hx hb hr hlocks hW1 hS1 ?_ dX6_height_24
      exact ⟨rfl, by omega, rfl⟩
    · refine zx_throw (ik := 75) (is := 140) (ic := 79) (cls := "java/lang/IndexOutOfBoundsException") (text := "no such zone") (rest := []) ⟨hx, hb, hml, hown, hts⟩ hst hlocks hout hE hW0 hS0 (by decide +kernel) (by decide) (by decide +kernel) (by decide +kernel) (by decide +kernel) zat0 zot0 (by decide) hl.1.1 dX6_height_9 dX6_height_12 dX6_height_13 dX6_height_15 dX6_height_18 ⟨Nat.le_of_ble_eq_true rfl, (Nat.le_of_ble_eq_true rfl), Nat.le_of_ble_eq_true rfl, Nat.le_of_ble_eq_true rfl⟩ (Nat.le_of_ble_eq_true rfl) (Nat.le_of_ble_eq_true rfl) ?_
      exact ⟨rfl, rfl, by omega⟩

set_option maxHeartbeats 4000000 in
set_option maxRecDepth 100000 in
theorem c_X6_street (l : Launch) (hst : l.stackTraces = false) (G : zG) (ad : zA) (A : Nat → Prop) (N0 : Nat) (σ : zS) (nd nr ns : Nat) (hX : zX ad nd nr) (c9 B9 : Int) (t : zS) (hCP : CP σ t nd nr ns) (hWF : yWF t nd nr ns c9 B9) (hB9 : B9 ≤ 1000000) (a b m9 : Int) (ga : zg a) (gb : zg b) (gm9 : zg m9) : vx_Met l yX6_street wsX6_street ({ frames := 7, cells := 5, slots := 30, locals := 222 }) (zPx G ad A N0 σ [zr ad 0 ((0 : Nat) : Int), .int (zi a), .int (zi b), .int (zi m9)]) (zQ G ad A zri (fun r u => ((0 ≤ a ∧ a ≤ 9) ∧ (0 ≤ b ∧ b ≤ 9)) ∧ (a ≠ b ∧ (1 ≤ m9 ∧ m9 ≤ 20)) ∧ ns < 20 ∧ (ns : Int) = r ∧ ∀ v, yfw (zu (zu (zu (zu (zu t 30 0 0 0) 44 0 ns a) 45 0 ns b) 46 0 ns m9) 30 0 3 ((ns : Int) + 1)) v (ns + 1) → CP u v nd nr (ns + 1))) (zXC G ad A (fun E u => σ = u ∧ ((E = "java/lang/IndexOutOfBoundsException" ∧ ¬ ((0 ≤ a ∧ a ≤ 9) ∧ (0 ≤ b ∧ b ≤ 9))) ∨ (E = "java/lang/IllegalArgumentException" ∧ ((0 ≤ a ∧ a ≤ 9) ∧ (0 ≤ b ∧ b ≤ 9)) ∧ ¬ (a ≠ b ∧ (1 ≤ m9 ∧ m9 ≤ 20))) ∨ (E = "java/lang/IllegalStateException" ∧ ((0 ≤ a ∧ a ≤ 9) ∧ (0 ≤ b ∧ b ≤ 9)) ∧ (a ≠ b ∧ (1 ≤ m9 ∧ m9 ≤ 20)) ∧ ns = 20)))) 5 30 A := by
  refine zx_of (cc := cX6_street) (maxL := 4) (ret := (some .int)) (by decide) rfl (List.forall_mem_cons.mpr ⟨zr_cat _ _ _, List.forall_mem_cons.mpr ⟨rfl, List.forall_mem_cons.mpr ⟨rfl, List.forall_mem_cons.mpr ⟨rfl, fun _ h => absurd h List.not_mem_nil⟩⟩⟩⟩) (Nat.le_of_ble_eq_true rfl) ?_
  intro p e s m below meth c hx hb hr hml hts hown hlocks hout hsz hW0 hK hE ls hl
  have hS0 : va_S A s.heap s.heap [] := va_S.rf
  have hl : zh ls 4 [(0, zr ad 0 ((0 : Nat) : Int)), (1, .int (zi a)), (2, .int (zi b)), (3, .int (zi m9))] := hl
  have hinX0 : ∀ w ∈ u_ws RX0 TX0 5, w ∈ wsX6_street := by decide +kernel
  have hinX6 : ∀ w ∈ u_ws RX6 TX6 10, w ∈ wsX6_street := by decide +kernel
  have hc9 := hCP
  have hg5 := hc9.1.1.1
  have hg6 := hc9.1.1.2.1
  have hg8 := hc9.1.2.1.2.1
  have hgD := hc9.1.2.2.1
  have hgQ := hc9.1.2.2.2.1
  have hnd := hWF.1.1.1
  have hnr := hWF.1.1.2.1
  have hnow0 := hWF.1.2.2.1
  have hord := hWF.1.2.2.2.2.1
  have hg9 := hCP.1.2.1.2.2
  have hg4 := hCP.1.1.2.2
  have hns := hWF.1.1.2.2
  refine zz_iload_n hx hb hl 1 dX6_street_0 rfl rfl ?_
  refine zx_callS (As := [.int (zi a)]) (rest := []) ⟨hx, hb, hml, hown, hts⟩ (c_X6_checkPlace l hst G ad A N0 σ a ga) (va_cwS 1 hts gX6_street_X6_checkPlace rfl rfl rfl (by decide +kernel) ⟨Nat.le_of_ble_eq_true rfl, Nat.le_of_ble_eq_true rfl⟩) hK hE hW0 (Nat.le_trans hsz hS0.1) hS0 rfl hl.1.1 rfl (Nat.le_of_ble_eq_true rfl) dX6_street_1 ⟨Nat.le_of_ble_eq_true rfl, Nat.le_of_ble_eq_true rfl⟩ (fun E9 ce9 q9 u9 H9 locs9 hpx hWx hSx hce hcv hclx => zx_out hout hlocks hce hcv hclx hWx hSx ((by obtain ⟨rfl, rfl, h9⟩ := hpx; exact ⟨rfl, Or.inl ⟨rfl, fun q => h9 (by omega)⟩⟩)) (Nat.le_of_ble_eq_true rfl) (Nat.le_of_ble_eq_true rfl)) (fun x1 σ1 H1 locs1 hp1 hW1 hz1 hS1 => ?_)
  obtain ⟨rfl, hka⟩ := hp1
  refine W.eq (g2 := F0 m 4 ls []) rfl ?_
  refine zz_iload_n hx hb hl 2 dX6_street_4 rfl rfl ?_
  refine zx_callS (As := [.int (zi b)]) (rest := []) ⟨hx, hb, hml, hown, hts⟩ (c_X6_checkPlace l hst G ad A N0 σ b gb) (va_cwS 1 hts gX6_street_X6_checkPlace rfl rfl rfl (by decide +kernel) ⟨Nat.le_of_ble_eq_true rfl, Nat.le_of_ble_eq_true rfl⟩) hK hE hW1 (Nat.le_trans hsz hS1.1) hS1 rfl hl.1.1 rfl (Nat.le_of_ble_eq_true rfl) dX6_street_5 ⟨Nat.le_of_ble_eq_true rfl, Nat.le_of_ble_eq_true rfl⟩ (fun E9 ce9 q9 u9 H9 locs9 hpx hWx hSx hce hcv hclx => zx_out hout hlocks hce hcv hclx hWx hSx ((by obtain ⟨rfl, rfl, h9⟩ := hpx; exact ⟨rfl, Or.inl ⟨rfl, fun q => h9 (by omega)⟩⟩)) (Nat.le_of_ble_eq_true rfl) (Nat.le_of_ble_eq_true rfl)) (fun x2 σ2 H2 locs2 hp2 hW2 hz2 hS2 => ?_)
  obtain ⟨rfl, hkb⟩ := hp2
  refine W.eq (g2 := F0 m 8 ls []) rfl ?_
  refine zz_iload_n hx hb hl 1 dX6_street_8 rfl rfl ?_
  refine zz_iload_n hx hb hl 2 dX6_street_9 rfl rfl ?_
  refine zz_icmp_ne (tgt := 23) hx hb dX6_street_10 (by decide) ga gb (fun hc10 => ?_) (fun hc10 => ?_)
  · refine zz_iload_n hx hb hl 3 dX6_street_23 rfl rfl ?_
    refine zz_iconst hx hb dX6_street_24 ?_
    refine zz_bipush hx hb dX6_street_25 (by decide +kernel) ?_
    refine zx_callS (As := [.int (zi m9), .int (zi 1), .int (zi 20)]) (rest := []) ⟨hx, hb, hml, hown, hts⟩ (c_X6_checkRange l hst G ad A N0 σ m9 1 20 gm9 ⟨by decide, by decide⟩ ⟨by decide, by decide⟩) (va_cwS 3 hts gX6_street_X6_checkRange rfl rfl rfl (by decide +kernel) ⟨Nat.le_of_ble_eq_true rfl, Nat.le_of_ble_eq_true rfl⟩) hK hE hW2 (Nat.le_trans hsz hS2.1) hS2 rfl hl.1.1 rfl (Nat.le_of_ble_eq_true rfl) dX6_street_27 ⟨Nat.le_of_ble_eq_true rfl, Nat.le_of_ble_eq_true rfl⟩ (fun E9 ce9 q9 u9 H9 locs9 hpx hWx hSx hce hcv hclx => zx_out hout hlocks hce hcv hclx hWx hSx ((by obtain ⟨rfl, rfl, h9⟩ := hpx; exact ⟨rfl, Or.inr (Or.inl ⟨rfl, ⟨by omega, by omega⟩, fun q => h9 q.2⟩)⟩)) (Nat.le_of_ble_eq_true rfl) (Nat.le_of_ble_eq_true rfl)) (fun x3 σ3 H3 locs3 hp3 hW3 hz3 hS3 => ?_)
    obtain ⟨rfl, hrm9⟩ := hp3
    refine W.eq (g2 := F0 m 30 ls []) rfl ?_
    refine zz_aload_n hx hb hl 0 dX6_street_30 rfl rfl ?_
    refine zz_get (T := TX6) (N := 10) (k := 0) (κ := 0) (w := zr ad 1 ((0 : Nat) : Int)) hx hb hts hinX6 hown hK hW3 (zlN (hX 0 0 rfl)) rfl rfl rfl (by decide) (hts (.fieldLink RX6 10 "HailCity" "map" "LHailCity$CityMap;") (by decide +kernel)) (fun _ h9 => h9) rfl dX6_street_31 ?_
    refine zz_getN (T := TX0) (N := 5) (k := 4) (κ := 1) (w := .int (zi ((ns : Nat) : Int))) hx hb hts hinX0 hown hK hW3 (zlN (hX 1 0 rfl)) rfl rfl rfl (by decide) (host := "HailCity") (List.mem_of_getElem? (i := 0) rfl) (fun _ h9 => h9) (congrArg (fun z => Value.int (zi z)) (show σ 1 0 4 = ((ns : Nat) : Int) from hg4)) dX6_street_34 ?_
    refine zz_bipush hx hb dX6_street_37 (by decide +kernel) ?_
    refine zz_icmp_lt (tgt := 52) hx hb dX6_street_39 (by decide) ⟨by omega, by omega⟩ ⟨by decide, by decide⟩ (fun hc39 => ?_) (fun hc39 => ?_)
    · refine zz_aload_n hx hb hl 0 dX6_street_52 rfl rfl ?_
      refine zz_get (T := TX6) (N := 10) (k := 0) (κ := 0) (w := zr ad 1 ((0 : Nat) : Int)) hx hb hts hinX6 hown hK hW3 (zlN (hX 0 0 rfl)) rfl rfl rfl (by decide) (hts (.fieldLink RX6 10 "HailCity" "map" "LHailCity$CityMap;") (by decide +kernel)) (fun _ h9 => h9) rfl dX6_street_53 ?_
      refine zz_iload_n hx hb hl 1 dX6_street_56 rfl rfl ?_
      refine zz_iload_n hx hb hl 2 dX6_street_57 rfl rfl ?_
      refine zz_iload_n hx hb hl 3 dX6_street_58 rfl rfl ?_
      refine zz_callV (T := TX0) (N := 5) (As := [.int (zi a), .int (zi b), .int (zi m9)]) (rest := []) (v := ((0 : Nat) : Int)) (κ := 1) ⟨hx, hb, hml, hown, hts⟩ (c_X0_addStreet l G ad A N0 σ nd nr hX ns hg4 (by omega) (CP_yst hCP.1 hWF.1.2.2.2.2.2.1) a b m9 ga gb gm9 hka hkb (by omega) hrm9) (cwV 3 hts gX6_street_X0_addStreet rfl rfl rfl (by decide +kernel) ⟨Nat.le_of_ble_eq_true rfl, Nat.le_of_ble_eq_true rfl⟩) hK hW3 (zlN (hX 1 0 rfl)) rfl rfl (Nat.le_trans hsz hS3.1) hS3 rfl hl.1.1 rfl (Nat.le_of_ble_eq_true rfl) dX6_street_59 ⟨Nat.le_of_ble_eq_true rfl, Nat.le_of_ble_eq_true rfl⟩ (fun x4 σ4 H4 locs4 hp4 hW4 hz4 hS4 => ?_)
      obtain ⟨rfl, hadd⟩ := hp4
      refine W.eq (g2 := F0 m 62 ls [.int (zi ((ns : Nat) : Int))]) rfl ?_
      refine W.eq (g2 := F0 m 62 ls [.int (zi ((ns : Nat) : Int))]) rfl ?_
      refine zw_widen (k := 5) (n := 30) (Nat.le_of_ble_eq_true rfl) (Nat.le_of_ble_eq_true rfl) (vx_ret ?_)
      refine zz_reti hx hb hr hlocks hW4 hS4 ?_ dX6_street_62
      exact ⟨⟨by omega, by omega⟩, ⟨by omega, hrm9⟩, by omega, rfl, fun v hv => CP_street hCP hWF (by omega) (by omega) (by omega) (by omega) hrm9 hadd hv⟩
    · refine zx_throw (ik := 66) (is := 68) (ic := 70) (cls := "java/lang/IllegalStateException") (text := "there are 20 streets") (rest := []) ⟨hx, hb, hml, hown, hts⟩ hst hlocks hout hE hW3 hS3 (by decide +kernel) (by decide) (by decide +kernel) (by decide +kernel) (by decide +kernel) zat2 zot2 (by decide) hl.1.1 dX6_street_42 dX6_street_45 dX6_street_46 dX6_street_48 dX6_street_51 ⟨Nat.le_of_ble_eq_true rfl, (Nat.le_of_ble_eq_true rfl), Nat.le_of_ble_eq_true rfl, Nat.le_of_ble_eq_true rfl⟩ (Nat.le_of_ble_eq_true rfl) (Nat.le_of_ble_eq_true rfl) ?_
      exact ⟨rfl, Or.inr (Or.inr ⟨rfl, ⟨by omega, by omega⟩, ⟨by omega, hrm9⟩, by omega⟩)⟩
  · refine zx_throw (ik := 52) (is := 54) (ic := 56) (cls := "java/lang/IllegalArgumentException") (text := "both places are the same") (rest := []) ⟨hx, hb, hml, hown, hts⟩ hst hlocks hout hE hW2 hS2 (by decide +kernel) (by decide) (by decide +kernel) (by decide +kernel) (by decide +kernel) zat1 zot1 (by decide) hl.1.1 dX6_street_13 dX6_street_16 dX6_street_17 dX6_street_19 dX6_street_22 ⟨Nat.le_of_ble_eq_true rfl, (Nat.le_of_ble_eq_true rfl), Nat.le_of_ble_eq_true rfl, Nat.le_of_ble_eq_true rfl⟩ (Nat.le_of_ble_eq_true rfl) (Nat.le_of_ble_eq_true rfl) ?_
    exact ⟨rfl, Or.inr (Or.inl ⟨rfl, ⟨by omega, by omega⟩, fun q => q.1 (by omega)⟩)⟩

set_option maxHeartbeats 4000000 in
set_option maxRecDepth 100000 in
theorem c_X6_slow (l : Launch) (hst : l.stackTraces = false) (G : zG) (ad : zA) (A : Nat → Prop) (N0 : Nat) (σ : zS) (nd nr ns : Nat) (hX : zX ad nd nr) (c9 B9 : Int) (t : zS) (hCP : CP σ t nd nr ns) (hWF : yWF t nd nr ns c9 B9) (hB9 : B9 ≤ 1000000) (a m9 : Int) (ga : zg a) (gm9 : zg m9) : vx_Met l yX6_slow wsX6_slow ({ frames := 7, cells := 2, slots := 12, locals := 222 }) (zPx G ad A N0 σ [zr ad 0 ((0 : Nat) : Int), .int (zi a), .int (zi m9)]) (zQ G ad A zri (fun r u => (0 ≤ a ∧ a ≤ (ns : Int) - 1) ∧ (1 ≤ m9 ∧ m9 ≤ 20) ∧ t 46 0 a.toNat = r ∧ ∀ v, yfw (zu (zu t 30 0 0 0) 46 0 a.toNat m9) v ns → CP u v nd nr ns)) (zXC G ad A (fun E u => σ = u ∧ ((E = "java/lang/IndexOutOfBoundsException" ∧ ¬ (0 ≤ a ∧ a ≤ (ns : Int) - 1)) ∨ (E = "java/lang/IllegalArgumentException" ∧ (0 ≤ a ∧ a ≤ (ns : Int) - 1) ∧ ¬ (1 ≤ m9 ∧ m9 ≤ 20))))) 2 12 A := by
  refine zx_of (cc := cX6_slow) (maxL := 3) (ret := (some .int)) (by decide) rfl (List.forall_mem_cons.mpr ⟨zr_cat _ _ _, List.forall_mem_cons.mpr ⟨rfl, List.forall_mem_cons.mpr ⟨rfl, fun _ h => absurd h List.not_mem_nil⟩⟩⟩) (Nat.le_of_ble_eq_true rfl) ?_
  intro p e s m below meth c hx hb hr hml hts hown hlocks hout hsz hW0 hK hE ls hl
  have hS0 : va_S A s.heap s.heap [] := va_S.rf
  have hl : zh ls 3 [(0, zr ad 0 ((0 : Nat) : Int)), (1, .int (zi a)), (2, .int (zi m9))] := hl
  have hinX0 : ∀ w ∈ u_ws RX0 TX0 5, w ∈ wsX6_slow := by decide +kernel
  have hinX6 : ∀ w ∈ u_ws RX6 TX6 10, w ∈ wsX6_slow := by decide +kernel
  have hc9 := hCP
  have hg5 := hc9.1.1.1
  have hg6 := hc9.1.1.2.1
  have hg8 := hc9.1.2.1.2.1
  have hgD := hc9.1.2.2.1
  have hgQ := hc9.1.2.2.2.1
  have hnd := hWF.1.1.1
  have hnr := hWF.1.1.2.1
  have hnow0 := hWF.1.2.2.1
  have hord := hWF.1.2.2.2.2.1
  have hg9 := hCP.1.2.1.2.2
  have hg4 := hCP.1.1.2.2
  have hns := hWF.1.1.2.2
  refine zz_iload_n hx hb hl 1 dX6_slow_0 rfl rfl ?_
  refine zz_if_lt (tgt := 15) hx hb dX6_slow_1 (by decide) ga (fun hc1 => ?_) (fun hc1 => ?_)
  · refine zx_throw (ik := 75) (is := 77) (ic := 79) (cls := "java/lang/IndexOutOfBoundsException") (text := "no such street") (rest := []) ⟨hx, hb, hml, hown, hts⟩ hst hlocks hout hE hW0 hS0 (by decide +kernel) (by decide) (by decide +kernel) (by decide +kernel) (by decide +kernel) zat0 zot0 (by decide) hl.1.1 dX6_slow_15 dX6_slow_18 dX6_slow_19 dX6_slow_21 dX6_slow_24 ⟨Nat.le_of_ble_eq_true rfl, (Nat.le_of_ble_eq_true rfl), Nat.le_of_ble_eq_true rfl, Nat.le_of_ble_eq_true rfl⟩ (Nat.le_of_ble_eq_true rfl) (Nat.le_of_ble_eq_true rfl) ?_
    exact ⟨rfl, Or.inl ⟨rfl, by omega⟩⟩
  · refine zz_iload_n hx hb hl 1 dX6_slow_4 rfl rfl ?_
    refine zz_aload_n hx hb hl 0 dX6_slow_5 rfl rfl ?_
    refine zz_get (T := TX6) (N := 10) (k := 0) (κ := 0) (w := zr ad 1 ((0 : Nat) : Int)) hx hb hts hinX6 hown hK hW0 (zlN (hX 0 0 rfl)) rfl rfl rfl (by decide) (hts (.fieldLink RX6 10 "HailCity" "map" "LHailCity$CityMap;") (by decide +kernel)) (fun _ h9 => h9) rfl dX6_slow_6 ?_
    refine zz_getN (T := TX0) (N := 5) (k := 4) (κ := 1) (w := .int (zi ((ns : Nat) : Int))) hx hb hts hinX0 hown hK hW0 (zlN (hX 1 0 rfl)) rfl rfl rfl (by decide) (host := "HailCity") (List.mem_of_getElem? (i := 0) rfl) (fun _ h9 => h9) (congrArg (fun z => Value.int (zi z)) (show σ 1 0 4 = ((ns : Nat) : Int) from hg4)) dX6_slow_9 ?_
    refine zz_icmp_lt (tgt := 25) hx hb dX6_slow_12 (by decide) ga ⟨by omega, by omega⟩ (fun hc12 => ?_) (fun hc12 => ?_)
    · refine zz_iload_n hx hb hl 2 dX6_slow_25 rfl rfl ?_
      refine zz_iconst hx hb dX6_slow_26 ?_
      refine zz_bipush hx hb dX6_slow_27 (by decide +kernel) ?_
      refine zx_callS (As := [.int (zi m9), .int (zi 1), .int (zi 20)]) (rest := []) ⟨hx, hb, hml, hown, hts⟩ (c_X6_checkRange l hst G ad A N0 σ m9 1 20 gm9 ⟨by decide, by decide⟩ ⟨by decide, by decide⟩) (va_cwS 3 hts gX6_slow_X6_checkRange rfl rfl rfl (by decide +kernel) ⟨Nat.le_of_ble_eq_true rfl, Nat.le_of_ble_eq_true rfl⟩) hK hE hW0 (Nat.le_trans hsz hS0.1) hS0 rfl hl.1.1 rfl (Nat.le_of_ble_eq_true rfl) dX6_slow_29 ⟨Nat.le_of_ble_eq_true rfl, Nat.le_of_ble_eq_true rfl⟩ (fun E9 ce9 q9 u9 H9 locs9 hpx hWx hSx hce hcv hclx => zx_out hout hlocks hce hcv hclx hWx hSx ((by obtain ⟨rfl, rfl, h9⟩ := hpx; exact ⟨rfl, Or.inr ⟨rfl, by omega, h9⟩⟩)) (Nat.le_of_ble_eq_true rfl) (Nat.le_of_ble_eq_true rfl)) (fun x1 σ1 H1 locs1 hp1 hW1 hz1 hS1 => ?_)
      obtain ⟨rfl, hrm9⟩ := hp1
      refine W.eq (g2 := F0 m 32 ls []) rfl ?_
      have ea : (a : Int) = ((a.toNat : Nat) : Int) := by omega
      have hl : zh ls 3 [(0, zr ad 0 ((0 : Nat) : Int)), (1, .int (zi ((a.toNat : Nat) : Int))), (2, .int (zi m9))] := by
        rw [← ea]
        exact hl
      refine zz_aload_n hx hb hl 0 dX6_slow_32 rfl rfl ?_
      refine zz_get (T := TX6) (N := 10) (k := 0) (κ := 0) (w := zr ad 1 ((0 : Nat) : Int)) hx hb hts hinX6 hown hK hW1 (zlN (hX 0 0 rfl)) rfl rfl rfl (by decide) (hts (.fieldLink RX6 10 "HailCity" "map" "LHailCity$CityMap;") (by decide +kernel)) (fun _ h9 => h9) rfl dX6_slow_33 ?_
      refine zz_iload_n hx hb hl 1 dX6_slow_36 rfl rfl ?_
      refine zz_iload_n hx hb hl 2 dX6_slow_37 rfl rfl ?_
      refine zz_callV (T := TX0) (N := 5) (As := [.int (zi ((a.toNat : Nat) : Int)), .int (zi m9)]) (rest := []) (v := ((0 : Nat) : Int)) (κ := 1) ⟨hx, hb, hml, hown, hts⟩ (c_X0_changeStreet l G ad A N0 σ nd nr hX ns hg4 (by omega) (CP_yst hCP.1 hWF.1.2.2.2.2.2.1) a.toNat (by omega) m9 gm9 hrm9) (cwV 2 hts gX6_slow_X0_changeStreet rfl rfl rfl (by decide +kernel) ⟨Nat.le_of_ble_eq_true rfl, Nat.le_of_ble_eq_true rfl⟩) hK hW1 (zlN (hX 1 0 rfl)) rfl rfl (Nat.le_trans hsz hS1.1) hS1 rfl hl.1.1 rfl (Nat.le_of_ble_eq_true rfl) dX6_slow_38 ⟨Nat.le_of_ble_eq_true rfl, Nat.le_of_ble_eq_true rfl⟩ (fun x2 σ2 H2 locs2 hp2 hW2 hz2 hS2 => ?_)
      obtain ⟨hold, hchg⟩ := hp2
      refine W.eq (g2 := F0 m 41 ls [.int (zi x2)]) rfl ?_
      refine W.eq (g2 := F0 m 41 ls [.int (zi x2)]) rfl ?_
      refine zw_widen (k := 2) (n := 12) (Nat.le_of_ble_eq_true rfl) (Nat.le_of_ble_eq_true rfl) (vx_ret ?_)
      refine zz_reti hx hb hr hlocks hW2 hS2 ?_ dX6_slow_41
      exact ⟨by omega, hrm9, (hCP.1.2.2.2.2.1 a.toNat (by omega)).2.2.symm.trans hold, fun v hv => CP_slow hCP hWF (by omega) hrm9 hchg hv⟩
    · refine zx_throw (ik := 75) (is := 77) (ic := 79) (cls := "java/lang/IndexOutOfBoundsException") (text := "no such street") (rest := []) ⟨hx, hb, hml, hown, hts⟩ hst hlocks hout hE hW0 hS0 (by decide +kernel) (by decide) (by decide +kernel) (by decide +kernel) (by decide +kernel) zat0 zot0 (by decide) hl.1.1 dX6_slow_15 dX6_slow_18 dX6_slow_19 dX6_slow_21 dX6_slow_24 ⟨Nat.le_of_ble_eq_true rfl, (Nat.le_of_ble_eq_true rfl), Nat.le_of_ble_eq_true rfl, Nat.le_of_ble_eq_true rfl⟩ (Nat.le_of_ble_eq_true rfl) (Nat.le_of_ble_eq_true rfl) ?_
      exact ⟨rfl, Or.inl ⟨rfl, by omega⟩⟩

set_option maxHeartbeats 4000000 in
set_option maxRecDepth 100000 in
theorem c_X6_rest (l : Launch) (hst : l.stackTraces = false) (G : zG) (ad : zA) (A : Nat → Prop) (N0 : Nat) (σ : zS) (nd nr ns : Nat) (hX : zX ad nd nr) (c9 B9 : Int) (t : zS) (hCP : CP σ t nd nr ns) (hWF : yWF t nd nr ns c9 B9) (hB9 : B9 ≤ 1000000) (a x : Int) (ga : zg a) (hx01 : x = 0 ∨ x = 1) : vx_Met l yX6_rest wsX6_rest ({ frames := 7, cells := 2, slots := 12, locals := 222 }) (zPx G ad A N0 σ [zr ad 0 ((0 : Nat) : Int), .int (zi a), .int (zi x)]) (zQ G ad A zri (fun r u => (0 ≤ a ∧ a ≤ (nd : Int) - 1) ∧ ¬ 0 < t 52 0 a.toNat ∧ t 50 0 a.toNat = r ∧ CP u (ymr t a.toNat x) nd nr ns)) (zXC G ad A (fun E u => σ = u ∧ ((E = "java/lang/IndexOutOfBoundsException" ∧ ¬ (0 ≤ a ∧ a ≤ (nd : Int) - 1)) ∨ (E = "java/lang/IllegalStateException" ∧ (0 ≤ a ∧ a ≤ (nd : Int) - 1) ∧ 0 < t 52 0 a.toNat)))) 2 12 A := by
  refine zx_of (cc := cX6_rest) (maxL := 6) (ret := (some .boolean)) (by decide) rfl (List.forall_mem_cons.mpr ⟨zr_cat _ _ _, List.forall_mem_cons.mpr ⟨rfl, List.forall_mem_cons.mpr ⟨rfl, fun _ h => absurd h List.not_mem_nil⟩⟩⟩) (Nat.le_of_ble_eq_true rfl) ?_
  intro p e s m below meth c hx hb hr hml hts hown hlocks hout hsz hW0 hK hE ls hl
  have hS0 : va_S A s.heap s.heap [] := va_S.rf
  have hl : zh ls 6 [(0, zr ad 0 ((0 : Nat) : Int)), (1, .int (zi a)), (2, .int (zi x))] := hl
  have hinX1 : ∀ w ∈ u_ws RX1 TX1 13, w ∈ wsX6_rest := by decide +kernel
  have hinX4 : ∀ w ∈ u_ws RX4 TX4 4, w ∈ wsX6_rest := by decide +kernel
  have hc9 := hCP
  have hg5 := hc9.1.1.1
  have hg6 := hc9.1.1.2.1
  have hg8 := hc9.1.2.1.2.1
  have hgD := hc9.1.2.2.1
  have hgQ := hc9.1.2.2.2.1
  have hnd := hWF.1.1.1
  have hnr := hWF.1.1.2.1
  have hnow0 := hWF.1.2.2.1
  have hord := hWF.1.2.2.2.2.1
  have hg9 := hCP.1.2.1.2.2
  have hg4 := hCP.1.1.2.2
  refine zz_aload_n hx hb hl 0 dX6_rest_0 rfl rfl ?_
  refine zz_iload_n hx hb hl 1 dX6_rest_1 rfl rfl ?_
  refine zx_callV (T := TX6) (N := 10) (As := [.int (zi a)]) (rest := []) (v := ((0 : Nat) : Int)) (κ := 0) ⟨hx, hb, hml, hown, hts⟩ (c_X6_knownDriver l hst G ad A N0 σ nd nr hX hnd hnr hg5 hg6 hgD hgQ a ga) (cwV 1 hts gX6_rest_X6_knownDriver rfl rfl rfl (by decide +kernel) ⟨Nat.le_of_ble_eq_true rfl, Nat.le_of_ble_eq_true rfl⟩) hK hE hW0 (zlN (hX 0 0 rfl)) rfl rfl (Nat.le_trans hsz hS0.1) hS0 rfl hl.1.1 rfl (Nat.le_of_ble_eq_true rfl) dX6_rest_2 ⟨Nat.le_of_ble_eq_true rfl, Nat.le_of_ble_eq_true rfl⟩ (fun E9 ce9 q9 u9 H9 locs9 hpx hWx hSx hce hcv hclx => zx_out hout hlocks hce hcv hclx hWx hSx ((by obtain ⟨rfl, rfl, h9⟩ := hpx; exact ⟨rfl, Or.inl ⟨rfl, fun q => h9 (by omega)⟩⟩)) (Nat.le_of_ble_eq_true rfl) (Nat.le_of_ble_eq_true rfl)) (fun x1 σ1 H1 locs1 hp1 hW1 hz1 hS1 => ?_)
  obtain ⟨rfl, hka, hra⟩ := hp1
  obtain rfl : x1 = ((a.toNat : Nat) : Int) := by omega
  have hcd := hCP.2.1 a.toNat (by omega)
  have hwd := hWF.2.1 a.toNat (by omega)
  have h529 := hwd.1.2
  have h18 := hcd.1.2.1
  have h7b := hW0.2.2.2.2 17 a.toNat 7 rfl
  have h507 := hcd.1.1.2.2.2.2.1
  refine W.eq (g2 := F0 m 5 ls [zr ad 17 ((a.toNat : Nat) : Int)]) rfl ?_
  refine zz_astore_n (lv' := [(3, zr ad 17 ((a.toNat : Nat) : Int)), (0, zr ad 0 ((0 : Nat) : Int)), (1, .int (zi a)), (2, .int (zi x))]) hx hb hl dX6_rest_5 rfl (by decide) rfl (fun ls hl => ?_)
  refine zz_aload_n hx hb hl 0 dX6_rest_6 rfl rfl ?_
  refine zz_getN (T := TX1) (N := 13) (k := 1) (κ := 17) (w := zr ad 18 ((a.toNat : Nat) : Int)) hx hb hts hinX1 hown hK hW1 (zlN (hX 17 a.toNat (decide_eq_true (by omega)))) rfl rfl rfl (by decide) (host := "HailCity") (List.mem_of_getElem? (i := 12) rfl) (fun _ h9 => h9) rfl dX6_rest_7 ?_
  refine zz_getN (T := TX4) (N := 4) (k := 3) (κ := 18) (w := .int (zi (σ 18 a.toNat 3))) hx hb hts hinX4 hown hK hW1 (zlN (hX 18 a.toNat (decide_eq_true (by omega)))) rfl rfl rfl (by decide) (host := "HailCity") (List.mem_of_getElem? (i := 5) rfl) (fun _ h9 => h9) rfl dX6_rest_10 ?_
  refine zz_if_le (tgt := 26) hx hb dX6_rest_13 (by decide) (hW1.2.2.1 _ _ _) (fun hc13 => ?_) (fun hc13 => ?_)
  · refine zz_aload_n hx hb hl 0 dX6_rest_26 rfl rfl ?_
    refine zz_getN (T := TX1) (N := 13) (k := 7) (κ := 17) (w := .int (zi (σ 17 a.toNat 7))) hx hb hts hinX1 hown hK hW1 (zlN (hX 17 a.toNat (decide_eq_true (by omega)))) rfl rfl rfl (by decide) (host := "HailCity") (List.mem_of_getElem? (i := 16) rfl) (fun _ h9 => h9) rfl dX6_rest_27 ?_
    refine zz_istore (lv' := [(4, .int (zi (σ 17 a.toNat 7))), (3, zr ad 17 ((a.toNat : Nat) : Int)), (0, zr ad 0 ((0 : Nat) : Int)), (1, .int (zi a)), (2, .int (zi x))]) hx hb hl dX6_rest_30 (by decide) rfl (fun ls hl => ?_)
    refine zz_aload_n hx hb hl 1 dX6_rest_32 rfl rfl ?_
    refine zz_callV (T := TX1) (N := 13) (As := []) (rest := []) (v := ((a.toNat : Nat) : Int)) (κ := 17) ⟨hx, hb, hml, hown, hts⟩ (c_X1_isFree l G ad A N0 σ nd nr hX a.toNat (by omega)) (cwV 0 hts gX6_rest_X1_isFree rfl rfl rfl (by decide +kernel) ⟨Nat.le_of_ble_eq_true rfl, Nat.le_of_ble_eq_true rfl⟩) hK hW1 (zlN (hX 17 a.toNat (decide_eq_true (by omega)))) rfl rfl (Nat.le_trans hsz hS1.1) hS1 rfl hl.1.1 rfl (Nat.le_of_ble_eq_true rfl) dX6_rest_33 ⟨Nat.le_of_ble_eq_true rfl, Nat.le_of_ble_eq_true rfl⟩ (fun x2 σ2 H2 locs2 hp2 hW2 hz2 hS2 => ?_)
    obtain ⟨rfl, rfl⟩ := hp2
    refine W.eq (g2 := F0 m 36 ls [.int (zi (zb (σ 18 a.toNat 3 = 0 ∧ σ 17 a.toNat 7 = 0 ∧ σ 17 a.toNat 5 = 0)))]) rfl ?_
    refine zz_istore (lv' := [(5, .int (zi (zb (σ 18 a.toNat 3 = 0 ∧ σ 17 a.toNat 7 = 0 ∧ σ 17 a.toNat 5 = 0)))), (4, .int (zi (σ 17 a.toNat 7))), (3, zr ad 17 ((a.toNat : Nat) : Int)), (0, zr ad 0 ((0 : Nat) : Int)), (1, .int (zi a)), (2, .int (zi x))]) hx hb hl dX6_rest_36 (by decide) rfl (fun ls hl => ?_)
    refine zz_aload_n hx hb hl 2 dX6_rest_38 rfl rfl ?_
    refine zz_iload_n hx hb hl 5 dX6_rest_39 rfl rfl ?_
    refine zz_putN (T := TX1) (N := 13) (k := 7) (κ := 17) (v := ((a.toNat : Nat) : Int)) (x := x) (ty := .boolean) hx hb hts hinX1 tyX1 tyX1_ok nmX1 hown hK hW2 hS2 (zlN (hX 17 a.toNat (decide_eq_true (by omega)))) rfl rfl rfl (by decide) (host := "HailCity") (List.mem_of_getElem? (i := 16) rfl) (fun _ h9 => h9) rfl (by decide +kernel) (znar_b hx01) (by rcases hx01 with h | h <;> rw [h] <;> decide +kernel) rfl (zg_01 hx01) (fun h9 _ => absurd h9 (by decide)) (fun _ => hx01) dX6_rest_40 (fun H3 locs3 hW3' hS3 => ?_)
    obtain ⟨σ3, hs3⟩ : ∃ z, z = zu σ 17 a.toNat 7 x := ⟨_, rfl⟩
    have hW3 : ZW G ad A σ3 H3 := by rw [hs3]; exact hW3'
    refine zz_aload_n hx hb hl 3 dX6_rest_43 rfl rfl ?_
    refine zz_aload_n hx hb hl 2 dX6_rest_44 rfl rfl ?_
    refine zz_iload hx hb hl 0 dX6_rest_45 rfl ?_
    refine zz_callV (T := TX6) (N := 10) (As := [zr ad 17 ((a.toNat : Nat) : Int), .int (zi (zb (σ 18 a.toNat 3 = 0 ∧ σ 17 a.toNat 7 = 0 ∧ σ 17 a.toNat 5 = 0)))]) (rest := []) (v := ((0 : Nat) : Int)) (κ := 0) ⟨hx, hb, hml, hown, hts⟩ (c_X6_queueIfNowFree l G ad A N0 σ3 nd nr hX a.toNat (by omega) (zb (σ 18 a.toNat 3 = 0 ∧ σ 17 a.toNat 7 = 0 ∧ σ 17 a.toNat 5 = 0)) (zb_01 _) (by rw [hs3, zu_ne (by omega)]; omega)) (cwV 2 hts gX6_rest_X6_queueIfNowFree rfl rfl rfl (by decide +kernel) ⟨Nat.le_of_ble_eq_true rfl, Nat.le_of_ble_eq_true rfl⟩) hK hW3 (zlN (hX 0 0 rfl)) rfl rfl (Nat.le_trans hsz hS3.1) hS3 rfl hl.1.1 rfl (Nat.le_of_ble_eq_true rfl) dX6_rest_47 ⟨Nat.le_of_ble_eq_true rfl, Nat.le_of_ble_eq_true rfl⟩ (fun x4 σ4 H4 locs4 hp4 hW4 hz4 hS4 => ?_)
    refine W.eq (g2 := F0 m 50 ls []) rfl ?_
    refine zz_iload hx hb hl 1 dX6_rest_50 rfl ?_
    refine W.eq (g2 := F0 m 52 ls [.int (zi (σ 17 a.toNat 7))]) rfl ?_
    refine zw_widen (k := 2) (n := 12) (Nat.le_of_ble_eq_true rfl) (Nat.le_of_ble_eq_true rfl) (vx_ret ?_)
    refine zz_retz hx hb hr hlocks hW4 hS4 (hW1.2.2.2.2 _ _ _ rfl) ?_ dX6_rest_52
    refine ⟨by omega, by omega, h507.symm, ?_⟩
    rw [← hp4, hs3]
    exact CP_rest hCP hWF (by omega) (by omega) hx01 rfl
  · refine zx_throw (ik := 66) (is := 115) (ic := 70) (cls := "java/lang/IllegalStateException") (text := "the driver has stops") (rest := []) ⟨hx, hb, hml, hown, hts⟩ hst hlocks hout hE hW1 hS1 (by decide +kernel) (by decide) (by decide +kernel) (by decide +kernel) (by decide +kernel) zat2 zot2 (by decide) hl.1.1 dX6_rest_16 dX6_rest_19 dX6_rest_20 dX6_rest_22 dX6_rest_25 ⟨Nat.le_of_ble_eq_true rfl, (Nat.le_of_ble_eq_true rfl), Nat.le_of_ble_eq_true rfl, Nat.le_of_ble_eq_true rfl⟩ (Nat.le_of_ble_eq_true rfl) (Nat.le_of_ble_eq_true rfl) ?_
    exact ⟨rfl, Or.inr ⟨rfl, by omega, by omega⟩⟩

set_option maxHeartbeats 4000000 in
set_option maxRecDepth 100000 in
theorem c_X6_pay (l : Launch) (hst : l.stackTraces = false) (G : zG) (ad : zA) (A : Nat → Prop) (N0 : Nat) (σ : zS) (nd nr ns : Nat) (hX : zX ad nd nr) (c9 B9 : Int) (t : zS) (hCP : CP σ t nd nr ns) (hWF : yWF t nd nr ns c9 B9) (hB9 : B9 ≤ 1000000) (a : Int) (ga : zg a) : vx_Met l yX6_pay wsX6_pay ({ frames := 7, cells := 1, slots := 6, locals := 222 }) (zPx G ad A N0 σ [zr ad 0 ((0 : Nat) : Int), .int (zi a)]) (zQ G ad A zri (fun r u => σ = u ∧ (0 ≤ a ∧ a ≤ (nd : Int) - 1) ∧ ypy t a.toNat = r)) (zXC G ad A (fun E u => σ = u ∧ E = "java/lang/IndexOutOfBoundsException" ∧ ¬ (0 ≤ a ∧ a ≤ (nd : Int) - 1))) 1 6 A := by
  refine zx_of (cc := cX6_pay) (maxL := 3) (ret := (some .int)) (by decide) rfl (List.forall_mem_cons.mpr ⟨zr_cat _ _ _, List.forall_mem_cons.mpr ⟨rfl, fun _ h => absurd h List.not_mem_nil⟩⟩) (Nat.le_of_ble_eq_true rfl) ?_
  intro p e s m below meth c hx hb hr hml hts hown hlocks hout hsz hW0 hK hE ls hl
  have hS0 : va_S A s.heap s.heap [] := va_S.rf
  have hl : zh ls 3 [(0, zr ad 0 ((0 : Nat) : Int)), (1, .int (zi a))] := hl
  have hinX1 : ∀ w ∈ u_ws RX1 TX1 13, w ∈ wsX6_pay := by decide +kernel
  have hc9 := hCP
  have hg5 := hc9.1.1.1
  have hg6 := hc9.1.1.2.1
  have hg8 := hc9.1.2.1.2.1
  have hgD := hc9.1.2.2.1
  have hgQ := hc9.1.2.2.2.1
  have hnd := hWF.1.1.1
  have hnr := hWF.1.1.2.1
  have hnow0 := hWF.1.2.2.1
  have hord := hWF.1.2.2.2.2.1
  have hg9 := hCP.1.2.1.2.2
  have hg4 := hCP.1.1.2.2
  refine zz_aload_n hx hb hl 0 dX6_pay_0 rfl rfl ?_
  refine zz_iload_n hx hb hl 1 dX6_pay_1 rfl rfl ?_
  refine zx_callV (T := TX6) (N := 10) (As := [.int (zi a)]) (rest := []) (v := ((0 : Nat) : Int)) (κ := 0) ⟨hx, hb, hml, hown, hts⟩ (c_X6_knownDriver l hst G ad A N0 σ nd nr hX hnd hnr hg5 hg6 hgD hgQ a ga) (cwV 1 hts gX6_pay_X6_knownDriver rfl rfl rfl (by decide +kernel) ⟨Nat.le_of_ble_eq_true rfl, Nat.le_of_ble_eq_true rfl⟩) hK hE hW0 (zlN (hX 0 0 rfl)) rfl rfl (Nat.le_trans hsz hS0.1) hS0 rfl hl.1.1 rfl (Nat.le_of_ble_eq_true rfl) dX6_pay_2 ⟨Nat.le_of_ble_eq_true rfl, Nat.le_of_ble_eq_true rfl⟩ (fun E9 ce9 q9 u9 H9 locs9 hpx hWx hSx hce hcv hclx => zx_out hout hlocks hce hcv hclx hWx hSx ((by obtain ⟨rfl, rfl, h9⟩ := hpx; exact ⟨rfl, rfl, fun q => h9 (by omega)⟩)) (Nat.le_of_ble_eq_true rfl) (Nat.le_of_ble_eq_true rfl)) (fun x1 σ1 H1 locs1 hp1 hW1 hz1 hS1 => ?_)
  obtain ⟨rfl, hka, hra⟩ := hp1
  obtain rfl : x1 = ((a.toNat : Nat) : Int) := by omega
  have hcd := hCP.2.1 a.toNat (by omega)
  have hwd := hWF.2.1 a.toNat (by omega)
  have h529 := hwd.1.2
  have h18 := hcd.1.2.1
  have h6099 := hwd.2.2.2.2.2.2.1
  have h109 := hcd.1.1.2.2.2.2.2.2.1
  have h129 := hcd.1.1.2.2.2.2.2.2.2.2
  refine W.eq (g2 := F0 m 5 ls [zr ad 17 ((a.toNat : Nat) : Int)]) rfl ?_
  refine zz_astore_n (lv' := [(2, zr ad 17 ((a.toNat : Nat) : Int)), (0, zr ad 0 ((0 : Nat) : Int)), (1, .int (zi a))]) hx hb hl dX6_pay_5 rfl (by decide) rfl (fun ls hl => ?_)
  refine zz_aload_n hx hb hl 0 dX6_pay_6 rfl rfl ?_
  refine zz_getN (T := TX1) (N := 13) (k := 12) (κ := 17) (w := .int (zi (σ 17 a.toNat 12))) hx hb hts hinX1 hown hK hW1 (zlN (hX 17 a.toNat (decide_eq_true (by omega)))) rfl rfl rfl (by decide) (host := "HailCity") (List.mem_of_getElem? (i := 22) rfl) (fun _ h9 => h9) rfl dX6_pay_7 ?_
  refine zz_bipush hx hb dX6_pay_10 (by decide +kernel) ?_
  refine zz_imul hx hb dX6_pay_12 ?_
  refine zz_bipush hx hb dX6_pay_13 (by decide +kernel) ?_
  refine zz_idivT hx hb dX6_pay_15 ⟨by decide, by decide⟩ (by decide) ?_
  refine zz_aload_n hx hb hl 0 dX6_pay_16 rfl rfl ?_
  refine zz_getN (T := TX1) (N := 13) (k := 10) (κ := 17) (w := .int (zi (σ 17 a.toNat 10))) hx hb hts hinX1 hown hK hW1 (zlN (hX 17 a.toNat (decide_eq_true (by omega)))) rfl rfl rfl (by decide) (host := "HailCity") (List.mem_of_getElem? (i := 20) rfl) (fun _ h9 => h9) rfl dX6_pay_17 ?_
  refine zz_bipush hx hb dX6_pay_20 (by decide +kernel) ?_
  refine zz_imul hx hb dX6_pay_22 ?_
  refine zz_mmax hx hb (hml.trans hl.1.1.symm) hown (hts (.methodLink RX6 260 Lib.Math.max.name) (by decide +kernel)) (hts (.static Lib.Math.max.name) (by decide +kernel)) (hts (.initialized "java/lang/Math") (by decide +kernel)) (hts (.code Lib.Math.max.name Lib.Math.max.code 2 (some .int)) (by decide +kernel)) (Nat.le_of_ble_eq_true rfl) (Nat.le_of_ble_eq_true rfl) (Nat.le_of_ble_eq_true rfl) (Nat.le_of_ble_eq_true rfl) (zg_toInt _) ⟨by omega, by omega⟩ dX6_pay_23 ?_
  refine W.eq (g2 := F0 m 26 ls [.int (zi (max (ydv ((σ 17 a.toNat 12) * 75) 100) ((σ 17 a.toNat 10) * 30)))]) rfl ?_
  refine zw_widen (k := 1) (n := 6) (Nat.le_of_ble_eq_true rfl) (Nat.le_of_ble_eq_true rfl) (vx_ret ?_)
  refine zz_reti hx hb hr hlocks hW1 hS1 ?_ dX6_pay_26
  refine ⟨rfl, by omega, ?_⟩
  unfold ypy
  rw [h129, h109]

set_option maxHeartbeats 4000000 in
set_option maxRecDepth 100000 in
theorem c_X6_requestIs (l : Launch) (hst : l.stackTraces = false) (G : zG) (ad : zA) (A : Nat → Prop) (N0 : Nat) (σ : zS) (nd nr ns : Nat) (hX : zX ad nd nr) (c9 B9 : Int) (t : zS) (hCP : CP σ t nd nr ns) (hWF : yWF t nd nr ns c9 B9) (hB9 : B9 ≤ 1000000) (a w : Int) (ga : zg a) (gw : zg w) : vx_Met l yX6_requestIs wsX6_requestIs ({ frames := 7, cells := 2, slots := 12, locals := 222 }) (zPx G ad A N0 σ [zr ad 0 ((0 : Nat) : Int), .int (zi a), .int (zi w)]) (zQ G ad A zri (fun r u => σ = u ∧ (0 ≤ a ∧ a ≤ (nr : Int) - 1) ∧ (0 ≤ w ∧ w ≤ 6) ∧ yri t a.toNat w = r)) (zXC G ad A (fun E u => σ = u ∧ ((E = "java/lang/IndexOutOfBoundsException" ∧ ¬ (0 ≤ a ∧ a ≤ (nr : Int) - 1)) ∨ (E = "java/lang/IllegalArgumentException" ∧ (0 ≤ a ∧ a ≤ (nr : Int) - 1) ∧ ¬ (0 ≤ w ∧ w ≤ 6))))) 2 12 A := by
  refine zx_of (cc := cX6_requestIs) (maxL := 4) (ret := (some .int)) (by decide) rfl (List.forall_mem_cons.mpr ⟨zr_cat _ _ _, List.forall_mem_cons.mpr ⟨rfl, List.forall_mem_cons.mpr ⟨rfl, fun _ h => absurd h List.not_mem_nil⟩⟩⟩) (Nat.le_of_ble_eq_true rfl) ?_
  intro p e s m below meth c hx hb hr hml hts hown hlocks hout hsz hW0 hK hE ls hl
  have hS0 : va_S A s.heap s.heap [] := va_S.rf
  have hl : zh ls 4 [(0, zr ad 0 ((0 : Nat) : Int)), (1, .int (zi a)), (2, .int (zi w))] := hl
  have hinX1 : ∀ w ∈ u_ws RX1 TX1 13, w ∈ wsX6_requestIs := by decide +kernel
  have hinX3 : ∀ w ∈ u_ws RX3 TX3 12, w ∈ wsX6_requestIs := by decide +kernel
  have hc9 := hCP
  have hg5 := hc9.1.1.1
  have hg6 := hc9.1.1.2.1
  have hg8 := hc9.1.2.1.2.1
  have hgD := hc9.1.2.2.1
  have hgQ := hc9.1.2.2.2.1
  have hnd := hWF.1.1.1
  have hnr := hWF.1.1.2.1
  have hnow0 := hWF.1.2.2.1
  have hord := hWF.1.2.2.2.2.1
  have hg9 := hCP.1.2.1.2.2
  have hg4 := hCP.1.1.2.2
  refine zz_aload_n hx hb hl 0 dX6_requestIs_0 rfl rfl ?_
  refine zz_iload_n hx hb hl 1 dX6_requestIs_1 rfl rfl ?_
  refine zx_callV (T := TX6) (N := 10) (As := [.int (zi a)]) (rest := []) (v := ((0 : Nat) : Int)) (κ := 0) ⟨hx, hb, hml, hown, hts⟩ (c_X6_knownRequest l hst G ad A N0 σ nd nr hX hnd hnr hg5 hg6 hgD hgQ a ga) (cwV 1 hts gX6_requestIs_X6_knownRequest rfl rfl rfl (by decide +kernel) ⟨Nat.le_of_ble_eq_true rfl, Nat.le_of_ble_eq_true rfl⟩) hK hE hW0 (zlN (hX 0 0 rfl)) rfl rfl (Nat.le_trans hsz hS0.1) hS0 rfl hl.1.1 rfl (Nat.le_of_ble_eq_true rfl) dX6_requestIs_2 ⟨Nat.le_of_ble_eq_true rfl, Nat.le_of_ble_eq_true rfl⟩ (fun E9 ce9 q9 u9 H9 locs9 hpx hWx hSx hce hcv hclx => zx_out hout hlocks hce hcv hclx hWx hSx ((by obtain ⟨rfl, rfl, h9⟩ := hpx; exact ⟨rfl, Or.inl ⟨rfl, fun q => h9 (by omega)⟩⟩)) (Nat.le_of_ble_eq_true rfl) (Nat.le_of_ble_eq_true rfl)) (fun x1 σ1 H1 locs1 hp1 hW1 hz1 hS1 => ?_)
  obtain ⟨rfl, hka, hra⟩ := hp1
  obtain rfl : x1 = ((a.toNat : Nat) : Int) := by omega
  have hcq := hCP.2.2 a.toNat (by omega)
  have hwq := hWF.2.2.1 a.toNat (by omega)
  have h709 := hwq.2.2.2.2.2.2.2.1
  have h79 := hcq.2.2.2.2.2.2.1
  refine W.eq (g2 := F0 m 5 ls [zr ad 23 ((a.toNat : Nat) : Int)]) rfl ?_
  refine zz_astore_n (lv' := [(3, zr ad 23 ((a.toNat : Nat) : Int)), (0, zr ad 0 ((0 : Nat) : Int)), (1, .int (zi a)), (2, .int (zi w))]) hx hb hl dX6_requestIs_5 rfl (by decide) rfl (fun ls hl => ?_)
  refine zz_iload_n hx hb hl 3 dX6_requestIs_6 rfl rfl ?_
  refine zz_iconst hx hb dX6_requestIs_7 ?_
  refine zz_bipush hx hb dX6_requestIs_8 (by decide +kernel) ?_
  refine zx_callS (As := [.int (zi w), .int (zi 0), .int (zi 6)]) (rest := []) ⟨hx, hb, hml, hown, hts⟩ (c_X6_checkRange l hst G ad A N0 σ w 0 6 gw ⟨by decide, by decide⟩ ⟨by decide, by decide⟩) (va_cwS 3 hts gX6_requestIs_X6_checkRange rfl rfl rfl (by decide +kernel) ⟨Nat.le_of_ble_eq_true rfl, Nat.le_of_ble_eq_true rfl⟩) hK hE hW1 (Nat.le_trans hsz hS1.1) hS1 rfl hl.1.1 rfl (Nat.le_of_ble_eq_true rfl) dX6_requestIs_10 ⟨Nat.le_of_ble_eq_true rfl, Nat.le_of_ble_eq_true rfl⟩ (fun E9 ce9 q9 u9 H9 locs9 hpx hWx hSx hce hcv hclx => zx_out hout hlocks hce hcv hclx hWx hSx ((by obtain ⟨rfl, rfl, h9⟩ := hpx; exact ⟨rfl, Or.inr ⟨rfl, by omega, h9⟩⟩)) (Nat.le_of_ble_eq_true rfl) (Nat.le_of_ble_eq_true rfl)) (fun x2 σ2 H2 locs2 hp2 hW2 hz2 hS2 => ?_)
  obtain ⟨rfl, hrw⟩ := hp2
  refine W.eq (g2 := F0 m 13 ls []) rfl ?_
  refine zz_iload_n hx hb hl 3 dX6_requestIs_13 rfl rfl ?_
  by_cases hw14_0 : w = 0
  · refine W.eq (g2 := F0 m 14 ls [.int (zi 0)]) (by rw [hw14_0]) ?_
    refine lv_tableIn (x := zi 0) (off := 38) (tgt := 52) hx hb dX6_requestIs_14 (by decide +kernel) (by decide +kernel) (by decide +kernel) (by decide) ?_
    refine zz_aload_n hx hb hl 0 dX6_requestIs_52 rfl rfl ?_
    refine zz_getN (T := TX3) (N := 12) (k := 6) (κ := 23) (w := .int (zi (σ 23 a.toNat 6))) hx hb hts hinX3 hown hK hW2 (zlN (hX 23 a.toNat (decide_eq_true (by omega)))) rfl rfl rfl (by decide) (host := "HailCity") (List.mem_of_getElem? (i := 35) rfl) (fun _ h9 => h9) rfl dX6_requestIs_53 ?_
    refine W.eq (g2 := F0 m 56 ls [.int (zi (σ 23 a.toNat 6))]) rfl ?_
    refine zw_widen (k := 2) (n := 12) (Nat.le_of_ble_eq_true rfl) (Nat.le_of_ble_eq_true rfl) (vx_ret ?_)
    refine zz_reti hx hb hr hlocks hW2 hS2 ?_ dX6_requestIs_56
    refine ⟨rfl, by omega, hrw, ?_⟩
    unfold yri
    rw [if_pos (by omega)]
    exact hcq.2.2.2.2.2.1.symm
  by_cases hw14_1 : w = 1
  · refine W.eq (g2 := F0 m 14 ls [.int (zi 1)]) (by rw [hw14_1]) ?_
    refine lv_tableIn (x := zi 1) (off := 43) (tgt := 57) hx hb dX6_requestIs_14 (by decide +kernel) (by decide +kernel) (by decide +kernel) (by decide) ?_
    refine zz_aload_n hx hb hl 0 dX6_requestIs_57 rfl rfl ?_
    refine zz_getN (T := TX3) (N := 12) (k := 5) (κ := 23) (w := .int (zi (σ 23 a.toNat 5))) hx hb hts hinX3 hown hK hW2 (zlN (hX 23 a.toNat (decide_eq_true (by omega)))) rfl rfl rfl (by decide) (host := "HailCity") (List.mem_of_getElem? (i := 34) rfl) (fun _ h9 => h9) rfl dX6_requestIs_58 ?_
    refine W.eq (g2 := F0 m 61 ls [.int (zi (σ 23 a.toNat 5))]) rfl ?_
    refine zw_widen (k := 2) (n := 12) (Nat.le_of_ble_eq_true rfl) (Nat.le_of_ble_eq_true rfl) (vx_ret ?_)
    refine zz_reti hx hb hr hlocks hW2 hS2 ?_ dX6_requestIs_61
    refine ⟨rfl, by omega, hrw, ?_⟩
    unfold yri
    rw [if_neg (by omega), if_pos (by omega)]
    exact hcq.2.2.2.2.1.symm
  by_cases hw14_2 : w = 2
  · refine W.eq (g2 := F0 m 14 ls [.int (zi 2)]) (by rw [hw14_2]) ?_
    refine lv_tableIn (x := zi 2) (off := 48) (tgt := 62) hx hb dX6_requestIs_14 (by decide +kernel) (by decide +kernel) (by decide +kernel) (by decide) ?_
    refine zz_aload_n hx hb hl 0 dX6_requestIs_62 rfl rfl ?_
    refine zz_getN (T := TX3) (N := 12) (k := 7) (κ := 23) (w := zr ad 17 (σ 23 a.toNat 7)) hx hb hts hinX3 hown hK hW2 (zlN (hX 23 a.toNat (decide_eq_true (by omega)))) rfl rfl rfl (by decide) (host := "HailCity") (List.mem_of_getElem? (i := 36) rfl) (fun _ h9 => h9) (zv_r (by decide) (by decide)) dX6_requestIs_63 ?_
    refine zz_ifnonnull (tgt := 73) hx hb (hW2.2.2.2.1 23 _ 7 ((zlN (hX 23 a.toNat (decide_eq_true (by omega))))).2 (by decide) (by decide)) dX6_requestIs_66 (by decide) (fun hc66 => ?_) (fun hc66 => ?_)
    · refine zz_aload_n hx hb hl 0 dX6_requestIs_73 rfl rfl ?_
      refine zz_getN (T := TX3) (N := 12) (k := 7) (κ := 23) (w := zr ad 17 (σ 23 a.toNat 7)) hx hb hts hinX3 hown hK hW2 (zlN (hX 23 a.toNat (decide_eq_true (by omega)))) rfl rfl rfl (by decide) (host := "HailCity") (List.mem_of_getElem? (i := 36) rfl) (fun _ h9 => h9) (zv_r (by decide) (by decide)) dX6_requestIs_74 ?_
      refine zz_getN (T := TX1) (N := 13) (k := 0) (κ := 17) (w := .int (zi (((σ 23 a.toNat 7).toNat : Nat) : Int))) hx hb hts hinX1 hown hK hW2 hc66 rfl rfl rfl (by decide) (host := "HailCity") (List.mem_of_getElem? (i := 10) rfl) (fun _ h9 => h9) rfl dX6_requestIs_77 ?_
      refine W.eq (g2 := F0 m 80 ls [.int (zi (((σ 23 a.toNat 7).toNat : Nat) : Int))]) rfl ?_
      refine zw_widen (k := 2) (n := 12) (Nat.le_of_ble_eq_true rfl) (Nat.le_of_ble_eq_true rfl) (vx_ret ?_)
      refine zz_reti hx hb hr hlocks hW2 hS2 ?_ dX6_requestIs_80
      refine ⟨rfl, by omega, hrw, ?_⟩
      unfold yri
      rw [if_neg (by omega), if_neg (by omega), if_pos (by omega)]
      have h8 := hc66.1
      omega
    · refine zz_iconst hx hb dX6_requestIs_69 ?_
      refine zz_goto (tgt := 80) hx hb dX6_requestIs_70 (by decide) ?_
      refine W.eq (g2 := F0 m 80 ls [.int (zi (-1))]) rfl ?_
      refine zw_widen (k := 2) (n := 12) (Nat.le_of_ble_eq_true rfl) (Nat.le_of_ble_eq_true rfl) (vx_ret ?_)
      refine zz_reti hx hb hr hlocks hW2 hS2 ?_ dX6_requestIs_80
      refine ⟨rfl, by omega, hrw, ?_⟩
      unfold yri
      rw [if_neg (by omega), if_neg (by omega), if_pos (by omega)]
      omega
  by_cases hw14_3 : w = 3
  · refine W.eq (g2 := F0 m 14 ls [.int (zi 3)]) (by rw [hw14_3]) ?_
    refine lv_tableIn (x := zi 3) (off := 67) (tgt := 81) hx hb dX6_requestIs_14 (by decide +kernel) (by decide +kernel) (by decide +kernel) (by decide) ?_
    refine zz_aload_n hx hb hl 0 dX6_requestIs_81 rfl rfl ?_
    refine zz_getN (T := TX3) (N := 12) (k := 9) (κ := 23) (w := .int (zi (σ 23 a.toNat 9))) hx hb hts hinX3 hown hK hW2 (zlN (hX 23 a.toNat (decide_eq_true (by omega)))) rfl rfl rfl (by decide) (host := "HailCity") (List.mem_of_getElem? (i := 39) rfl) (fun _ h9 => h9) rfl dX6_requestIs_82 ?_
    refine W.eq (g2 := F0 m 85 ls [.int (zi (σ 23 a.toNat 9))]) rfl ?_
    refine zw_widen (k := 2) (n := 12) (Nat.le_of_ble_eq_true rfl) (Nat.le_of_ble_eq_true rfl) (vx_ret ?_)
    refine zz_reti hx hb hr hlocks hW2 hS2 ?_ dX6_requestIs_85
    refine ⟨rfl, by omega, hrw, ?_⟩
    unfold yri
    rw [if_neg (by omega), if_neg (by omega), if_neg (by omega), if_pos (by omega)]
    exact hcq.2.2.2.2.2.2.2.2.1.symm
  by_cases hw14_4 : w = 4
  · refine W.eq (g2 := F0 m 14 ls [.int (zi 4)]) (by rw [hw14_4]) ?_
    refine lv_tableIn (x := zi 4) (off := 72) (tgt := 86) hx hb dX6_requestIs_14 (by decide +kernel) (by decide +kernel) (by decide +kernel) (by decide) ?_
    refine zz_aload_n hx hb hl 0 dX6_requestIs_86 rfl rfl ?_
    refine zz_getN (T := TX3) (N := 12) (k := 10) (κ := 23) (w := .int (zi (σ 23 a.toNat 10))) hx hb hts hinX3 hown hK hW2 (zlN (hX 23 a.toNat (decide_eq_true (by omega)))) rfl rfl rfl (by decide) (host := "HailCity") (List.mem_of_getElem? (i := 40) rfl) (fun _ h9 => h9) rfl dX6_requestIs_87 ?_
    refine W.eq (g2 := F0 m 90 ls [.int (zi (σ 23 a.toNat 10))]) rfl ?_
    refine zw_widen (k := 2) (n := 12) (Nat.le_of_ble_eq_true rfl) (Nat.le_of_ble_eq_true rfl) (vx_ret ?_)
    refine zz_reti hx hb hr hlocks hW2 hS2 ?_ dX6_requestIs_90
    refine ⟨rfl, by omega, hrw, ?_⟩
    unfold yri
    rw [if_neg (by omega), if_neg (by omega), if_neg (by omega), if_neg (by omega), if_pos (by omega)]
    exact hcq.2.2.2.2.2.2.2.2.2.1.symm
  by_cases hw14_5 : w = 5
  · refine W.eq (g2 := F0 m 14 ls [.int (zi 5)]) (by rw [hw14_5]) ?_
    refine lv_tableIn (x := zi 5) (off := 77) (tgt := 91) hx hb dX6_requestIs_14 (by decide +kernel) (by decide +kernel) (by decide +kernel) (by decide) ?_
    refine zz_aload_n hx hb hl 0 dX6_requestIs_91 rfl rfl ?_
    refine zz_callV (T := TX3) (N := 12) (As := []) (rest := []) (v := ((a.toNat : Nat) : Int)) (κ := 23) ⟨hx, hb, hml, hown, hts⟩ (c_X3_isPromiseBroken l G ad A N0 σ nd nr hX a.toNat (by omega)) (cwV 0 hts gX6_requestIs_X3_isPromiseBroken rfl rfl rfl (by decide +kernel) ⟨Nat.le_of_ble_eq_true rfl, Nat.le_of_ble_eq_true rfl⟩) hK hW2 (zlN (hX 23 a.toNat (decide_eq_true (by omega)))) rfl rfl (Nat.le_trans hsz hS2.1) hS2 rfl hl.1.1 rfl (Nat.le_of_ble_eq_true rfl) dX6_requestIs_92 ⟨Nat.le_of_ble_eq_true rfl, Nat.le_of_ble_eq_true rfl⟩ (fun x3 σ3 H3 locs3 hp3 hW3 hz3 hS3 => ?_)
    obtain ⟨rfl, rfl⟩ := hp3
    refine W.eq (g2 := F0 m 95 ls [.int (zi (zb (σ 23 a.toNat 10 ≠ -1 ∧ σ 23 a.toNat 9 < σ 23 a.toNat 10)))]) rfl ?_
    refine zz_if_eqb (tgt := 102) hx hb dX6_requestIs_95 (by decide) (fun hc95 => ?_) (fun hc95 => ?_)
    · refine zz_iconst hx hb dX6_requestIs_102 ?_
      refine W.eq (g2 := F0 m 103 ls [.int (zi 0)]) rfl ?_
      refine zw_widen (k := 2) (n := 12) (Nat.le_of_ble_eq_true rfl) (Nat.le_of_ble_eq_true rfl) (vx_ret ?_)
      refine zz_reti hx hb hr hlocks hW3 hS3 ?_ dX6_requestIs_103
      refine ⟨rfl, by omega, hrw, ?_⟩
      unfold yri
      rw [if_neg (by omega), if_neg (by omega), if_neg (by omega), if_neg (by omega), if_neg (by omega), if_pos (by omega)]
      have q9 := hcq.2.2.2.2.2.2.2.2.1
      have q10 := hcq.2.2.2.2.2.2.2.2.2.1
      have q11 := hwq.2.2.2.2.2.2.2.2.2.2
      exact zb_f (by omega)
    · refine zz_iconst hx hb dX6_requestIs_98 ?_
      refine zz_goto (tgt := 103) hx hb dX6_requestIs_99 (by decide) ?_
      refine W.eq (g2 := F0 m 103 ls [.int (zi 1)]) rfl ?_
      refine zw_widen (k := 2) (n := 12) (Nat.le_of_ble_eq_true rfl) (Nat.le_of_ble_eq_true rfl) (vx_ret ?_)
      refine zz_reti hx hb hr hlocks hW3 hS3 ?_ dX6_requestIs_103
      refine ⟨rfl, by omega, hrw, ?_⟩
      unfold yri
      rw [if_neg (by omega), if_neg (by omega), if_neg (by omega), if_neg (by omega), if_neg (by omega), if_pos (by omega)]
      have q9 := hcq.2.2.2.2.2.2.2.2.1
      have q10 := hcq.2.2.2.2.2.2.2.2.2.1
      have q11 := hwq.2.2.2.2.2.2.2.2.2.2
      exact zb_t (by omega)
  refine lv_tableOut (tgt := 104) hx hb dX6_requestIs_14 (by rw [zi_toInt gw]; omega) (by decide) ?_
  refine zz_aload_n hx hb hl 0 dX6_requestIs_104 rfl rfl ?_
  refine zz_getN (T := TX3) (N := 12) (k := 4) (κ := 23) (w := .int (zi (σ 23 a.toNat 4))) hx hb hts hinX3 hown hK hW2 (zlN (hX 23 a.toNat (decide_eq_true (by omega)))) rfl rfl rfl (by decide) (host := "HailCity") (List.mem_of_getElem? (i := 33) rfl) (fun _ h9 => h9) rfl dX6_requestIs_105 ?_
  refine W.eq (g2 := F0 m 108 ls [.int (zi (σ 23 a.toNat 4))]) rfl ?_
  refine zw_widen (k := 2) (n := 12) (Nat.le_of_ble_eq_true rfl) (Nat.le_of_ble_eq_true rfl) (vx_ret ?_)
  refine zz_reti hx hb hr hlocks hW2 hS2 ?_ dX6_requestIs_108
  refine ⟨rfl, by omega, hrw, ?_⟩
  unfold yri
  rw [if_neg (by omega), if_neg (by omega), if_neg (by omega), if_neg (by omega), if_neg (by omega), if_neg (by omega)]
  exact hcq.2.2.2.1.symm
