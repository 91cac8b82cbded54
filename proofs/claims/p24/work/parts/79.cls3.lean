/-! the class: more of its public methods -/

set_option maxHeartbeats 4000000 in
set_option maxRecDepth 100000 in
theorem c_X6_driverIs (l : Launch) (hst : l.stackTraces = false) (G : zG) (ad : zA) (A : Nat → Prop) (N0 : Nat) (σ : zS) (nd nr ns : Nat) (hX : zX ad nd nr) (c9 B9 : Int) (t : zS) (hCP : CP σ t nd nr ns) (hWF : yWF t nd nr ns c9 B9) (hB9 : B9 ≤ 1000000) (a w : Int) (ga : zg a) (gw : zg w) : vx_Met l yX6_driverIs wsX6_driverIs ({ frames := 7, cells := 2, slots := 12, locals := 222 }) (zPx G ad A N0 σ [zr ad 0 ((0 : Nat) : Int), .int (zi a), .int (zi w)]) (zQ G ad A zri (fun r u => σ = u ∧ (0 ≤ a ∧ a ≤ (nd : Int) - 1) ∧ (0 ≤ w ∧ w ≤ 6) ∧ ydi t a.toNat w = r)) (zXC G ad A (fun E u => σ = u ∧ ((E = "java/lang/IndexOutOfBoundsException" ∧ ¬ (0 ≤ a ∧ a ≤ (nd : Int) - 1)) ∨ (E = "java/lang/IllegalArgumentException" ∧ (0 ≤ a ∧ a ≤ (nd : Int) - 1) ∧ ¬ (0 ≤ w ∧ w ≤ 6))))) 2 12 A := by
  refine zx_of (cc := cX6_driverIs) (maxL := 4) (ret := (some .int)) (by decide) rfl (List.forall_mem_cons.mpr ⟨zr_cat _ _ _, List.forall_mem_cons.mpr ⟨rfl, List.forall_mem_cons.mpr ⟨rfl, fun _ h => absurd h List.not_mem_nil⟩⟩⟩) (Nat.le_of_ble_eq_true rfl) ?_
  intro p e s m below meth c hx hb hr hml hts hown hlocks hout hsz hW0 hK hE ls hl
  have hS0 : va_S A s.heap s.heap [] := va_S.rf
  have hl : zh ls 4 [(0, zr ad 0 ((0 : Nat) : Int)), (1, .int (zi a)), (2, .int (zi w))] := hl
  have hinX1 : ∀ w ∈ u_ws RX1 TX1 13, w ∈ wsX6_driverIs := by decide +kernel
  have hinX4 : ∀ w ∈ u_ws RX4 TX4 4, w ∈ wsX6_driverIs := by decide +kernel
  have hc9 := hCP
  have hg5 := hc9.1.1.1
  have hg6 := hc9.1.1.2.1
  have hg8 := hc9.1.2.1.2.1
  have hgD := hc9.1.2.2.1
  have hgQ := hc9.1.2.2.2.1
  have hnd := hWF.1.1.1
  have hnr := hWF.1.1.2.1
  have hnow0 := hWF.1.2.2.1
  have hord := hWF.1.2.2.2.2.1
  have hg9 := hCP.1.2.1.2.2
  have hg4 := hCP.1.1.2.2
  refine zz_aload_n hx hb hl 0 dX6_driverIs_0 rfl rfl ?_
  refine zz_iload_n hx hb hl 1 dX6_driverIs_1 rfl rfl ?_
  refine zx_callV (T := TX6) (N := 10) (As := [.int (zi a)]) (rest := []) (v := ((0 : Nat) : Int)) (κ := 0) ⟨hx, hb, hml, hown, hts⟩ (c_X6_knownDriver l hst G ad A N0 σ nd nr hX hnd hnr hg5 hg6 hgD hgQ a ga) (cwV 1 hts gX6_driverIs_X6_knownDriver rfl rfl rfl (by decide +kernel) ⟨Nat.le_of_ble_eq_true rfl, Nat.le_of_ble_eq_true rfl⟩) hK hE hW0 (zlN (hX 0 0 rfl)) rfl rfl (Nat.le_trans hsz hS0.1) hS0 rfl hl.1.1 rfl (Nat.le_of_ble_eq_true rfl) dX6_driverIs_2 ⟨Nat.le_of_ble_eq_true rfl, Nat.le_of_ble_eq_true rfl⟩ (fun E9 ce9 q9 u9 H9 locs9 hpx hWx hSx hce hcv hclx => zx_out hout hlocks hce hcv hclx hWx hSx ((by obtain ⟨rfl, rfl, h9⟩ := hpx; exact ⟨rfl, Or.inl ⟨rfl, fun q => h9 (by omega)⟩⟩)) (Nat.le_of_ble_eq_true rfl) (Nat.le_of_ble_eq_true rfl)) (fun x1 σ1 H1 locs1 hp1 hW1 hz1 hS1 => ?_)
  obtain ⟨rfl, hka, hra⟩ := hp1
  obtain rfl : x1 = ((a.toNat : Nat) : Int) := by omega
  have hcd := hCP.2.1 a.toNat (by omega)
  have hwd := hWF.2.1 a.toNat (by omega)
  have h529 := hwd.1.2
  have h18 := hcd.1.2.1
  refine W.eq (g2 := F0 m 5 ls [zr ad 17 ((a.toNat : Nat) : Int)]) rfl ?_
  refine zz_astore_n (lv' := [(3, zr ad 17 ((a.toNat : Nat) : Int)), (0, zr ad 0 ((0 : Nat) : Int)), (1, .int (zi a)), (2, .int (zi w))]) hx hb hl dX6_driverIs_5 rfl (by decide) rfl (fun ls hl => ?_)
  refine zz_iload_n hx hb hl 3 dX6_driverIs_6 rfl rfl ?_
  refine zz_iconst hx hb dX6_driverIs_7 ?_
  refine zz_bipush hx hb dX6_driverIs_8 (by decide +kernel) ?_
  refine zx_callS (As := [.int (zi w), .int (zi 0), .int (zi 6)]) (rest := []) ⟨hx, hb, hml, hown, hts⟩ (c_X6_checkRange l hst G ad A N0 σ w 0 6 gw ⟨by decide, by decide⟩ ⟨by decide, by decide⟩) (va_cwS 3 hts gX6_driverIs_X6_checkRange rfl rfl rfl (by decide +kernel) ⟨Nat.le_of_ble_eq_true rfl, Nat.le_of_ble_eq_true rfl⟩) hK hE hW1 (Nat.le_trans hsz hS1.1) hS1 rfl hl.1.1 rfl (Nat.le_of_ble_eq_true rfl) dX6_driverIs_10 ⟨Nat.le_of_ble_eq_true rfl, Nat.le_of_ble_eq_true rfl⟩ (fun E9 ce9 q9 u9 H9 locs9 hpx hWx hSx hce hcv hclx => zx_out hout hlocks hce hcv hclx hWx hSx ((by obtain ⟨rfl, rfl, h9⟩ := hpx; exact ⟨rfl, Or.inr ⟨rfl, by omega, h9⟩⟩)) (Nat.le_of_ble_eq_true rfl) (Nat.le_of_ble_eq_true rfl)) (fun x2 σ2 H2 locs2 hp2 hW2 hz2 hS2 => ?_)
  obtain ⟨rfl, hrw⟩ := hp2
  refine W.eq (g2 := F0 m 13 ls []) rfl ?_
  refine zz_iload_n hx hb hl 3 dX6_driverIs_13 rfl rfl ?_
  by_cases hw14_0 : w = 0
  · refine W.eq (g2 := F0 m 14 ls [.int (zi 0)]) (by rw [hw14_0]) ?_
    refine lv_tableIn (x := zi 0) (off := 38) (tgt := 52) hx hb dX6_driverIs_14 (by decide +kernel) (by decide +kernel) (by decide +kernel) (by decide) ?_
    refine zz_aload_n hx hb hl 0 dX6_driverIs_52 rfl rfl ?_
    refine zz_getN (T := TX1) (N := 13) (k := 6) (κ := 17) (w := .int (zi (σ 17 a.toNat 6))) hx hb hts hinX1 hown hK hW2 (zlN (hX 17 a.toNat (decide_eq_true (by omega)))) rfl rfl rfl (by decide) (host := "HailCity") (List.mem_of_getElem? (i := 15) rfl) (fun _ h9 => h9) rfl dX6_driverIs_53 ?_
    refine W.eq (g2 := F0 m 56 ls [.int (zi (σ 17 a.toNat 6))]) rfl ?_
    refine zw_widen (k := 2) (n := 12) (Nat.le_of_ble_eq_true rfl) (Nat.le_of_ble_eq_true rfl) (vx_ret ?_)
    refine zz_reti hx hb hr hlocks hW2 hS2 ?_ dX6_driverIs_56
    refine ⟨rfl, by omega, hrw, ?_⟩
    unfold ydi
    rw [if_pos (by omega)]
    exact hcd.1.1.2.2.2.1.symm
  by_cases hw14_1 : w = 1
  · refine W.eq (g2 := F0 m 14 ls [.int (zi 1)]) (by rw [hw14_1]) ?_
    refine lv_tableIn (x := zi 1) (off := 43) (tgt := 57) hx hb dX6_driverIs_14 (by decide +kernel) (by decide +kernel) (by decide +kernel) (by decide) ?_
    refine zz_aload_n hx hb hl 0 dX6_driverIs_57 rfl rfl ?_
    refine zz_getN (T := TX1) (N := 13) (k := 1) (κ := 17) (w := zr ad 18 ((a.toNat : Nat) : Int)) hx hb hts hinX1 hown hK hW2 (zlN (hX 17 a.toNat (decide_eq_true (by omega)))) rfl rfl rfl (by decide) (host := "HailCity") (List.mem_of_getElem? (i := 12) rfl) (fun _ h9 => h9) rfl dX6_driverIs_58 ?_
    refine zz_getN (T := TX4) (N := 4) (k := 3) (κ := 18) (w := .int (zi (σ 18 a.toNat 3))) hx hb hts hinX4 hown hK hW2 (zlN (hX 18 a.toNat (decide_eq_true (by omega)))) rfl rfl rfl (by decide) (host := "HailCity") (List.mem_of_getElem? (i := 5) rfl) (fun _ h9 => h9) rfl dX6_driverIs_61 ?_
    refine W.eq (g2 := F0 m 64 ls [.int (zi (σ 18 a.toNat 3))]) rfl ?_
    refine zw_widen (k := 2) (n := 12) (Nat.le_of_ble_eq_true rfl) (Nat.le_of_ble_eq_true rfl) (vx_ret ?_)
    refine zz_reti hx hb hr hlocks hW2 hS2 ?_ dX6_driverIs_64
    refine ⟨rfl, by omega, hrw, ?_⟩
    unfold ydi
    rw [if_neg (by omega), if_pos (by omega)]
    exact h18.symm
  by_cases hw14_2 : w = 2
  · refine W.eq (g2 := F0 m 14 ls [.int (zi 2)]) (by rw [hw14_2]) ?_
    refine lv_tableIn (x := zi 2) (off := 51) (tgt := 65) hx hb dX6_driverIs_14 (by decide +kernel) (by decide +kernel) (by decide +kernel) (by decide) ?_
    refine zz_aload_n hx hb hl 0 dX6_driverIs_65 rfl rfl ?_
    refine zz_getN (T := TX1) (N := 13) (k := 1) (κ := 17) (w := zr ad 18 ((a.toNat : Nat) : Int)) hx hb hts hinX1 hown hK hW2 (zlN (hX 17 a.toNat (decide_eq_true (by omega)))) rfl rfl rfl (by decide) (host := "HailCity") (List.mem_of_getElem? (i := 12) rfl) (fun _ h9 => h9) rfl dX6_driverIs_66 ?_
    refine zz_getN (T := TX4) (N := 4) (k := 3) (κ := 18) (w := .int (zi (σ 18 a.toNat 3))) hx hb hts hinX4 hown hK hW2 (zlN (hX 18 a.toNat (decide_eq_true (by omega)))) rfl rfl rfl (by decide) (host := "HailCity") (List.mem_of_getElem? (i := 5) rfl) (fun _ h9 => h9) rfl dX6_driverIs_69 ?_
    refine zz_if_ne (tgt := 79) hx hb dX6_driverIs_72 (by decide) (hW2.2.2.1 _ _ _) (fun hc72 => ?_) (fun hc72 => ?_)
    · refine zz_aload_n hx hb hl 0 dX6_driverIs_79 rfl rfl ?_
      refine zz_getN (T := TX1) (N := 13) (k := 9) (κ := 17) (w := .int (zi (σ 17 a.toNat 9))) hx hb hts hinX1 hown hK hW2 (zlN (hX 17 a.toNat (decide_eq_true (by omega)))) rfl rfl rfl (by decide) (host := "HailCity") (List.mem_of_getElem? (i := 19) rfl) (fun _ h9 => h9) rfl dX6_driverIs_80 ?_
      refine W.eq (g2 := F0 m 83 ls [.int (zi (σ 17 a.toNat 9))]) rfl ?_
      refine zw_widen (k := 2) (n := 12) (Nat.le_of_ble_eq_true rfl) (Nat.le_of_ble_eq_true rfl) (vx_ret ?_)
      refine zz_reti hx hb hr hlocks hW2 hS2 ?_ dX6_driverIs_83
      refine ⟨rfl, by omega, hrw, ?_⟩
      unfold ydi
      rw [if_neg (by omega), if_neg (by omega), if_pos (by omega)]
      rw [if_neg (by omega)]
      exact (hcd.2 (by omega)).symm
    · refine zz_iconst hx hb dX6_driverIs_75 ?_
      refine zz_goto (tgt := 83) hx hb dX6_driverIs_76 (by decide) ?_
      refine W.eq (g2 := F0 m 83 ls [.int (zi (-1))]) rfl ?_
      refine zw_widen (k := 2) (n := 12) (Nat.le_of_ble_eq_true rfl) (Nat.le_of_ble_eq_true rfl) (vx_ret ?_)
      refine zz_reti hx hb hr hlocks hW2 hS2 ?_ dX6_driverIs_83
      refine ⟨rfl, by omega, hrw, ?_⟩
      unfold ydi
      rw [if_neg (by omega), if_neg (by omega), if_pos (by omega)]
      exact if_pos (by omega)
  by_cases hw14_3 : w = 3
  · refine W.eq (g2 := F0 m 14 ls [.int (zi 3)]) (by rw [hw14_3]) ?_
    refine lv_tableIn (x := zi 3) (off := 70) (tgt := 84) hx hb dX6_driverIs_14 (by decide +kernel) (by decide +kernel) (by decide +kernel) (by decide) ?_
    refine zz_aload_n hx hb hl 0 dX6_driverIs_84 rfl rfl ?_
    refine zz_callV (T := TX1) (N := 13) (As := []) (rest := []) (v := ((a.toNat : Nat) : Int)) (κ := 17) ⟨hx, hb, hml, hown, hts⟩ (c_X1_isFree l G ad A N0 σ nd nr hX a.toNat (by omega)) (cwV 0 hts gX6_driverIs_X1_isFree rfl rfl rfl (by decide +kernel) ⟨Nat.le_of_ble_eq_true rfl, Nat.le_of_ble_eq_true rfl⟩) hK hW2 (zlN (hX 17 a.toNat (decide_eq_true (by omega)))) rfl rfl (Nat.le_trans hsz hS2.1) hS2 rfl hl.1.1 rfl (Nat.le_of_ble_eq_true rfl) dX6_driverIs_85 ⟨Nat.le_of_ble_eq_true rfl, Nat.le_of_ble_eq_true rfl⟩ (fun x3 σ3 H3 locs3 hp3 hW3 hz3 hS3 => ?_)
    obtain ⟨rfl, rfl⟩ := hp3
    refine W.eq (g2 := F0 m 88 ls [.int (zi (zb (σ 18 a.toNat 3 = 0 ∧ σ 17 a.toNat 7 = 0 ∧ σ 17 a.toNat 5 = 0)))]) rfl ?_
    refine zz_if_eqb (tgt := 95) hx hb dX6_driverIs_88 (by decide) (fun hc88 => ?_) (fun hc88 => ?_)
    · refine zz_iconst hx hb dX6_driverIs_95 ?_
      refine W.eq (g2 := F0 m 96 ls [.int (zi 0)]) rfl ?_
      refine zw_widen (k := 2) (n := 12) (Nat.le_of_ble_eq_true rfl) (Nat.le_of_ble_eq_true rfl) (vx_ret ?_)
      refine zz_reti hx hb hr hlocks hW3 hS3 ?_ dX6_driverIs_96
      refine ⟨rfl, by omega, hrw, ?_⟩
      unfold ydi
      rw [if_neg (by omega), if_neg (by omega), if_neg (by omega), if_pos (by omega)]
      rw [← propext (CP_free hCP (show a.toNat < nd by omega))]
      exact zb_f hc88
    · refine zz_iconst hx hb dX6_driverIs_91 ?_
      refine zz_goto (tgt := 96) hx hb dX6_driverIs_92 (by decide) ?_
      refine W.eq (g2 := F0 m 96 ls [.int (zi 1)]) rfl ?_
      refine zw_widen (k := 2) (n := 12) (Nat.le_of_ble_eq_true rfl) (Nat.le_of_ble_eq_true rfl) (vx_ret ?_)
      refine zz_reti hx hb hr hlocks hW3 hS3 ?_ dX6_driverIs_96
      refine ⟨rfl, by omega, hrw, ?_⟩
      unfold ydi
      rw [if_neg (by omega), if_neg (by omega), if_neg (by omega), if_pos (by omega)]
      rw [← propext (CP_free hCP (show a.toNat < nd by omega))]
      exact zb_t hc88
  by_cases hw14_4 : w = 4
  · refine W.eq (g2 := F0 m 14 ls [.int (zi 4)]) (by rw [hw14_4]) ?_
    refine lv_tableIn (x := zi 4) (off := 83) (tgt := 97) hx hb dX6_driverIs_14 (by decide +kernel) (by decide +kernel) (by decide +kernel) (by decide) ?_
    refine zz_aload_n hx hb hl 0 dX6_driverIs_97 rfl rfl ?_
    refine zz_getN (T := TX1) (N := 13) (k := 4) (κ := 17) (w := .int (zi (σ 17 a.toNat 4))) hx hb hts hinX1 hown hK hW2 (zlN (hX 17 a.toNat (decide_eq_true (by omega)))) rfl rfl rfl (by decide) (host := "HailCity") (List.mem_of_getElem? (i := 13) rfl) (fun _ h9 => h9) rfl dX6_driverIs_98 ?_
    refine W.eq (g2 := F0 m 101 ls [.int (zi (σ 17 a.toNat 4))]) rfl ?_
    refine zw_widen (k := 2) (n := 12) (Nat.le_of_ble_eq_true rfl) (Nat.le_of_ble_eq_true rfl) (vx_ret ?_)
    refine zz_reti hx hb hr hlocks hW2 hS2 ?_ dX6_driverIs_101
    refine ⟨rfl, by omega, hrw, ?_⟩
    unfold ydi
    rw [if_neg (by omega), if_neg (by omega), if_neg (by omega), if_neg (by omega), if_pos (by omega)]
    exact hcd.1.1.2.1.symm
  by_cases hw14_5 : w = 5
  · refine W.eq (g2 := F0 m 14 ls [.int (zi 5)]) (by rw [hw14_5]) ?_
    refine lv_tableIn (x := zi 5) (off := 88) (tgt := 102) hx hb dX6_driverIs_14 (by decide +kernel) (by decide +kernel) (by decide +kernel) (by decide) ?_
    refine zz_aload_n hx hb hl 0 dX6_driverIs_102 rfl rfl ?_
    refine zz_getN (T := TX1) (N := 13) (k := 10) (κ := 17) (w := .int (zi (σ 17 a.toNat 10))) hx hb hts hinX1 hown hK hW2 (zlN (hX 17 a.toNat (decide_eq_true (by omega)))) rfl rfl rfl (by decide) (host := "HailCity") (List.mem_of_getElem? (i := 20) rfl) (fun _ h9 => h9) rfl dX6_driverIs_103 ?_
    refine W.eq (g2 := F0 m 106 ls [.int (zi (σ 17 a.toNat 10))]) rfl ?_
    refine zw_widen (k := 2) (n := 12) (Nat.le_of_ble_eq_true rfl) (Nat.le_of_ble_eq_true rfl) (vx_ret ?_)
    refine zz_reti hx hb hr hlocks hW2 hS2 ?_ dX6_driverIs_106
    refine ⟨rfl, by omega, hrw, ?_⟩
    unfold ydi
    rw [if_neg (by omega), if_neg (by omega), if_neg (by omega), if_neg (by omega), if_neg (by omega), if_pos (by omega)]
    exact hcd.1.1.2.2.2.2.2.2.1.symm
  refine lv_tableOut (tgt := 107) hx hb dX6_driverIs_14 (by rw [zi_toInt gw]; omega) (by decide) ?_
  refine zz_aload_n hx hb hl 0 dX6_driverIs_107 rfl rfl ?_
  refine zz_getN (T := TX1) (N := 13) (k := 11) (κ := 17) (w := .int (zi (σ 17 a.toNat 11))) hx hb hts hinX1 hown hK hW2 (zlN (hX 17 a.toNat (decide_eq_true (by omega)))) rfl rfl rfl (by decide) (host := "HailCity") (List.mem_of_getElem? (i := 21) rfl) (fun _ h9 => h9) rfl dX6_driverIs_108 ?_
  refine W.eq (g2 := F0 m 111 ls [.int (zi (σ 17 a.toNat 11))]) rfl ?_
  refine zw_widen (k := 2) (n := 12) (Nat.le_of_ble_eq_true rfl) (Nat.le_of_ble_eq_true rfl) (vx_ret ?_)
  refine zz_reti hx hb hr hlocks hW2 hS2 ?_ dX6_driverIs_111
  refine ⟨rfl, by omega, hrw, ?_⟩
  unfold ydi
  rw [if_neg (by omega), if_neg (by omega), if_neg (by omega), if_neg (by omega), if_neg (by omega), if_neg (by omega)]
  exact hcd.1.1.2.2.2.2.2.2.2.1.symm

set_option maxHeartbeats 4000000 in
set_option maxRecDepth 100000 in
theorem c_X6_stop (l : Launch) (hst : l.stackTraces = false) (G : zG) (ad : zA) (A : Nat → Prop) (N0 : Nat) (σ : zS) (nd nr ns : Nat) (hX : zX ad nd nr) (c9 B9 : Int) (t : zS) (hCP : CP σ t nd nr ns) (hWF : yWF t nd nr ns c9 B9) (hB9 : B9 ≤ 1000000) (a b x : Int) (ga : zg a) (gb : zg b) (hx01 : x = 0 ∨ x = 1) : vx_Met l yX6_stop wsX6_stop ({ frames := 7, cells := 2, slots := 12, locals := 222 }) (zPx G ad A N0 σ [zr ad 0 ((0 : Nat) : Int), .int (zi a), .int (zi b), .int (zi x)]) (zQ G ad A zri (fun r u => σ = u ∧ ((0 ≤ a ∧ a ≤ (nd : Int) - 1) ∧ 0 ≤ b) ∧ (if b < t 52 0 a.toNat then (if x = 0 then t 53 0 (8 * a.toNat + b.toNat) else t 54 0 (8 * a.toNat + b.toNat)) else -1) = r)) (zXC G ad A (fun E u => σ = u ∧ E = "java/lang/IndexOutOfBoundsException" ∧ ¬ ((0 ≤ a ∧ a ≤ (nd : Int) - 1) ∧ 0 ≤ b))) 2 12 A := by
  refine zx_of (cc := cX6_stop) (maxL := 6) (ret := (some .int)) (by decide) rfl (List.forall_mem_cons.mpr ⟨zr_cat _ _ _, List.forall_mem_cons.mpr ⟨rfl, List.forall_mem_cons.mpr ⟨rfl, List.forall_mem_cons.mpr ⟨rfl, fun _ h => absurd h List.not_mem_nil⟩⟩⟩⟩) (Nat.le_of_ble_eq_true rfl) ?_
  intro p e s m below meth c hx hb hr hml hts hown hlocks hout hsz hW0 hK hE ls hl
  have hS0 : va_S A s.heap s.heap [] := va_S.rf
  have hl : zh ls 6 [(0, zr ad 0 ((0 : Nat) : Int)), (1, .int (zi a)), (2, .int (zi b)), (3, .int (zi x))] := hl
  have hinX1 : ∀ w ∈ u_ws RX1 TX1 13, w ∈ wsX6_stop := by decide +kernel
  have hinX3 : ∀ w ∈ u_ws RX3 TX3 12, w ∈ wsX6_stop := by decide +kernel
  have hc9 := hCP
  have hg5 := hc9.1.1.1
  have hg6 := hc9.1.1.2.1
  have hg8 := hc9.1.2.1.2.1
  have hgD := hc9.1.2.2.1
  have hgQ := hc9.1.2.2.2.1
  have hnd := hWF.1.1.1
  have hnr := hWF.1.1.2.1
  have hnow0 := hWF.1.2.2.1
  have hord := hWF.1.2.2.2.2.1
  have hg9 := hCP.1.2.1.2.2
  have hg4 := hCP.1.1.2.2
  refine zz_aload_n hx hb hl 0 dX6_stop_0 rfl rfl ?_
  refine zz_iload_n hx hb hl 1 dX6_stop_1 rfl rfl ?_
  refine zx_callV (T := TX6) (N := 10) (As := [.int (zi a)]) (rest := []) (v := ((0 : Nat) : Int)) (κ := 0) ⟨hx, hb, hml, hown, hts⟩ (c_X6_knownDriver l hst G ad A N0 σ nd nr hX hnd hnr hg5 hg6 hgD hgQ a ga) (cwV 1 hts gX6_stop_X6_knownDriver rfl rfl rfl (by decide +kernel) ⟨Nat.le_of_ble_eq_true rfl, Nat.le_of_ble_eq_true rfl⟩) hK hE hW0 (zlN (hX 0 0 rfl)) rfl rfl (Nat.le_trans hsz hS0.1) hS0 rfl hl.1.1 rfl (Nat.le_of_ble_eq_true rfl) dX6_stop_2 ⟨Nat.le_of_ble_eq_true rfl, Nat.le_of_ble_eq_true rfl⟩ (fun E9 ce9 q9 u9 H9 locs9 hpx hWx hSx hce hcv hclx => zx_out hout hlocks hce hcv hclx hWx hSx ((by obtain ⟨rfl, rfl, h9⟩ := hpx; exact ⟨rfl, rfl, fun q => h9 (by have := q.1; omega)⟩)) (Nat.le_of_ble_eq_true rfl) (Nat.le_of_ble_eq_true rfl)) (fun x1 σ1 H1 locs1 hp1 hW1 hz1 hS1 => ?_)
  obtain ⟨rfl, hka, hra⟩ := hp1
  obtain rfl : x1 = ((a.toNat : Nat) : Int) := by omega
  have hcd := hCP.2.1 a.toNat (by omega)
  have hwd := hWF.2.1 a.toNat (by omega)
  have h529 := hwd.1.2
  have h18 := hcd.1.2.1
  refine W.eq (g2 := F0 m 5 ls [zr ad 17 ((a.toNat : Nat) : Int)]) rfl ?_
  refine zz_astore (lv' := [(4, zr ad 17 ((a.toNat : Nat) : Int)), (0, zr ad 0 ((0 : Nat) : Int)), (1, .int (zi a)), (2, .int (zi b)), (3, .int (zi x))]) hx hb hl dX6_stop_5 (by decide) rfl (fun ls hl => ?_)
  refine zz_iload_n hx hb hl 3 dX6_stop_7 rfl rfl ?_
  refine zz_if_ge (tgt := 21) hx hb dX6_stop_8 (by decide) gb (fun hc8 => ?_) (fun hc8 => ?_)
  · refine zz_iload_n hx hb hl 4 dX6_stop_21 rfl rfl ?_
    refine zz_if_ne (tgt := 35) hx hb dX6_stop_22 (by decide) (zg_01 hx01) (fun hc22 => ?_) (fun hc22 => ?_)
    · refine zz_aload hx hb hl 0 dX6_stop_35 rfl ?_
      refine zz_getN (T := TX1) (N := 13) (k := 1) (κ := 17) (w := zr ad 18 ((a.toNat : Nat) : Int)) hx hb hts hinX1 hown hK hW1 (zlN (hX 17 a.toNat (decide_eq_true (by omega)))) rfl rfl rfl (by decide) (host := "HailCity") (List.mem_of_getElem? (i := 12) rfl) (fun _ h9 => h9) rfl dX6_stop_37 ?_
      refine zz_iload_n hx hb hl 3 dX6_stop_40 rfl rfl ?_
      refine zz_callV (T := TX4) (N := 4) (As := [.int (zi b)]) (rest := []) (v := ((a.toNat : Nat) : Int)) (κ := 18) ⟨hx, hb, hml, hown, hts⟩ (c_X4_riderAt l G ad A N0 σ nd nr hX a.toNat (by omega) b gb (by omega) (by omega)) (cwV 1 hts gX6_stop_X4_riderAt rfl rfl rfl (by decide +kernel) ⟨Nat.le_of_ble_eq_true rfl, Nat.le_of_ble_eq_true rfl⟩) hK hW1 (zlN (hX 18 a.toNat (decide_eq_true (by omega)))) rfl rfl (Nat.le_trans hsz hS1.1) hS1 rfl hl.1.1 rfl (Nat.le_of_ble_eq_true rfl) dX6_stop_41 ⟨Nat.le_of_ble_eq_true rfl, Nat.le_of_ble_eq_true rfl⟩ (fun x2 σ2 H2 locs2 hp2 hW2 hz2 hS2 => ?_)
      obtain ⟨rfl, hx9⟩ := hp2
      have hzn9 : zln ad 23 x2 := by
        rw [← hx9]
        split
        · exact hW0.2.2.2.1 21 a.toNat b.toNat (hX 21 a.toNat (decide_eq_true (by omega))) (Nat.le_of_ble_eq_true rfl) (Nat.le_of_ble_eq_true rfl)
        · exact Or.inl (by decide)
      have hxg9 : zg x2 := by
        rw [← hx9]
        split
        · exact hW0.2.2.1 _ _ _
        · exact ⟨by decide, by decide⟩
      refine W.eq (g2 := F0 m 44 ls [zr ad 23 x2]) rfl ?_
      refine zz_astore (lv' := [(5, zr ad 23 x2), (4, zr ad 17 ((a.toNat : Nat) : Int)), (0, zr ad 0 ((0 : Nat) : Int)), (1, .int (zi a)), (2, .int (zi b)), (3, .int (zi x))]) hx hb hl dX6_stop_44 (by decide) rfl (fun ls hl => ?_)
      refine zz_aload hx hb hl 0 dX6_stop_46 rfl ?_
      refine zz_ifnonnull (tgt := 53) hx hb hzn9 dX6_stop_48 (by decide) (fun hc48 => ?_) (fun hc48 => ?_)
      · refine zz_aload hx hb hl 1 dX6_stop_53 rfl ?_
        refine zz_getN (T := TX1) (N := 13) (k := 1) (κ := 17) (w := zr ad 18 ((a.toNat : Nat) : Int)) hx hb hts hinX1 hown hK hW2 (zlN (hX 17 a.toNat (decide_eq_true (by omega)))) rfl rfl rfl (by decide) (host := "HailCity") (List.mem_of_getElem? (i := 12) rfl) (fun _ h9 => h9) rfl dX6_stop_55 ?_
        refine zz_iload_n hx hb hl 4 dX6_stop_58 rfl rfl ?_
        refine zz_callV (T := TX4) (N := 4) (As := [.int (zi b)]) (rest := []) (v := ((a.toNat : Nat) : Int)) (κ := 18) ⟨hx, hb, hml, hown, hts⟩ (c_X4_isLetOutAt l G ad A N0 σ nd nr hX a.toNat (by omega) b gb (by omega) (by omega)) (cwV 1 hts gX6_stop_X4_isLetOutAt rfl rfl rfl (by decide +kernel) ⟨Nat.le_of_ble_eq_true rfl, Nat.le_of_ble_eq_true rfl⟩) hK hW2 (zlN (hX 18 a.toNat (decide_eq_true (by omega)))) rfl rfl (Nat.le_trans hsz hS2.1) hS2 rfl hl.1.1 rfl (Nat.le_of_ble_eq_true rfl) dX6_stop_59 ⟨Nat.le_of_ble_eq_true rfl, Nat.le_of_ble_eq_true rfl⟩ (fun x3 σ3 H3 locs3 hp3 hW3 hz3 hS3 => ?_)
        obtain ⟨rfl, rfl⟩ := hp3
        refine W.eq (g2 := F0 m 62 ls [.int (zi (zb ((0 ≤ b ∧ b < σ 18 a.toNat 3) ∧ σ 22 a.toNat b.toNat = 1)))]) rfl ?_
        refine zz_if_eqb (tgt := 76) hx hb dX6_stop_62 (by decide) (fun hc62 => ?_) (fun hc62 => ?_)
        · refine zz_aload hx hb hl 0 dX6_stop_76 rfl ?_
          have hrn9 := hc48.1
          have hrl9 : _ := hxg9.2
          refine zz_getN (T := TX3) (N := 12) (k := 0) (κ := 23) (w := .int (zi (((x2).toNat : Nat) : Int))) hx hb hts hinX3 hown hK hW3 hc48 rfl rfl rfl (by decide) (host := "HailCity") (List.mem_of_getElem? (i := 23) rfl) (fun _ h9 => h9) rfl dX6_stop_78 ?_
          refine W.eq (g2 := F0 m 81 ls [.int (zi (((x2).toNat : Nat) : Int))]) rfl ?_
          refine zw_widen (k := 2) (n := 12) (Nat.le_of_ble_eq_true rfl) (Nat.le_of_ble_eq_true rfl) (vx_ret ?_)
          refine zz_reti hx hb hr hlocks hW3 hS3 ?_ dX6_stop_81
          refine ⟨rfl, ⟨by omega, by omega⟩, ?_⟩
          by_cases c9 : b < t 52 0 a.toNat
          · obtain ⟨w1, w2, w3⟩ := hcd.1.2.2.2 b.toNat (by omega)
            have hr9 := yWF_row hWF (show a.toNat < nd by omega) (j := b.toNat) (by omega)
            rw [if_pos (by omega)] at hx9
            rw [if_pos c9, if_neg hc22]
            unfold yw1 at w2
            unfold yw2 at w3
            by_cases c8 : t 54 0 (8 * a.toNat + b.toNat) < 100
            · rw [if_pos c8] at w2 w3
              have q1 := hc48.1; omega
            · rw [if_neg c8] at w2 w3
              have q1 := hc48.1; omega
          · first
              | exact if_neg c9
              | (rw [if_neg c9]; omega)
              | (rw [if_neg c9]; rw [if_neg (by omega)] at hx9; have q1 := hc48.1; omega)
        · refine zz_aload hx hb hl 0 dX6_stop_65 rfl ?_
          have hrn9 := hc48.1
          have hrl9 : _ := hxg9.2
          refine zz_getN (T := TX3) (N := 12) (k := 0) (κ := 23) (w := .int (zi (((x2).toNat : Nat) : Int))) hx hb hts hinX3 hown hK hW3 hc48 rfl rfl rfl (by decide) (host := "HailCity") (List.mem_of_getElem? (i := 23) rfl) (fun _ h9 => h9) rfl dX6_stop_67 ?_
          refine zz_bipush hx hb dX6_stop_70 (by decide +kernel) ?_
          refine zz_iadd hx hb dX6_stop_72 ?_
          refine zz_goto (tgt := 81) hx hb dX6_stop_73 (by decide) ?_
          refine W.eq (g2 := F0 m 81 ls [.int (zi ((((x2).toNat : Nat) : Int) + 100))]) rfl ?_
          refine zw_widen (k := 2) (n := 12) (Nat.le_of_ble_eq_true rfl) (Nat.le_of_ble_eq_true rfl) (vx_ret ?_)
          refine zz_reti hx hb hr hlocks hW3 hS3 ?_ dX6_stop_81
          refine ⟨rfl, ⟨by omega, by omega⟩, ?_⟩
          by_cases c9 : b < t 52 0 a.toNat
          · obtain ⟨w1, w2, w3⟩ := hcd.1.2.2.2 b.toNat (by omega)
            have hr9 := yWF_row hWF (show a.toNat < nd by omega) (j := b.toNat) (by omega)
            rw [if_pos (by omega)] at hx9
            rw [if_pos c9, if_neg hc22]
            unfold yw1 at w2
            unfold yw2 at w3
            by_cases c8 : t 54 0 (8 * a.toNat + b.toNat) < 100
            · rw [if_pos c8] at w2 w3
              have q1 := hc48.1; have q2 := hc62.1; have q3 := hc62.2; omega
            · rw [if_neg c8] at w2 w3
              have q1 := hc48.1; have q2 := hc62.1; have q3 := hc62.2; omega
          · first
              | exact if_neg c9
              | (rw [if_neg c9]; omega)
              | (rw [if_neg c9]; rw [if_neg (by omega)] at hx9; have q1 := hc48.1; have q2 := hc62.1; have q3 := hc62.2; omega)
      · refine zz_iconst hx hb dX6_stop_51 ?_
        refine W.eq (g2 := F0 m 52 ls [.int (zi (-1))]) rfl ?_
        refine zw_widen (k := 2) (n := 12) (Nat.le_of_ble_eq_true rfl) (Nat.le_of_ble_eq_true rfl) (vx_ret ?_)
        refine zz_reti hx hb hr hlocks hW2 hS2 ?_ dX6_stop_52
        refine ⟨rfl, ⟨by omega, by omega⟩, ?_⟩
        by_cases c9 : b < t 52 0 a.toNat
        · obtain ⟨w1, w2, w3⟩ := hcd.1.2.2.2 b.toNat (by omega)
          have hr9 := yWF_row hWF (show a.toNat < nd by omega) (j := b.toNat) (by omega)
          rw [if_pos (by omega)] at hx9
          rw [if_pos c9, if_neg hc22]
          unfold yw1 at w2
          unfold yw2 at w3
          by_cases c8 : t 54 0 (8 * a.toNat + b.toNat) < 100
          · rw [if_pos c8] at w2 w3
            omega
          · rw [if_neg c8] at w2 w3
            omega
        · first
            | exact if_neg c9
            | (rw [if_neg c9]; omega)
            | (rw [if_neg c9]; rw [if_neg (by omega)] at hx9; omega)
    · refine zz_aload hx hb hl 0 dX6_stop_25 rfl ?_
      refine zz_getN (T := TX1) (N := 13) (k := 1) (κ := 17) (w := zr ad 18 ((a.toNat : Nat) : Int)) hx hb hts hinX1 hown hK hW1 (zlN (hX 17 a.toNat (decide_eq_true (by omega)))) rfl rfl rfl (by decide) (host := "HailCity") (List.mem_of_getElem? (i := 12) rfl) (fun _ h9 => h9) rfl dX6_stop_27 ?_
      refine zz_iload_n hx hb hl 3 dX6_stop_30 rfl rfl ?_
      refine zz_callV (T := TX4) (N := 4) (As := [.int (zi b)]) (rest := []) (v := ((a.toNat : Nat) : Int)) (κ := 18) ⟨hx, hb, hml, hown, hts⟩ (c_X4_placeAt l G ad A N0 σ nd nr hX a.toNat (by omega) b gb (by omega) (by omega)) (cwV 1 hts gX6_stop_X4_placeAt rfl rfl rfl (by decide +kernel) ⟨Nat.le_of_ble_eq_true rfl, Nat.le_of_ble_eq_true rfl⟩) hK hW1 (zlN (hX 18 a.toNat (decide_eq_true (by omega)))) rfl rfl (Nat.le_trans hsz hS1.1) hS1 rfl hl.1.1 rfl (Nat.le_of_ble_eq_true rfl) dX6_stop_31 ⟨Nat.le_of_ble_eq_true rfl, Nat.le_of_ble_eq_true rfl⟩ (fun x4 σ4 H4 locs4 hp4 hW4 hz4 hS4 => ?_)
      obtain ⟨rfl, rfl⟩ := hp4
      refine W.eq (g2 := F0 m 34 ls [.int (zi (if 0 ≤ b ∧ b < σ 18 a.toNat 3 then σ 20 a.toNat b.toNat else -1))]) rfl ?_
      refine W.eq (g2 := F0 m 34 ls [.int (zi (if 0 ≤ b ∧ b < σ 18 a.toNat 3 then σ 20 a.toNat b.toNat else -1))]) rfl ?_
      refine zw_widen (k := 2) (n := 12) (Nat.le_of_ble_eq_true rfl) (Nat.le_of_ble_eq_true rfl) (vx_ret ?_)
      refine zz_reti hx hb hr hlocks hW4 hS4 ?_ dX6_stop_34
      refine ⟨rfl, ⟨by omega, by omega⟩, ?_⟩
      by_cases c9 : b < t 52 0 a.toNat
      · rw [if_pos c9, if_pos hc22, if_pos (by omega)]
        exact (hcd.1.2.2.2 b.toNat (by omega)).1.symm
      · rw [if_neg c9, if_neg (by omega)]
  · refine zx_throw (ik := 75) (is := 245) (ic := 79) (cls := "java/lang/IndexOutOfBoundsException") (text := "no such stop") (rest := []) ⟨hx, hb, hml, hown, hts⟩ hst hlocks hout hE hW1 hS1 (by decide +kernel) (by decide) (by decide +kernel) (by decide +kernel) (by decide +kernel) zat0 zot0 (by decide) hl.1.1 dX6_stop_11 dX6_stop_14 dX6_stop_15 dX6_stop_17 dX6_stop_20 ⟨Nat.le_of_ble_eq_true rfl, (Nat.le_of_ble_eq_true rfl), Nat.le_of_ble_eq_true rfl, Nat.le_of_ble_eq_true rfl⟩ (Nat.le_of_ble_eq_true rfl) (Nat.le_of_ble_eq_true rfl) ?_
    exact ⟨rfl, rfl, fun q => by have := q.2; omega⟩

set_option maxHeartbeats 4000000 in
set_option maxRecDepth 100000 in
theorem c_X6_wander (l : Launch) (hst : l.stackTraces = false) (G : zG) (ad : zA) (A : Nat → Prop) (N0 : Nat) (σ : zS) (nd nr ns : Nat) (hX : zX ad nd nr) (c9 B9 : Int) (t : zS) (hCP : CP σ t nd nr ns) (hWF : yWF t nd nr ns c9 B9) (hB9 : B9 ≤ 1000000) (a b : Int) (ga : zg a) (gb : zg b) : vx_Met l yX6_wander wsX6_wander ({ frames := 7, cells := 3, slots := 18, locals := 222 }) (zPx G ad A N0 σ [zr ad 0 ((0 : Nat) : Int), .int (zi a), .int (zi b)]) (zQ G ad A zri (fun r u => ((0 ≤ a ∧ a ≤ (nd : Int) - 1) ∧ (0 ≤ b ∧ b ≤ 9)) ∧ (ymf t a.toNat ∧ b ≠ t 49 0 a.toNat ∧ t 47 0 (10 * (t 49 0 a.toNat).toNat + b.toNat) < 100000) ∧ ybf (yLV a.toNat 1 (ywd t a.toNat b)) a.toNat 55 0 a.toNat = r ∧ CP u (ybf (yLV a.toNat 1 (ywd t a.toNat b)) a.toNat) nd nr ns)) (zXC G ad A (fun E u => σ = u ∧ ((E = "java/lang/IndexOutOfBoundsException" ∧ ¬ ((0 ≤ a ∧ a ≤ (nd : Int) - 1) ∧ (0 ≤ b ∧ b ≤ 9))) ∨ (E = "java/lang/IllegalStateException" ∧ ((0 ≤ a ∧ a ≤ (nd : Int) - 1) ∧ (0 ≤ b ∧ b ≤ 9)) ∧ ¬ (ymf t a.toNat ∧ b ≠ t 49 0 a.toNat ∧ t 47 0 (10 * (t 49 0 a.toNat).toNat + b.toNat) < 100000))))) 3 18 A := by
  refine zx_of (cc := cX6_wander) (maxL := 5) (ret := (some .int)) (by decide) rfl (List.forall_mem_cons.mpr ⟨zr_cat _ _ _, List.forall_mem_cons.mpr ⟨rfl, List.forall_mem_cons.mpr ⟨rfl, fun _ h => absurd h List.not_mem_nil⟩⟩⟩) (Nat.le_of_ble_eq_true rfl) ?_
  intro p e s m below meth c hx hb hr hml hts hown hlocks hout hsz hW0 hK hE ls hl
  have hS0 : va_S A s.heap s.heap [] := va_S.rf
  have hl : zh ls 5 [(0, zr ad 0 ((0 : Nat) : Int)), (1, .int (zi a)), (2, .int (zi b))] := hl
  have hinX1 : ∀ w ∈ u_ws RX1 TX1 13, w ∈ wsX6_wander := by decide +kernel
  have hinX6 : ∀ w ∈ u_ws RX6 TX6 10, w ∈ wsX6_wander := by decide +kernel
  have hc9 := hCP
  have hg5 := hc9.1.1.1
  have hg6 := hc9.1.1.2.1
  have hg8 := hc9.1.2.1.2.1
  have hgD := hc9.1.2.2.1
  have hgQ := hc9.1.2.2.2.1
  have hnd := hWF.1.1.1
  have hnr := hWF.1.1.2.1
  have hnow0 := hWF.1.2.2.1
  have hord := hWF.1.2.2.2.2.1
  have hg9 := hCP.1.2.1.2.2
  have hg4 := hCP.1.1.2.2
  refine zz_aload_n hx hb hl 0 dX6_wander_0 rfl rfl ?_
  refine zz_iload_n hx hb hl 1 dX6_wander_1 rfl rfl ?_
  refine zx_callV (T := TX6) (N := 10) (As := [.int (zi a)]) (rest := []) (v := ((0 : Nat) : Int)) (κ := 0) ⟨hx, hb, hml, hown, hts⟩ (c_X6_knownDriver l hst G ad A N0 σ nd nr hX hnd hnr hg5 hg6 hgD hgQ a ga) (cwV 1 hts gX6_wander_X6_knownDriver rfl rfl rfl (by decide +kernel) ⟨Nat.le_of_ble_eq_true rfl, Nat.le_of_ble_eq_true rfl⟩) hK hE hW0 (zlN (hX 0 0 rfl)) rfl rfl (Nat.le_trans hsz hS0.1) hS0 rfl hl.1.1 rfl (Nat.le_of_ble_eq_true rfl) dX6_wander_2 ⟨Nat.le_of_ble_eq_true rfl, Nat.le_of_ble_eq_true rfl⟩ (fun E9 ce9 q9 u9 H9 locs9 hpx hWx hSx hce hcv hclx => zx_out hout hlocks hce hcv hclx hWx hSx ((by obtain ⟨rfl, rfl, h9⟩ := hpx; exact ⟨rfl, Or.inl ⟨rfl, fun q => h9 (by have := q.1; omega)⟩⟩)) (Nat.le_of_ble_eq_true rfl) (Nat.le_of_ble_eq_true rfl)) (fun x1 σ1 H1 locs1 hp1 hW1 hz1 hS1 => ?_)
  obtain ⟨rfl, hka, hra⟩ := hp1
  obtain rfl : x1 = ((a.toNat : Nat) : Int) := by omega
  have hcd := hCP.2.1 a.toNat (by omega)
  have hwd := hWF.2.1 a.toNat (by omega)
  have h529 := hwd.1.2
  have h18 := hcd.1.2.1
  have h69 := hcd.1.1.2.2.2.1
  have h499 := hwd.1.1
  refine W.eq (g2 := F0 m 5 ls [zr ad 17 ((a.toNat : Nat) : Int)]) rfl ?_
  refine zz_astore_n (lv' := [(3, zr ad 17 ((a.toNat : Nat) : Int)), (0, zr ad 0 ((0 : Nat) : Int)), (1, .int (zi a)), (2, .int (zi b))]) hx hb hl dX6_wander_5 rfl (by decide) rfl (fun ls hl => ?_)
  refine zz_iload_n hx hb hl 3 dX6_wander_6 rfl rfl ?_
  refine zx_callS (As := [.int (zi b)]) (rest := []) ⟨hx, hb, hml, hown, hts⟩ (c_X6_checkPlace l hst G ad A N0 σ b gb) (va_cwS 1 hts gX6_wander_X6_checkPlace rfl rfl rfl (by decide +kernel) ⟨Nat.le_of_ble_eq_true rfl, Nat.le_of_ble_eq_true rfl⟩) hK hE hW1 (Nat.le_trans hsz hS1.1) hS1 rfl hl.1.1 rfl (Nat.le_of_ble_eq_true rfl) dX6_wander_7 ⟨Nat.le_of_ble_eq_true rfl, Nat.le_of_ble_eq_true rfl⟩ (fun E9 ce9 q9 u9 H9 locs9 hpx hWx hSx hce hcv hclx => zx_out hout hlocks hce hcv hclx hWx hSx ((by obtain ⟨rfl, rfl, h9⟩ := hpx; exact ⟨rfl, Or.inl ⟨rfl, fun q => h9 (by have := q.2; omega)⟩⟩)) (Nat.le_of_ble_eq_true rfl) (Nat.le_of_ble_eq_true rfl)) (fun x2 σ2 H2 locs2 hp2 hW2 hz2 hS2 => ?_)
  obtain ⟨rfl, hkb⟩ := hp2
  refine W.eq (g2 := F0 m 10 ls []) rfl ?_
  refine zz_aload_n hx hb hl 1 dX6_wander_10 rfl rfl ?_
  refine zz_get (T := TX6) (N := 10) (k := 0) (κ := 0) (w := zr ad 1 ((0 : Nat) : Int)) hx hb hts hinX6 hown hK hW2 (zlN (hX 0 0 rfl)) rfl rfl rfl (by decide) (hts (.fieldLink RX6 10 "HailCity" "map" "LHailCity$CityMap;") (by decide +kernel)) (fun _ h9 => h9) rfl dX6_wander_11 ?_
  refine zz_aload_n hx hb hl 0 dX6_wander_14 rfl rfl ?_
  refine zz_getN (T := TX1) (N := 13) (k := 6) (κ := 17) (w := .int (zi (σ 17 a.toNat 6))) hx hb hts hinX1 hown hK hW2 (zlN (hX 17 a.toNat (decide_eq_true (by omega)))) rfl rfl rfl (by decide) (host := "HailCity") (List.mem_of_getElem? (i := 15) rfl) (fun _ h9 => h9) rfl dX6_wander_15 ?_
  refine zz_iload_n hx hb hl 3 dX6_wander_18 rfl rfl ?_
  refine zz_callV (T := TX0) (N := 5) (As := [.int (zi (σ 17 a.toNat 6)), .int (zi b)]) (rest := []) (v := ((0 : Nat) : Int)) (κ := 1) ⟨hx, hb, hml, hown, hts⟩ (c_X0_minutesBetween l G ad A N0 σ nd nr hX (σ 17 a.toNat 6) b (hW0.2.2.1 _ _ _) gb) (cwV 2 hts gX6_wander_X0_minutesBetween rfl rfl rfl (by decide +kernel) ⟨Nat.le_of_ble_eq_true rfl, Nat.le_of_ble_eq_true rfl⟩) hK hW2 (zlN (hX 1 0 rfl)) rfl rfl (Nat.le_trans hsz hS2.1) hS2 rfl hl.1.1 rfl (Nat.le_of_ble_eq_true rfl) dX6_wander_19 ⟨Nat.le_of_ble_eq_true rfl, Nat.le_of_ble_eq_true rfl⟩ (fun x3 σ3 H3 locs3 hp3 hW3 hz3 hS3 => ?_)
  obtain ⟨rfl, hx9⟩ := hp3
  rw [CP_mb hCP.1 (by omega) hkb, h69] at hx9
  have hY9 := hx9
  have hwz := yWF_w hWF (t 49 0 a.toNat).toNat b.toNat (by omega) (by omega)
  have hYg : -1 ≤ x3 ∧ x3 ≤ 100000 := by rw [← hx9]; split <;> omega
  refine W.eq (g2 := F0 m 22 ls [.int (zi x3)]) rfl ?_
  refine zz_istore (lv' := [(4, .int (zi x3)), (3, zr ad 17 ((a.toNat : Nat) : Int)), (0, zr ad 0 ((0 : Nat) : Int)), (1, .int (zi a)), (2, .int (zi b))]) hx hb hl dX6_wander_22 (by decide) rfl (fun ls hl => ?_)
  refine zz_aload_n hx hb hl 1 dX6_wander_24 rfl rfl ?_
  refine zz_callV (T := TX1) (N := 13) (As := []) (rest := []) (v := ((a.toNat : Nat) : Int)) (κ := 17) ⟨hx, hb, hml, hown, hts⟩ (c_X1_isFree l G ad A N0 σ nd nr hX a.toNat (by omega)) (cwV 0 hts gX6_wander_X1_isFree rfl rfl rfl (by decide +kernel) ⟨Nat.le_of_ble_eq_true rfl, Nat.le_of_ble_eq_true rfl⟩) hK hW3 (zlN (hX 17 a.toNat (decide_eq_true (by omega)))) rfl rfl (Nat.le_trans hsz hS3.1) hS3 rfl hl.1.1 rfl (Nat.le_of_ble_eq_true rfl) dX6_wander_25 ⟨Nat.le_of_ble_eq_true rfl, Nat.le_of_ble_eq_true rfl⟩ (fun x4 σ4 H4 locs4 hp4 hW4 hz4 hS4 => ?_)
  obtain ⟨rfl, rfl⟩ := hp4
  refine W.eq (g2 := F0 m 28 ls [.int (zi (zb (σ 18 a.toNat 3 = 0 ∧ σ 17 a.toNat 7 = 0 ∧ σ 17 a.toNat 5 = 0)))]) rfl ?_
  refine zz_if_eqb (tgt := 45) hx hb dX6_wander_28 (by decide) (fun hc28 => ?_) (fun hc28 => ?_)
  · refine zx_throw (ik := 66) (is := 128) (ic := 70) (cls := "java/lang/IllegalStateException") (text := "the driver can\'t be sent there") (rest := []) ⟨hx, hb, hml, hown, hts⟩ hst hlocks hout hE hW4 hS4 (by decide +kernel) (by decide) (by decide +kernel) (by decide +kernel) (by decide +kernel) zat2 zot2 (by decide) hl.1.1 dX6_wander_45 dX6_wander_48 dX6_wander_49 dX6_wander_51 dX6_wander_54 ⟨Nat.le_of_ble_eq_true rfl, (Nat.le_of_ble_eq_true rfl), Nat.le_of_ble_eq_true rfl, Nat.le_of_ble_eq_true rfl⟩ (Nat.le_of_ble_eq_true rfl) (Nat.le_of_ble_eq_true rfl) ?_
    refine ⟨rfl, Or.inr ⟨rfl, ⟨by omega, by omega⟩, fun q => ?_⟩⟩
    obtain ⟨q1, q2, q3⟩ := q
    first
      | exact hc28 ((CP_free hCP (show a.toNat < nd by omega)).2 q1)
      | (rw [if_pos q3] at hY9; omega)
      | omega
  · refine zz_iload hx hb hl 0 dX6_wander_31 rfl ?_
    refine zz_iconst hx hb dX6_wander_33 ?_
    refine zz_icmp_eq (tgt := 45) hx hb dX6_wander_34 (by decide) ⟨by omega, by omega⟩ ⟨by decide, by decide⟩ (fun hc34 => ?_) (fun hc34 => ?_)
    · refine zx_throw (ik := 66) (is := 128) (ic := 70) (cls := "java/lang/IllegalStateException") (text := "the driver can\'t be sent there") (rest := []) ⟨hx, hb, hml, hown, hts⟩ hst hlocks hout hE hW4 hS4 (by decide +kernel) (by decide) (by decide +kernel) (by decide +kernel) (by decide +kernel) zat2 zot2 (by decide) hl.1.1 dX6_wander_45 dX6_wander_48 dX6_wander_49 dX6_wander_51 dX6_wander_54 ⟨Nat.le_of_ble_eq_true rfl, (Nat.le_of_ble_eq_true rfl), Nat.le_of_ble_eq_true rfl, Nat.le_of_ble_eq_true rfl⟩ (Nat.le_of_ble_eq_true rfl) (Nat.le_of_ble_eq_true rfl) ?_
      refine ⟨rfl, Or.inr ⟨rfl, ⟨by omega, by omega⟩, fun q => ?_⟩⟩
      obtain ⟨q1, q2, q3⟩ := q
      first
        | exact hc28 ((CP_free hCP (show a.toNat < nd by omega)).2 q1)
        | (rw [if_pos q3] at hY9; omega)
        | omega
    · refine zz_aload_n hx hb hl 1 dX6_wander_37 rfl rfl ?_
      refine zz_getN (T := TX1) (N := 13) (k := 6) (κ := 17) (w := .int (zi (σ 17 a.toNat 6))) hx hb hts hinX1 hown hK hW4 (zlN (hX 17 a.toNat (decide_eq_true (by omega)))) rfl rfl rfl (by decide) (host := "HailCity") (List.mem_of_getElem? (i := 15) rfl) (fun _ h9 => h9) rfl dX6_wander_38 ?_
      refine zz_iload_n hx hb hl 4 dX6_wander_41 rfl rfl ?_
      refine zz_icmp_ne (tgt := 55) hx hb dX6_wander_42 (by decide) (hW4.2.2.1 _ _ _) gb (fun hc42 => ?_) (fun hc42 => ?_)
      · refine zz_aload_n hx hb hl 1 dX6_wander_55 rfl rfl ?_
        refine zz_getN (T := TX1) (N := 13) (k := 1) (κ := 17) (w := zr ad 18 ((a.toNat : Nat) : Int)) hx hb hts hinX1 hown hK hW4 (zlN (hX 17 a.toNat (decide_eq_true (by omega)))) rfl rfl rfl (by decide) (host := "HailCity") (List.mem_of_getElem? (i := 12) rfl) (fun _ h9 => h9) rfl dX6_wander_56 ?_
        refine zz_iconst hx hb dX6_wander_59 ?_
        refine zz_iload_n hx hb hl 4 dX6_wander_60 rfl rfl ?_
        refine zz_null hx hb dX6_wander_61 ad 23 ?_
        refine zz_iconst hx hb dX6_wander_62 ?_
        refine zz_callV (T := TX4) (N := 4) (As := [.int (zi 0), .int (zi b), zr ad 23 (-1), .int (zi 0)]) (rest := []) (v := ((a.toNat : Nat) : Int)) (κ := 18) ⟨hx, hb, hml, hown, hts⟩ (c_X4_put l G ad A N0 σ nd nr hX a.toNat (by omega) 0 b (-1) 0 ⟨by decide, by decide⟩ gb ⟨by decide, by decide⟩ (Or.inl (by decide)) (Or.inl rfl) (by decide) (by omega) (by omega)) (cwV 4 hts gX6_wander_X4_put rfl rfl rfl (by decide +kernel) ⟨Nat.le_of_ble_eq_true rfl, Nat.le_of_ble_eq_true rfl⟩) hK hW4 (zlN (hX 18 a.toNat (decide_eq_true (by omega)))) rfl rfl (Nat.le_trans hsz hS4.1) hS4 rfl hl.1.1 rfl (Nat.le_of_ble_eq_true rfl) dX6_wander_63 ⟨Nat.le_of_ble_eq_true rfl, Nat.le_of_ble_eq_true rfl⟩ (fun x5 σ5 H5 locs5 hp5 hW5 hz5 hS5 => ?_)
        obtain ⟨hu1, hu2, hu3⟩ := hp5
        have e18 : σ 18 a.toNat 3 = 0 := hc28.1
        have hu29 := hu2 0 (by omega)
        rw [show (0 : Int).toNat = 0 from rfl, zins0, zins0, zins0] at hu29
        refine W.eq (g2 := F0 m 66 ls []) rfl ?_
        refine zz_aload_n hx hb hl 1 dX6_wander_66 rfl rfl ?_
        refine zz_aload_n hx hb hl 2 dX6_wander_67 rfl rfl ?_
        refine zz_get (T := TX6) (N := 10) (k := 8) (κ := 0) (w := .int (zi (t 30 0 1))) hx hb hts hinX6 hown hK hW5 (zlN (hX 0 0 rfl)) rfl rfl rfl (by decide) (hts (.fieldLink RX6 134 "HailCity" "now" "I") (by decide +kernel)) (fun _ h9 => h9) (congrArg (fun z => Value.int (zi z)) (show σ5 0 0 8 = t 30 0 1 from (hu3 0 0 8 (by omega)).trans hg8)) dX6_wander_68 ?_
        refine zz_iload hx hb hl 0 dX6_wander_71 rfl ?_
        refine zz_iadd hx hb dX6_wander_73 ?_
        refine zz_putN (T := TX1) (N := 13) (k := 9) (κ := 17) (v := ((a.toNat : Nat) : Int)) (x := ((t 30 0 1) + x3)) (ty := .int) hx hb hts hinX1 tyX1 tyX1_ok nmX1 hown hK hW5 hS5 (zlN (hX 17 a.toNat (decide_eq_true (by omega)))) rfl rfl rfl (by decide) (host := "HailCity") (List.mem_of_getElem? (i := 19) rfl) (fun _ h9 => h9) rfl (by decide +kernel) rfl rfl rfl ⟨by omega, by omega⟩ (fun h9 _ => absurd h9 (by decide)) (fun h9 => absurd h9 (by decide)) dX6_wander_74 (fun H6 locs6 hW6' hS6 => ?_)
        obtain ⟨σ6, hs6⟩ : ∃ z, z = zu σ5 17 a.toNat 9 ((t 30 0 1) + x3) := ⟨_, rfl⟩
        have hW6 : ZW G ad A σ6 H6 := by rw [hs6]; exact hW6'
        refine zz_aload_n hx hb hl 1 dX6_wander_77 rfl rfl ?_
        refine zz_getN (T := TX1) (N := 13) (k := 9) (κ := 17) (w := .int (zi ((t 30 0 1) + x3))) hx hb hts hinX1 hown hK hW6 (zlN (hX 17 a.toNat (decide_eq_true (by omega)))) rfl rfl rfl (by decide) (host := "HailCity") (List.mem_of_getElem? (i := 19) rfl) (fun _ h9 => h9) (congrArg (fun z => Value.int (zi z)) (show σ6 17 a.toNat 9 = (t 30 0 1) + x3 from by rw [hs6, zu_same])) dX6_wander_78 ?_
        refine W.eq (g2 := F0 m 81 ls [.int (zi ((t 30 0 1) + x3))]) rfl ?_
        refine zw_widen (k := 3) (n := 18) (Nat.le_of_ble_eq_true rfl) (Nat.le_of_ble_eq_true rfl) (vx_ret ?_)
        refine zz_reti hx hb hr hlocks hW6 hS6 ?_ dX6_wander_81
        have hwc : t 47 0 (10 * (t 49 0 a.toNat).toNat + b.toNat) < 100000 := by
          by_cases c9 : t 47 0 (10 * (t 49 0 a.toNat).toNat + b.toNat) < 100000
          · exact c9
          · rw [if_neg c9] at hY9; omega
        rw [if_pos hwc] at hY9
        refine ⟨⟨by omega, by omega⟩, ⟨(CP_free hCP (show a.toNat < nd by omega)).1 hc28, by omega, hwc⟩, ?_⟩
        obtain ⟨hc1, hc2⟩ := CP_wander (b := b) hCP hWF (show a.toNat < nd by omega) (by omega) (by omega) (by omega) hwc ⟨by omega, hu29, hu3⟩ (X := (t 30 0 1) + x3) (by omega)
        refine ⟨hc2, ?_⟩
        rw [hs6]
        exact hc1
      · refine zx_throw (ik := 66) (is := 128) (ic := 70) (cls := "java/lang/IllegalStateException") (text := "the driver can\'t be sent there") (rest := []) ⟨hx, hb, hml, hown, hts⟩ hst hlocks hout hE hW4 hS4 (by decide +kernel) (by decide) (by decide +kernel) (by decide +kernel) (by decide +kernel) zat2 zot2 (by decide) hl.1.1 dX6_wander_45 dX6_wander_48 dX6_wander_49 dX6_wander_51 dX6_wander_54 ⟨Nat.le_of_ble_eq_true rfl, (Nat.le_of_ble_eq_true rfl), Nat.le_of_ble_eq_true rfl, Nat.le_of_ble_eq_true rfl⟩ (Nat.le_of_ble_eq_true rfl) (Nat.le_of_ble_eq_true rfl) ?_
        refine ⟨rfl, Or.inr ⟨rfl, ⟨by omega, by omega⟩, fun q => ?_⟩⟩
        obtain ⟨q1, q2, q3⟩ := q
        first
          | exact hc28 ((CP_free hCP (show a.toNat < nd by omega)).2 q1)
          | (rw [if_pos q3] at hY9; omega)
          | omega

set_option maxHeartbeats 4000000 in
set_option maxRecDepth 100000 in
theorem c_X6_cancel (l : Launch) (hst : l.stackTraces = false) (G : zG) (ad : zA) (A : Nat → Prop) (N0 : Nat) (σ : zS) (nd nr ns : Nat) (hX : zX ad nd nr) (c9 B9 : Int) (t : zS) (hCP : CP σ t nd nr ns) (hWF : yWF t nd nr ns c9 B9) (hB9 : B9 ≤ 1000000) (a : Int) (ga : zg a) : vx_Met l yX6_cancel wsX6_cancel ({ frames := 7, cells := 2, slots := 12, locals := 222 }) (zPx G ad A N0 σ [zr ad 0 ((0 : Nat) : Int), .int (zi a)]) (zQ G ad A zri (fun r u => (0 ≤ a ∧ a ≤ (nr : Int) - 1) ∧ ((t 64 0 a.toNat = 0 ∧ 0 = r ∧ CP u (zu (zu t 30 0 0 0) 64 0 a.toNat 4) nd nr ns) ∨ (t 64 0 a.toNat = 1 ∧ ycf t a.toNat = r ∧ ∀ o, yco t a.toNat o → CP u (ycl t a.toNat o) nd nr ns)))) (zXC G ad A (fun E u => σ = u ∧ ((E = "java/lang/IndexOutOfBoundsException" ∧ ¬ (0 ≤ a ∧ a ≤ (nr : Int) - 1)) ∨ (E = "java/lang/IllegalStateException" ∧ (0 ≤ a ∧ a ≤ (nr : Int) - 1) ∧ ¬ (0 ≤ t 64 0 a.toNat ∧ t 64 0 a.toNat ≤ 1))))) 2 12 A := by
  refine zx_of (cc := cX6_cancel) (maxL := 4) (ret := (some .int)) (by decide) rfl (List.forall_mem_cons.mpr ⟨zr_cat _ _ _, List.forall_mem_cons.mpr ⟨rfl, fun _ h => absurd h List.not_mem_nil⟩⟩) (Nat.le_of_ble_eq_true rfl) ?_
  intro p e s m below meth c hx hb hr hml hts hown hlocks hout hsz hW0 hK hE ls hl
  have hS0 : va_S A s.heap s.heap [] := va_S.rf
  have hl : zh ls 4 [(0, zr ad 0 ((0 : Nat) : Int)), (1, .int (zi a))] := hl
  have hinX1 : ∀ w ∈ u_ws RX1 TX1 13, w ∈ wsX6_cancel := by decide +kernel
  have hinX3 : ∀ w ∈ u_ws RX3 TX3 12, w ∈ wsX6_cancel := by decide +kernel
  have hinX6 : ∀ w ∈ u_ws RX6 TX6 10, w ∈ wsX6_cancel := by decide +kernel
  have hc9 := hCP
  have hg5 := hc9.1.1.1
  have hg6 := hc9.1.1.2.1
  have hg8 := hc9.1.2.1.2.1
  have hgD := hc9.1.2.2.1
  have hgQ := hc9.1.2.2.2.1
  have hnd := hWF.1.1.1
  have hnr := hWF.1.1.2.1
  have hnow0 := hWF.1.2.2.1
  have hord := hWF.1.2.2.2.2.1
  have hg9 := hCP.1.2.1.2.2
  have hg4 := hCP.1.1.2.2
  refine zz_aload_n hx hb hl 0 dX6_cancel_0 rfl rfl ?_
  refine zz_iload_n hx hb hl 1 dX6_cancel_1 rfl rfl ?_
  refine zx_callV (T := TX6) (N := 10) (As := [.int (zi a)]) (rest := []) (v := ((0 : Nat) : Int)) (κ := 0) ⟨hx, hb, hml, hown, hts⟩ (c_X6_knownRequest l hst G ad A N0 σ nd nr hX hnd hnr hg5 hg6 hgD hgQ a ga) (cwV 1 hts gX6_cancel_X6_knownRequest rfl rfl rfl (by decide +kernel) ⟨Nat.le_of_ble_eq_true rfl, Nat.le_of_ble_eq_true rfl⟩) hK hE hW0 (zlN (hX 0 0 rfl)) rfl rfl (Nat.le_trans hsz hS0.1) hS0 rfl hl.1.1 rfl (Nat.le_of_ble_eq_true rfl) dX6_cancel_2 ⟨Nat.le_of_ble_eq_true rfl, Nat.le_of_ble_eq_true rfl⟩ (fun E9 ce9 q9 u9 H9 locs9 hpx hWx hSx hce hcv hclx => zx_out hout hlocks hce hcv hclx hWx hSx ((by obtain ⟨rfl, rfl, h9⟩ := hpx; exact ⟨rfl, Or.inl ⟨rfl, fun q => h9 (by omega)⟩⟩)) (Nat.le_of_ble_eq_true rfl) (Nat.le_of_ble_eq_true rfl)) (fun x1 σ1 H1 locs1 hp1 hW1 hz1 hS1 => ?_)
  obtain ⟨rfl, hka, hra⟩ := hp1
  obtain rfl : x1 = ((a.toNat : Nat) : Int) := by omega
  have hcq := hCP.2.2 a.toNat (by omega)
  have hwq := hWF.2.2.1 a.toNat (by omega)
  have h709 := hwq.2.2.2.2.2.2.2.1
  have h79 := hcq.2.2.2.2.2.2.1
  have h69 := hcq.2.2.2.2.2.1
  have h73 := hwq.2.2.2.2.2.2.2.2.2.1
  refine W.eq (g2 := F0 m 5 ls [zr ad 23 ((a.toNat : Nat) : Int)]) rfl ?_
  refine zz_astore_n (lv' := [(2, zr ad 23 ((a.toNat : Nat) : Int)), (0, zr ad 0 ((0 : Nat) : Int)), (1, .int (zi a))]) hx hb hl dX6_cancel_5 rfl (by decide) rfl (fun ls hl => ?_)
  refine zz_aload_n hx hb hl 0 dX6_cancel_6 rfl rfl ?_
  refine zz_getN (T := TX3) (N := 12) (k := 6) (κ := 23) (w := .int (zi (σ 23 a.toNat 6))) hx hb hts hinX3 hown hK hW1 (zlN (hX 23 a.toNat (decide_eq_true (by omega)))) rfl rfl rfl (by decide) (host := "HailCity") (List.mem_of_getElem? (i := 35) rfl) (fun _ h9 => h9) rfl dX6_cancel_7 ?_
  refine zz_if_eq (tgt := 31) hx hb dX6_cancel_10 (by decide) (hW1.2.2.1 _ _ _) (fun hc10 => ?_) (fun hc10 => ?_)
  · refine zz_aload_n hx hb hl 0 dX6_cancel_31 rfl rfl ?_
    refine zz_getN (T := TX3) (N := 12) (k := 6) (κ := 23) (w := .int (zi (σ 23 a.toNat 6))) hx hb hts hinX3 hown hK hW1 (zlN (hX 23 a.toNat (decide_eq_true (by omega)))) rfl rfl rfl (by decide) (host := "HailCity") (List.mem_of_getElem? (i := 35) rfl) (fun _ h9 => h9) rfl dX6_cancel_32 ?_
    refine zz_iconst hx hb dX6_cancel_35 ?_
    refine zz_icmp_ne (tgt := 43) hx hb dX6_cancel_36 (by decide) (hW1.2.2.1 _ _ _) ⟨by decide, by decide⟩ (fun hc36 => ?_) (fun hc36 => ?_)
    · refine zz_iconst hx hb dX6_cancel_43 ?_
      refine zz_istore_n (lv' := [(3, .int (zi 0)), (2, zr ad 23 ((a.toNat : Nat) : Int)), (0, zr ad 0 ((0 : Nat) : Int)), (1, .int (zi a))]) hx hb hl dX6_cancel_44 rfl (by decide) rfl (fun ls hl => ?_)
      refine zz_aload_n hx hb hl 1 dX6_cancel_45 rfl rfl ?_
      refine zz_iconst hx hb dX6_cancel_46 ?_
      refine zz_putN (T := TX3) (N := 12) (k := 6) (κ := 23) (v := ((a.toNat : Nat) : Int)) (x := 4) (ty := .int) hx hb hts hinX3 tyX3 tyX3_ok nmX3 hown hK hW1 hS1 (zlN (hX 23 a.toNat (decide_eq_true (by omega)))) rfl rfl rfl (by decide) (host := "HailCity") (List.mem_of_getElem? (i := 35) rfl) (fun _ h9 => h9) rfl (by decide +kernel) rfl rfl rfl ⟨by decide, by decide⟩ (fun h9 _ => absurd h9 (by decide)) (fun h9 => absurd h9 (by decide)) dX6_cancel_47 (fun H2 locs2 hW2' hS2 => ?_)
      obtain ⟨σ2, hs2⟩ : ∃ z, z = zu σ 23 a.toNat 6 4 := ⟨_, rfl⟩
      have hW2 : ZW G ad A σ2 H2 := by rw [hs2]; exact hW2'
      refine zz_iload_n hx hb hl 0 dX6_cancel_50 rfl rfl ?_
      refine zz_if_eq (tgt := 72) hx hb dX6_cancel_51 (by decide) ⟨by decide, by decide⟩ (fun hc51 => ?_) (fun hc51 => ?_)
      · 
        refine zz_iload_n hx hb hl 0 dX6_cancel_72 rfl rfl ?_
        refine zz_if_eq (tgt := 95) hx hb dX6_cancel_73 (by decide) ⟨by decide, by decide⟩ (fun hc73 => ?_) (fun hc73 => ?_)
        · refine zz_iconst hx hb dX6_cancel_95 ?_
          refine W.eq (g2 := F0 m 96 ls [.int (zi 0)]) rfl ?_
          refine zw_widen (k := 2) (n := 12) (Nat.le_of_ble_eq_true rfl) (Nat.le_of_ble_eq_true rfl) (vx_ret ?_)
          refine zz_reti hx hb hr hlocks hW2 hS2 ?_ dX6_cancel_96
          refine ⟨by omega, Or.inl ⟨by omega, rfl, ?_⟩⟩
          rw [hs2]
          exact CP_64 (CP_0 hCP hWF) (fun d hd => ((yWF_z (x := 0) hWF).2.1 d hd).1.2.2)
        · exact absurd rfl hc73
      · exact absurd rfl hc51
    · refine zz_iconst hx hb dX6_cancel_39 ?_
      refine zz_goto (tgt := 44) hx hb dX6_cancel_40 (by decide) ?_
      refine zz_istore_n (lv' := [(3, .int (zi 1)), (2, zr ad 23 ((a.toNat : Nat) : Int)), (0, zr ad 0 ((0 : Nat) : Int)), (1, .int (zi a))]) hx hb hl dX6_cancel_44 rfl (by decide) rfl (fun ls hl => ?_)
      refine zz_aload_n hx hb hl 1 dX6_cancel_45 rfl rfl ?_
      refine zz_iconst hx hb dX6_cancel_46 ?_
      refine zz_putN (T := TX3) (N := 12) (k := 6) (κ := 23) (v := ((a.toNat : Nat) : Int)) (x := 4) (ty := .int) hx hb hts hinX3 tyX3 tyX3_ok nmX3 hown hK hW1 hS1 (zlN (hX 23 a.toNat (decide_eq_true (by omega)))) rfl rfl rfl (by decide) (host := "HailCity") (List.mem_of_getElem? (i := 35) rfl) (fun _ h9 => h9) rfl (by decide +kernel) rfl rfl rfl ⟨by decide, by decide⟩ (fun h9 _ => absurd h9 (by decide)) (fun h9 => absurd h9 (by decide)) dX6_cancel_47 (fun H3 locs3 hW3' hS3 => ?_)
      obtain ⟨σ3, hs3⟩ : ∃ z, z = zu σ 23 a.toNat 6 4 := ⟨_, rfl⟩
      have hW3 : ZW G ad A σ3 H3 := by rw [hs3]; exact hW3'
      refine zz_iload_n hx hb hl 0 dX6_cancel_50 rfl rfl ?_
      refine zz_if_eq (tgt := 72) hx hb dX6_cancel_51 (by decide) ⟨by decide, by decide⟩ (fun hc51 => ?_) (fun hc51 => ?_)
      · exact absurd hc51 (by decide)
      · refine zz_aload_n hx hb hl 1 dX6_cancel_54 rfl rfl ?_
        refine zz_getN (T := TX3) (N := 12) (k := 7) (κ := 23) (w := zr ad 17 (σ 23 a.toNat 7)) hx hb hts hinX3 hown hK hW3 (zlN (hX 23 a.toNat (decide_eq_true (by omega)))) rfl rfl rfl (by decide) (host := "HailCity") (List.mem_of_getElem? (i := 36) rfl) (fun _ h9 => h9) ((zv_r (by decide) (by decide)).trans (congrArg _ (show σ3 23 a.toNat 7 = σ 23 a.toNat 7 from by rw [hs3, zu_s (by decide)]))) dX6_cancel_55 ?_
        refine zz_ifnull (tgt := 72) hx hb (hW1.2.2.2.1 23 _ 7 ((zlN (hX 23 a.toNat (decide_eq_true (by omega))))).2 (by decide) (by decide)) dX6_cancel_58 (by decide) (fun hc58 => ?_) (fun hc58 => ?_)
        · 
          refine zz_iload_n hx hb hl 0 dX6_cancel_72 rfl rfl ?_
          refine zz_if_eq (tgt := 95) hx hb dX6_cancel_73 (by decide) ⟨by decide, by decide⟩ (fun hc73 => ?_) (fun hc73 => ?_)
          · exact absurd hc73 (by decide)
          · refine zz_aload_n hx hb hl 2 dX6_cancel_76 rfl rfl ?_
            refine zz_get (T := TX6) (N := 10) (k := 8) (κ := 0) (w := .int (zi (t 30 0 1))) hx hb hts hinX6 hown hK hW3 (zlN (hX 0 0 rfl)) rfl rfl rfl (by decide) (hts (.fieldLink RX6 134 "HailCity" "now" "I") (by decide +kernel)) (fun _ h9 => h9) (congrArg (fun z => Value.int (zi z)) (show σ3 0 0 8 = t 30 0 1 from by rw [hs3, zu_ne (by omega)]; exact hg8)) dX6_cancel_77 ?_
            refine zz_aload_n hx hb hl 1 dX6_cancel_80 rfl rfl ?_
            refine zz_getN (T := TX3) (N := 12) (k := 8) (κ := 23) (w := .int (zi (t 73 0 a.toNat))) hx hb hts hinX3 hown hK hW3 (zlN (hX 23 a.toNat (decide_eq_true (by omega)))) rfl rfl rfl (by decide) (host := "HailCity") (List.mem_of_getElem? (i := 37) rfl) (fun _ h9 => h9) (congrArg (fun z => Value.int (zi z)) (show σ3 23 a.toNat 8 = t 73 0 a.toNat from by rw [hs3, zu_ne (by omega)]; exact hcq.2.2.2.2.2.2.2.1)) dX6_cancel_81 ?_
            refine zz_isub hx hb dX6_cancel_84 ?_
            refine zz_iconst hx hb dX6_cancel_85 ?_
            refine zz_icmp_le (tgt := 95) hx hb dX6_cancel_86 (by decide) ⟨by omega, by omega⟩ ⟨by decide, by decide⟩ (fun hc86 => ?_) (fun hc86 => ?_)
            · refine zz_iconst hx hb dX6_cancel_95 ?_
              refine W.eq (g2 := F0 m 96 ls [.int (zi 0)]) rfl ?_
              refine zw_widen (k := 2) (n := 12) (Nat.le_of_ble_eq_true rfl) (Nat.le_of_ble_eq_true rfl) (vx_ret ?_)
              refine zz_reti hx hb hr hlocks hW3 hS3 ?_ dX6_cancel_96
              exfalso
              have h9 := hwq.2.2.2.2.2.2.2.2.1 (by omega) (by omega)
              omega
            · refine zz_sipush hx hb dX6_cancel_89 (by decide +kernel) ?_
              refine zz_goto (tgt := 96) hx hb dX6_cancel_92 (by decide) ?_
              refine W.eq (g2 := F0 m 96 ls [.int (zi 500)]) rfl ?_
              refine zw_widen (k := 2) (n := 12) (Nat.le_of_ble_eq_true rfl) (Nat.le_of_ble_eq_true rfl) (vx_ret ?_)
              refine zz_reti hx hb hr hlocks hW3 hS3 ?_ dX6_cancel_96
              exfalso
              have h9 := hwq.2.2.2.2.2.2.2.2.1 (by omega) (by omega)
              omega
        · have h700 := hc58.1
          obtain ⟨o, ho1, ho2, ho3⟩ := yco_ex hWF (show a.toNat < nr by omega) (by omega)
          have hD9 : (σ 23 a.toNat 7).toNat = (t 70 0 a.toNat).toNat := by rw [h79]
          have hDn : (t 70 0 a.toNat).toNat < nd := by omega
          have hcD := hCP.2.1 (t 70 0 a.toNat).toNat hDn
          have h52D := (hWF.2.1 _ hDn).1.2
          have hrow9 := hcD.1.2.2.2
          have h18D := hcD.1.2.1
          refine zz_aload_n hx hb hl 1 dX6_cancel_61 rfl rfl ?_
          refine zz_getN (T := TX3) (N := 12) (k := 7) (κ := 23) (w := zr ad 17 (σ 23 a.toNat 7)) hx hb hts hinX3 hown hK hW3 (zlN (hX 23 a.toNat (decide_eq_true (by omega)))) rfl rfl rfl (by decide) (host := "HailCity") (List.mem_of_getElem? (i := 36) rfl) (fun _ h9 => h9) ((zv_r (by decide) (by decide)).trans (congrArg _ (show σ3 23 a.toNat 7 = σ 23 a.toNat 7 from by rw [hs3, zu_s (by decide)]))) dX6_cancel_62 ?_
          refine zz_getN (T := TX1) (N := 13) (k := 1) (κ := 17) (w := zr ad 18 (((σ 23 a.toNat 7).toNat : Nat) : Int)) hx hb hts hinX1 hown hK hW3 hc58 rfl rfl rfl (by decide) (host := "HailCity") (List.mem_of_getElem? (i := 12) rfl) (fun _ h9 => h9) rfl dX6_cancel_65 ?_
          refine zz_aload_n hx hb hl 1 dX6_cancel_68 rfl rfl ?_
          refine zz_callV (T := TX4) (N := 4) (As := [zr ad 23 ((a.toNat : Nat) : Int)]) (rest := []) (v := (((σ 23 a.toNat 7).toNat : Nat) : Int)) (κ := 18) ⟨hx, hb, hml, hown, hts⟩ (c_X4_dropRider l G ad A N0 σ3 nd nr hX (σ 23 a.toNat 7).toNat (by omega) ((a.toNat : Nat) : Int) ⟨by omega, by omega⟩ (zlN (hX 23 a.toNat (decide_eq_true (by omega)))) o (by rw [hs3, zu_ne (by omega), hD9, h18D]; exact ho1) (by
    rw [hs3, zu_ne (by omega), hD9, (hrow9 o ho1).2.1, ho2]
    unfold yw1
    rw [if_neg (by omega)]
    omega) (by
    rw [hs3, zu_ne (by omega), hD9, (hrow9 o ho1).2.2, ho2]
    exact if_neg (by omega)) (fun j hj hjo e9 => by
    rw [hs3, zu_ne (by omega), hD9, h18D] at hj
    have hr9 := yWF_row hWF hDn hj
    have hx9 : t 54 0 (8 * (t 70 0 a.toNat).toNat + j) ≠ 100 + ((a.toNat : Nat) : Int) := fun q => hjo (ho3 j hj q)
    rw [hs3, zu_ne (by omega), hD9, (hrow9 j hj).2.1] at e9
    rw [hs3, zu_ne (by omega), hD9, (hrow9 j hj).2.2]
    unfold yw1 at e9
    unfold yw2
    by_cases c8 : t 54 0 (8 * (t 70 0 a.toNat).toNat + j) < 100
    · rw [if_pos c8]
    · rw [if_neg c8] at e9; omega) (by rw [hs3, zu_ne (by omega), hD9, h18D]; omega)) (cwV 1 hts gX6_cancel_X4_dropRider rfl rfl rfl (by decide +kernel) ⟨Nat.le_of_ble_eq_true rfl, Nat.le_of_ble_eq_true rfl⟩) hK hW3 (zlN (hX 18 ((σ 23 a.toNat 7).toNat) (decide_eq_true (by omega)))) rfl rfl (Nat.le_trans hsz hS3.1) hS3 rfl hl.1.1 rfl (Nat.le_of_ble_eq_true rfl) dX6_cancel_69 ⟨Nat.le_of_ble_eq_true rfl, Nat.le_of_ble_eq_true rfl⟩ (fun x4 σ4 H4 locs4 hp4 hW4 hz4 hS4 => ?_)
          have hdr := hp4
          refine W.eq (g2 := F0 m 72 ls []) rfl ?_
          
          refine zz_iload_n hx hb hl 0 dX6_cancel_72 rfl rfl ?_
          refine zz_if_eq (tgt := 95) hx hb dX6_cancel_73 (by decide) ⟨by decide, by decide⟩ (fun hc73 => ?_) (fun hc73 => ?_)
          · exact absurd hc73 (by decide)
          · refine zz_aload_n hx hb hl 2 dX6_cancel_76 rfl rfl ?_
            refine zz_get (T := TX6) (N := 10) (k := 8) (κ := 0) (w := .int (zi (t 30 0 1))) hx hb hts hinX6 hown hK hW4 (zlN (hX 0 0 rfl)) rfl rfl rfl (by decide) (hts (.fieldLink RX6 134 "HailCity" "now" "I") (by decide +kernel)) (fun _ h9 => h9) (congrArg (fun z => Value.int (zi z)) (show σ4 0 0 8 = t 30 0 1 from (hdr.2.2 0 0 8 (by omega)).trans (by rw [hs3, zu_ne (by omega)]; exact hg8))) dX6_cancel_77 ?_
            refine zz_aload_n hx hb hl 1 dX6_cancel_80 rfl rfl ?_
            refine zz_getN (T := TX3) (N := 12) (k := 8) (κ := 23) (w := .int (zi (t 73 0 a.toNat))) hx hb hts hinX3 hown hK hW4 (zlN (hX 23 a.toNat (decide_eq_true (by omega)))) rfl rfl rfl (by decide) (host := "HailCity") (List.mem_of_getElem? (i := 37) rfl) (fun _ h9 => h9) (congrArg (fun z => Value.int (zi z)) (show σ4 23 a.toNat 8 = t 73 0 a.toNat from (hdr.2.2 23 a.toNat 8 (by omega)).trans (by rw [hs3, zu_ne (by omega)]; exact hcq.2.2.2.2.2.2.2.1))) dX6_cancel_81 ?_
            refine zz_isub hx hb dX6_cancel_84 ?_
            refine zz_iconst hx hb dX6_cancel_85 ?_
            refine zz_icmp_le (tgt := 95) hx hb dX6_cancel_86 (by decide) ⟨by omega, by omega⟩ ⟨by decide, by decide⟩ (fun hc86 => ?_) (fun hc86 => ?_)
            · refine zz_iconst hx hb dX6_cancel_95 ?_
              refine W.eq (g2 := F0 m 96 ls [.int (zi 0)]) rfl ?_
              refine zw_widen (k := 2) (n := 12) (Nat.le_of_ble_eq_true rfl) (Nat.le_of_ble_eq_true rfl) (vx_ret ?_)
              refine zz_reti hx hb hr hlocks hW4 hS4 ?_ dX6_cancel_96
              refine ⟨by omega, Or.inr ⟨by omega, ?_, fun o2 ho9 => ?_⟩⟩
              · unfold ycf
                first
                  | exact if_pos (by omega)
                  | exact if_neg (by omega)
              · obtain rfl : o2 = o := ho3 o2 ho9.1 ho9.2.1
                refine CP_cl hCP hWF (by omega) (by omega) ho9 ?_
                rw [← hs3, ← hD9]
                have h9 := hdr
                rw [show σ3 18 (σ 23 a.toNat 7).toNat 3 = σ 18 (σ 23 a.toNat 7).toNat 3 from by rw [hs3, zu_ne (by omega)]] at h9
                have e20 : σ3 20 = σ 20 := funext fun i => funext fun k => by rw [hs3, zu_ne (by omega)]
                have e21 : σ3 21 = σ 21 := funext fun i => funext fun k => by rw [hs3, zu_ne (by omega)]
                have e22 : σ3 22 = σ 22 := funext fun i => funext fun k => by rw [hs3, zu_ne (by omega)]
                rw [e20, e21, e22] at h9
                exact h9
            · refine zz_sipush hx hb dX6_cancel_89 (by decide +kernel) ?_
              refine zz_goto (tgt := 96) hx hb dX6_cancel_92 (by decide) ?_
              refine W.eq (g2 := F0 m 96 ls [.int (zi 500)]) rfl ?_
              refine zw_widen (k := 2) (n := 12) (Nat.le_of_ble_eq_true rfl) (Nat.le_of_ble_eq_true rfl) (vx_ret ?_)
              refine zz_reti hx hb hr hlocks hW4 hS4 ?_ dX6_cancel_96
              refine ⟨by omega, Or.inr ⟨by omega, ?_, fun o2 ho9 => ?_⟩⟩
              · unfold ycf
                first
                  | exact if_pos (by omega)
                  | exact if_neg (by omega)
              · obtain rfl : o2 = o := ho3 o2 ho9.1 ho9.2.1
                refine CP_cl hCP hWF (by omega) (by omega) ho9 ?_
                rw [← hs3, ← hD9]
                have h9 := hdr
                rw [show σ3 18 (σ 23 a.toNat 7).toNat 3 = σ 18 (σ 23 a.toNat 7).toNat 3 from by rw [hs3, zu_ne (by omega)]] at h9
                have e20 : σ3 20 = σ 20 := funext fun i => funext fun k => by rw [hs3, zu_ne (by omega)]
                have e21 : σ3 21 = σ 21 := funext fun i => funext fun k => by rw [hs3, zu_ne (by omega)]
                have e22 : σ3 22 = σ 22 := funext fun i => funext fun k => by rw [hs3, zu_ne (by omega)]
                rw [e20, e21, e22] at h9
                exact h9
  · refine zz_aload_n hx hb hl 0 dX6_cancel_13 rfl rfl ?_
    refine zz_getN (T := TX3) (N := 12) (k := 6) (κ := 23) (w := .int (zi (σ 23 a.toNat 6))) hx hb hts hinX3 hown hK hW1 (zlN (hX 23 a.toNat (decide_eq_true (by omega)))) rfl rfl rfl (by decide) (host := "HailCity") (List.mem_of_getElem? (i := 35) rfl) (fun _ h9 => h9) rfl dX6_cancel_14 ?_
    refine zz_iconst hx hb dX6_cancel_17 ?_
    refine zz_icmp_eq (tgt := 31) hx hb dX6_cancel_18 (by decide) (hW1.2.2.1 _ _ _) ⟨by decide, by decide⟩ (fun hc18 => ?_) (fun hc18 => ?_)
    · refine zz_aload_n hx hb hl 0 dX6_cancel_31 rfl rfl ?_
      refine zz_getN (T := TX3) (N := 12) (k := 6) (κ := 23) (w := .int (zi (σ 23 a.toNat 6))) hx hb hts hinX3 hown hK hW1 (zlN (hX 23 a.toNat (decide_eq_true (by omega)))) rfl rfl rfl (by decide) (host := "HailCity") (List.mem_of_getElem? (i := 35) rfl) (fun _ h9 => h9) rfl dX6_cancel_32 ?_
      refine zz_iconst hx hb dX6_cancel_35 ?_
      refine zz_icmp_ne (tgt := 43) hx hb dX6_cancel_36 (by decide) (hW1.2.2.1 _ _ _) ⟨by decide, by decide⟩ (fun hc36 => ?_) (fun hc36 => ?_)
      · refine zz_iconst hx hb dX6_cancel_43 ?_
        refine zz_istore_n (lv' := [(3, .int (zi 0)), (2, zr ad 23 ((a.toNat : Nat) : Int)), (0, zr ad 0 ((0 : Nat) : Int)), (1, .int (zi a))]) hx hb hl dX6_cancel_44 rfl (by decide) rfl (fun ls hl => ?_)
        refine zz_aload_n hx hb hl 1 dX6_cancel_45 rfl rfl ?_
        refine zz_iconst hx hb dX6_cancel_46 ?_
        refine zz_putN (T := TX3) (N := 12) (k := 6) (κ := 23) (v := ((a.toNat : Nat) : Int)) (x := 4) (ty := .int) hx hb hts hinX3 tyX3 tyX3_ok nmX3 hown hK hW1 hS1 (zlN (hX 23 a.toNat (decide_eq_true (by omega)))) rfl rfl rfl (by decide) (host := "HailCity") (List.mem_of_getElem? (i := 35) rfl) (fun _ h9 => h9) rfl (by decide +kernel) rfl rfl rfl ⟨by decide, by decide⟩ (fun h9 _ => absurd h9 (by decide)) (fun h9 => absurd h9 (by decide)) dX6_cancel_47 (fun H5 locs5 hW5' hS5 => ?_)
        obtain ⟨σ5, hs5⟩ : ∃ z, z = zu σ 23 a.toNat 6 4 := ⟨_, rfl⟩
        have hW5 : ZW G ad A σ5 H5 := by rw [hs5]; exact hW5'
        refine zz_iload_n hx hb hl 0 dX6_cancel_50 rfl rfl ?_
        refine zz_if_eq (tgt := 72) hx hb dX6_cancel_51 (by decide) ⟨by decide, by decide⟩ (fun hc51 => ?_) (fun hc51 => ?_)
        · 
          refine zz_iload_n hx hb hl 0 dX6_cancel_72 rfl rfl ?_
          refine zz_if_eq (tgt := 95) hx hb dX6_cancel_73 (by decide) ⟨by decide, by decide⟩ (fun hc73 => ?_) (fun hc73 => ?_)
          · refine zz_iconst hx hb dX6_cancel_95 ?_
            refine W.eq (g2 := F0 m 96 ls [.int (zi 0)]) rfl ?_
            refine zw_widen (k := 2) (n := 12) (Nat.le_of_ble_eq_true rfl) (Nat.le_of_ble_eq_true rfl) (vx_ret ?_)
            refine zz_reti hx hb hr hlocks hW5 hS5 ?_ dX6_cancel_96
            refine ⟨by omega, Or.inl ⟨by omega, rfl, ?_⟩⟩
            rw [hs5]
            exact CP_64 (CP_0 hCP hWF) (fun d hd => ((yWF_z (x := 0) hWF).2.1 d hd).1.2.2)
          · exact absurd rfl hc73
        · exact absurd rfl hc51
      · refine zz_iconst hx hb dX6_cancel_39 ?_
        refine zz_goto (tgt := 44) hx hb dX6_cancel_40 (by decide) ?_
        refine zz_istore_n (lv' := [(3, .int (zi 1)), (2, zr ad 23 ((a.toNat : Nat) : Int)), (0, zr ad 0 ((0 : Nat) : Int)), (1, .int (zi a))]) hx hb hl dX6_cancel_44 rfl (by decide) rfl (fun ls hl => ?_)
        refine zz_aload_n hx hb hl 1 dX6_cancel_45 rfl rfl ?_
        refine zz_iconst hx hb dX6_cancel_46 ?_
        refine zz_putN (T := TX3) (N := 12) (k := 6) (κ := 23) (v := ((a.toNat : Nat) : Int)) (x := 4) (ty := .int) hx hb hts hinX3 tyX3 tyX3_ok nmX3 hown hK hW1 hS1 (zlN (hX 23 a.toNat (decide_eq_true (by omega)))) rfl rfl rfl (by decide) (host := "HailCity") (List.mem_of_getElem? (i := 35) rfl) (fun _ h9 => h9) rfl (by decide +kernel) rfl rfl rfl ⟨by decide, by decide⟩ (fun h9 _ => absurd h9 (by decide)) (fun h9 => absurd h9 (by decide)) dX6_cancel_47 (fun H6 locs6 hW6' hS6 => ?_)
        obtain ⟨σ6, hs6⟩ : ∃ z, z = zu σ 23 a.toNat 6 4 := ⟨_, rfl⟩
        have hW6 : ZW G ad A σ6 H6 := by rw [hs6]; exact hW6'
        refine zz_iload_n hx hb hl 0 dX6_cancel_50 rfl rfl ?_
        refine zz_if_eq (tgt := 72) hx hb dX6_cancel_51 (by decide) ⟨by decide, by decide⟩ (fun hc51 => ?_) (fun hc51 => ?_)
        · exact absurd hc51 (by decide)
        · refine zz_aload_n hx hb hl 1 dX6_cancel_54 rfl rfl ?_
          refine zz_getN (T := TX3) (N := 12) (k := 7) (κ := 23) (w := zr ad 17 (σ 23 a.toNat 7)) hx hb hts hinX3 hown hK hW6 (zlN (hX 23 a.toNat (decide_eq_true (by omega)))) rfl rfl rfl (by decide) (host := "HailCity") (List.mem_of_getElem? (i := 36) rfl) (fun _ h9 => h9) ((zv_r (by decide) (by decide)).trans (congrArg _ (show σ6 23 a.toNat 7 = σ 23 a.toNat 7 from by rw [hs6, zu_s (by decide)]))) dX6_cancel_55 ?_
          refine zz_ifnull (tgt := 72) hx hb (hW1.2.2.2.1 23 _ 7 ((zlN (hX 23 a.toNat (decide_eq_true (by omega))))).2 (by decide) (by decide)) dX6_cancel_58 (by decide) (fun hc58 => ?_) (fun hc58 => ?_)
          · 
            refine zz_iload_n hx hb hl 0 dX6_cancel_72 rfl rfl ?_
            refine zz_if_eq (tgt := 95) hx hb dX6_cancel_73 (by decide) ⟨by decide, by decide⟩ (fun hc73 => ?_) (fun hc73 => ?_)
            · exact absurd hc73 (by decide)
            · refine zz_aload_n hx hb hl 2 dX6_cancel_76 rfl rfl ?_
              refine zz_get (T := TX6) (N := 10) (k := 8) (κ := 0) (w := .int (zi (t 30 0 1))) hx hb hts hinX6 hown hK hW6 (zlN (hX 0 0 rfl)) rfl rfl rfl (by decide) (hts (.fieldLink RX6 134 "HailCity" "now" "I") (by decide +kernel)) (fun _ h9 => h9) (congrArg (fun z => Value.int (zi z)) (show σ6 0 0 8 = t 30 0 1 from by rw [hs6, zu_ne (by omega)]; exact hg8)) dX6_cancel_77 ?_
              refine zz_aload_n hx hb hl 1 dX6_cancel_80 rfl rfl ?_
              refine zz_getN (T := TX3) (N := 12) (k := 8) (κ := 23) (w := .int (zi (t 73 0 a.toNat))) hx hb hts hinX3 hown hK hW6 (zlN (hX 23 a.toNat (decide_eq_true (by omega)))) rfl rfl rfl (by decide) (host := "HailCity") (List.mem_of_getElem? (i := 37) rfl) (fun _ h9 => h9) (congrArg (fun z => Value.int (zi z)) (show σ6 23 a.toNat 8 = t 73 0 a.toNat from by rw [hs6, zu_ne (by omega)]; exact hcq.2.2.2.2.2.2.2.1)) dX6_cancel_81 ?_
              refine zz_isub hx hb dX6_cancel_84 ?_
              refine zz_iconst hx hb dX6_cancel_85 ?_
              refine zz_icmp_le (tgt := 95) hx hb dX6_cancel_86 (by decide) ⟨by omega, by omega⟩ ⟨by decide, by decide⟩ (fun hc86 => ?_) (fun hc86 => ?_)
              · refine zz_iconst hx hb dX6_cancel_95 ?_
                refine W.eq (g2 := F0 m 96 ls [.int (zi 0)]) rfl ?_
                refine zw_widen (k := 2) (n := 12) (Nat.le_of_ble_eq_true rfl) (Nat.le_of_ble_eq_true rfl) (vx_ret ?_)
                refine zz_reti hx hb hr hlocks hW6 hS6 ?_ dX6_cancel_96
                exfalso
                have h9 := hwq.2.2.2.2.2.2.2.2.1 (by omega) (by omega)
                omega
              · refine zz_sipush hx hb dX6_cancel_89 (by decide +kernel) ?_
                refine zz_goto (tgt := 96) hx hb dX6_cancel_92 (by decide) ?_
                refine W.eq (g2 := F0 m 96 ls [.int (zi 500)]) rfl ?_
                refine zw_widen (k := 2) (n := 12) (Nat.le_of_ble_eq_true rfl) (Nat.le_of_ble_eq_true rfl) (vx_ret ?_)
                refine zz_reti hx hb hr hlocks hW6 hS6 ?_ dX6_cancel_96
                exfalso
                have h9 := hwq.2.2.2.2.2.2.2.2.1 (by omega) (by omega)
                omega
          · have h700 := hc58.1
            obtain ⟨o, ho1, ho2, ho3⟩ := yco_ex hWF (show a.toNat < nr by omega) (by omega)
            have hD9 : (σ 23 a.toNat 7).toNat = (t 70 0 a.toNat).toNat := by rw [h79]
            have hDn : (t 70 0 a.toNat).toNat < nd := by omega
            have hcD := hCP.2.1 (t 70 0 a.toNat).toNat hDn
            have h52D := (hWF.2.1 _ hDn).1.2
            have hrow9 := hcD.1.2.2.2
            have h18D := hcD.1.2.1
            refine zz_aload_n hx hb hl 1 dX6_cancel_61 rfl rfl ?_
            refine zz_getN (T := TX3) (N := 12) (k := 7) (κ := 23) (w := zr ad 17 (σ 23 a.toNat 7)) hx hb hts hinX3 hown hK hW6 (zlN (hX 23 a.toNat (decide_eq_true (by omega)))) rfl rfl rfl (by decide) (host := "HailCity") (List.mem_of_getElem? (i := 36) rfl) (fun _ h9 => h9) ((zv_r (by decide) (by decide)).trans (congrArg _ (show σ6 23 a.toNat 7 = σ 23 a.toNat 7 from by rw [hs6, zu_s (by decide)]))) dX6_cancel_62 ?_
            refine zz_getN (T := TX1) (N := 13) (k := 1) (κ := 17) (w := zr ad 18 (((σ 23 a.toNat 7).toNat : Nat) : Int)) hx hb hts hinX1 hown hK hW6 hc58 rfl rfl rfl (by decide) (host := "HailCity") (List.mem_of_getElem? (i := 12) rfl) (fun _ h9 => h9) rfl dX6_cancel_65 ?_
            refine zz_aload_n hx hb hl 1 dX6_cancel_68 rfl rfl ?_
            refine zz_callV (T := TX4) (N := 4) (As := [zr ad 23 ((a.toNat : Nat) : Int)]) (rest := []) (v := (((σ 23 a.toNat 7).toNat : Nat) : Int)) (κ := 18) ⟨hx, hb, hml, hown, hts⟩ (c_X4_dropRider l G ad A N0 σ6 nd nr hX (σ 23 a.toNat 7).toNat (by omega) ((a.toNat : Nat) : Int) ⟨by omega, by omega⟩ (zlN (hX 23 a.toNat (decide_eq_true (by omega)))) o (by rw [hs6, zu_ne (by omega), hD9, h18D]; exact ho1) (by
    rw [hs6, zu_ne (by omega), hD9, (hrow9 o ho1).2.1, ho2]
    unfold yw1
    rw [if_neg (by omega)]
    omega) (by
    rw [hs6, zu_ne (by omega), hD9, (hrow9 o ho1).2.2, ho2]
    exact if_neg (by omega)) (fun j hj hjo e9 => by
    rw [hs6, zu_ne (by omega), hD9, h18D] at hj
    have hr9 := yWF_row hWF hDn hj
    have hx9 : t 54 0 (8 * (t 70 0 a.toNat).toNat + j) ≠ 100 + ((a.toNat : Nat) : Int) := fun q => hjo (ho3 j hj q)
    rw [hs6, zu_ne (by omega), hD9, (hrow9 j hj).2.1] at e9
    rw [hs6, zu_ne (by omega), hD9, (hrow9 j hj).2.2]
    unfold yw1 at e9
    unfold yw2
    by_cases c8 : t 54 0 (8 * (t 70 0 a.toNat).toNat + j) < 100
    · rw [if_pos c8]
    · rw [if_neg c8] at e9; omega) (by rw [hs6, zu_ne (by omega), hD9, h18D]; omega)) (cwV 1 hts gX6_cancel_X4_dropRider rfl rfl rfl (by decide +kernel) ⟨Nat.le_of_ble_eq_true rfl, Nat.le_of_ble_eq_true rfl⟩) hK hW6 (zlN (hX 18 ((σ 23 a.toNat 7).toNat) (decide_eq_true (by omega)))) rfl rfl (Nat.le_trans hsz hS6.1) hS6 rfl hl.1.1 rfl (Nat.le_of_ble_eq_true rfl) dX6_cancel_69 ⟨Nat.le_of_ble_eq_true rfl, Nat.le_of_ble_eq_true rfl⟩ (fun x7 σ7 H7 locs7 hp7 hW7 hz7 hS7 => ?_)
            have hdr := hp7
            refine W.eq (g2 := F0 m 72 ls []) rfl ?_
            
            refine zz_iload_n hx hb hl 0 dX6_cancel_72 rfl rfl ?_
            refine zz_if_eq (tgt := 95) hx hb dX6_cancel_73 (by decide) ⟨by decide, by decide⟩ (fun hc73 => ?_) (fun hc73 => ?_)
            · exact absurd hc73 (by decide)
            · refine zz_aload_n hx hb hl 2 dX6_cancel_76 rfl rfl ?_
              refine zz_get (T := TX6) (N := 10) (k := 8) (κ := 0) (w := .int (zi (t 30 0 1))) hx hb hts hinX6 hown hK hW7 (zlN (hX 0 0 rfl)) rfl rfl rfl (by decide) (hts (.fieldLink RX6 134 "HailCity" "now" "I") (by decide +kernel)) (fun _ h9 => h9) (congrArg (fun z => Value.int (zi z)) (show σ7 0 0 8 = t 30 0 1 from (hdr.2.2 0 0 8 (by omega)).trans (by rw [hs6, zu_ne (by omega)]; exact hg8))) dX6_cancel_77 ?_
              refine zz_aload_n hx hb hl 1 dX6_cancel_80 rfl rfl ?_
              refine zz_getN (T := TX3) (N := 12) (k := 8) (κ := 23) (w := .int (zi (t 73 0 a.toNat))) hx hb hts hinX3 hown hK hW7 (zlN (hX 23 a.toNat (decide_eq_true (by omega)))) rfl rfl rfl (by decide) (host := "HailCity") (List.mem_of_getElem? (i := 37) rfl) (fun _ h9 => h9) (congrArg (fun z => Value.int (zi z)) (show σ7 23 a.toNat 8 = t 73 0 a.toNat from (hdr.2.2 23 a.toNat 8 (by omega)).trans (by rw [hs6, zu_ne (by omega)]; exact hcq.2.2.2.2.2.2.2.1))) dX6_cancel_81 ?_
              refine zz_isub hx hb dX6_cancel_84 ?_
              refine zz_iconst hx hb dX6_cancel_85 ?_
              refine zz_icmp_le (tgt := 95) hx hb dX6_cancel_86 (by decide) ⟨by omega, by omega⟩ ⟨by decide, by decide⟩ (fun hc86 => ?_) (fun hc86 => ?_)
              · refine zz_iconst hx hb dX6_cancel_95 ?_
                refine W.eq (g2 := F0 m 96 ls [.int (zi 0)]) rfl ?_
                refine zw_widen (k := 2) (n := 12) (Nat.le_of_ble_eq_true rfl) (Nat.le_of_ble_eq_true rfl) (vx_ret ?_)
                refine zz_reti hx hb hr hlocks hW7 hS7 ?_ dX6_cancel_96
                refine ⟨by omega, Or.inr ⟨by omega, ?_, fun o2 ho9 => ?_⟩⟩
                · unfold ycf
                  first
                    | exact if_pos (by omega)
                    | exact if_neg (by omega)
                · obtain rfl : o2 = o := ho3 o2 ho9.1 ho9.2.1
                  refine CP_cl hCP hWF (by omega) (by omega) ho9 ?_
                  rw [← hs6, ← hD9]
                  have h9 := hdr
                  rw [show σ6 18 (σ 23 a.toNat 7).toNat 3 = σ 18 (σ 23 a.toNat 7).toNat 3 from by rw [hs6, zu_ne (by omega)]] at h9
                  have e20 : σ6 20 = σ 20 := funext fun i => funext fun k => by rw [hs6, zu_ne (by omega)]
                  have e21 : σ6 21 = σ 21 := funext fun i => funext fun k => by rw [hs6, zu_ne (by omega)]
                  have e22 : σ6 22 = σ 22 := funext fun i => funext fun k => by rw [hs6, zu_ne (by omega)]
                  rw [e20, e21, e22] at h9
                  exact h9
              · refine zz_sipush hx hb dX6_cancel_89 (by decide +kernel) ?_
                refine zz_goto (tgt := 96) hx hb dX6_cancel_92 (by decide) ?_
                refine W.eq (g2 := F0 m 96 ls [.int (zi 500)]) rfl ?_
                refine zw_widen (k := 2) (n := 12) (Nat.le_of_ble_eq_true rfl) (Nat.le_of_ble_eq_true rfl) (vx_ret ?_)
                refine zz_reti hx hb hr hlocks hW7 hS7 ?_ dX6_cancel_96
                refine ⟨by omega, Or.inr ⟨by omega, ?_, fun o2 ho9 => ?_⟩⟩
                · unfold ycf
                  first
                    | exact if_pos (by omega)
                    | exact if_neg (by omega)
                · obtain rfl : o2 = o := ho3 o2 ho9.1 ho9.2.1
                  refine CP_cl hCP hWF (by omega) (by omega) ho9 ?_
                  rw [← hs6, ← hD9]
                  have h9 := hdr
                  rw [show σ6 18 (σ 23 a.toNat 7).toNat 3 = σ 18 (σ 23 a.toNat 7).toNat 3 from by rw [hs6, zu_ne (by omega)]] at h9
                  have e20 : σ6 20 = σ 20 := funext fun i => funext fun k => by rw [hs6, zu_ne (by omega)]
                  have e21 : σ6 21 = σ 21 := funext fun i => funext fun k => by rw [hs6, zu_ne (by omega)]
                  have e22 : σ6 22 = σ 22 := funext fun i => funext fun k => by rw [hs6, zu_ne (by omega)]
                  rw [e20, e21, e22] at h9
                  exact h9
    · refine zx_throw (ik := 66) (is := 171) (ic := 70) (cls := "java/lang/IllegalStateException") (text := "the request neither WAITS nor is SENT") (rest := []) ⟨hx, hb, hml, hown, hts⟩ hst hlocks hout hE hW1 hS1 (by decide +kernel) (by decide) (by decide +kernel) (by decide +kernel) (by decide +kernel) zat2 zot2 (by decide) hl.1.1 dX6_cancel_21 dX6_cancel_24 dX6_cancel_25 dX6_cancel_27 dX6_cancel_30 ⟨Nat.le_of_ble_eq_true rfl, (Nat.le_of_ble_eq_true rfl), Nat.le_of_ble_eq_true rfl, Nat.le_of_ble_eq_true rfl⟩ (Nat.le_of_ble_eq_true rfl) (Nat.le_of_ble_eq_true rfl) ?_
      exact ⟨rfl, Or.inr ⟨rfl, by omega, by omega⟩⟩

set_option maxHeartbeats 4000000 in
set_option maxRecDepth 100000 in
theorem c_X6_rate (l : Launch) (hst : l.stackTraces = false) (G : zG) (ad : zA) (A : Nat → Prop) (N0 : Nat) (σ : zS) (nd nr ns : Nat) (hX : zX ad nd nr) (c9 B9 : Int) (t : zS) (hCP : CP σ t nd nr ns) (hWF : yWF t nd nr ns c9 B9) (hB9 : B9 ≤ 1000000) (hc1000 : c9 < 1000) (a b : Int) (ga : zg a) (gb : zg b) : vx_Met l yX6_rate wsX6_rate ({ frames := 7, cells := 3, slots := 18, locals := 222 }) (zPx G ad A N0 σ [zr ad 0 ((0 : Nat) : Int), .int (zi a), .int (zi b)]) (zQ G ad A zri (fun r u => (0 ≤ a ∧ a ≤ (nr : Int) - 1) ∧ (1 ≤ b ∧ b ≤ 5) ∧ (t 64 0 a.toNat = 3 ∧ t 74 0 a.toNat = 0) ∧ yrt (yra t a.toNat (t 70 0 a.toNat).toNat ((t 58 0 (t 70 0 a.toNat).toNat).toNat % 10) b) (t 70 0 a.toNat).toNat = r ∧ CP u (yra t a.toNat (t 70 0 a.toNat).toNat ((t 58 0 (t 70 0 a.toNat).toNat).toNat % 10) b) nd nr ns)) (zXC G ad A (fun E u => σ = u ∧ ((E = "java/lang/IndexOutOfBoundsException" ∧ ¬ (0 ≤ a ∧ a ≤ (nr : Int) - 1)) ∨ (E = "java/lang/IllegalArgumentException" ∧ (0 ≤ a ∧ a ≤ (nr : Int) - 1) ∧ ¬ (1 ≤ b ∧ b ≤ 5)) ∨ (E = "java/lang/IllegalStateException" ∧ (0 ≤ a ∧ a ≤ (nr : Int) - 1) ∧ (1 ≤ b ∧ b ≤ 5) ∧ ¬ (t 64 0 a.toNat = 3 ∧ t 74 0 a.toNat = 0))))) 3 18 A := by
  refine zx_of (cc := cX6_rate) (maxL := 6) (ret := (some .int)) (by decide) rfl (List.forall_mem_cons.mpr ⟨zr_cat _ _ _, List.forall_mem_cons.mpr ⟨rfl, List.forall_mem_cons.mpr ⟨rfl, fun _ h => absurd h List.not_mem_nil⟩⟩⟩) (Nat.le_of_ble_eq_true rfl) ?_
  intro p e s m below meth c hx hb hr hml hts hown hlocks hout hsz hW0 hK hE ls hl
  have hS0 : va_S A s.heap s.heap [] := va_S.rf
  have hl : zh ls 6 [(0, zr ad 0 ((0 : Nat) : Int)), (1, .int (zi a)), (2, .int (zi b))] := hl
  have hinX1 : ∀ w ∈ u_ws RX1 TX1 13, w ∈ wsX6_rate := by decide +kernel
  have hinX3 : ∀ w ∈ u_ws RX3 TX3 12, w ∈ wsX6_rate := by decide +kernel
  have hc9 := hCP
  have hg5 := hc9.1.1.1
  have hg6 := hc9.1.1.2.1
  have hg8 := hc9.1.2.1.2.1
  have hgD := hc9.1.2.2.1
  have hgQ := hc9.1.2.2.2.1
  have hnd := hWF.1.1.1
  have hnr := hWF.1.1.2.1
  have hnow0 := hWF.1.2.2.1
  have hord := hWF.1.2.2.2.2.1
  have hg9 := hCP.1.2.1.2.2
  have hg4 := hCP.1.1.2.2
  refine zz_aload_n hx hb hl 0 dX6_rate_0 rfl rfl ?_
  refine zz_iload_n hx hb hl 1 dX6_rate_1 rfl rfl ?_
  refine zx_callV (T := TX6) (N := 10) (As := [.int (zi a)]) (rest := []) (v := ((0 : Nat) : Int)) (κ := 0) ⟨hx, hb, hml, hown, hts⟩ (c_X6_knownRequest l hst G ad A N0 σ nd nr hX hnd hnr hg5 hg6 hgD hgQ a ga) (cwV 1 hts gX6_rate_X6_knownRequest rfl rfl rfl (by decide +kernel) ⟨Nat.le_of_ble_eq_true rfl, Nat.le_of_ble_eq_true rfl⟩) hK hE hW0 (zlN (hX 0 0 rfl)) rfl rfl (Nat.le_trans hsz hS0.1) hS0 rfl hl.1.1 rfl (Nat.le_of_ble_eq_true rfl) dX6_rate_2 ⟨Nat.le_of_ble_eq_true rfl, Nat.le_of_ble_eq_true rfl⟩ (fun E9 ce9 q9 u9 H9 locs9 hpx hWx hSx hce hcv hclx => zx_out hout hlocks hce hcv hclx hWx hSx ((by obtain ⟨rfl, rfl, h9⟩ := hpx; exact ⟨rfl, Or.inl ⟨rfl, fun q => h9 (by omega)⟩⟩)) (Nat.le_of_ble_eq_true rfl) (Nat.le_of_ble_eq_true rfl)) (fun x1 σ1 H1 locs1 hp1 hW1 hz1 hS1 => ?_)
  obtain ⟨rfl, hka, hra⟩ := hp1
  obtain rfl : x1 = ((a.toNat : Nat) : Int) := by omega
  have hcq := hCP.2.2 a.toNat (by omega)
  have hwq := hWF.2.2.1 a.toNat (by omega)
  have h709 := hwq.2.2.2.2.2.2.2.1
  have h79 := hcq.2.2.2.2.2.2.1
  have h69 := hcq.2.2.2.2.2.1
  have h749 := hcq.2.2.2.2.2.2.2.2.2.2
  refine W.eq (g2 := F0 m 5 ls [zr ad 23 ((a.toNat : Nat) : Int)]) rfl ?_
  refine zz_astore_n (lv' := [(3, zr ad 23 ((a.toNat : Nat) : Int)), (0, zr ad 0 ((0 : Nat) : Int)), (1, .int (zi a)), (2, .int (zi b))]) hx hb hl dX6_rate_5 rfl (by decide) rfl (fun ls hl => ?_)
  refine zz_iload_n hx hb hl 3 dX6_rate_6 rfl rfl ?_
  refine zz_iconst hx hb dX6_rate_7 ?_
  refine zz_iconst hx hb dX6_rate_8 ?_
  refine zx_callS (As := [.int (zi b), .int (zi 1), .int (zi 5)]) (rest := []) ⟨hx, hb, hml, hown, hts⟩ (c_X6_checkRange l hst G ad A N0 σ b 1 5 gb ⟨by decide, by decide⟩ ⟨by decide, by decide⟩) (va_cwS 3 hts gX6_rate_X6_checkRange rfl rfl rfl (by decide +kernel) ⟨Nat.le_of_ble_eq_true rfl, Nat.le_of_ble_eq_true rfl⟩) hK hE hW1 (Nat.le_trans hsz hS1.1) hS1 rfl hl.1.1 rfl (Nat.le_of_ble_eq_true rfl) dX6_rate_9 ⟨Nat.le_of_ble_eq_true rfl, Nat.le_of_ble_eq_true rfl⟩ (fun E9 ce9 q9 u9 H9 locs9 hpx hWx hSx hce hcv hclx => zx_out hout hlocks hce hcv hclx hWx hSx ((by obtain ⟨rfl, rfl, h9⟩ := hpx; exact ⟨rfl, Or.inr (Or.inl ⟨rfl, by omega, h9⟩)⟩)) (Nat.le_of_ble_eq_true rfl) (Nat.le_of_ble_eq_true rfl)) (fun x2 σ2 H2 locs2 hp2 hW2 hz2 hS2 => ?_)
  obtain ⟨rfl, hrb⟩ := hp2
  refine W.eq (g2 := F0 m 12 ls []) rfl ?_
  refine zz_aload_n hx hb hl 0 dX6_rate_12 rfl rfl ?_
  refine zz_getN (T := TX3) (N := 12) (k := 7) (κ := 23) (w := zr ad 17 (σ 23 a.toNat 7)) hx hb hts hinX3 hown hK hW2 (zlN (hX 23 a.toNat (decide_eq_true (by omega)))) rfl rfl rfl (by decide) (host := "HailCity") (List.mem_of_getElem? (i := 36) rfl) (fun _ h9 => h9) (zv_r (by decide) (by decide)) dX6_rate_13 ?_
  refine zz_astore (lv' := [(4, zr ad 17 (σ 23 a.toNat 7)), (3, zr ad 23 ((a.toNat : Nat) : Int)), (0, zr ad 0 ((0 : Nat) : Int)), (1, .int (zi a)), (2, .int (zi b))]) hx hb hl dX6_rate_16 (by decide) rfl (fun ls hl => ?_)
  refine zz_aload_n hx hb hl 1 dX6_rate_18 rfl rfl ?_
  refine zz_getN (T := TX3) (N := 12) (k := 6) (κ := 23) (w := .int (zi (σ 23 a.toNat 6))) hx hb hts hinX3 hown hK hW2 (zlN (hX 23 a.toNat (decide_eq_true (by omega)))) rfl rfl rfl (by decide) (host := "HailCity") (List.mem_of_getElem? (i := 35) rfl) (fun _ h9 => h9) rfl dX6_rate_19 ?_
  refine zz_iconst hx hb dX6_rate_22 ?_
  refine zz_icmp_ne (tgt := 38) hx hb dX6_rate_23 (by decide) (hW2.2.2.1 _ _ _) ⟨by decide, by decide⟩ (fun hc23 => ?_) (fun hc23 => ?_)
  · refine zx_throw (ik := 66) (is := 187) (ic := 70) (cls := "java/lang/IllegalStateException") (text := "the request is not DONE, or was rated") (rest := []) ⟨hx, hb, hml, hown, hts⟩ hst hlocks hout hE hW2 hS2 (by decide +kernel) (by decide) (by decide +kernel) (by decide +kernel) (by decide +kernel) zat2 zot2 (by decide) hl.1.1 dX6_rate_38 dX6_rate_41 dX6_rate_42 dX6_rate_44 dX6_rate_47 ⟨Nat.le_of_ble_eq_true rfl, (Nat.le_of_ble_eq_true rfl), Nat.le_of_ble_eq_true rfl, Nat.le_of_ble_eq_true rfl⟩ (Nat.le_of_ble_eq_true rfl) (Nat.le_of_ble_eq_true rfl) ?_
    refine ⟨rfl, Or.inr (Or.inr ⟨rfl, by omega, hrb, fun q => ?_⟩)⟩
    have q1 := q.1
    have q2 := q.2
    have q3 := hwq.2.2.2.2.2.2.2.2.1 (by omega) (by omega)
    omega
  · refine zz_aload_n hx hb hl 1 dX6_rate_26 rfl rfl ?_
    refine zz_getN (T := TX3) (N := 12) (k := 11) (κ := 23) (w := .int (zi (σ 23 a.toNat 11))) hx hb hts hinX3 hown hK hW2 (zlN (hX 23 a.toNat (decide_eq_true (by omega)))) rfl rfl rfl (by decide) (host := "HailCity") (List.mem_of_getElem? (i := 41) rfl) (fun _ h9 => h9) rfl dX6_rate_27 ?_
    refine zz_if_ne (tgt := 38) hx hb dX6_rate_30 (by decide) (hW2.2.2.1 _ _ _) (fun hc30 => ?_) (fun hc30 => ?_)
    · refine zx_throw (ik := 66) (is := 187) (ic := 70) (cls := "java/lang/IllegalStateException") (text := "the request is not DONE, or was rated") (rest := []) ⟨hx, hb, hml, hown, hts⟩ hst hlocks hout hE hW2 hS2 (by decide +kernel) (by decide) (by decide +kernel) (by decide +kernel) (by decide +kernel) zat2 zot2 (by decide) hl.1.1 dX6_rate_38 dX6_rate_41 dX6_rate_42 dX6_rate_44 dX6_rate_47 ⟨Nat.le_of_ble_eq_true rfl, (Nat.le_of_ble_eq_true rfl), Nat.le_of_ble_eq_true rfl, Nat.le_of_ble_eq_true rfl⟩ (Nat.le_of_ble_eq_true rfl) (Nat.le_of_ble_eq_true rfl) ?_
      refine ⟨rfl, Or.inr (Or.inr ⟨rfl, by omega, hrb, fun q => ?_⟩)⟩
      have q1 := q.1
      have q2 := q.2
      have q3 := hwq.2.2.2.2.2.2.2.2.1 (by omega) (by omega)
      omega
    · refine zz_aload hx hb hl 0 dX6_rate_33 rfl ?_
      refine zz_ifnonnull (tgt := 48) hx hb (hW2.2.2.2.1 23 _ 7 ((zlN (hX 23 a.toNat (decide_eq_true (by omega))))).2 (by decide) (by decide)) dX6_rate_35 (by decide) (fun hc35 => ?_) (fun hc35 => ?_)
      · have h700 := hc35.1
        have hD9 : (σ 23 a.toNat 7).toNat = (t 70 0 a.toNat).toNat := by rw [h79]
        have hDn : (t 70 0 a.toNat).toNat < nd := by omega
        have hcD := hCP.2.1 (t 70 0 a.toNat).toNat hDn
        have h58D := (hWF.2.1 (t 70 0 a.toNat).toNat hDn).2.2.2.2.2.1
        have h51b := hcD.1.1.2.2.1
        have h51c := hW0.2.2.2.2 17 (t 70 0 a.toNat).toNat 5 rfl
        have e79 : σ 23 a.toNat 7 = (((σ 23 a.toNat 7).toNat : Nat) : Int) := by omega
        have hl : zh ls 6 [(4, zr ad 17 (((σ 23 a.toNat 7).toNat : Nat) : Int)), (3, zr ad 23 ((a.toNat : Nat) : Int)), (0, zr ad 0 ((0 : Nat) : Int)), (1, .int (zi a)), (2, .int (zi b))] := by
          rw [← e79]
          exact hl
        refine zz_aload hx hb hl 0 dX6_rate_48 rfl ?_
        refine zz_callV (T := TX1) (N := 13) (As := []) (rest := []) (v := (((σ 23 a.toNat 7).toNat : Nat) : Int)) (κ := 17) ⟨hx, hb, hml, hown, hts⟩ (c_X1_isFree l G ad A N0 σ nd nr hX (σ 23 a.toNat 7).toNat (by omega)) (cwV 0 hts gX6_rate_X1_isFree rfl rfl rfl (by decide +kernel) ⟨Nat.le_of_ble_eq_true rfl, Nat.le_of_ble_eq_true rfl⟩) hK hW2 (zlN (hX 17 (σ 23 a.toNat 7).toNat (decide_eq_true (by omega)))) rfl rfl (Nat.le_trans hsz hS2.1) hS2 rfl hl.1.1 rfl (Nat.le_of_ble_eq_true rfl) dX6_rate_50 ⟨Nat.le_of_ble_eq_true rfl, Nat.le_of_ble_eq_true rfl⟩ (fun x3 σ3 H3 locs3 hp3 hW3 hz3 hS3 => ?_)
        obtain ⟨rfl, rfl⟩ := hp3
        refine W.eq (g2 := F0 m 53 ls [.int (zi (zb (σ 18 (σ 23 a.toNat 7).toNat 3 = 0 ∧ σ 17 (σ 23 a.toNat 7).toNat 7 = 0 ∧ σ 17 (σ 23 a.toNat 7).toNat 5 = 0)))]) rfl ?_
        refine zz_istore (lv' := [(5, .int (zi (zb (σ 18 (σ 23 a.toNat 7).toNat 3 = 0 ∧ σ 17 (σ 23 a.toNat 7).toNat 7 = 0 ∧ σ 17 (σ 23 a.toNat 7).toNat 5 = 0)))), (4, zr ad 17 (((σ 23 a.toNat 7).toNat : Nat) : Int)), (3, zr ad 23 ((a.toNat : Nat) : Int)), (0, zr ad 0 ((0 : Nat) : Int)), (1, .int (zi a)), (2, .int (zi b))]) hx hb hl dX6_rate_53 (by decide) rfl (fun ls hl => ?_)
        refine zz_aload_n hx hb hl 2 dX6_rate_55 rfl rfl ?_
        refine zz_iconst hx hb dX6_rate_56 ?_
        refine zz_putN (T := TX3) (N := 12) (k := 11) (κ := 23) (v := ((a.toNat : Nat) : Int)) (x := 1) (ty := .boolean) hx hb hts hinX3 tyX3 tyX3_ok nmX3 hown hK hW3 hS3 (zlN (hX 23 a.toNat (decide_eq_true (by omega)))) rfl rfl rfl (by decide) (host := "HailCity") (List.mem_of_getElem? (i := 41) rfl) (fun _ h9 => h9) rfl (by decide +kernel) (znar_b (by decide)) rfl rfl (zg_01 (by decide)) (fun h9 _ => absurd h9 (by decide)) (fun _ => (by decide)) dX6_rate_57 (fun H4 locs4 hW4' hS4 => ?_)
        obtain ⟨σ4, hs4⟩ : ∃ z, z = zu σ 23 a.toNat 11 1 := ⟨_, rfl⟩
        have hW4 : ZW G ad A σ4 H4 := by rw [hs4]; exact hW4'
        refine zz_aload hx hb hl 1 dX6_rate_60 rfl ?_
        refine zz_iload_n hx hb hl 5 dX6_rate_62 rfl rfl ?_
        refine zz_callV (T := TX1) (N := 13) (As := [.int (zi b)]) (rest := []) (v := (((σ 23 a.toNat 7).toNat : Nat) : Int)) (κ := 17) ⟨hx, hb, hml, hown, hts⟩ (c_X1_addStars l G ad A N0 σ4 nd nr hX (σ 23 a.toNat 7).toNat (by omega) (t 58 0 (t 70 0 a.toNat).toNat).toNat (by rw [hs4, zu_ne (by omega), hD9, hcD.1.1.1]; omega) (by omega) b gb (by omega) (fun j hj => by rw [hs4, zu_ne (by omega), hD9, hcD.1.2.2.1 j hj]; exact h58D.2 j hj)) (cwV 1 hts gX6_rate_X1_addStars rfl rfl rfl (by decide +kernel) ⟨Nat.le_of_ble_eq_true rfl, Nat.le_of_ble_eq_true rfl⟩) hK hW4 (zlN (hX 17 (σ 23 a.toNat 7).toNat (decide_eq_true (by omega)))) rfl rfl (Nat.le_trans hsz hS4.1) hS4 rfl hl.1.1 rfl (Nat.le_of_ble_eq_true rfl) dX6_rate_63 ⟨Nat.le_of_ble_eq_true rfl, Nat.le_of_ble_eq_true rfl⟩ (fun x5 σ5 H5 locs5 hp5 hW5 hz5 hS5 => ?_)
        have hrs9 : yrs σ σ5 (t 70 0 a.toNat).toNat a.toNat (t 58 0 (t 70 0 a.toNat).toNat).toNat b := by
          have h9 := hp5
          rw [hD9, hs4] at h9
          exact h9
        refine W.eq (g2 := F0 m 66 ls []) rfl ?_
        refine zz_aload_n hx hb hl 3 dX6_rate_66 rfl rfl ?_
        refine zz_aload hx hb hl 1 dX6_rate_67 rfl ?_
        refine zz_iload hx hb hl 0 dX6_rate_69 rfl ?_
        refine zz_callV (T := TX6) (N := 10) (As := [zr ad 17 (((σ 23 a.toNat 7).toNat : Nat) : Int), .int (zi (zb (σ 18 (σ 23 a.toNat 7).toNat 3 = 0 ∧ σ 17 (σ 23 a.toNat 7).toNat 7 = 0 ∧ σ 17 (σ 23 a.toNat 7).toNat 5 = 0)))]) (rest := []) (v := ((0 : Nat) : Int)) (κ := 0) ⟨hx, hb, hml, hown, hts⟩ (c_X6_queueIfNowFree l G ad A N0 σ5 nd nr hX (σ 23 a.toNat 7).toNat (by omega) (zb (σ 18 (σ 23 a.toNat 7).toNat 3 = 0 ∧ σ 17 (σ 23 a.toNat 7).toNat 7 = 0 ∧ σ 17 (σ 23 a.toNat 7).toNat 5 = 0)) (zb_01 _) (by rw [hrs9.2.2.2.2 0 0 9 (by omega), zu_ne (by omega)]; omega)) (cwV 2 hts gX6_rate_X6_queueIfNowFree rfl rfl rfl (by decide +kernel) ⟨Nat.le_of_ble_eq_true rfl, Nat.le_of_ble_eq_true rfl⟩) hK hW5 (zlN (hX 0 0 rfl)) rfl rfl (Nat.le_trans hsz hS5.1) hS5 rfl hl.1.1 rfl (Nat.le_of_ble_eq_true rfl) dX6_rate_71 ⟨Nat.le_of_ble_eq_true rfl, Nat.le_of_ble_eq_true rfl⟩ (fun x6 σ6 H6 locs6 hp6 hW6 hz6 hS6 => ?_)
        refine W.eq (g2 := F0 m 74 ls []) rfl ?_
        refine zz_aload hx hb hl 1 dX6_rate_74 rfl ?_
        refine zz_getN (T := TX1) (N := 13) (k := 4) (κ := 17) (w := .int (zi (σ6 17 ((σ 23 a.toNat 7).toNat) 4))) hx hb hts hinX1 hown hK hW6 (zlN (hX 17 (σ 23 a.toNat 7).toNat (decide_eq_true (by omega)))) rfl rfl rfl (by decide) (host := "HailCity") (List.mem_of_getElem? (i := 13) rfl) (fun _ h9 => h9) rfl dX6_rate_76 ?_
        refine W.eq (g2 := F0 m 79 ls [.int (zi (σ6 17 ((σ 23 a.toNat 7).toNat) 4))]) rfl ?_
        refine zw_widen (k := 3) (n := 18) (Nat.le_of_ble_eq_true rfl) (Nat.le_of_ble_eq_true rfl) (vx_ret ?_)
        refine zz_reti hx hb hr hlocks hW6 hS6 ?_ dX6_rate_79
        have hra9 := CP_ra (K := ((t 58 0 (t 70 0 a.toNat).toNat).toNat % 10)) (w := zb (σ 18 (σ 23 a.toNat 7).toNat 3 = 0 ∧ σ 17 (σ 23 a.toNat 7).toNat 7 = 0 ∧ σ 17 (σ 23 a.toNat 7).toNat 5 = 0)) hCP hWF (show a.toNat < nr by omega) hDn (show t 58 0 (t 70 0 a.toNat).toNat = (((t 58 0 (t 70 0 a.toNat).toNat).toNat : Nat) : Int) by omega) rfl (show 0 ≤ b ∧ b ≤ 5 by omega) hrs9 (by rw [hD9]; rfl) (by omega)
        refine ⟨by omega, hrb, ⟨by omega, by omega⟩, ?_, ?_⟩
        · rw [← hra9.2, ← hp6, hD9]
          unfold yqf
          split
          · rw [zu_ne (by omega), zu_ne (by omega)]
          · rfl
        · rw [← hp6, hD9]
          rw [hD9] at hra9
          exact hra9.1
      · refine zx_throw (ik := 66) (is := 187) (ic := 70) (cls := "java/lang/IllegalStateException") (text := "the request is not DONE, or was rated") (rest := []) ⟨hx, hb, hml, hown, hts⟩ hst hlocks hout hE hW2 hS2 (by decide +kernel) (by decide) (by decide +kernel) (by decide +kernel) (by decide +kernel) zat2 zot2 (by decide) hl.1.1 dX6_rate_38 dX6_rate_41 dX6_rate_42 dX6_rate_44 dX6_rate_47 ⟨Nat.le_of_ble_eq_true rfl, (Nat.le_of_ble_eq_true rfl), Nat.le_of_ble_eq_true rfl, Nat.le_of_ble_eq_true rfl⟩ (Nat.le_of_ble_eq_true rfl) (Nat.le_of_ble_eq_true rfl) ?_
        refine ⟨rfl, Or.inr (Or.inr ⟨rfl, by omega, hrb, fun q => ?_⟩)⟩
        have q1 := q.1
        have q2 := q.2
        have q3 := hwq.2.2.2.2.2.2.2.2.1 (by omega) (by omega)
        omega
