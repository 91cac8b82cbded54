/-! the class: minutes -/

set_option maxHeartbeats 4000000 in
set_option maxRecDepth 100000 in
theorem c_X6_passOneMinute (l : Launch) (G : zG) (ad : zA) (A : Nat → Prop) (N0 : Nat) (σ : zS) (nd nr ns : Nat) (hX : zX ad nd nr) (c9 B9 : Int) (t : zS) (hCP : CP σ t nd nr ns) (hWF : yWF t nd nr ns c9 B9) (hB9 : B9 ≤ 1000000) (hnow : t 30 0 1 < 20000) : Met l yX6_passOneMinute wsX6_passOneMinute ({ frames := 4, cells := 0, slots := 0, locals := 90 }) (zP G ad A N0 σ [zr ad 0 ((0 : Nat) : Int)]) (zQ G ad A zrv (fun _ u => CP u (yPs t nd nr) nd nr ns)) 0 0 A := by
  refine zz_of (cc := cX6_passOneMinute) (maxL := 2) (ret := none) (by decide) rfl ⟨rfl, rfl⟩ (List.forall_mem_cons.mpr ⟨zr_cat _ _ _, fun _ h => absurd h List.not_mem_nil⟩) (Nat.le_of_ble_eq_true rfl) ?_
  intro p e s m below meth c hx hb hr hml hts hown hlocks hsz hW0 hK ls hl
  have hS0 : va_S A s.heap s.heap [] := va_S.rf
  have hl : zh ls 2 [(0, zr ad 0 ((0 : Nat) : Int))] := hl
  have hinX1 : ∀ w ∈ u_ws RX1 TX1 13, w ∈ wsX6_passOneMinute := by decide +kernel
  have hinX3 : ∀ w ∈ u_ws RX3 TX3 12, w ∈ wsX6_passOneMinute := by decide +kernel
  have hinX6 : ∀ w ∈ u_ws RX6 TX6 10, w ∈ wsX6_passOneMinute := by decide +kernel
  have hnow0 := hWF.1.2.2.1
  have hnd := hWF.1.1.1
  have hnr := hWF.1.1.2.1
  have hw1 := yWF_pa hWF hnow
  have hw2 := yWF_P2 hw1 nd (Nat.le_refl _)
  refine zz_iconst hx hb dX6_passOneMinute_0 ?_
  refine zz_istore_n (lv' := [(1, .int (zi 0)), (0, zr ad 0 ((0 : Nat) : Int))]) hx hb hl dX6_passOneMinute_1 rfl (by decide) rfl (fun ls hl => ?_)
  have hcut2 : ∀ (n9 : Nat) (i : Nat)  (σ9 : zS) (H9 : Heap) (locs9 : List Loc) (ls : Array Slot), (i ≤ nd ∧ CP σ9 (yPc t i) nd nr ns) → (nd - i) < n9 → ZW G ad A σ9 H9 → va_S A s.heap H9 locs9 → zh ls 2 [(0, zr ad 0 ((0 : Nat) : Int)), (1, .int (zi ((i : Nat) : Int)))] → W p l e ({ frames := 4, cells := 0, slots := 0, locals := 90 }) s m ([zr ad 0 ((0 : Nat) : Int)] : List Value).toArray below meth c H9 locs9 0 0 (MQ below (zQ G ad A zrv (fun _ u => CP u (yPs t nd nr) nd nr ns)) ([zr ad 0 ((0 : Nat) : Int)] : List Value).toArray s 0 0 A) (F0 m 2 ls []) := by
    intro n9
    induction n9 with
    | zero =>
      intro i σ1 H1 locs1 ls hI2 hm2 hW1 hS1 hl
      exact absurd hm2 (Nat.not_lt_zero _)
    | succ n9 ih2 =>
      intro i σ1 H1 locs1 ls hI2 hm2 hW1 hS1 hl
      obtain ⟨hi1, hc9⟩ := hI2
      have hg5 := hc9.1.1.1
      have hg6 := hc9.1.1.2.1
      have hg8 := hc9.1.2.1.2.1
      have hgD := hc9.1.2.2.1
      have hgQ := hc9.1.2.2.2.1
      refine zz_iload_n hx hb hl 1 dX6_passOneMinute_2 rfl rfl ?_
      refine zz_aload_n hx hb hl 0 dX6_passOneMinute_3 rfl rfl ?_
      refine zz_get (T := TX6) (N := 10) (k := 5) (κ := 0) (w := .int (zi ((nd : Nat) : Int))) hx hb hts hinX6 hown hK hW1 (zlN (hX 0 0 rfl)) rfl rfl rfl (by decide) (hts (.fieldLink RX6 87 "HailCity" "driverCount" "I") (by decide +kernel)) (fun _ h9 => h9) (congrArg (fun z => Value.int (zi z)) (show σ1 0 0 5 = ((nd : Nat) : Int) from hg5)) dX6_passOneMinute_4 ?_
      refine zz_icmp_ge (tgt := 46) hx hb dX6_passOneMinute_7 (by decide) ⟨by omega, by omega⟩ ⟨by omega, by omega⟩ (fun hc7 => ?_) (fun hc7 => ?_)
      · have hcn : CP σ1 (yPc t nd) nd nr ns := by
          have e9 : nd = i := by omega
          rw [e9]
          rw [e9] at hc9
          exact hc9
        have hn9 := hc9.1.2.1.2.1
        rw [yPc_fr (by decide)] at hn9
        refine zz_aload_n hx hb hl 0 dX6_passOneMinute_46 rfl rfl ?_
        refine lv_dup hx hb dX6_passOneMinute_47 (zr_cat _ _ _) ?_
        refine zz_get (T := TX6) (N := 10) (k := 8) (κ := 0) (w := .int (zi (σ1 0 0 8))) hx hb hts hinX6 hown hK hW1 (zlN (hX 0 0 rfl)) rfl rfl rfl (by decide) (hts (.fieldLink RX6 134 "HailCity" "now" "I") (by decide +kernel)) (fun _ h9 => h9) rfl dX6_passOneMinute_48 ?_
        refine zz_iconst hx hb dX6_passOneMinute_51 ?_
        refine zz_iadd hx hb dX6_passOneMinute_52 ?_
        refine zz_put (T := TX6) (N := 10) (k := 8) (κ := 0) (v := ((0 : Nat) : Int)) (x := ((σ1 0 0 8) + 1)) (ty := .int) hx hb hts hinX6 tyX6 tyX6_ok nmX6 hown hK hW1 hS1 (zlN (hX 0 0 rfl)) rfl rfl rfl (by decide) (hts (.fieldLink RX6 134 "HailCity" "now" "I") (by decide +kernel)) (fun _ h9 => h9) rfl (by decide +kernel) rfl rfl rfl ⟨by omega, by omega⟩ (fun h9 _ => absurd h9 (by decide)) (fun h9 => absurd h9 (by decide)) dX6_passOneMinute_53 (fun H2 locs2 hW2' hS2 => ?_)
        obtain ⟨σ2, hs2⟩ : ∃ z, z = zu σ1 0 0 8 ((σ1 0 0 8) + 1) := ⟨_, rfl⟩
        have hW2 : ZW G ad A σ2 H2 := by rw [hs2]; exact hW2'
        refine zz_iconst hx hb dX6_passOneMinute_56 ?_
        refine zz_istore_n (lv' := [(1, .int (zi 0)), (0, zr ad 0 ((0 : Nat) : Int))]) hx hb hl dX6_passOneMinute_57 rfl (by decide) rfl (fun ls hl => ?_)
        have hcut58 : ∀ (n9 : Nat) (i : Nat)  (σ9 : zS) (H9 : Heap) (locs9 : List Loc) (ls : Array Slot), (i ≤ nd ∧ CP σ9 (yP2 i (yPa t nd)) nd nr ns) → (nd - i) < n9 → ZW G ad A σ9 H9 → va_S A s.heap H9 locs9 → zh ls 2 [(0, zr ad 0 ((0 : Nat) : Int)), (1, .int (zi ((i : Nat) : Int)))] → W p l e ({ frames := 4, cells := 0, slots := 0, locals := 90 }) s m ([zr ad 0 ((0 : Nat) : Int)] : List Value).toArray below meth c H9 locs9 0 0 (MQ below (zQ G ad A zrv (fun _ u => CP u (yPs t nd nr) nd nr ns)) ([zr ad 0 ((0 : Nat) : Int)] : List Value).toArray s 0 0 A) (F0 m 58 ls []) := by
          intro n9
          induction n9 with
          | zero =>
            intro i σ3 H3 locs3 ls hI58 hm58 hW3 hS3 hl
            exact absurd hm58 (Nat.not_lt_zero _)
          | succ n9 ih58 =>
            intro i σ3 H3 locs3 ls hI58 hm58 hW3 hS3 hl
            obtain ⟨hi1, hc9⟩ := hI58
            have hwi := yWF_P2 hw1 i hi1
            have hg5 := hc9.1.1.1
            have hg6 := hc9.1.1.2.1
            have hg8 := hc9.1.2.1.2.1
            have hgD := hc9.1.2.2.1
            have hgQ := hc9.1.2.2.2.1
            refine zz_iload_n hx hb hl 1 dX6_passOneMinute_58 rfl rfl ?_
            refine zz_aload_n hx hb hl 0 dX6_passOneMinute_59 rfl rfl ?_
            refine zz_get (T := TX6) (N := 10) (k := 5) (κ := 0) (w := .int (zi ((nd : Nat) : Int))) hx hb hts hinX6 hown hK hW3 (zlN (hX 0 0 rfl)) rfl rfl rfl (by decide) (hts (.fieldLink RX6 87 "HailCity" "driverCount" "I") (by decide +kernel)) (fun _ h9 => h9) (congrArg (fun z => Value.int (zi z)) (show σ3 0 0 5 = ((nd : Nat) : Int) from hg5)) dX6_passOneMinute_60 ?_
            refine zz_icmp_ge (tgt := 82) hx hb dX6_passOneMinute_63 (by decide) ⟨by omega, by omega⟩ ⟨by omega, by omega⟩ (fun hc63 => ?_) (fun hc63 => ?_)
            · refine zz_iconst hx hb dX6_passOneMinute_82 ?_
              refine zz_istore_n (lv' := [(1, .int (zi 0)), (0, zr ad 0 ((0 : Nat) : Int))]) hx hb hl dX6_passOneMinute_83 rfl (by decide) rfl (fun ls hl => ?_)
              have hcut84 : ∀ (n9 : Nat) (i : Nat)  (σ9 : zS) (H9 : Heap) (locs9 : List Loc) (ls : Array Slot), (i ≤ nr ∧ CP σ9 (yPe (yP2 nd (yPa t nd)) i) nd nr ns) → (nr - i) < n9 → ZW G ad A σ9 H9 → va_S A s.heap H9 locs9 → zh ls 2 [(0, zr ad 0 ((0 : Nat) : Int)), (1, .int (zi ((i : Nat) : Int)))] → W p l e ({ frames := 4, cells := 0, slots := 0, locals := 90 }) s m ([zr ad 0 ((0 : Nat) : Int)] : List Value).toArray below meth c H9 locs9 0 0 (MQ below (zQ G ad A zrv (fun _ u => CP u (yPs t nd nr) nd nr ns)) ([zr ad 0 ((0 : Nat) : Int)] : List Value).toArray s 0 0 A) (F0 m 84 ls []) := by
                intro n9
                induction n9 with
                | zero =>
                  intro i σ4 H4 locs4 ls hI84 hm84 hW4 hS4 hl
                  exact absurd hm84 (Nat.not_lt_zero _)
                | succ n9 ih84 =>
                  intro i σ4 H4 locs4 ls hI84 hm84 hW4 hS4 hl
                  obtain ⟨hi1, hc9⟩ := hI84
                  have hg5 := hc9.1.1.1
                  have hg6 := hc9.1.1.2.1
                  have hg8 := hc9.1.2.1.2.1
                  have hgD := hc9.1.2.2.1
                  have hgQ := hc9.1.2.2.2.1
                  refine zz_iload_n hx hb hl 1 dX6_passOneMinute_84 rfl rfl ?_
                  refine zz_aload_n hx hb hl 0 dX6_passOneMinute_85 rfl rfl ?_
                  refine zz_get (T := TX6) (N := 10) (k := 6) (κ := 0) (w := .int (zi ((nr : Nat) : Int))) hx hb hts hinX6 hown hK hW4 (zlN (hX 0 0 rfl)) rfl rfl rfl (by decide) (hts (.fieldLink RX6 146 "HailCity" "requestCount" "I") (by decide +kernel)) (fun _ h9 => h9) (congrArg (fun z => Value.int (zi z)) (show σ4 0 0 6 = ((nr : Nat) : Int) from hg6)) dX6_passOneMinute_86 ?_
                  refine zz_icmp_ge (tgt := 136) hx hb dX6_passOneMinute_89 (by decide) ⟨by omega, by omega⟩ ⟨by omega, by omega⟩ (fun hc89 => ?_) (fun hc89 => ?_)
                  · refine W.eq (g2 := F0 m 136 ls []) rfl ?_
                    refine zz_retv hx hb hr hlocks hW4 hS4 ?_ dX6_passOneMinute_136
                    obtain rfl : i = nr := by omega
                    exact hc9
                  · have hcq := hc9.2.2 i (by omega)
                    have e64 : yPe (yP2 nd (yPa t nd)) i 64 0 i = yP2 nd (yPa t nd) 64 0 i := if_neg (by omega)
                    have e67 : yPe (yP2 nd (yPa t nd)) i 67 0 i = yP2 nd (yPa t nd) 67 0 i := if_neg (by omega)
                    have e301 : yPe (yP2 nd (yPa t nd)) i 30 0 1 = yP2 nd (yPa t nd) 30 0 1 := if_neg (by omega)
                    have hq6 := hcq.2.2.2.2.2.1
                    have hq4 := hcq.2.2.2.1
                    refine zz_aload_n hx hb hl 0 dX6_passOneMinute_92 rfl rfl ?_
                    refine zz_get (T := TX6) (N := 10) (k := 2) (κ := 0) (w := zr ad 16 ((0 : Nat) : Int)) hx hb hts hinX6 hown hK hW4 (zlN (hX 0 0 rfl)) rfl rfl rfl (by decide) (hts (.fieldLink RX6 24 "HailCity" "requests" "[LHailCity$Request;") (by decide +kernel)) (fun _ h9 => h9) rfl dX6_passOneMinute_93 ?_
                    refine zz_iload_n hx hb hl 1 dX6_passOneMinute_96 rfl rfl ?_
                    refine zz_aald (w := zr ad 23 ((i : Nat) : Int)) hx hb hK hW4 (zlN (hX 16 0 rfl)) rfl rfl (by show (0 : Int) ≤ ((i : Nat) : Int); omega) (by show ((i : Nat) : Int) < (60 : Int); omega) ((zv_r (Nat.le_of_ble_eq_true rfl) (Nat.le_of_ble_eq_true rfl)).trans (congrArg (zr ad 23) (show σ4 16 0 i = ((i : Nat) : Int) from by rw [hgQ i (by omega)]))) dX6_passOneMinute_97 ?_
                    refine zz_getN (T := TX3) (N := 12) (k := 6) (κ := 23) (w := .int (zi (σ4 23 i 6))) hx hb hts hinX3 hown hK hW4 (zlN (hX 23 i (decide_eq_true (by omega)))) rfl rfl rfl (by decide) (host := "HailCity") (List.mem_of_getElem? (i := 35) rfl) (fun _ h9 => h9) rfl dX6_passOneMinute_98 ?_
                    refine zz_if_ne (tgt := 130) hx hb dX6_passOneMinute_101 (by decide) (hW4.2.2.1 _ _ _) (fun hc101 => ?_) (fun hc101 => ?_)
                    · refine zz_iinc (lv' := [(1, .int (zi ((i + 1 : Nat) : Int))), (0, zr ad 0 ((0 : Nat) : Int))]) hx hb hl dX6_passOneMinute_130 (k0 := 1) rfl (by decide) rfl (fun ls hl => ?_)
                      refine zz_goto (tgt := 84) hx hb dX6_passOneMinute_133 (by decide) ?_
                      refine ih84 (i + 1) σ4 H4 locs4 ls ?_ (by omega) hW4 hS4 (zh_sub hl [1, 0] rfl)
                      exact ⟨by omega, CP_pe0 hc9 (fun q9 => by have q1 := q9.1; have q2 := q9.2; omega)⟩
                    · refine zz_aload_n hx hb hl 0 dX6_passOneMinute_104 rfl rfl ?_
                      refine zz_get (T := TX6) (N := 10) (k := 2) (κ := 0) (w := zr ad 16 ((0 : Nat) : Int)) hx hb hts hinX6 hown hK hW4 (zlN (hX 0 0 rfl)) rfl rfl rfl (by decide) (hts (.fieldLink RX6 24 "HailCity" "requests" "[LHailCity$Request;") (by decide +kernel)) (fun _ h9 => h9) rfl dX6_passOneMinute_105 ?_
                      refine zz_iload_n hx hb hl 1 dX6_passOneMinute_108 rfl rfl ?_
                      refine zz_aald (w := zr ad 23 ((i : Nat) : Int)) hx hb hK hW4 (zlN (hX 16 0 rfl)) rfl rfl (by show (0 : Int) ≤ ((i : Nat) : Int); omega) (by show ((i : Nat) : Int) < (60 : Int); omega) ((zv_r (Nat.le_of_ble_eq_true rfl) (Nat.le_of_ble_eq_true rfl)).trans (congrArg (zr ad 23) (show σ4 16 0 i = ((i : Nat) : Int) from by rw [hgQ i (by omega)]))) dX6_passOneMinute_109 ?_
                      refine zz_getN (T := TX3) (N := 12) (k := 4) (κ := 23) (w := .int (zi (σ4 23 i 4))) hx hb hts hinX3 hown hK hW4 (zlN (hX 23 i (decide_eq_true (by omega)))) rfl rfl rfl (by decide) (host := "HailCity") (List.mem_of_getElem? (i := 33) rfl) (fun _ h9 => h9) rfl dX6_passOneMinute_110 ?_
                      refine zz_aload_n hx hb hl 0 dX6_passOneMinute_113 rfl rfl ?_
                      refine zz_get (T := TX6) (N := 10) (k := 8) (κ := 0) (w := .int (zi (σ4 0 0 8))) hx hb hts hinX6 hown hK hW4 (zlN (hX 0 0 rfl)) rfl rfl rfl (by decide) (hts (.fieldLink RX6 134 "HailCity" "now" "I") (by decide +kernel)) (fun _ h9 => h9) rfl dX6_passOneMinute_114 ?_
                      refine zz_icmp_gt (tgt := 130) hx hb dX6_passOneMinute_117 (by decide) (hW4.2.2.1 _ _ _) (hW4.2.2.1 _ _ _) (fun hc117 => ?_) (fun hc117 => ?_)
                      · refine zz_iinc (lv' := [(1, .int (zi ((i + 1 : Nat) : Int))), (0, zr ad 0 ((0 : Nat) : Int))]) hx hb hl dX6_passOneMinute_130 (k0 := 1) rfl (by decide) rfl (fun ls hl => ?_)
                        refine zz_goto (tgt := 84) hx hb dX6_passOneMinute_133 (by decide) ?_
                        refine ih84 (i + 1) σ4 H4 locs4 ls ?_ (by omega) hW4 hS4 (zh_sub hl [1, 0] rfl)
                        exact ⟨by omega, CP_pe0 hc9 (fun q9 => by have q1 := q9.1; have q2 := q9.2; omega)⟩
                      · refine zz_aload_n hx hb hl 0 dX6_passOneMinute_120 rfl rfl ?_
                        refine zz_get (T := TX6) (N := 10) (k := 2) (κ := 0) (w := zr ad 16 ((0 : Nat) : Int)) hx hb hts hinX6 hown hK hW4 (zlN (hX 0 0 rfl)) rfl rfl rfl (by decide) (hts (.fieldLink RX6 24 "HailCity" "requests" "[LHailCity$Request;") (by decide +kernel)) (fun _ h9 => h9) rfl dX6_passOneMinute_121 ?_
                        refine zz_iload_n hx hb hl 1 dX6_passOneMinute_124 rfl rfl ?_
                        refine zz_aald (w := zr ad 23 ((i : Nat) : Int)) hx hb hK hW4 (zlN (hX 16 0 rfl)) rfl rfl (by show (0 : Int) ≤ ((i : Nat) : Int); omega) (by show ((i : Nat) : Int) < (60 : Int); omega) ((zv_r (Nat.le_of_ble_eq_true rfl) (Nat.le_of_ble_eq_true rfl)).trans (congrArg (zr ad 23) (show σ4 16 0 i = ((i : Nat) : Int) from by rw [hgQ i (by omega)]))) dX6_passOneMinute_125 ?_
                        refine zz_iconst hx hb dX6_passOneMinute_126 ?_
                        refine zz_putN (T := TX3) (N := 12) (k := 6) (κ := 23) (v := ((i : Nat) : Int)) (x := 4) (ty := .int) hx hb hts hinX3 tyX3 tyX3_ok nmX3 hown hK hW4 hS4 (zlN (hX 23 i (decide_eq_true (by omega)))) rfl rfl rfl (by decide) (host := "HailCity") (List.mem_of_getElem? (i := 35) rfl) (fun _ h9 => h9) rfl (by decide +kernel) rfl rfl rfl ⟨by decide, by decide⟩ (fun h9 _ => absurd h9 (by decide)) (fun h9 => absurd h9 (by decide)) dX6_passOneMinute_127 (fun H5 locs5 hW5' hS5 => ?_)
                        obtain ⟨σ5, hs5⟩ : ∃ z, z = zu σ4 23 i 6 4 := ⟨_, rfl⟩
                        have hW5 : ZW G ad A σ5 H5 := by rw [hs5]; exact hW5'
                        refine zz_iinc (lv' := [(1, .int (zi ((i + 1 : Nat) : Int))), (0, zr ad 0 ((0 : Nat) : Int))]) hx hb hl dX6_passOneMinute_130 (k0 := 1) rfl (by decide) rfl (fun ls hl => ?_)
                        refine zz_goto (tgt := 84) hx hb dX6_passOneMinute_133 (by decide) ?_
                        refine ih84 (i + 1) σ5 H5 locs5 ls ?_ (by omega) hW5 hS5 (zh_sub hl [1, 0] rfl)
                        refine ⟨by omega, ?_⟩
                        rw [hs5]
                        exact CP_pe hc9 hw2 ⟨by omega, by omega⟩
              refine hcut84 _ 0 σ3 H3 locs3 ls ?_ (Nat.lt_succ_self _) hW3 hS3 (zh_sub hl [1, 0] rfl)
              refine ⟨Nat.zero_le _, ?_⟩
              rw [yPe_0]
              have e9 : nd = i := by omega
              rw [e9]
              rw [e9] at hc9
              exact hc9
            · refine zz_aload_n hx hb hl 0 dX6_passOneMinute_66 rfl rfl ?_
              refine zz_aload_n hx hb hl 0 dX6_passOneMinute_67 rfl rfl ?_
              refine zz_get (T := TX6) (N := 10) (k := 1) (κ := 0) (w := zr ad 15 ((0 : Nat) : Int)) hx hb hts hinX6 hown hK hW3 (zlN (hX 0 0 rfl)) rfl rfl rfl (by decide) (hts (.fieldLink RX6 18 "HailCity" "drivers" "[LHailCity$Driver;") (by decide +kernel)) (fun _ h9 => h9) rfl dX6_passOneMinute_68 ?_
              refine zz_iload_n hx hb hl 1 dX6_passOneMinute_71 rfl rfl ?_
              refine zz_aald (w := zr ad 17 ((i : Nat) : Int)) hx hb hK hW3 (zlN (hX 15 0 rfl)) rfl rfl (by show (0 : Int) ≤ ((i : Nat) : Int); omega) (by show ((i : Nat) : Int) < (8 : Int); omega) ((zv_r (Nat.le_of_ble_eq_true rfl) (Nat.le_of_ble_eq_true rfl)).trans (congrArg (zr ad 17) (show σ3 15 0 i = ((i : Nat) : Int) from by rw [hgD i (by omega)]))) dX6_passOneMinute_72 ?_
              refine zz_callV (T := TX6) (N := 10) (As := [zr ad 17 ((i : Nat) : Int)]) (rest := []) (v := ((0 : Nat) : Int)) (κ := 0) ⟨hx, hb, hml, hown, hts⟩ (c_X6_doReachedStops l G ad A N0 σ3 nd nr hX i (by omega) (yP2 i (yPa t nd) 52 0 i).toNat (yRok_of hc9 hwi (by omega) (by omega))) (cwV 1 hts gX6_passOneMinute_X6_doReachedStops rfl rfl rfl (by decide +kernel) ⟨Nat.le_of_ble_eq_true rfl, Nat.le_of_ble_eq_true rfl⟩) hK hW3 (zlN (hX 0 0 rfl)) rfl rfl (Nat.le_trans hsz hS3.1) hS3 rfl hl.1.1 rfl (Nat.le_of_ble_eq_true rfl) dX6_passOneMinute_73 ⟨Nat.le_of_ble_eq_true rfl, Nat.le_of_ble_eq_true rfl⟩ (fun x6 σ6 H6 locs6 hp6 hW6 hz6 hS6 => ?_)
              refine W.eq (g2 := F0 m 76 ls []) rfl ?_
              refine zz_iinc (lv' := [(1, .int (zi ((i + 1 : Nat) : Int))), (0, zr ad 0 ((0 : Nat) : Int))]) hx hb hl dX6_passOneMinute_76 (k0 := 1) rfl (by decide) rfl (fun ls hl => ?_)
              refine zz_goto (tgt := 58) hx hb dX6_passOneMinute_79 (by decide) ?_
              refine ih58 (i + 1) σ6 H6 locs6 ls ?_ (by omega) hW6 hS6 (zh_sub hl [1, 0] rfl)
              exact ⟨by omega, CP_P1 hc9 hwi (by omega) hp6⟩
        refine hcut58 _ 0 σ2 H2 locs2 ls ?_ (Nat.lt_succ_self _) hW2 hS2 (zh_sub hl [1, 0] rfl)
        refine ⟨Nat.zero_le _, ?_⟩
        rw [hs2]
        exact CP_now hcn hWF
      · have hcd := hc9.2.1 i (by omega)
        have h52 := (hWF.2.1 i (by omega)).1.2
        have e529 : yPc t i 52 0 i = t 52 0 i := yPc_fr (by decide)
        have h52a : 0 ≤ yPc t i 52 0 i := by omega
        have h52b : yPc t i 52 0 i ≤ 8 := by omega
        have eO9 : (ycO (fun j => yPc t i 54 0 (8 * i + j)) (yPc t i 52 0 i).toNat : Int) = ((ycO (fun j => t 54 0 (8 * i + j)) (t 52 0 i).toNat : Nat) : Int) := by
          rw [e529, ycO_congr (w := fun j => t 54 0 (8 * i + j)) (fun j hj => yPc_fr (by decide))]
        have hOl := ycO_le (w := fun j => t 54 0 (8 * i + j)) (t 52 0 i).toNat
        have hhr := CP_hr hWF (show i < nd by omega)
        refine zz_aload_n hx hb hl 0 dX6_passOneMinute_10 rfl rfl ?_
        refine zz_get (T := TX6) (N := 10) (k := 1) (κ := 0) (w := zr ad 15 ((0 : Nat) : Int)) hx hb hts hinX6 hown hK hW1 (zlN (hX 0 0 rfl)) rfl rfl rfl (by decide) (hts (.fieldLink RX6 18 "HailCity" "drivers" "[LHailCity$Driver;") (by decide +kernel)) (fun _ h9 => h9) rfl dX6_passOneMinute_11 ?_
        refine zz_iload_n hx hb hl 1 dX6_passOneMinute_14 rfl rfl ?_
        refine zz_aald (w := zr ad 17 ((i : Nat) : Int)) hx hb hK hW1 (zlN (hX 15 0 rfl)) rfl rfl (by show (0 : Int) ≤ ((i : Nat) : Int); omega) (by show ((i : Nat) : Int) < (8 : Int); omega) ((zv_r (Nat.le_of_ble_eq_true rfl) (Nat.le_of_ble_eq_true rfl)).trans (congrArg (zr ad 17) (show σ1 15 0 i = ((i : Nat) : Int) from by rw [hgD i (by omega)]))) dX6_passOneMinute_15 ?_
        refine zz_getN (T := TX1) (N := 13) (k := 1) (κ := 17) (w := zr ad 18 ((i : Nat) : Int)) hx hb hts hinX1 hown hK hW1 (zlN (hX 17 i (decide_eq_true (by omega)))) rfl rfl rfl (by decide) (host := "HailCity") (List.mem_of_getElem? (i := 12) rfl) (fun _ h9 => h9) rfl dX6_passOneMinute_16 ?_
        refine zz_callV (T := TX4) (N := 4) (As := []) (rest := []) (v := ((i : Nat) : Int)) (κ := 18) ⟨hx, hb, hml, hown, hts⟩ (c_X4_riderCount l G ad A N0 σ1 nd nr hX i (by omega) (by rw [hcd.1.2.1]; exact h52a) (by rw [hcd.1.2.1]; exact h52b)) (cwV 0 hts gX6_passOneMinute_X4_riderCount rfl rfl rfl (by decide +kernel) ⟨Nat.le_of_ble_eq_true rfl, Nat.le_of_ble_eq_true rfl⟩) hK hW1 (zlN (hX 18 i (decide_eq_true (by omega)))) rfl rfl (Nat.le_trans hsz hS1.1) hS1 rfl hl.1.1 rfl (Nat.le_of_ble_eq_true rfl) dX6_passOneMinute_19 ⟨Nat.le_of_ble_eq_true rfl, Nat.le_of_ble_eq_true rfl⟩ (fun x7 σ7 H7 locs7 hp7 hW7 hz7 hS7 => ?_)
        obtain ⟨rfl, hx9⟩ := hp7
        rw [CP_rc hcd.1 h52a, eO9] at hx9
        obtain rfl := hx9
        refine W.eq (g2 := F0 m 22 ls [.int (zi ((ycO (fun j => t 54 0 (8 * i + j)) (t 52 0 i).toNat : Nat) : Int))]) rfl ?_
        refine zz_if_le (tgt := 40) hx hb dX6_passOneMinute_22 (by decide) ⟨by omega, by omega⟩ (fun hc22 => ?_) (fun hc22 => ?_)
        · refine zz_iinc (lv' := [(1, .int (zi ((i + 1 : Nat) : Int))), (0, zr ad 0 ((0 : Nat) : Int))]) hx hb hl dX6_passOneMinute_40 (k0 := 1) rfl (by decide) rfl (fun ls hl => ?_)
          refine zz_goto (tgt := 2) hx hb dX6_passOneMinute_43 (by decide) ?_
          refine ih2 (i + 1) σ1 H7 locs7 ls ?_ (by omega) hW7 hS7 (zh_sub hl [1, 0] rfl)
          exact ⟨by omega, CP_pc0 hc9 hWF (by omega) (zb_f (fun q => by have := hhr.1 q; omega)).symm⟩
        · have hct := hcd.1.1.2.2.2.2.2.2.1
          have hcb := (hWF.2.1 i (by omega)).2.2.2.2.2.2.1
          have e609 : yPc t i 60 0 i = t 60 0 i := if_neg (by omega)
          refine zz_aload_n hx hb hl 0 dX6_passOneMinute_25 rfl rfl ?_
          refine zz_get (T := TX6) (N := 10) (k := 1) (κ := 0) (w := zr ad 15 ((0 : Nat) : Int)) hx hb hts hinX6 hown hK hW7 (zlN (hX 0 0 rfl)) rfl rfl rfl (by decide) (hts (.fieldLink RX6 18 "HailCity" "drivers" "[LHailCity$Driver;") (by decide +kernel)) (fun _ h9 => h9) rfl dX6_passOneMinute_26 ?_
          refine zz_iload_n hx hb hl 1 dX6_passOneMinute_29 rfl rfl ?_
          refine zz_aald (w := zr ad 17 ((i : Nat) : Int)) hx hb hK hW7 (zlN (hX 15 0 rfl)) rfl rfl (by show (0 : Int) ≤ ((i : Nat) : Int); omega) (by show ((i : Nat) : Int) < (8 : Int); omega) ((zv_r (Nat.le_of_ble_eq_true rfl) (Nat.le_of_ble_eq_true rfl)).trans (congrArg (zr ad 17) (show σ1 15 0 i = ((i : Nat) : Int) from by rw [hgD i (by omega)]))) dX6_passOneMinute_30 ?_
          refine lv_dup hx hb dX6_passOneMinute_31 (zr_cat _ _ _) ?_
          refine zz_getN (T := TX1) (N := 13) (k := 10) (κ := 17) (w := .int (zi (σ1 17 i 10))) hx hb hts hinX1 hown hK hW7 (zlN (hX 17 i (decide_eq_true (by omega)))) rfl rfl rfl (by decide) (host := "HailCity") (List.mem_of_getElem? (i := 20) rfl) (fun _ h9 => h9) rfl dX6_passOneMinute_32 ?_
          refine zz_iconst hx hb dX6_passOneMinute_35 ?_
          refine zz_iadd hx hb dX6_passOneMinute_36 ?_
          refine zz_putN (T := TX1) (N := 13) (k := 10) (κ := 17) (v := ((i : Nat) : Int)) (x := ((σ1 17 i 10) + 1)) (ty := .int) hx hb hts hinX1 tyX1 tyX1_ok nmX1 hown hK hW7 hS7 (zlN (hX 17 i (decide_eq_true (by omega)))) rfl rfl rfl (by decide) (host := "HailCity") (List.mem_of_getElem? (i := 20) rfl) (fun _ h9 => h9) rfl (by decide +kernel) rfl rfl rfl ⟨by omega, by omega⟩ (fun h9 _ => absurd h9 (by decide)) (fun h9 => absurd h9 (by decide)) dX6_passOneMinute_37 (fun H8 locs8 hW8' hS8 => ?_)
          obtain ⟨σ8, hs8⟩ : ∃ z, z = zu σ1 17 i 10 ((σ1 17 i 10) + 1) := ⟨_, rfl⟩
          have hW8 : ZW G ad A σ8 H8 := by rw [hs8]; exact hW8'
          refine zz_iinc (lv' := [(1, .int (zi ((i + 1 : Nat) : Int))), (0, zr ad 0 ((0 : Nat) : Int))]) hx hb hl dX6_passOneMinute_40 (k0 := 1) rfl (by decide) rfl (fun ls hl => ?_)
          refine zz_goto (tgt := 2) hx hb dX6_passOneMinute_43 (by decide) ?_
          refine ih2 (i + 1) σ8 H8 locs8 ls ?_ (by omega) hW8 hS8 (zh_sub hl [1, 0] rfl)
          refine ⟨by omega, ?_⟩
          rw [hs8]
          exact CP_pc hc9 hWF (by omega) (zb_t (hhr.2 (by omega))).symm
  refine hcut2 _ 0 σ s.heap [] ls ?_ (Nat.lt_succ_self _) hW0 hS0 (zh_sub hl [1, 0] rfl)
  exact ⟨Nat.zero_le _, by rw [yPc_0]; exact hCP⟩
