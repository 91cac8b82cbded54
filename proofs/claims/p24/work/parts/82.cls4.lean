/-! the class: loops over the requests, over minutes -/

set_option maxHeartbeats 4000000 in
set_option maxRecDepth 100000 in
theorem c_X6_pass (l : Launch) (hst : l.stackTraces = false) (G : zG) (ad : zA) (A : Nat → Prop) (N0 : Nat) (σ : zS) (nd nr ns : Nat) (hX : zX ad nd nr) (c9 B9 : Int) (t : zS) (hCP : CP σ t nd nr ns) (hWF : yWF t nd nr ns c9 B9) (hB9 : B9 ≤ 1000000) (hB8 : B9 ≤ 900000) (a : Int) (ga : zg a) : vx_Met l yX6_pass wsX6_pass ({ frames := 7, cells := 2, slots := 12, locals := 222 }) (zPx G ad A N0 σ [zr ad 0 ((0 : Nat) : Int), .int (zi a)]) (zQ G ad A zri (fun r u => (1 ≤ a ∧ a ≤ 120) ∧ t 30 0 1 + a ≤ 20000 ∧ yPN nd nr a.toNat (zu t 30 0 0 0) 30 0 1 = r ∧ CP u (yPN nd nr a.toNat (zu t 30 0 0 0)) nd nr ns)) (zXC G ad A (fun E u => σ = u ∧ ((E = "java/lang/IllegalArgumentException" ∧ ¬ (1 ≤ a ∧ a ≤ 120)) ∨ (E = "java/lang/IllegalStateException" ∧ (1 ≤ a ∧ a ≤ 120) ∧ ¬ (t 30 0 1 + a ≤ 20000))))) 2 12 A := by
  refine zx_of (cc := cX6_pass) (maxL := 3) (ret := (some .int)) (by decide) rfl (List.forall_mem_cons.mpr ⟨zr_cat _ _ _, List.forall_mem_cons.mpr ⟨rfl, fun _ h => absurd h List.not_mem_nil⟩⟩) (Nat.le_of_ble_eq_true rfl) ?_
  intro p e s m below meth c hx hb hr hml hts hown hlocks hout hsz hW0 hK hE ls hl
  have hS0 : va_S A s.heap s.heap [] := va_S.rf
  have hl : zh ls 3 [(0, zr ad 0 ((0 : Nat) : Int)), (1, .int (zi a))] := hl
  have hinX6 : ∀ w ∈ u_ws RX6 TX6 10, w ∈ wsX6_pass := by decide +kernel
  have hc9 := hCP
  have hg5 := hc9.1.1.1
  have hg6 := hc9.1.1.2.1
  have hg8 := hc9.1.2.1.2.1
  have hgD := hc9.1.2.2.1
  have hgQ := hc9.1.2.2.2.1
  have hnd := hWF.1.1.1
  have hnr := hWF.1.1.2.1
  have hnow0 := hWF.1.2.2.1
  have hord := hWF.1.2.2.2.2.1
  have hg9 := hCP.1.2.1.2.2
  have hg4 := hCP.1.1.2.2
  refine zz_iload_n hx hb hl 1 dX6_pass_0 rfl rfl ?_
  refine zz_iconst hx hb dX6_pass_1 ?_
  refine zz_bipush hx hb dX6_pass_2 (by decide +kernel) ?_
  refine zx_callS (As := [.int (zi a), .int (zi 1), .int (zi 120)]) (rest := []) ⟨hx, hb, hml, hown, hts⟩ (c_X6_checkRange l hst G ad A N0 σ a 1 120 ga ⟨by decide, by decide⟩ ⟨by decide, by decide⟩) (va_cwS 3 hts gX6_pass_X6_checkRange rfl rfl rfl (by decide +kernel) ⟨Nat.le_of_ble_eq_true rfl, Nat.le_of_ble_eq_true rfl⟩) hK hE hW0 (Nat.le_trans hsz hS0.1) hS0 rfl hl.1.1 rfl (Nat.le_of_ble_eq_true rfl) dX6_pass_4 ⟨Nat.le_of_ble_eq_true rfl, Nat.le_of_ble_eq_true rfl⟩ (fun E9 ce9 q9 u9 H9 locs9 hpx hWx hSx hce hcv hclx => zx_out hout hlocks hce hcv hclx hWx hSx ((by obtain ⟨rfl, rfl, h9⟩ := hpx; exact ⟨rfl, Or.inl ⟨rfl, h9⟩⟩)) (Nat.le_of_ble_eq_true rfl) (Nat.le_of_ble_eq_true rfl)) (fun x1 σ1 H1 locs1 hp1 hW1 hz1 hS1 => ?_)
  obtain ⟨rfl, hra⟩ := hp1
  refine W.eq (g2 := F0 m 7 ls []) rfl ?_
  refine zz_aload_n hx hb hl 0 dX6_pass_7 rfl rfl ?_
  refine zz_get (T := TX6) (N := 10) (k := 8) (κ := 0) (w := .int (zi (t 30 0 1))) hx hb hts hinX6 hown hK hW1 (zlN (hX 0 0 rfl)) rfl rfl rfl (by decide) (hts (.fieldLink RX6 134 "HailCity" "now" "I") (by decide +kernel)) (fun _ h9 => h9) (congrArg (fun z => Value.int (zi z)) (show σ 0 0 8 = t 30 0 1 from hg8)) dX6_pass_8 ?_
  refine zz_iload_n hx hb hl 1 dX6_pass_11 rfl rfl ?_
  refine zz_iadd hx hb dX6_pass_12 ?_
  refine zz_sipush hx hb dX6_pass_13 (by decide +kernel) ?_
  refine zz_icmp_le (tgt := 30) hx hb dX6_pass_16 (by decide) ⟨by omega, by omega⟩ ⟨by decide, by decide⟩ (fun hc16 => ?_) (fun hc16 => ?_)
  · have hra9 := hra
    refine zz_iconst hx hb dX6_pass_30 ?_
    refine zz_istore_n (lv' := [(2, .int (zi 0)), (0, zr ad 0 ((0 : Nat) : Int)), (1, .int (zi a))]) hx hb hl dX6_pass_31 rfl (by decide) rfl (fun ls hl => ?_)
    have hcut32 : ∀ (n9 : Nat) (i : Nat)  (σ9 : zS) (H9 : Heap) (locs9 : List Loc) (ls : Array Slot), ((i : Int) ≤ a ∧ CP σ9 (yPN nd nr i (zu t 30 0 0 0)) nd nr ns) → (a.toNat - i) < n9 → ZW G ad A σ9 H9 → va_S A s.heap H9 locs9 → zh ls 3 [(0, zr ad 0 ((0 : Nat) : Int)), (1, .int (zi a)), (2, .int (zi ((i : Nat) : Int)))] → W p l e ({ frames := 7, cells := 2, slots := 12, locals := 222 }) s m ([zr ad 0 ((0 : Nat) : Int), .int (zi a)] : List Value).toArray below meth c H9 locs9 1 6 (vx_MQ below (zQ G ad A zri (fun r u => (1 ≤ a ∧ a ≤ 120) ∧ t 30 0 1 + a ≤ 20000 ∧ yPN nd nr a.toNat (zu t 30 0 0 0) 30 0 1 = r ∧ CP u (yPN nd nr a.toNat (zu t 30 0 0 0)) nd nr ns)) (zXC G ad A (fun E u => σ = u ∧ ((E = "java/lang/IllegalArgumentException" ∧ ¬ (1 ≤ a ∧ a ≤ 120)) ∨ (E = "java/lang/IllegalStateException" ∧ (1 ≤ a ∧ a ≤ 120) ∧ ¬ (t 30 0 1 + a ≤ 20000))))) ([zr ad 0 ((0 : Nat) : Int), .int (zi a)] : List Value).toArray s 2 12 A) (F0 m 32 ls []) := by
      intro n9
      induction n9 with
      | zero =>
        intro i σ2 H2 locs2 ls hI32 hm32 hW2 hS2 hl
        exact absurd hm32 (Nat.not_lt_zero _)
      | succ n9 ih32 =>
        intro i σ2 H2 locs2 ls hI32 hm32 hW2 hS2 hl
        obtain ⟨hi1, hcp⟩ := hI32
        have hwi := yWF_PN (yWF_z (x := 0) hWF) i (by rw [zu_ne (by omega)]; omega)
        rw [zu_ne (κ' := 30) (k' := 1) (by omega)] at hwi
        have hg5 := hcp.1.1.1
        have hg6 := hcp.1.1.2.1
        have hg8 := hcp.1.2.1.2.1
        have hgD := hcp.1.2.2.1
        have hgQ := hcp.1.2.2.2.1
        refine zz_iload_n hx hb hl 2 dX6_pass_32 rfl rfl ?_
        refine zz_iload_n hx hb hl 1 dX6_pass_33 rfl rfl ?_
        refine zz_icmp_ge (tgt := 47) hx hb dX6_pass_34 (by decide) ⟨by omega, by omega⟩ ga (fun hc34 => ?_) (fun hc34 => ?_)
        · refine zz_aload_n hx hb hl 0 dX6_pass_47 rfl rfl ?_
          refine zz_get (T := TX6) (N := 10) (k := 8) (κ := 0) (w := .int (zi (yPN nd nr i (zu t 30 0 0 0) 30 0 1))) hx hb hts hinX6 hown hK hW2 (zlN (hX 0 0 rfl)) rfl rfl rfl (by decide) (hts (.fieldLink RX6 134 "HailCity" "now" "I") (by decide +kernel)) (fun _ h9 => h9) (congrArg (fun z => Value.int (zi z)) (show σ2 0 0 8 = yPN nd nr i (zu t 30 0 0 0) 30 0 1 from hg8)) dX6_pass_48 ?_
          refine W.eq (g2 := F0 m 51 ls [.int (zi (yPN nd nr i (zu t 30 0 0 0) 30 0 1))]) rfl ?_
          refine zw_widen (k := 2) (n := 12) (Nat.le_of_ble_eq_true rfl) (Nat.le_of_ble_eq_true rfl) (vx_ret ?_)
          refine zz_reti hx hb hr hlocks hW2 hS2 ?_ dX6_pass_51
          obtain hia : i = a.toNat := by omega
          rw [hia] at hcp
          exact ⟨hra, by omega, by rw [hia], hcp⟩
        · refine zz_aload_n hx hb hl 0 dX6_pass_37 rfl rfl ?_
          refine zz_callV (T := TX6) (N := 10) (As := []) (rest := []) (v := ((0 : Nat) : Int)) (κ := 0) ⟨hx, hb, hml, hown, hts⟩ (c_X6_passOneMinute l G ad A N0 σ2 nd nr ns hX c9 (B9 + 8 * i) (yPN nd nr i (zu t 30 0 0 0)) hcp hwi.1 (by omega) (by omega)) (cwV 0 hts gX6_pass_X6_passOneMinute rfl rfl rfl (by decide +kernel) ⟨Nat.le_of_ble_eq_true rfl, Nat.le_of_ble_eq_true rfl⟩) hK hW2 (zlN (hX 0 0 rfl)) rfl rfl (Nat.le_trans hsz hS2.1) hS2 rfl hl.1.1 rfl (Nat.le_of_ble_eq_true rfl) dX6_pass_38 ⟨Nat.le_of_ble_eq_true rfl, Nat.le_of_ble_eq_true rfl⟩ (fun x3 σ3 H3 locs3 hp3 hW3 hz3 hS3 => ?_)
          refine W.eq (g2 := F0 m 41 ls []) rfl ?_
          refine zz_iinc (lv' := [(2, .int (zi ((i + 1 : Nat) : Int))), (0, zr ad 0 ((0 : Nat) : Int)), (1, .int (zi a))]) hx hb hl dX6_pass_41 (k0 := 2) rfl (by decide) rfl (fun ls hl => ?_)
          refine zz_goto (tgt := 32) hx hb dX6_pass_44 (by decide) ?_
          refine ih32 (i + 1) σ3 H3 locs3 ls ?_ (by omega) hW3 hS3 (zh_sub hl [1, 2, 0] rfl)
          exact ⟨by omega, hp3⟩
    refine hcut32 _ 0 σ H1 locs1 ls ?_ (Nat.lt_succ_self _) hW1 hS1 (zh_sub hl [1, 2, 0] rfl)
    exact ⟨by omega, CP_0 hCP hWF⟩
  · refine zx_throwW (ik := 66) (is := 265) (ic := 70) (cls := "java/lang/IllegalStateException") (text := "it would be above 20000") (rest := []) ⟨hx, hb, hml, hown, hts⟩ hst hlocks hout hE hW1 hS1 (by decide +kernel) (by decide) (by decide +kernel) (by decide +kernel) (by decide +kernel) zat2 zot2 (by decide) hl.1.1 dX6_pass_19 dX6_pass_22 dX6_pass_23 dX6_pass_26 dX6_pass_29 ⟨Nat.le_of_ble_eq_true rfl, (Nat.le_of_ble_eq_true rfl), Nat.le_of_ble_eq_true rfl, Nat.le_of_ble_eq_true rfl⟩ (Nat.le_of_ble_eq_true rfl) (Nat.le_of_ble_eq_true rfl) ?_
    exact ⟨rfl, Or.inr ⟨rfl, hra, by omega⟩⟩

set_option maxHeartbeats 4000000 in
set_option maxRecDepth 100000 in
theorem c_X6_airport (l : Launch) (G : zG) (ad : zA) (A : Nat → Prop) (N0 : Nat) (σ : zS) (nd nr ns : Nat) (hX : zX ad nd nr) (c9 B9 : Int) (t : zS) (hCP : CP σ t nd nr ns) (hWF : yWF t nd nr ns c9 B9) (hB9 : B9 ≤ 1000000) : Met l yX6_airport wsX6_airport ({ frames := 5, cells := 0, slots := 0, locals := 113 }) (zP G ad A N0 σ [zr ad 0 ((0 : Nat) : Int)]) (zQ G ad A zri (fun r u => (yAN nd (zu t 30 0 0 0) nr : Int) = r ∧ CP u (yAR nd nr (zu t 30 0 0 0)) nd nr ns)) 0 0 A := by
  refine zz_of (cc := cX6_airport) (maxL := 5) (ret := (some .int)) (by decide) rfl ⟨rfl, rfl⟩ (List.forall_mem_cons.mpr ⟨zr_cat _ _ _, fun _ h => absurd h List.not_mem_nil⟩) (Nat.le_of_ble_eq_true rfl) ?_
  intro p e s m below meth c hx hb hr hml hts hown hlocks hsz hW0 hK ls hl
  have hS0 : va_S A s.heap s.heap [] := va_S.rf
  have hl : zh ls 5 [(0, zr ad 0 ((0 : Nat) : Int))] := hl
  have hinX3 : ∀ w ∈ u_ws RX3 TX3 12, w ∈ wsX6_airport := by decide +kernel
  have hinX6 : ∀ w ∈ u_ws RX6 TX6 10, w ∈ wsX6_airport := by decide +kernel
  have hc9 := hCP
  have hg5 := hc9.1.1.1
  have hg6 := hc9.1.1.2.1
  have hg8 := hc9.1.2.1.2.1
  have hgD := hc9.1.2.2.1
  have hgQ := hc9.1.2.2.2.1
  have hnd := hWF.1.1.1
  have hnr := hWF.1.1.2.1
  have hnow0 := hWF.1.2.2.1
  have hord := hWF.1.2.2.2.2.1
  have hg9 := hCP.1.2.1.2.2
  have hg4 := hCP.1.1.2.2
  refine zz_iconst hx hb dX6_airport_0 ?_
  refine zz_istore_n (lv' := [(1, .int (zi 0)), (0, zr ad 0 ((0 : Nat) : Int))]) hx hb hl dX6_airport_1 rfl (by decide) rfl (fun ls hl => ?_)
  refine zz_iconst hx hb dX6_airport_2 ?_
  refine zz_istore_n (lv' := [(2, .int (zi 0)), (1, .int (zi 0)), (0, zr ad 0 ((0 : Nat) : Int))]) hx hb hl dX6_airport_3 rfl (by decide) rfl (fun ls hl => ?_)
  have hcut4 : ∀ (n9 : Nat) (n i : Nat)  (σ9 : zS) (H9 : Heap) (locs9 : List Loc) (ls : Array Slot), (i ≤ nr ∧ n = yAN nd (zu t 30 0 0 0) i ∧ CP σ9 (yAR nd i (zu t 30 0 0 0)) nd nr ns) → (nr - i) < n9 → ZW G ad A σ9 H9 → va_S A s.heap H9 locs9 → zh ls 5 [(0, zr ad 0 ((0 : Nat) : Int)), (1, .int (zi ((n : Nat) : Int))), (2, .int (zi ((i : Nat) : Int)))] → W p l e ({ frames := 5, cells := 0, slots := 0, locals := 113 }) s m ([zr ad 0 ((0 : Nat) : Int)] : List Value).toArray below meth c H9 locs9 0 0 (MQ below (zQ G ad A zri (fun r u => (yAN nd (zu t 30 0 0 0) nr : Int) = r ∧ CP u (yAR nd nr (zu t 30 0 0 0)) nd nr ns)) ([zr ad 0 ((0 : Nat) : Int)] : List Value).toArray s 0 0 A) (F0 m 4 ls []) := by
    intro n9
    induction n9 with
    | zero =>
      intro n i σ1 H1 locs1 ls hI4 hm4 hW1 hS1 hl
      exact absurd hm4 (Nat.not_lt_zero _)
    | succ n9 ih4 =>
      intro n i σ1 H1 locs1 ls hI4 hm4 hW1 hS1 hl
      obtain ⟨hi1, hn2, hcp⟩ := hI4
      have hw := yWF_AR (yWF_z (x := 0) hWF) i hi1
      obtain ⟨w9, hw9⟩ : ∃ z, z = yAR nd i (zu t 30 0 0 0) := ⟨_, rfl⟩
      rw [← hw9] at hcp hw
      have hnle := yAN_le nd (zu t 30 0 0 0) i
      have hord2 := hw.1.2.2.2.2.1
      have hg5 := hcp.1.1.1
      have hg6 := hcp.1.1.2.1
      have hg8 := hcp.1.2.1.2.1
      have hgD := hcp.1.2.2.1
      have hgQ := hcp.1.2.2.2.1
      refine zz_iload_n hx hb hl 2 dX6_airport_4 rfl rfl ?_
      refine zz_aload_n hx hb hl 0 dX6_airport_5 rfl rfl ?_
      refine zz_get (T := TX6) (N := 10) (k := 6) (κ := 0) (w := .int (zi ((nr : Nat) : Int))) hx hb hts hinX6 hown hK hW1 (zlN (hX 0 0 rfl)) rfl rfl rfl (by decide) (hts (.fieldLink RX6 146 "HailCity" "requestCount" "I") (by decide +kernel)) (fun _ h9 => h9) (congrArg (fun z => Value.int (zi z)) (show σ1 0 0 6 = ((nr : Nat) : Int) from hg6)) dX6_airport_6 ?_
      refine zz_icmp_ge (tgt := 62) hx hb dX6_airport_9 (by decide) ⟨by omega, by omega⟩ ⟨by omega, by omega⟩ (fun hc9 => ?_) (fun hc9 => ?_)
      · refine zz_iload_n hx hb hl 1 dX6_airport_62 rfl rfl ?_
        refine W.eq (g2 := F0 m 63 ls [.int (zi ((n : Nat) : Int))]) rfl ?_
        refine zz_reti hx hb hr hlocks hW1 hS1 ?_ dX6_airport_63
        obtain hin : i = nr := by omega
        rw [hin] at hn2 hw9
        exact ⟨by rw [hn2], by rw [← hw9]; exact hcp⟩
      · 
        refine zz_aload_n hx hb hl 0 dX6_airport_12 rfl rfl ?_
        refine zz_get (T := TX6) (N := 10) (k := 2) (κ := 0) (w := zr ad 16 ((0 : Nat) : Int)) hx hb hts hinX6 hown hK hW1 (zlN (hX 0 0 rfl)) rfl rfl rfl (by decide) (hts (.fieldLink RX6 24 "HailCity" "requests" "[LHailCity$Request;") (by decide +kernel)) (fun _ h9 => h9) rfl dX6_airport_13 ?_
        refine zz_iload_n hx hb hl 2 dX6_airport_16 rfl rfl ?_
        refine zz_aald (w := zr ad 23 ((i : Nat) : Int)) hx hb hK hW1 (zlN (hX 16 0 rfl)) rfl rfl (by show (0 : Int) ≤ ((i : Nat) : Int); omega) (by show ((i : Nat) : Int) < (60 : Int); omega) ((zv_r (Nat.le_of_ble_eq_true rfl) (Nat.le_of_ble_eq_true rfl)).trans (congrArg (zr ad 23) (show σ1 16 0 i = ((i : Nat) : Int) from by rw [hgQ i (by omega)]))) dX6_airport_17 ?_
        refine zz_astore_n (lv' := [(3, zr ad 23 ((i : Nat) : Int)), (0, zr ad 0 ((0 : Nat) : Int)), (1, .int (zi ((n : Nat) : Int))), (2, .int (zi ((i : Nat) : Int)))]) hx hb hl dX6_airport_18 rfl (by decide) rfl (fun ls hl => ?_)
        have hcq := hcp.2.2 i (by omega)
        have hwq := hw.2.2.1 i (by omega)
        have hq1 := hcq.1
        have hq6 := hcq.2.2.2.2.2.1
        refine zz_aload_n hx hb hl 0 dX6_airport_19 rfl rfl ?_
        refine zz_getN (T := TX3) (N := 12) (k := 6) (κ := 23) (w := .int (zi (σ1 23 i 6))) hx hb hts hinX3 hown hK hW1 (zlN (hX 23 i (decide_eq_true (by omega)))) rfl rfl rfl (by decide) (host := "HailCity") (List.mem_of_getElem? (i := 35) rfl) (fun _ h9 => h9) rfl dX6_airport_20 ?_
        refine zz_if_ne (tgt := 56) hx hb dX6_airport_23 (by decide) (hW1.2.2.1 _ _ _) (fun hc23 => ?_) (fun hc23 => ?_)
        · refine zz_iinc (lv' := [(2, .int (zi ((i + 1 : Nat) : Int))), (3, zr ad 23 ((i : Nat) : Int)), (0, zr ad 0 ((0 : Nat) : Int)), (1, .int (zi ((n : Nat) : Int)))]) hx hb hl dX6_airport_56 (k0 := 3) rfl (by decide) rfl (fun ls hl => ?_)
          refine zz_goto (tgt := 4) hx hb dX6_airport_59 (by decide) ?_
          refine ih4 n (i + 1) σ1 H1 locs1 ls ?_ (by omega) hW1 hS1 (zh_sub hl [2, 3, 0] rfl)
          have hac : ¬ yaC nd i w9 := fun q9 => by have q1 := q9.1; have q2 := q9.2.1; omega
          rw [hw9] at hac
          refine ⟨by omega, ?_, ?_⟩
          · rw [hn2]; exact (if_neg hac).symm
          · rw [show yAR nd (i + 1) (zu t 30 0 0 0) = yAR nd i (zu t 30 0 0 0) from if_neg hac, ← hw9]
            exact hcp
        · refine zz_aload_n hx hb hl 0 dX6_airport_26 rfl rfl ?_
          refine zz_getN (T := TX3) (N := 12) (k := 1) (κ := 23) (w := .int (zi (σ1 23 i 1))) hx hb hts hinX3 hown hK hW1 (zlN (hX 23 i (decide_eq_true (by omega)))) rfl rfl rfl (by decide) (host := "HailCity") (List.mem_of_getElem? (i := 26) rfl) (fun _ h9 => h9) rfl dX6_airport_27 ?_
          refine zz_if_ne (tgt := 56) hx hb dX6_airport_30 (by decide) (hW1.2.2.1 _ _ _) (fun hc30 => ?_) (fun hc30 => ?_)
          · refine zz_iinc (lv' := [(2, .int (zi ((i + 1 : Nat) : Int))), (3, zr ad 23 ((i : Nat) : Int)), (0, zr ad 0 ((0 : Nat) : Int)), (1, .int (zi ((n : Nat) : Int)))]) hx hb hl dX6_airport_56 (k0 := 3) rfl (by decide) rfl (fun ls hl => ?_)
            refine zz_goto (tgt := 4) hx hb dX6_airport_59 (by decide) ?_
            refine ih4 n (i + 1) σ1 H1 locs1 ls ?_ (by omega) hW1 hS1 (zh_sub hl [2, 3, 0] rfl)
            have hac : ¬ yaC nd i w9 := fun q9 => by have q1 := q9.1; have q2 := q9.2.1; omega
            rw [hw9] at hac
            refine ⟨by omega, ?_, ?_⟩
            · rw [hn2]; exact (if_neg hac).symm
            · rw [show yAR nd (i + 1) (zu t 30 0 0 0) = yAR nd i (zu t 30 0 0 0) from if_neg hac, ← hw9]
              exact hcp
          · refine zz_aload_n hx hb hl 1 dX6_airport_33 rfl rfl ?_
            refine zz_callV (T := TX6) (N := 10) (As := []) (rest := []) (v := ((0 : Nat) : Int)) (κ := 0) ⟨hx, hb, hml, hown, hts⟩ (c_X6_firstInQueue l G ad A N0 σ1 nd nr hX hnd hnr hg5 hg6 hgD hgQ) (cwV 0 hts gX6_airport_X6_firstInQueue rfl rfl rfl (by decide +kernel) ⟨Nat.le_of_ble_eq_true rfl, Nat.le_of_ble_eq_true rfl⟩) hK hW1 (zlN (hX 0 0 rfl)) rfl rfl (Nat.le_trans hsz hS1.1) hS1 rfl hl.1.1 rfl (Nat.le_of_ble_eq_true rfl) dX6_airport_34 ⟨Nat.le_of_ble_eq_true rfl, Nat.le_of_ble_eq_true rfl⟩ (fun x2 σ2 H2 locs2 hp2 hW2 hz2 hS2 => ?_)
            obtain ⟨rfl, hx9⟩ := hp2
            rw [CP_fq hcp nd (Nat.le_refl _)] at hx9
            obtain rfl := hx9
            have hff := yfM_rg w9 nd
            have hzf : zln ad 17 (yfM w9 nd) := by
              rcases hff with h | h
              · exact Or.inl (by omega)
              · exact Or.inr ⟨h.1, hX 17 _ (decide_eq_true (by omega))⟩
            refine W.eq (g2 := F0 m 37 ls [zr ad 17 (yfM w9 nd)]) rfl ?_
            refine zz_astore (lv' := [(4, zr ad 17 (yfM w9 nd)), (3, zr ad 23 ((i : Nat) : Int)), (0, zr ad 0 ((0 : Nat) : Int)), (1, .int (zi ((n : Nat) : Int))), (2, .int (zi ((i : Nat) : Int)))]) hx hb hl dX6_airport_37 (by decide) rfl (fun ls hl => ?_)
            refine zz_aload hx hb hl 0 dX6_airport_39 rfl ?_
            refine zz_ifnonnull (tgt := 46) hx hb hzf dX6_airport_41 (by decide) (fun hc41 => ?_) (fun hc41 => ?_)
            · have hf0 := hc41.1
              have hff2 := hff.resolve_left (by omega)
              have eD : yfM w9 nd = (((yfM w9 nd).toNat : Nat) : Int) := by omega
              have hac : yaC nd i w9 := ⟨by omega, by omega, by omega⟩
              have hsn := CP_snd hcp hw (by omega) (show (yfM w9 nd).toNat < nd by omega) (show i < nr by omega) hff2.2.2.1.1 (by rw [yWF_00 hw (by omega) (by omega)]; decide)
              have hl : zh ls 5 [(4, zr ad 17 (((yfM w9 nd).toNat : Nat) : Int)), (3, zr ad 23 ((i : Nat) : Int)), (0, zr ad 0 ((0 : Nat) : Int)), (1, .int (zi ((n : Nat) : Int))), (2, .int (zi ((i : Nat) : Int)))] := by
                rw [← eD]
                exact hl
              refine zz_aload_n hx hb hl 2 dX6_airport_46 rfl rfl ?_
              refine zz_aload hx hb hl 0 dX6_airport_47 rfl ?_
              refine zz_aload_n hx hb hl 1 dX6_airport_49 rfl rfl ?_
              refine zz_callV (T := TX6) (N := 10) (As := [zr ad 17 (((yfM w9 nd).toNat : Nat) : Int), zr ad 23 ((i : Nat) : Int)]) (rest := []) (v := ((0 : Nat) : Int)) (κ := 0) ⟨hx, hb, hml, hown, hts⟩ (c_X6_send l G ad A N0 σ1 nd nr hX hnd (yfM w9 nd).toNat (by omega) i (by omega) hnr hsn.1 hsn.2.1 hsn.2.2.1 hsn.2.2.2.1 hsn.2.2.2.2.1 hsn.2.2.2.2.2.1 hsn.2.2.2.2.2.2.1 hsn.2.2.2.2.2.2.2.1 hsn.2.2.2.2.2.2.2.2.1 hsn.2.2.2.2.2.2.2.2.2.1 hsn.2.2.2.2.2.2.2.2.2.2) (cwV 2 hts gX6_airport_X6_send rfl rfl rfl (by decide +kernel) ⟨Nat.le_of_ble_eq_true rfl, Nat.le_of_ble_eq_true rfl⟩) hK hW2 (zlN (hX 0 0 rfl)) rfl rfl (Nat.le_trans hsz hS2.1) hS2 rfl hl.1.1 rfl (Nat.le_of_ble_eq_true rfl) dX6_airport_50 ⟨Nat.le_of_ble_eq_true rfl, Nat.le_of_ble_eq_true rfl⟩ (fun x3 σ3 H3 locs3 hp3 hW3 hz3 hS3 => ?_)
              refine W.eq (g2 := F0 m 53 ls []) rfl ?_
              refine zz_iinc (lv' := [(1, .int (zi ((n + 1 : Nat) : Int))), (4, zr ad 17 (((yfM w9 nd).toNat : Nat) : Int)), (3, zr ad 23 ((i : Nat) : Int)), (0, zr ad 0 ((0 : Nat) : Int)), (2, .int (zi ((i : Nat) : Int)))]) hx hb hl dX6_airport_53 (k0 := 3) rfl (by decide) rfl (fun ls hl => ?_)
              refine zz_iinc (lv' := [(2, .int (zi ((i + 1 : Nat) : Int))), (1, .int (zi ((n + 1 : Nat) : Int))), (4, zr ad 17 (((yfM w9 nd).toNat : Nat) : Int)), (3, zr ad 23 ((i : Nat) : Int)), (0, zr ad 0 ((0 : Nat) : Int))]) hx hb hl dX6_airport_56 (k0 := 4) rfl (by decide) rfl (fun ls hl => ?_)
              refine zz_goto (tgt := 4) hx hb dX6_airport_59 (by decide) ?_
              refine ih4 (n + 1) (i + 1) σ3 H3 locs3 ls ?_ (by omega) hW3 hS3 (zh_sub hl [4, 1, 0] rfl)
              rw [hw9] at hac
              refine ⟨by omega, ?_, ?_⟩
              · rw [hn2]; exact (if_pos hac).symm
              · rw [show yAR nd (i + 1) (zu t 30 0 0 0) = ygi (yAR nd i (zu t 30 0 0 0)) i (yfM (yAR nd i (zu t 30 0 0 0)) nd).toNat from if_pos hac, ← hw9]
                obtain ⟨v9, hv1, hv2⟩ := hp3
                exact CP_gi hcp hw (by omega) (by omega) (by omega) hff2.2.2.1.1 (by rw [yWF_00 hw (by omega) (by omega)]; decide) hv1 hv2
            · refine zz_iload_n hx hb hl 3 dX6_airport_44 rfl rfl ?_
              refine W.eq (g2 := F0 m 45 ls [.int (zi ((n : Nat) : Int))]) rfl ?_
              refine zz_reti hx hb hr hlocks hW2 hS2 ?_ dX6_airport_45
              have he := yAR_end (nd := nd) (i := i) (t := (zu t 30 0 0 0)) (by rw [← hw9]; omega) (nr - i)
              rw [show i + (nr - i) = nr by omega] at he
              exact ⟨by rw [he.2, hn2], by rw [he.1, ← hw9]; exact hcp⟩
  refine hcut4 _ 0 0 σ s.heap [] ls ?_ (Nat.lt_succ_self _) hW0 hS0 (zh_sub hl [2, 1, 0] rfl)
  exact ⟨Nat.zero_le _, rfl, CP_0 hCP hWF⟩

set_option maxHeartbeats 4000000 in
set_option maxRecDepth 100000 in
theorem c_X6_share (l : Launch) (G : zG) (ad : zA) (A : Nat → Prop) (N0 : Nat) (σ : zS) (nd nr ns : Nat) (hX : zX ad nd nr) (c9 B9 : Int) (t : zS) (hCP : CP σ t nd nr ns) (hWF : yWF t nd nr ns c9 B9) (hB9 : B9 ≤ 1000000) : Met l yX6_share wsX6_share ({ frames := 7, cells := 0, slots := 0, locals := 159 }) (zP G ad A N0 σ [zr ad 0 ((0 : Nat) : Int)]) (zQ G ad A zri (fun r u => ∀ v m, yshR nd nr (zu t 30 0 0 0) v m → CP u v nd nr ns ∧ (m : Int) = r)) 0 0 A := by
  refine zz_of (cc := cX6_share) (maxL := 4) (ret := (some .int)) (by decide) rfl ⟨rfl, rfl⟩ (List.forall_mem_cons.mpr ⟨zr_cat _ _ _, fun _ h => absurd h List.not_mem_nil⟩) (Nat.le_of_ble_eq_true rfl) ?_
  intro p e s m below meth c hx hb hr hml hts hown hlocks hsz hW0 hK ls hl
  have hS0 : va_S A s.heap s.heap [] := va_S.rf
  have hl : zh ls 4 [(0, zr ad 0 ((0 : Nat) : Int))] := hl
  have hinX3 : ∀ w ∈ u_ws RX3 TX3 12, w ∈ wsX6_share := by decide +kernel
  have hinX6 : ∀ w ∈ u_ws RX6 TX6 10, w ∈ wsX6_share := by decide +kernel
  have hc9 := hCP
  have hg5 := hc9.1.1.1
  have hg6 := hc9.1.1.2.1
  have hg8 := hc9.1.2.1.2.1
  have hgD := hc9.1.2.2.1
  have hgQ := hc9.1.2.2.2.1
  have hnd := hWF.1.1.1
  have hnr := hWF.1.1.2.1
  have hnow0 := hWF.1.2.2.1
  have hord := hWF.1.2.2.2.2.1
  have hg9 := hCP.1.2.1.2.2
  have hg4 := hCP.1.1.2.2
  refine zz_iconst hx hb dX6_share_0 ?_
  refine zz_istore_n (lv' := [(1, .int (zi 0)), (0, zr ad 0 ((0 : Nat) : Int))]) hx hb hl dX6_share_1 rfl (by decide) rfl (fun ls hl => ?_)
  refine zz_iconst hx hb dX6_share_2 ?_
  refine zz_istore_n (lv' := [(2, .int (zi 0)), (1, .int (zi 0)), (0, zr ad 0 ((0 : Nat) : Int))]) hx hb hl dX6_share_3 rfl (by decide) rfl (fun ls hl => ?_)
  have hcut4 : ∀ (n9 : Nat) (n i : Nat)  (σ9 : zS) (H9 : Heap) (locs9 : List Loc) (ls : Array Slot), (i ≤ nr ∧ ∀ v m, yshR nd i (zu t 30 0 0 0) v m → CP σ9 v nd nr ns ∧ n = m) → (nr - i) < n9 → ZW G ad A σ9 H9 → va_S A s.heap H9 locs9 → zh ls 4 [(0, zr ad 0 ((0 : Nat) : Int)), (1, .int (zi ((n : Nat) : Int))), (2, .int (zi ((i : Nat) : Int)))] → W p l e ({ frames := 7, cells := 0, slots := 0, locals := 159 }) s m ([zr ad 0 ((0 : Nat) : Int)] : List Value).toArray below meth c H9 locs9 0 0 (MQ below (zQ G ad A zri (fun r u => ∀ v m, yshR nd nr (zu t 30 0 0 0) v m → CP u v nd nr ns ∧ (m : Int) = r)) ([zr ad 0 ((0 : Nat) : Int)] : List Value).toArray s 0 0 A) (F0 m 4 ls []) := by
    intro n9
    induction n9 with
    | zero =>
      intro n i σ1 H1 locs1 ls hI4 hm4 hW1 hS1 hl
      exact absurd hm4 (Nat.not_lt_zero _)
    | succ n9 ih4 =>
      intro n i σ1 H1 locs1 ls hI4 hm4 hW1 hS1 hl
      obtain ⟨hi1, hcv⟩ := hI4
      obtain ⟨v9, m9, hv9⟩ := yshR_tot (yWF_z (x := 0) hWF) i hi1
      obtain ⟨hcp, hm9⟩ := hcv v9 m9 hv9
      obtain ⟨hw, hmle⟩ := yWF_shR (yWF_z (x := 0) hWF) i v9 m9 hi1 hv9
      have hg5 := hcp.1.1.1
      have hg6 := hcp.1.1.2.1
      have hg8 := hcp.1.2.1.2.1
      have hgD := hcp.1.2.2.1
      have hgQ := hcp.1.2.2.2.1
      refine zz_iload_n hx hb hl 2 dX6_share_4 rfl rfl ?_
      refine zz_aload_n hx hb hl 0 dX6_share_5 rfl rfl ?_
      refine zz_get (T := TX6) (N := 10) (k := 6) (κ := 0) (w := .int (zi ((nr : Nat) : Int))) hx hb hts hinX6 hown hK hW1 (zlN (hX 0 0 rfl)) rfl rfl rfl (by decide) (hts (.fieldLink RX6 146 "HailCity" "requestCount" "I") (by decide +kernel)) (fun _ h9 => h9) (congrArg (fun z => Value.int (zi z)) (show σ1 0 0 6 = ((nr : Nat) : Int) from hg6)) dX6_share_6 ?_
      refine zz_icmp_ge (tgt := 50) hx hb dX6_share_9 (by decide) ⟨by omega, by omega⟩ ⟨by omega, by omega⟩ (fun hc9 => ?_) (fun hc9 => ?_)
      · refine zz_iload_n hx hb hl 1 dX6_share_50 rfl rfl ?_
        refine W.eq (g2 := F0 m 51 ls [.int (zi ((n : Nat) : Int))]) rfl ?_
        refine zz_reti hx hb hr hlocks hW1 hS1 ?_ dX6_share_51
        obtain hin : i = nr := by omega
        rw [hin] at hcv
        intro v m hv
        obtain ⟨k1, k2⟩ := hcv v m hv
        exact ⟨k1, by omega⟩
      · refine zz_aload_n hx hb hl 0 dX6_share_12 rfl rfl ?_
        refine zz_get (T := TX6) (N := 10) (k := 2) (κ := 0) (w := zr ad 16 ((0 : Nat) : Int)) hx hb hts hinX6 hown hK hW1 (zlN (hX 0 0 rfl)) rfl rfl rfl (by decide) (hts (.fieldLink RX6 24 "HailCity" "requests" "[LHailCity$Request;") (by decide +kernel)) (fun _ h9 => h9) rfl dX6_share_13 ?_
        refine zz_iload_n hx hb hl 2 dX6_share_16 rfl rfl ?_
        refine zz_aald (w := zr ad 23 ((i : Nat) : Int)) hx hb hK hW1 (zlN (hX 16 0 rfl)) rfl rfl (by show (0 : Int) ≤ ((i : Nat) : Int); omega) (by show ((i : Nat) : Int) < (60 : Int); omega) ((zv_r (Nat.le_of_ble_eq_true rfl) (Nat.le_of_ble_eq_true rfl)).trans (congrArg (zr ad 23) (show σ1 16 0 i = ((i : Nat) : Int) from by rw [hgQ i (by omega)]))) dX6_share_17 ?_
        refine zz_astore_n (lv' := [(3, zr ad 23 ((i : Nat) : Int)), (0, zr ad 0 ((0 : Nat) : Int)), (1, .int (zi ((n : Nat) : Int))), (2, .int (zi ((i : Nat) : Int)))]) hx hb hl dX6_share_18 rfl (by decide) rfl (fun ls hl => ?_)
        have hcq := hcp.2.2 i (by omega)
        have hwq := hw.2.2.1 i (by omega)
        have hq6 := hcq.2.2.2.2.2.1
        have h3b := hW1.2.2.2.2 23 i 3 rfl
        refine zz_aload_n hx hb hl 0 dX6_share_19 rfl rfl ?_
        refine zz_getN (T := TX3) (N := 12) (k := 6) (κ := 23) (w := .int (zi (σ1 23 i 6))) hx hb hts hinX3 hown hK hW1 (zlN (hX 23 i (decide_eq_true (by omega)))) rfl rfl rfl (by decide) (host := "HailCity") (List.mem_of_getElem? (i := 35) rfl) (fun _ h9 => h9) rfl dX6_share_20 ?_
        refine zz_if_ne (tgt := 44) hx hb dX6_share_23 (by decide) (hW1.2.2.1 _ _ _) (fun hc23 => ?_) (fun hc23 => ?_)
        · refine zz_iinc (lv' := [(2, .int (zi ((i + 1 : Nat) : Int))), (3, zr ad 23 ((i : Nat) : Int)), (0, zr ad 0 ((0 : Nat) : Int)), (1, .int (zi ((n : Nat) : Int)))]) hx hb hl dX6_share_44 (k0 := 3) rfl (by decide) rfl (fun ls hl => ?_)
          refine zz_goto (tgt := 4) hx hb dX6_share_47 (by decide) ?_
          refine ih4 n (i + 1) σ1 H1 locs1 ls ?_ (by omega) hW1 hS1 (zh_sub hl [2, 3, 0] rfl)
          refine ⟨by omega, fun v m hv => ?_⟩
          obtain ⟨v2, m2, hv2, hst, hm⟩ := hv
          obtain ⟨hc8, hm8⟩ := hcv v2 m2 hv2
          have hw8 := (yWF_shR (yWF_z (x := 0) hWF) i v2 m2 (by omega) hv2).1
          have hq8 := hc8.2.2 i (by omega)
          have hnc : ¬ yshC v2 nd i := fun q9 => by
            have q1 := q9.1
            have q2 := q9.2.1
            rw [← hq8.2.2.2.2.2.1] at q1
            rw [← hq8.2.2.1] at q2
            omega
          rw [if_neg hnc] at hm
          rcases hst with ⟨x, -⟩ | ⟨-, hf⟩
          · exact absurd x hnc
          · exact ⟨CP_fr hc8 hw8 (fun _ _ _ _ => rfl) (fun κ k hk => hf κ 0 k hk.2), by omega⟩
        · refine zz_aload_n hx hb hl 0 dX6_share_26 rfl rfl ?_
          refine zz_getN (T := TX3) (N := 12) (k := 3) (κ := 23) (w := .int (zi (σ1 23 i 3))) hx hb hts hinX3 hown hK hW1 (zlN (hX 23 i (decide_eq_true (by omega)))) rfl rfl rfl (by decide) (host := "HailCity") (List.mem_of_getElem? (i := 31) rfl) (fun _ h9 => h9) rfl dX6_share_27 ?_
          refine zz_if_eq (tgt := 44) hx hb dX6_share_30 (by decide) (hW1.2.2.1 _ _ _) (fun hc30 => ?_) (fun hc30 => ?_)
          · refine zz_iinc (lv' := [(2, .int (zi ((i + 1 : Nat) : Int))), (3, zr ad 23 ((i : Nat) : Int)), (0, zr ad 0 ((0 : Nat) : Int)), (1, .int (zi ((n : Nat) : Int)))]) hx hb hl dX6_share_44 (k0 := 3) rfl (by decide) rfl (fun ls hl => ?_)
            refine zz_goto (tgt := 4) hx hb dX6_share_47 (by decide) ?_
            refine ih4 n (i + 1) σ1 H1 locs1 ls ?_ (by omega) hW1 hS1 (zh_sub hl [2, 3, 0] rfl)
            refine ⟨by omega, fun v m hv => ?_⟩
            obtain ⟨v2, m2, hv2, hst, hm⟩ := hv
            obtain ⟨hc8, hm8⟩ := hcv v2 m2 hv2
            have hw8 := (yWF_shR (yWF_z (x := 0) hWF) i v2 m2 (by omega) hv2).1
            have hq8 := hc8.2.2 i (by omega)
            have hnc : ¬ yshC v2 nd i := fun q9 => by
              have q1 := q9.1
              have q2 := q9.2.1
              rw [← hq8.2.2.2.2.2.1] at q1
              rw [← hq8.2.2.1] at q2
              omega
            rw [if_neg hnc] at hm
            rcases hst with ⟨x, -⟩ | ⟨-, hf⟩
            · exact absurd x hnc
            · exact ⟨CP_fr hc8 hw8 (fun _ _ _ _ => rfl) (fun κ k hk => hf κ 0 k hk.2), by omega⟩
          · refine zz_aload_n hx hb hl 1 dX6_share_33 rfl rfl ?_
            refine zz_aload_n hx hb hl 0 dX6_share_34 rfl rfl ?_
            refine zz_callV (T := TX6) (N := 10) (As := [zr ad 23 ((i : Nat) : Int)]) (rest := []) (v := ((0 : Nat) : Int)) (κ := 0) ⟨hx, hb, hml, hown, hts⟩ (c_X6_putIntoRow l G ad A N0 σ1 nd nr hX hnd hnr hg5 hg6 hgD hgQ i (by omega) (by rw [hcq.1]; exact hwq.1) (by rw [hcq.2.1]; exact hwq.2.1) (by rw [hcq.1, hcq.2.1, CP_way hcp.1 (by have := hwq.1; omega) (by have := hwq.2.1; omega) hwq.2.2.1]; have := hwq.2.2.1; omega) (fun a b ha hb => by
    have x1 := yWF_w hw a b ha hb
    rcases hcp.1.2.2.2.2.2 a b ha hb with ⟨y1, y2⟩ | ⟨y1, y2⟩
    · have := x1.2.2.1 y1; omega
    · omega) (fun a ha => by
    have x1 := ywf_dg (F := 100000) (by decide) hw.1.2.2.2.2.2.1 10 a
    rw [← hw.1.2.2.2.2.2.2 a a ha ha] at x1
    rw [CP_way hcp.1 ha ha (by omega)]
    exact x1) (by rw [hcq.2.2.2.1]; have := hwq.2.2.2.1; have := hw.1.2.2.1; omega) (fun d hd => by
    have hcd := hcp.2.1 d hd
    obtain ⟨⟨w1, w2⟩, w3, w4, w5, w6, w7⟩ := hw.2.1 d hd
    have e18 := hcd.1.2.1
    refine ⟨by omega, fun j hj => ?_, fun j hj => ?_, fun hcn => ?_, fun h0 => by rw [hcd.2 (by omega)]; omega, fun j hj => ?_⟩
    · rw [(hcd.1.2.2.2 j (by omega)).1]; exact w3 j (by omega)
    · have p1 := w3 j (by omega)
      have p2 := w3 (j + 1) (by omega)
      rw [(hcd.1.2.2.2 j (by omega)).1, (hcd.1.2.2.2 (j + 1) (by omega)).1, CP_way hcp.1 (by omega) (by omega) (w4 j (by omega))]
      have := w4 j (by omega)
      omega
    · have x1 := ycS_6 hw hd (n := (v9 52 0 d).toNat) (by omega) ((CP_cn hcp hw hd).1 hcn)
      omega
    · rw [(hcd.1.2.2.2 j (by omega)).2.1]
      unfold yw1
      rcases yWF_row hw hd (j := j) (by omega) with h | h | h
      · rw [h, if_pos (by omega)]; omega
      · rw [if_pos (by omega)]
        intro q9
        rw [show (v9 54 0 (8 * d + j)).toNat = i by omega] at h
        omega
      · rw [if_neg (by omega)]
        intro q9
        rw [show (v9 54 0 (8 * d + j) - 100).toNat = i by omega] at h
        omega)) (cwV 1 hts gX6_share_X6_putIntoRow rfl rfl rfl (by decide +kernel) ⟨Nat.le_of_ble_eq_true rfl, Nat.le_of_ble_eq_true rfl⟩) hK hW1 (zlN (hX 0 0 rfl)) rfl rfl (Nat.le_trans hsz hS1.1) hS1 rfl hl.1.1 rfl (Nat.le_of_ble_eq_true rfl) dX6_share_35 ⟨Nat.le_of_ble_eq_true rfl, Nat.le_of_ble_eq_true rfl⟩ (fun x2 σ2 H2 locs2 hp2 hW2 hz2 hS2 => ?_)
            have hx01 : x2 = 0 ∨ x2 = 1 := by
              rcases hp2 with ⟨h, _⟩ | ⟨h, _⟩
              · exact Or.inl h
              · exact Or.inr h
            refine W.eq (g2 := F0 m 38 ls [.int (zi x2)]) rfl ?_
            refine zz_if_eq (tgt := 44) hx hb dX6_share_38 (by decide) (zg_01 hx01) (fun hc38 => ?_) (fun hc38 => ?_)
            · refine zz_iinc (lv' := [(2, .int (zi ((i + 1 : Nat) : Int))), (3, zr ad 23 ((i : Nat) : Int)), (0, zr ad 0 ((0 : Nat) : Int)), (1, .int (zi ((n : Nat) : Int)))]) hx hb hl dX6_share_44 (k0 := 3) rfl (by decide) rfl (fun ls hl => ?_)
              refine zz_goto (tgt := 4) hx hb dX6_share_47 (by decide) ?_
              refine ih4 n (i + 1) σ2 H2 locs2 ls ?_ (by omega) hW2 hS2 (zh_sub hl [2, 3, 0] rfl)
              refine ⟨by omega, fun v m hv => ?_⟩
              obtain ⟨v2, m2, hv2, hst, hm⟩ := hv
              obtain ⟨hc8, hm8⟩ := hcv v2 m2 hv2
              have hw8 := (yWF_shR (yWF_z (x := 0) hWF) i v2 m2 (by omega) hv2).1
              have hq8 := hc8.2.2 i (by omega)
              obtain ⟨k1, k2⟩ := CP_one hc8 hw8 (show i < nr by omega) (by rw [← hq8.2.2.2.2.2.1]; omega) (by rw [← hq8.2.2.1]; omega) hp2 hst
              refine ⟨k1, ?_⟩
              rcases k2 with ⟨k2, k3⟩ | ⟨k2, k3⟩
              · rw [if_neg k3] at hm; omega
              · rw [if_pos k3] at hm; omega
            · refine zz_iinc (lv' := [(1, .int (zi ((n + 1 : Nat) : Int))), (3, zr ad 23 ((i : Nat) : Int)), (0, zr ad 0 ((0 : Nat) : Int)), (2, .int (zi ((i : Nat) : Int)))]) hx hb hl dX6_share_41 (k0 := 2) rfl (by decide) rfl (fun ls hl => ?_)
              refine zz_iinc (lv' := [(2, .int (zi ((i + 1 : Nat) : Int))), (1, .int (zi ((n + 1 : Nat) : Int))), (3, zr ad 23 ((i : Nat) : Int)), (0, zr ad 0 ((0 : Nat) : Int))]) hx hb hl dX6_share_44 (k0 := 3) rfl (by decide) rfl (fun ls hl => ?_)
              refine zz_goto (tgt := 4) hx hb dX6_share_47 (by decide) ?_
              refine ih4 (n + 1) (i + 1) σ2 H2 locs2 ls ?_ (by omega) hW2 hS2 (zh_sub hl [3, 1, 0] rfl)
              refine ⟨by omega, fun v m hv => ?_⟩
              obtain ⟨v2, m2, hv2, hst, hm⟩ := hv
              obtain ⟨hc8, hm8⟩ := hcv v2 m2 hv2
              have hw8 := (yWF_shR (yWF_z (x := 0) hWF) i v2 m2 (by omega) hv2).1
              have hq8 := hc8.2.2 i (by omega)
              obtain ⟨k1, k2⟩ := CP_one hc8 hw8 (show i < nr by omega) (by rw [← hq8.2.2.2.2.2.1]; omega) (by rw [← hq8.2.2.1]; omega) hp2 hst
              refine ⟨k1, ?_⟩
              rcases k2 with ⟨k2, k3⟩ | ⟨k2, k3⟩
              · rw [if_neg k3] at hm; omega
              · rw [if_pos k3] at hm; omega
  refine hcut4 _ 0 0 σ s.heap [] ls ?_ (Nat.lt_succ_self _) hW0 hS0 (zh_sub hl [2, 1, 0] rfl)
  refine ⟨Nat.zero_le _, fun v m hv => ?_⟩
  obtain ⟨rfl, rfl⟩ := hv
  exact ⟨CP_0 hCP hWF, rfl⟩
