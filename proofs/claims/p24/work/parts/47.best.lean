theorem ywn_ex {σ : zS} : ∀ {n r : Nat}, r < ywn σ n → ∃ k, k < n ∧ yw σ k ∧ ywn σ k = r
  | 0, _, h => absurd h (Nat.not_lt_zero _)
  | n + 1, r, h => by
    by_cases hy : yw σ n
    · rw [ywn_y hy] at h
      rcases Nat.lt_or_ge r (ywn σ n) with h1 | h1
      · obtain ⟨k, h2, h3⟩ := ywn_ex h1
        exact ⟨k, by omega, h3⟩
      · exact ⟨n, by omega, hy, by omega⟩
    · rw [ywn_n hy] at h
      obtain ⟨k, h2, h3⟩ := ywn_ex h
      exact ⟨k, by omega, h3⟩
/-- the matching is prepared -/
def ypm (σ v : zS) (nd nr : Nat) : Prop := v 7 0 4 = (nd : Int) ∧ v 7 0 5 = (ywn σ nr : Int) ∧ ywn σ nr ≤ 5 ∧ (∀ k, k < nr → yw σ k → v 8 0 (ywn σ k) = (k : Int) ∧ ∀ j, j < nd → v 10 (ywn σ k) j = yfm σ k j) ∧ zfr ysc σ v
theorem yfm_rg {σ : zS} {q j : Nat} (hw : 0 ≤ σ 6 (σ 17 j 6).toNat (σ 23 q 1).toNat) (hp : σ 23 q 4 - σ 0 0 8 ≤ 100) : -1 ≤ yfm σ q j ∧ yfm σ q j ≤ 100 := by
  unfold yfm
  split <;> omega
theorem ypm_rg {σ v : zS} {nd nr : Nat} (h : ypm σ v nd nr) (hpl : ∀ i, i < nd → 0 ≤ σ 17 i 6 ∧ σ 17 i 6 < 10) (hww : ∀ a b, a < 10 → b < 10 → 0 ≤ σ 6 a b) (hrq : ∀ k, k < nr → (0 ≤ σ 23 k 1 ∧ σ 23 k 1 < 10) ∧ 0 ≤ σ 23 k 4 ∧ σ 23 k 4 ≤ 100000) (hpt : ∀ k, k < nr → σ 23 k 4 - σ 0 0 8 ≤ 100) : ∀ r d, r < ywn σ nr → d < nd → -1 ≤ v 10 r d ∧ v 10 r d ≤ 100 := by
  intro r d hr hd
  obtain ⟨k, h1, h2, h3⟩ := ywn_ex hr
  have h4 := (h.2.2.2.1 k h1 h2).2 d hd
  rw [h3] at h4
  rw [h4]
  have h5 := hpl d hd
  have h6 := hrq k h1
  exact yfm_rg (hww _ _ (by omega) (by omega)) (hpt k h1)

set_option maxHeartbeats 4000000 in
set_option maxRecDepth 100000 in
theorem c_X6_best (l : Launch) (hst : l.stackTraces = false) (G : zG) (ad : zA) (A : Nat → Prop) (N0 : Nat) (σ : zS) (nd nr : Nat) (hX : zX ad nd nr) (hnd : nd ≤ 8) (hnr : nr ≤ 60) (h5 : σ 0 0 5 = (nd : Int)) (h6 : σ 0 0 6 = (nr : Int)) (hD : ∀ i, i < nd → σ 15 0 i = (i : Int)) (hQ : ∀ i, i < nr → σ 16 0 i = (i : Int)) (hpl : ∀ i, i < nd → 0 ≤ σ 17 i 6 ∧ σ 17 i 6 < 10) (hww : ∀ a b, a < 10 → b < 10 → 0 ≤ σ 6 a b) (hnow : 0 ≤ σ 0 0 8 ∧ σ 0 0 8 ≤ 20000) (hrq : ∀ k, k < nr → (0 ≤ σ 23 k 1 ∧ σ 23 k 1 < 10) ∧ 0 ≤ σ 23 k 4 ∧ σ 23 k 4 ≤ 100000) (hpt : ∀ k, k < nr → σ 23 k 4 - σ 0 0 8 ≤ 100) : vx_Met l yX6_best wsX6_best ({ frames := 7, cells := 1, slots := 6, locals := 222 }) (zPx G ad A N0 σ [zr ad 0 ((0 : Nat) : Int)]) (zQ G ad A zri (fun r u => ∃ v, ypm σ v nd nr ∧ yB (v 10) nd (ywn σ nr) (ywn σ nr) 0 = r ∧ zfr ysc σ u)) (zXC G ad A (fun E u => E = "java/lang/IllegalStateException" ∧ zfr ysc σ u ∧ 5 < ywn σ nr)) 1 6 A := by
  refine zx_of (cc := cX6_best) (maxL := 1) (ret := (some .int)) (by decide) rfl (List.forall_mem_cons.mpr ⟨zr_cat _ _ _, fun _ h => absurd h List.not_mem_nil⟩) (Nat.le_of_ble_eq_true rfl) ?_
  intro p e s m below meth c hx hb hr hml hts hown hlocks hout hsz hW0 hK hE ls hl
  have hS0 : va_S A s.heap s.heap [] := va_S.rf
  have hl : zh ls 1 [(0, zr ad 0 ((0 : Nat) : Int))] := hl
  have hinX6 : ∀ w ∈ u_ws RX6 TX6 10, w ∈ wsX6_best := by decide +kernel
  refine zz_aload_n hx hb hl 0 dX6_best_0 rfl rfl ?_
  refine zx_callV (T := TX6) (N := 10) (As := []) (rest := []) (v := ((0 : Nat) : Int)) (κ := 0) ⟨hx, hb, hml, hown, hts⟩ (c_X6_prepareMatching l hst G ad A N0 σ nd nr hX hnd hnr h5 h6 hD hQ hpl hww hnow hrq) (cwV 0 hts gX6_best_X6_prepareMatching rfl rfl rfl (by decide +kernel) ⟨Nat.le_of_ble_eq_true rfl, Nat.le_of_ble_eq_true rfl⟩) hK hE hW0 (zlN (hX 0 0 rfl)) rfl rfl (Nat.le_trans hsz hS0.1) hS0 rfl hl.1.1 rfl (Nat.le_of_ble_eq_true rfl) dX6_best_1 ⟨Nat.le_of_ble_eq_true rfl, Nat.le_of_ble_eq_true rfl⟩ (fun E9 ce9 q9 u9 H9 locs9 hpx hWx hSx hce hcv hclx => zx_out hout hlocks hce hcv hclx hWx hSx (hpx) (Nat.le_of_ble_eq_true rfl) (Nat.le_of_ble_eq_true rfl)) (fun x1 σ1 H1 locs1 hp1 hW1 hz1 hS1 => ?_)
  have hpm : ypm σ σ1 nd nr := hp1
  have hmm := ypm_rg hpm hpl hww hrq hpt
  obtain ⟨m1, m2, m3, m4, m5⟩ := hp1
  refine W.eq (g2 := F0 m 4 ls []) rfl ?_
  refine zz_aload_n hx hb hl 0 dX6_best_4 rfl rfl ?_
  refine zz_get (T := TX6) (N := 10) (k := 3) (κ := 0) (w := zr ad 7 ((0 : Nat) : Int)) hx hb hts hinX6 hown hK hW1 (zlN (hX 0 0 rfl)) rfl rfl rfl (by decide) (hts (.fieldLink RX6 31 "HailCity" "matching" "LHailCity$Matching;") (by decide +kernel)) (fun _ h9 => h9) rfl dX6_best_5 ?_
  refine zz_callV (T := TX2) (N := 6) (As := []) (rest := []) (v := ((0 : Nat) : Int)) (κ := 7) ⟨hx, hb, hml, hown, hts⟩ (c_X2_mostByRequests l G ad A N0 σ1 nd nr hX (ywn σ nr) hnd m1 m2 m3 hmm) (cwV 0 hts gX6_best_X2_mostByRequests rfl rfl rfl (by decide +kernel) ⟨Nat.le_of_ble_eq_true rfl, Nat.le_of_ble_eq_true rfl⟩) hK hW1 (zlN (hX 7 0 rfl)) rfl rfl (Nat.le_trans hsz hS1.1) hS1 rfl hl.1.1 rfl (Nat.le_of_ble_eq_true rfl) dX6_best_8 ⟨Nat.le_of_ble_eq_true rfl, Nat.le_of_ble_eq_true rfl⟩ (fun x2 σ2 H2 locs2 hp2 hW2 hz2 hS2 => ?_)
  refine W.eq (g2 := F0 m 11 ls [.int (zi x2)]) rfl ?_
  refine W.eq (g2 := F0 m 11 ls [.int (zi x2)]) rfl ?_
  refine zw_widen (k := 1) (n := 6) (Nat.le_of_ble_eq_true rfl) (Nat.le_of_ble_eq_true rfl) (vx_ret ?_)
  refine zz_reti hx hb hr hlocks hW2 hS2 ?_ dX6_best_11
  exact ⟨_, hpm, hp2.1, fun κ i k hn => by rw [hp2.2.2 κ i k (by unfold ysc at hn; omega)]; exact m5 κ i k hn⟩

set_option maxHeartbeats 4000000 in
set_option maxRecDepth 100000 in
theorem c_X6_bestAnew (l : Launch) (hst : l.stackTraces = false) (G : zG) (ad : zA) (A : Nat → Prop) (N0 : Nat) (σ : zS) (nd nr : Nat) (hX : zX ad nd nr) (hnd : nd ≤ 8) (hnr : nr ≤ 60) (h5 : σ 0 0 5 = (nd : Int)) (h6 : σ 0 0 6 = (nr : Int)) (hD : ∀ i, i < nd → σ 15 0 i = (i : Int)) (hQ : ∀ i, i < nr → σ 16 0 i = (i : Int)) (hpl : ∀ i, i < nd → 0 ≤ σ 17 i 6 ∧ σ 17 i 6 < 10) (hww : ∀ a b, a < 10 → b < 10 → 0 ≤ σ 6 a b) (hnow : 0 ≤ σ 0 0 8 ∧ σ 0 0 8 ≤ 20000) (hrq : ∀ k, k < nr → (0 ≤ σ 23 k 1 ∧ σ 23 k 1 < 10) ∧ 0 ≤ σ 23 k 4 ∧ σ 23 k 4 ≤ 100000) (hpt : ∀ k, k < nr → σ 23 k 4 - σ 0 0 8 ≤ 100) : vx_Met l yX6_bestAnew wsX6_bestAnew ({ frames := 7, cells := 1, slots := 6, locals := 222 }) (zPx G ad A N0 σ [zr ad 0 ((0 : Nat) : Int)]) (zQ G ad A zri (fun r u => ∃ v, ypm σ v nd nr ∧ ymx 0 (fun _ => true) (yD (v 10) (ywn σ nr) nd) (2 ^ ywn σ nr) = r ∧ zfr ysc σ u)) (zXC G ad A (fun E u => E = "java/lang/IllegalStateException" ∧ zfr ysc σ u ∧ 5 < ywn σ nr)) 1 6 A := by
  refine zx_of (cc := cX6_bestAnew) (maxL := 1) (ret := (some .int)) (by decide) rfl (List.forall_mem_cons.mpr ⟨zr_cat _ _ _, fun _ h => absurd h List.not_mem_nil⟩) (Nat.le_of_ble_eq_true rfl) ?_
  intro p e s m below meth c hx hb hr hml hts hown hlocks hout hsz hW0 hK hE ls hl
  have hS0 : va_S A s.heap s.heap [] := va_S.rf
  have hl : zh ls 1 [(0, zr ad 0 ((0 : Nat) : Int))] := hl
  have hinX6 : ∀ w ∈ u_ws RX6 TX6 10, w ∈ wsX6_bestAnew := by decide +kernel
  refine zz_aload_n hx hb hl 0 dX6_bestAnew_0 rfl rfl ?_
  refine zx_callV (T := TX6) (N := 10) (As := []) (rest := []) (v := ((0 : Nat) : Int)) (κ := 0) ⟨hx, hb, hml, hown, hts⟩ (c_X6_prepareMatching l hst G ad A N0 σ nd nr hX hnd hnr h5 h6 hD hQ hpl hww hnow hrq) (cwV 0 hts gX6_bestAnew_X6_prepareMatching rfl rfl rfl (by decide +kernel) ⟨Nat.le_of_ble_eq_true rfl, Nat.le_of_ble_eq_true rfl⟩) hK hE hW0 (zlN (hX 0 0 rfl)) rfl rfl (Nat.le_trans hsz hS0.1) hS0 rfl hl.1.1 rfl (Nat.le_of_ble_eq_true rfl) dX6_bestAnew_1 ⟨Nat.le_of_ble_eq_true rfl, Nat.le_of_ble_eq_true rfl⟩ (fun E9 ce9 q9 u9 H9 locs9 hpx hWx hSx hce hcv hclx => zx_out hout hlocks hce hcv hclx hWx hSx (hpx) (Nat.le_of_ble_eq_true rfl) (Nat.le_of_ble_eq_true rfl)) (fun x1 σ1 H1 locs1 hp1 hW1 hz1 hS1 => ?_)
  have hpm : ypm σ σ1 nd nr := hp1
  have hmm := ypm_rg hpm hpl hww hrq hpt
  obtain ⟨m1, m2, m3, m4, m5⟩ := hp1
  refine W.eq (g2 := F0 m 4 ls []) rfl ?_
  refine zz_aload_n hx hb hl 0 dX6_bestAnew_4 rfl rfl ?_
  refine zz_get (T := TX6) (N := 10) (k := 3) (κ := 0) (w := zr ad 7 ((0 : Nat) : Int)) hx hb hts hinX6 hown hK hW1 (zlN (hX 0 0 rfl)) rfl rfl rfl (by decide) (hts (.fieldLink RX6 31 "HailCity" "matching" "LHailCity$Matching;") (by decide +kernel)) (fun _ h9 => h9) rfl dX6_bestAnew_5 ?_
  refine zz_callV (T := TX2) (N := 6) (As := []) (rest := []) (v := ((0 : Nat) : Int)) (κ := 7) ⟨hx, hb, hml, hown, hts⟩ (c_X2_mostByDrivers l G ad A N0 σ1 nd nr hX (ywn σ nr) hnd m1 m2 m3 hmm) (cwV 0 hts gX6_bestAnew_X2_mostByDrivers rfl rfl rfl (by decide +kernel) ⟨Nat.le_of_ble_eq_true rfl, Nat.le_of_ble_eq_true rfl⟩) hK hW1 (zlN (hX 7 0 rfl)) rfl rfl (Nat.le_trans hsz hS1.1) hS1 rfl hl.1.1 rfl (Nat.le_of_ble_eq_true rfl) dX6_bestAnew_8 ⟨Nat.le_of_ble_eq_true rfl, Nat.le_of_ble_eq_true rfl⟩ (fun x2 σ2 H2 locs2 hp2 hW2 hz2 hS2 => ?_)
  refine W.eq (g2 := F0 m 11 ls [.int (zi x2)]) rfl ?_
  refine W.eq (g2 := F0 m 11 ls [.int (zi x2)]) rfl ?_
  refine zw_widen (k := 1) (n := 6) (Nat.le_of_ble_eq_true rfl) (Nat.le_of_ble_eq_true rfl) (vx_ret ?_)
  refine zz_reti hx hb hr hlocks hW2 hS2 ?_ dX6_bestAnew_11
  exact ⟨_, hpm, hp2.1, fun κ i k hn => by rw [hp2.2 κ i k (by unfold ysc at hn; omega)]; exact m5 κ i k hn⟩
