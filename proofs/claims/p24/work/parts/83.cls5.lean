/-! the class: a match -/
theorem ytg_lt {mn : Nat → Nat → Int} {nd n : Nat} : ∀ k, ytg mn nd n k < 2 ^ nd
  | 0 => Nat.two_pow_pos nd
  | k + 1 => by
    have ih := ytg_lt (mn := mn) (nd := nd) (n := n) k
    show ytn nd _ _ < _
    unfold ytn
    split
    · rename_i c
      exact Nat.or_lt_two_pow ih (Nat.pow_lt_pow_right (by decide) c)
    · exact ih
theorem ypw8 {nd : Nat} (h : nd ≤ 8) : 2 ^ nd ≤ 256 := Nat.pow_le_pow_right (by decide) h
theorem ycd {mn mn' : Nat → Nat → Int} {F : Nat → Int} {G : Int} {nd n k t : Nat} (hk : k < n) (ht : t < 2 ^ nd) (hm : ∀ d, d < nd → mn (n - (k + 1)) d = mn' (n - (k + 1)) d) (hF : ∀ s, s < 2 ^ nd → F s = yB mn' nd n k s) (hG : G = yB mn' nd n (k + 1) t) : (yfi (fun i => yok mn (n - (k + 1)) t i && decide (ygv mn F (n - (k + 1)) t i = G)) nd = -1 ∧ ych mn' nd n k t = nd) ∨ (yfi (fun i => yok mn (n - (k + 1)) t i && decide (ygv mn F (n - (k + 1)) t i = G)) nd = (ych mn' nd n k t : Int) ∧ ych mn' nd n k t < nd) := by
  have e : yfi (fun i => yok mn (n - (k + 1)) t i && decide (ygv mn F (n - (k + 1)) t i = G)) nd = yfi (fun i => yok mn' (n - (k + 1)) t i && decide (ygv mn' (yB mn' nd n k) (n - (k + 1)) t i = yB mn' nd n (k + 1) t)) nd := yfi_cg nd (fun i hi => by
    rw [yok_cg (hm i hi), hG]
    unfold ygv
    rw [hm i hi, hF _ (Nat.or_lt_two_pow ht (Nat.pow_lt_pow_right (by decide) hi))])
  rw [e]
  unfold ych
  rcases yfi_sp (P := fun i => yok mn' (n - (k + 1)) t i && decide (ygv mn' (yB mn' nd n k) (n - (k + 1)) t i = yB mn' nd n (k + 1) t)) nd with ⟨h1, h2⟩ | ⟨h1, h2, h3⟩
  · rw [if_pos h1]
    exact Or.inl ⟨h1, rfl⟩
  · rw [if_neg (by omega)]
    exact Or.inr ⟨by omega, by omega⟩
theorem CP_sc {σ t u : zS} {nd nr ns : Nat} {c B : Int} (h : CP σ t nd nr ns) (hw : yWF t nd nr ns c B) (hu : zfr ysc σ u) : CP u t nd nr ns := CP_fr h hw (fun κ i k hk => hu κ i k (by unfold ysc; omega)) (fun _ _ _ => rfl)
/-- what the matching holds, once prepared -/
theorem CP_pm {σ t v : zS} {nd nr ns : Nat} {c B : Int} (h : CP σ t nd nr ns) (hw : yWF t nd nr ns c B) (hv : ypm σ v nd nr) : ylc t nr ≤ 5 ∧ v 7 0 5 = (ylc t nr : Int) ∧ yasOK t nr (fun j => (v 8 0 j).toNat) ∧ (∀ j, j < ylc t nr → 0 ≤ v 8 0 j) ∧ ∀ r d, r < ylc t nr → d < nd → v 10 r d = ymm t (v 8 0 r).toNat d := by
  obtain ⟨v1, v2, v3, v4, v5⟩ := hv
  have e := CP_ywn h nr (Nat.le_refl _)
  have has : yasOK t nr (fun j => (v 8 0 j).toNat) := fun k hk hy => by
    have h1 := (v4 k hk ((CP_yw h hk).2 hy)).1
    rw [CP_ywn h k (by omega)] at h1
    show (v 8 0 (ylc t k)).toNat = k
    rw [h1]
    exact Int.toNat_natCast k
  refine ⟨by omega, by rw [v2, e], has, fun j hj => ?_, fun r d hr hd => ?_⟩
  · obtain ⟨k, h1, h2, h3⟩ := ylc_sur hj
    have h4 := (v4 k h1 ((CP_yw h h1).2 h2)).1
    rw [CP_ywn h k (by omega), h3] at h4
    omega
  · obtain ⟨k, h1, h2, h3⟩ := ylc_sur hr
    have h4 := (v4 k h1 ((CP_yw h h1).2 h2)).2 d hd
    have h5 := (v4 k h1 ((CP_yw h h1).2 h2)).1
    rw [CP_ywn h k (by omega), h3] at h4 h5
    rw [h4, h5, CP_yfm h hw h1 hd, Int.toNat_natCast]
theorem ymm_100 {t : zS} {nd nr ns q d : Nat} {c B : Int} (hw : yWF t nd nr ns c B) (hq : q < nr) (hd : d < nd) : -1 ≤ ymm t q d ∧ ymm t q d ≤ 100 := by
  have h1 := (hw.2.2.1 q hq).2.2.2.1
  have h2 := (hw.2.2.1 q hq).1
  have h3 := (hw.2.1 d hd).1.1
  have h4 := yWF_w hw (t 49 0 d).toNat (t 65 0 q).toNat (by omega) (by omega)
  unfold ymm
  split
  · rename_i c; have := c.2.2; omega
  · omega
/-- best, told by the reference's words -/
theorem CP_best {σ t u v : zS} {nd nr ns : Nat} {c B r : Int} {as : Nat → Nat} (h : CP σ t nd nr ns) (hw : yWF t nd nr ns c B) (hv : ypm σ v nd nr) (hr : yB (v 10) nd (ywn σ nr) (ywn σ nr) 0 = r) (hu : zfr ysc σ u) (has : yasOK t nr as) : ylc t nr ≤ 5 ∧ r = yB (fun k d => ymm t (as k) d) nd (ylc t nr) (ylc t nr) 0 ∧ CP u t nd nr ns := by
  obtain ⟨p1, p2, p3, p4, p5⟩ := CP_pm h hw hv
  refine ⟨p1, ?_, CP_sc h hw hu⟩
  rw [← hr, CP_ywn h nr (Nat.le_refl _)]
  exact yB_cg (fun r d hr hd => by have e : (v 8 0 r).toNat = as r := yas_eq p3 has r hr; rw [p5 r d hr hd, e]) _ (Nat.le_refl _) 0
theorem CP_anew {σ t u v : zS} {nd nr ns : Nat} {c B r : Int} {as : Nat → Nat} (h : CP σ t nd nr ns) (hw : yWF t nd nr ns c B) (hv : ypm σ v nd nr) (hr : ymx 0 (fun _ => true) (yD (v 10) (ywn σ nr) nd) (2 ^ ywn σ nr) = r) (hu : zfr ysc σ u) (has : yasOK t nr as) : ylc t nr ≤ 5 ∧ r = yB (fun k d => ymm t (as k) d) nd (ylc t nr) (ylc t nr) 0 ∧ CP u t nd nr ns := by
  obtain ⟨p1, p2, p3, p4, p5⟩ := CP_pm h hw hv
  refine CP_best h hw hv ?_ hu has
  rw [← hr, CP_ywn h nr (Nat.le_refl _)]
  refine (yD_B p1 (fun r d hr hd => ?_)).symm
  rw [p5 r d hr hd]
  exact ymm_100 hw (yas_ex p3 hr).1 hd

set_option maxHeartbeats 4000000 in
set_option maxRecDepth 100000 in
theorem c_X6_match (l : Launch) (hst : l.stackTraces = false) (G : zG) (ad : zA) (A : Nat → Prop) (N0 : Nat) (σ : zS) (nd nr ns : Nat) (hX : zX ad nd nr) (c9 B9 : Int) (t : zS) (hCP : CP σ t nd nr ns) (hWF : yWF t nd nr ns c9 B9) (hB9 : B9 ≤ 1000000) : vx_Met l yX6_match wsX6_match ({ frames := 7, cells := 1, slots := 6, locals := 222 }) (zPx G ad A N0 σ [zr ad 0 ((0 : Nat) : Int)]) (zQ G ad A zri (fun r u => ylc t nr ≤ 5 ∧ ∃ as, yasOK t nr as ∧ (yGN (ybs (fun k d => ymm t (as k) d) nd (ylc t nr)) nd (ylc t nr) : Int) = r ∧ ∀ v, zfr ysr t v → CP u (yGV as (ybs (fun k d => ymm t (as k) d) nd (ylc t nr)) nd (ylc t nr) v) nd nr ns)) (zXC G ad A (fun E u => E = "java/lang/IllegalStateException" ∧ 5 < ylc t nr ∧ CP u t nd nr ns)) 1 6 A := by
  refine zx_of (cc := cX6_match) (maxL := 5) (ret := (some .int)) (by decide) rfl (List.forall_mem_cons.mpr ⟨zr_cat _ _ _, fun _ h => absurd h List.not_mem_nil⟩) (Nat.le_of_ble_eq_true rfl) ?_
  intro p e s m below meth c hx hb hr hml hts hown hlocks hout hsz hW0 hK hE ls hl
  have hS0 : va_S A s.heap s.heap [] := va_S.rf
  have hl : zh ls 5 [(0, zr ad 0 ((0 : Nat) : Int))] := hl
  have hinX2 : ∀ w ∈ u_ws RX2 TX2 6, w ∈ wsX6_match := by decide +kernel
  have hinX6 : ∀ w ∈ u_ws RX6 TX6 10, w ∈ wsX6_match := by decide +kernel
  have hc9 := hCP
  have hg5 := hc9.1.1.1
  have hg6 := hc9.1.1.2.1
  have hg8 := hc9.1.2.1.2.1
  have hgD := hc9.1.2.2.1
  have hgQ := hc9.1.2.2.2.1
  have hnd := hWF.1.1.1
  have hnr := hWF.1.1.2.1
  have hnow0 := hWF.1.2.2.1
  have hord := hWF.1.2.2.2.2.1
  have hg9 := hCP.1.2.1.2.2
  have hg4 := hCP.1.1.2.2
  have hlz9 := ylc_le t nr
  refine zz_aload_n hx hb hl 0 dX6_match_0 rfl rfl ?_
  refine zx_callV (T := TX6) (N := 10) (As := []) (rest := []) (v := ((0 : Nat) : Int)) (κ := 0) ⟨hx, hb, hml, hown, hts⟩ (c_X6_prepareMatching l hst G ad A N0 σ nd nr hX hnd hnr hg5 hg6 hgD hgQ (fun i hi => by rw [(hCP.2.1 i hi).1.1.2.2.2.1]; exact (hWF.2.1 i hi).1.1) (fun a b ha hb => by
    have x1 := yWF_w hWF a b ha hb
    rcases hCP.1.2.2.2.2.2 a b ha hb with ⟨y1, y2⟩ | ⟨y1, y2⟩ <;> omega) (by rw [hg8]; exact hnow0) (fun k hk => by
    have hq := hCP.2.2 k hk
    have hz := hWF.2.2.1 k hk
    rw [hq.1, hq.2.2.2.1]
    exact ⟨hz.1, hz.2.2.2.1.1, by have := hz.2.2.2.1; omega⟩)) (cwV 0 hts gX6_match_X6_prepareMatching rfl rfl rfl (by decide +kernel) ⟨Nat.le_of_ble_eq_true rfl, Nat.le_of_ble_eq_true rfl⟩) hK hE hW0 (zlN (hX 0 0 rfl)) rfl rfl (Nat.le_trans hsz hS0.1) hS0 rfl hl.1.1 rfl (Nat.le_of_ble_eq_true rfl) dX6_match_1 ⟨Nat.le_of_ble_eq_true rfl, Nat.le_of_ble_eq_true rfl⟩ (fun E9 ce9 q9 u9 H9 locs9 hpx hWx hSx hce hcv hclx => zx_out hout hlocks hce hcv hclx hWx hSx ((by obtain ⟨rfl, h8, h9⟩ := hpx; exact ⟨rfl, by rw [CP_ywn hCP nr (Nat.le_refl _)] at h9; exact h9, CP_sc hCP hWF h8⟩)) (Nat.le_of_ble_eq_true rfl) (Nat.le_of_ble_eq_true rfl)) (fun x1 σ1 H1 locs1 hp1 hW1 hz1 hS1 => ?_)
  have hpm : ypm σ σ1 nd nr := hp1
  obtain ⟨m1, m2, m3, m4, m5⟩ := hp1
  obtain ⟨pm1, pm2, pm3, pm4, pm5⟩ := CP_pm hCP hWF hpm
  have hmm : ∀ r d, r < ywn σ nr → d < nd → -1 ≤ σ1 10 r d ∧ σ1 10 r d ≤ 100 := fun r d hr hd => by
    rw [CP_ywn hCP nr (Nat.le_refl _)] at hr
    rw [pm5 r d hr hd]
    exact ymm_100 hWF (yas_ex pm3 hr).1 hd
  refine W.eq (g2 := F0 m 4 ls []) rfl ?_
  refine zz_aload_n hx hb hl 0 dX6_match_4 rfl rfl ?_
  refine zz_get (T := TX6) (N := 10) (k := 3) (κ := 0) (w := zr ad 7 ((0 : Nat) : Int)) hx hb hts hinX6 hown hK hW1 (zlN (hX 0 0 rfl)) rfl rfl rfl (by decide) (hts (.fieldLink RX6 31 "HailCity" "matching" "LHailCity$Matching;") (by decide +kernel)) (fun _ h9 => h9) rfl dX6_match_5 ?_
  refine zz_callV (T := TX2) (N := 6) (As := []) (rest := []) (v := ((0 : Nat) : Int)) (κ := 7) ⟨hx, hb, hml, hown, hts⟩ (c_X2_mostByRequests l G ad A N0 σ1 nd nr hX (ywn σ nr) hnd m1 m2 m3 hmm) (cwV 0 hts gX6_match_X2_mostByRequests rfl rfl rfl (by decide +kernel) ⟨Nat.le_of_ble_eq_true rfl, Nat.le_of_ble_eq_true rfl⟩) hK hW1 (zlN (hX 7 0 rfl)) rfl rfl (Nat.le_trans hsz hS1.1) hS1 rfl hl.1.1 rfl (Nat.le_of_ble_eq_true rfl) dX6_match_8 ⟨Nat.le_of_ble_eq_true rfl, Nat.le_of_ble_eq_true rfl⟩ (fun x2 σ2 H2 locs2 hp2 hW2 hz2 hS2 => ?_)
  obtain ⟨mz, mF, mf⟩ := hp2
  refine W.eq (g2 := F0 m 11 ls [.int (zi x2)]) rfl ?_
  refine lv_pop hx hb dX6_match_11 rfl ?_
  obtain ⟨hn5, hV5a, hAs0, hA00, hM0⟩ := CP_pm hCP hWF hpm
  have e8 : ∀ j, σ2 8 0 j = σ1 8 0 j := fun j => mf 8 0 j (by omega)
  have eAs : (fun j => (σ2 8 0 j).toNat) = fun j => (σ1 8 0 j).toNat := funext fun j => by rw [e8]
  have hAs : yasOK t nr (fun j => (σ2 8 0 j).toNat) := by rw [eAs]; exact hAs0
  have hA0 : ∀ j, j < ylc t nr → 0 ≤ σ2 8 0 j := fun j hj => by rw [e8]; exact hA00 j hj
  have hM : ∀ r d, r < ylc t nr → d < nd → σ2 10 r d = ymm t (σ2 8 0 r).toNat d := fun r d hr hd => by rw [mf 10 r d (by omega), e8]; exact hM0 r d hr hd
  have hV4 : σ2 7 0 4 = (nd : Int) := (mf 7 0 4 (by omega)).trans m1
  have hV5 : σ2 7 0 5 = (ylc t nr : Int) := (mf 7 0 5 (by omega)).trans hV5a
  have hF : ∀ k, k ≤ ylc t nr → ∀ x, x < 2 ^ nd → σ2 12 (ylc t nr - k) x = yB (fun k d => ymm t (σ2 8 0 k).toNat d) nd (ylc t nr) k x := fun k hk x hx => by
    have h9 := mF k (by rw [CP_ywn hCP nr (Nat.le_refl _)]; exact hk) x hx
    rw [CP_ywn hCP nr (Nat.le_refl _)] at h9
    rw [h9]
    exact yB_cg (fun r d hr hd => by show _ = ymm t (σ2 8 0 r).toNat d; rw [e8]; exact hM0 r d hr hd) k hk x
  have hCV : CP σ2 t nd nr ns := CP_sc (CP_sc hCP hWF m5) hWF (fun κ i k h => mf κ i k (by unfold ysc at h; omega))
  have hBr := fun k hk x => yB_rg (mn := (fun k d => ymm t (σ2 8 0 k).toNat d)) (nd := nd) (n := ylc t nr) (fun r d hr hd => (ymm_100 hWF (yas_ex hAs hr).1 hd).1) k hk x
  refine zz_iconst hx hb dX6_match_12 ?_
  refine zz_istore_n (lv' := [(1, .int (zi 0)), (0, zr ad 0 ((0 : Nat) : Int))]) hx hb hl dX6_match_13 rfl (by decide) rfl (fun ls hl => ?_)
  refine zz_iconst hx hb dX6_match_14 ?_
  refine zz_istore_n (lv' := [(2, .int (zi 0)), (1, .int (zi 0)), (0, zr ad 0 ((0 : Nat) : Int))]) hx hb hl dX6_match_15 rfl (by decide) rfl (fun ls hl => ?_)
  refine zz_iconst hx hb dX6_match_16 ?_
  refine zz_istore_n (lv' := [(3, .int (zi 0)), (2, .int (zi 0)), (1, .int (zi 0)), (0, zr ad 0 ((0 : Nat) : Int))]) hx hb hl dX6_match_17 rfl (by decide) rfl (fun ls hl => ?_)
  have hcut18 : ∀ (n9 : Nat) (T g k : Nat)  (σ9 : zS) (H9 : Heap) (locs9 : List Loc) (ls : Array Slot), (k ≤ ylc t nr ∧ T = ytg (fun k d => ymm t (σ2 8 0 k).toNat d) nd (ylc t nr) k ∧ g = yGN (ybs (fun k d => ymm t (σ2 8 0 k).toNat d) nd (ylc t nr)) nd k ∧ (∀ κ i j, (κ = 7 ∨ κ = 8 ∨ κ = 10 ∨ κ = 12) → σ9 κ i j = σ2 κ i j) ∧ ∀ v, zfr ysr t v → CP σ9 (yGV (fun j => (σ2 8 0 j).toNat) (ybs (fun k d => ymm t (σ2 8 0 k).toNat d) nd (ylc t nr)) nd k v) nd nr ns) → (ylc t nr - k) < n9 → ZW G ad A σ9 H9 → va_S A s.heap H9 locs9 → zh ls 5 [(0, zr ad 0 ((0 : Nat) : Int)), (1, .int (zi ((T : Nat) : Int))), (2, .int (zi ((g : Nat) : Int))), (3, .int (zi ((k : Nat) : Int)))] → W p l e ({ frames := 7, cells := 1, slots := 6, locals := 222 }) s m ([zr ad 0 ((0 : Nat) : Int)] : List Value).toArray below meth c H9 locs9 1 6 (vx_MQ below (zQ G ad A zri (fun r u => ylc t nr ≤ 5 ∧ ∃ as, yasOK t nr as ∧ (yGN (ybs (fun k d => ymm t (as k) d) nd (ylc t nr)) nd (ylc t nr) : Int) = r ∧ ∀ v, zfr ysr t v → CP u (yGV as (ybs (fun k d => ymm t (as k) d) nd (ylc t nr)) nd (ylc t nr) v) nd nr ns)) (zXC G ad A (fun E u => E = "java/lang/IllegalStateException" ∧ 5 < ylc t nr ∧ CP u t nd nr ns)) ([zr ad 0 ((0 : Nat) : Int)] : List Value).toArray s 1 6 A) (F0 m 18 ls []) := by
    intro n9
    induction n9 with
    | zero =>
      intro T g k σ3 H3 locs3 ls hI18 hm18 hW3 hS3 hl
      exact absurd hm18 (Nat.not_lt_zero _)
    | succ n9 ih18 =>
      intro T g k σ3 H3 locs3 ls hI18 hm18 hW3 hS3 hl
      obtain ⟨hk1, hT, hg, hsame, hcv⟩ := hI18
      have hTl : T < 2 ^ nd := by rw [hT]; exact ytg_lt k
      have hT2 : T < 256 := Nat.lt_of_lt_of_le hTl (ypw8 hnd)
      have hcp := hcv t (fun _ _ _ _ => rfl)
      have hGok := yGok_of hWF hAs hn5 (t := t) (fun _ _ _ => rfl)
      obtain ⟨hw, hfx, hgx⟩ := yGV_ok hWF hGok k hk1
      have hgle := yGN_le (ybs (fun k d => ymm t (σ2 8 0 k).toNat d) nd (ylc t nr)) nd k
      have h74 := (hsame 7 0 4 (by omega)).trans hV4
      have h75 := (hsame 7 0 5 (by omega)).trans hV5
      have hg5 := hcp.1.1.1
      have hg6 := hcp.1.1.2.1
      have hg8 := hcp.1.2.1.2.1
      have hgD := hcp.1.2.2.1
      have hgQ := hcp.1.2.2.2.1
      refine zz_iload_n hx hb hl 3 dX6_match_18 rfl rfl ?_
      refine zz_aload_n hx hb hl 0 dX6_match_19 rfl rfl ?_
      refine zz_get (T := TX6) (N := 10) (k := 3) (κ := 0) (w := zr ad 7 ((0 : Nat) : Int)) hx hb hts hinX6 hown hK hW3 (zlN (hX 0 0 rfl)) rfl rfl rfl (by decide) (hts (.fieldLink RX6 31 "HailCity" "matching" "LHailCity$Matching;") (by decide +kernel)) (fun _ h9 => h9) rfl dX6_match_20 ?_
      refine zz_getN (T := TX2) (N := 6) (k := 5) (κ := 7) (w := .int (zi ((ylc t nr : Nat) : Int))) hx hb hts hinX2 hown hK hW3 (zlN (hX 7 0 rfl)) rfl rfl rfl (by decide) (host := "HailCity") (List.mem_of_getElem? (i := 2) rfl) (fun _ h9 => h9) (congrArg (fun z => Value.int (zi z)) (show σ3 7 0 5 = ((ylc t nr : Nat) : Int) from h75)) dX6_match_23 ?_
      refine zz_icmp_ge (tgt := 82) hx hb dX6_match_26 (by decide) ⟨by omega, by omega⟩ ⟨by omega, by omega⟩ (fun hc26 => ?_) (fun hc26 => ?_)
      · refine zz_iload_n hx hb hl 2 dX6_match_82 rfl rfl ?_
        refine W.eq (g2 := F0 m 83 ls [.int (zi ((g : Nat) : Int))]) rfl ?_
        refine zw_widen (k := 1) (n := 6) (Nat.le_of_ble_eq_true rfl) (Nat.le_of_ble_eq_true rfl) (vx_ret ?_)
        refine zz_reti hx hb hr hlocks hW3 hS3 ?_ dX6_match_83
        have hkn : k = ylc t nr := by omega
        rw [hkn] at hg hcv
        exact ⟨hn5, (fun j => (σ2 8 0 j).toNat), hAs, by rw [hg], hcv⟩
      · have hkn : k < ylc t nr := by omega
        refine zz_aload_n hx hb hl 0 dX6_match_29 rfl rfl ?_
        refine zz_get (T := TX6) (N := 10) (k := 3) (κ := 0) (w := zr ad 7 ((0 : Nat) : Int)) hx hb hts hinX6 hown hK hW3 (zlN (hX 0 0 rfl)) rfl rfl rfl (by decide) (hts (.fieldLink RX6 31 "HailCity" "matching" "LHailCity$Matching;") (by decide +kernel)) (fun _ h9 => h9) rfl dX6_match_30 ?_
        refine zz_iload_n hx hb hl 3 dX6_match_33 rfl rfl ?_
        refine zz_iload_n hx hb hl 1 dX6_match_34 rfl rfl ?_
        refine zz_callV (T := TX2) (N := 6) (As := [.int (zi ((k : Nat) : Int)), .int (zi ((T : Nat) : Int))]) (rest := []) (v := ((0 : Nat) : Int)) (κ := 7) ⟨hx, hb, hml, hown, hts⟩ (c_X2_chosenDriver l G ad A N0 σ3 nd nr hX k T (by omega) hTl hnd h74 (fun d hd => by
    rw [hsame 10 k d (by omega), hM k d hkn hd]
    exact ymm_100 hWF (yas_ex hAs hkn).1 hd) (fun x hx => by
    have h9 := hF (ylc t nr - (k + 1)) (by omega) x hx
    rw [show ylc t nr - (ylc t nr - (k + 1)) = k + 1 by omega] at h9
    rw [hsame 12 (k + 1) x (by omega), h9]
    have := hBr (ylc t nr - (k + 1)) (by omega) x
    omega)) (cwV 2 hts gX6_match_X2_chosenDriver rfl rfl rfl (by decide +kernel) ⟨Nat.le_of_ble_eq_true rfl, Nat.le_of_ble_eq_true rfl⟩) hK hW3 (zlN (hX 7 0 rfl)) rfl rfl (Nat.le_trans hsz hS3.1) hS3 rfl hl.1.1 rfl (Nat.le_of_ble_eq_true rfl) dX6_match_35 ⟨Nat.le_of_ble_eq_true rfl, Nat.le_of_ble_eq_true rfl⟩ (fun x4 σ4 H4 locs4 hp4 hW4 hz4 hS4 => ?_)
        obtain ⟨rfl, hx9⟩ := hp4
        have hcd9 := ycd (mn := σ3 10) (mn' := (fun k d => ymm t (σ2 8 0 k).toNat d)) (F := σ3 12 (k + 1)) (G := σ3 12 k T) (nd := nd) (n := ylc t nr) (k := ylc t nr - (k + 1)) (t := T) (by omega) hTl (fun d hd => by
            rw [show ylc t nr - (ylc t nr - (k + 1) + 1) = k by omega, hsame 10 k d (by omega)]
            exact hM k d hkn hd) (fun x hx => by
            have h9 := hF (ylc t nr - (k + 1)) (by omega) x hx
            rw [show ylc t nr - (ylc t nr - (k + 1)) = k + 1 by omega] at h9
            rw [hsame 12 (k + 1) x (by omega), h9]) (by
            have h9 := hF (ylc t nr - (k + 1) + 1) (by omega) T hTl
            rw [show ylc t nr - (ylc t nr - (k + 1) + 1) = k by omega] at h9
            rw [hsame 12 k T (by omega), h9])
        rw [show ylc t nr - (ylc t nr - (k + 1) + 1) = k by omega, hx9] at hcd9
        obtain ⟨b9, hb9⟩ : ∃ z, z = (ybs (fun k d => ymm t (σ2 8 0 k).toNat d) nd (ylc t nr)) k := ⟨_, rfl⟩
        have hbc : ych (fun k d => ymm t (σ2 8 0 k).toNat d) nd (ylc t nr) (ylc t nr - (k + 1)) T = b9 := by
          rw [hb9, hT]
          exact (yG_ch hkn).symm
        rw [hbc] at hcd9
        have hcg : -1 ≤ x4 ∧ x4 ≤ 8 := by omega
        refine W.eq (g2 := F0 m 38 ls [.int (zi x4)]) rfl ?_
        refine zz_istore (lv' := [(4, .int (zi x4)), (0, zr ad 0 ((0 : Nat) : Int)), (1, .int (zi ((T : Nat) : Int))), (2, .int (zi ((g : Nat) : Int))), (3, .int (zi ((k : Nat) : Int)))]) hx hb hl dX6_match_38 (by decide) rfl (fun ls hl => ?_)
        refine zz_iload hx hb hl 0 dX6_match_40 rfl ?_
        refine zz_iconst hx hb dX6_match_42 ?_
        refine zz_icmp_eq (tgt := 76) hx hb dX6_match_43 (by decide) ⟨by omega, by omega⟩ ⟨by decide, by decide⟩ (fun hc43 => ?_) (fun hc43 => ?_)
        · refine zz_iinc (lv' := [(3, .int (zi ((k + 1 : Nat) : Int))), (4, .int (zi x4)), (0, zr ad 0 ((0 : Nat) : Int)), (1, .int (zi ((T : Nat) : Int))), (2, .int (zi ((g : Nat) : Int)))]) hx hb hl dX6_match_76 (k0 := 4) rfl (by decide) rfl (fun ls hl => ?_)
          refine zz_goto (tgt := 18) hx hb dX6_match_79 (by decide) ?_
          refine ih18 T g (k + 1) σ3 H4 locs4 ls ?_ (by omega) hW4 hS4 (zh_sub hl [2, 3, 4, 0] rfl)
          have hbn : b9 = nd := by omega
          refine ⟨by omega, ?_, ?_, hsame, fun v hv => ?_⟩
          · show _ = ytn nd (ytg (fun k d => ymm t (σ2 8 0 k).toNat d) nd (ylc t nr) k) (ych (fun k d => ymm t (σ2 8 0 k).toNat d) nd (ylc t nr) (ylc t nr - (k + 1)) (ytg (fun k d => ymm t (σ2 8 0 k).toNat d) nd (ylc t nr) k))
            rw [← hT, hbc]
            exact (if_neg (by omega)).symm
          · rw [hg, show yGN (ybs (fun k d => ymm t (σ2 8 0 k).toNat d) nd (ylc t nr)) nd (k + 1) = yGN (ybs (fun k d => ymm t (σ2 8 0 k).toNat d) nd (ylc t nr)) nd k from if_neg (by rw [← hb9]; omega)]
          · rw [show yGV (fun j => (σ2 8 0 j).toNat) (ybs (fun k d => ymm t (σ2 8 0 k).toNat d) nd (ylc t nr)) nd (k + 1) v = yGV (fun j => (σ2 8 0 j).toNat) (ybs (fun k d => ymm t (σ2 8 0 k).toNat d) nd (ylc t nr)) nd k v from if_neg (by rw [← hb9]; omega)]
            exact hcv v hv
        · have hx5 : x4 = ((b9 : Nat) : Int) := by omega
          have hbl : (ybs (fun k d => ymm t (σ2 8 0 k).toNat d) nd (ylc t nr)) k < nd := by omega
          obtain ⟨q9, hq9⟩ : ∃ z, z = (σ2 8 0 k).toNat := ⟨_, rfl⟩
          have hA0k := hA0 k hkn
          obtain ⟨g1, g2, g3⟩ := hGok.1 k hkn
          obtain ⟨x1, x2⟩ := hgx k (Nat.le_refl _) hkn
          obtain ⟨hfr9, hpl9⟩ := x2 hbl
          have g39 := (g3 hbl).2
          have g1 : (σ2 8 0 k).toNat < nr := g1
          have x1 : yGV (fun j => (σ2 8 0 j).toNat) (ybs (fun k d => ymm t (σ2 8 0 k).toNat d) nd (ylc t nr)) nd k t 64 0 (σ2 8 0 k).toNat = 0 := x1
          have g39 : t 47 0 (10 * (t 49 0 ((ybs (fun k d => ymm t (σ2 8 0 k).toNat d) nd (ylc t nr)) k)).toNat + (t 65 0 (σ2 8 0 k).toNat).toNat) < 100000 := g39
          rw [← hq9] at g1 x1 g39
          rw [← hb9] at hfr9 hpl9 g39 hbl
          have hwy9 : yGV (fun j => (σ2 8 0 j).toNat) (ybs (fun k d => ymm t (σ2 8 0 k).toNat d) nd (ylc t nr)) nd k t 47 0 (10 * (yGV (fun j => (σ2 8 0 j).toNat) (ybs (fun k d => ymm t (σ2 8 0 k).toNat d) nd (ylc t nr)) nd k t 49 0 b9).toNat + (yGV (fun j => (σ2 8 0 j).toNat) (ybs (fun k d => ymm t (σ2 8 0 k).toNat d) nd (ylc t nr)) nd k t 65 0 q9).toNat) < 100000 := by
            rw [hpl9, hfx 65 _ (by omega), hfx 47 _ (by omega)]
            exact g39
          have hsn := CP_snd hcp hw (by omega) hbl g1 hfr9.1 hwy9
          have hl : zh ls 5 [(4, .int (zi ((b9 : Nat) : Int))), (0, zr ad 0 ((0 : Nat) : Int)), (1, .int (zi ((T : Nat) : Int))), (2, .int (zi ((g : Nat) : Int))), (3, .int (zi ((k : Nat) : Int)))] := by
            rw [← hx5]
            exact hl
          refine zz_iload_n hx hb hl 2 dX6_match_46 rfl rfl ?_
          refine zz_iconst hx hb dX6_match_47 ?_
          refine zz_iload hx hb hl 0 dX6_match_48 rfl ?_
          refine zz_ishl (w := ((2 ^ b9 : Nat) : Int)) hx hb (zi_shl1 b9 (by omega)) dX6_match_50 ?_
          refine zz_ior (w := ((T ||| 2 ^ b9 : Nat) : Int)) hx hb (zi_sor hT2 (by omega)) dX6_match_51 ?_
          refine zz_istore_n (lv' := [(1, .int (zi ((T ||| 2 ^ b9 : Nat) : Int))), (4, .int (zi ((b9 : Nat) : Int))), (0, zr ad 0 ((0 : Nat) : Int)), (2, .int (zi ((g : Nat) : Int))), (3, .int (zi ((k : Nat) : Int)))]) hx hb hl dX6_match_52 rfl (by decide) rfl (fun ls hl => ?_)
          refine zz_iinc (lv' := [(2, .int (zi ((g + 1 : Nat) : Int))), (1, .int (zi ((T ||| 2 ^ b9 : Nat) : Int))), (4, .int (zi ((b9 : Nat) : Int))), (0, zr ad 0 ((0 : Nat) : Int)), (3, .int (zi ((k : Nat) : Int)))]) hx hb hl dX6_match_53 (k0 := 3) rfl (by decide) rfl (fun ls hl => ?_)
          refine zz_aload_n hx hb hl 3 dX6_match_56 rfl rfl ?_
          refine zz_aload_n hx hb hl 3 dX6_match_57 rfl rfl ?_
          refine zz_get (T := TX6) (N := 10) (k := 1) (κ := 0) (w := zr ad 15 ((0 : Nat) : Int)) hx hb hts hinX6 hown hK hW4 (zlN (hX 0 0 rfl)) rfl rfl rfl (by decide) (hts (.fieldLink RX6 18 "HailCity" "drivers" "[LHailCity$Driver;") (by decide +kernel)) (fun _ h9 => h9) rfl dX6_match_58 ?_
          refine zz_iload hx hb hl 2 dX6_match_61 rfl ?_
          refine zz_aald (w := zr ad 17 ((b9 : Nat) : Int)) hx hb hK hW4 (zlN (hX 15 0 rfl)) rfl rfl (by show (0 : Int) ≤ ((b9 : Nat) : Int); omega) (by show ((b9 : Nat) : Int) < (8 : Int); omega) ((zv_r (Nat.le_of_ble_eq_true rfl) (Nat.le_of_ble_eq_true rfl)).trans (congrArg (zr ad 17) (show σ3 15 0 b9 = ((b9 : Nat) : Int) from by rw [hgD b9 (by omega)]))) dX6_match_63 ?_
          refine zz_aload_n hx hb hl 3 dX6_match_64 rfl rfl ?_
          refine zz_get (T := TX6) (N := 10) (k := 3) (κ := 0) (w := zr ad 7 ((0 : Nat) : Int)) hx hb hts hinX6 hown hK hW4 (zlN (hX 0 0 rfl)) rfl rfl rfl (by decide) (hts (.fieldLink RX6 31 "HailCity" "matching" "LHailCity$Matching;") (by decide +kernel)) (fun _ h9 => h9) rfl dX6_match_65 ?_
          refine zz_getN (T := TX2) (N := 6) (k := 0) (κ := 7) (w := zr ad 8 ((0 : Nat) : Int)) hx hb hts hinX2 hown hK hW4 (zlN (hX 7 0 rfl)) rfl rfl rfl (by decide) (host := "HailCity") (List.mem_of_getElem? (i := 1) rfl) (fun _ h9 => h9) rfl dX6_match_68 ?_
          refine zz_iload_n hx hb hl 4 dX6_match_71 rfl rfl ?_
          refine zz_aald (w := zr ad 23 ((q9 : Nat) : Int)) hx hb hK hW4 (zlN (hX 8 0 rfl)) rfl rfl (by show (0 : Int) ≤ ((k : Nat) : Int); omega) (by show ((k : Nat) : Int) < (5 : Int); omega) ((zv_r (Nat.le_of_ble_eq_true rfl) (Nat.le_of_ble_eq_true rfl)).trans (congrArg (zr ad 23) (show σ3 8 0 k = ((q9 : Nat) : Int) from by rw [hsame 8 0 k (by omega), hq9]; omega))) dX6_match_72 ?_
          refine zz_callV (T := TX6) (N := 10) (As := [zr ad 17 ((b9 : Nat) : Int), zr ad 23 ((q9 : Nat) : Int)]) (rest := []) (v := ((0 : Nat) : Int)) (κ := 0) ⟨hx, hb, hml, hown, hts⟩ (c_X6_send l G ad A N0 σ3 nd nr hX hnd b9 (by omega) q9 (by omega) hnr hsn.1 hsn.2.1 hsn.2.2.1 hsn.2.2.2.1 hsn.2.2.2.2.1 hsn.2.2.2.2.2.1 hsn.2.2.2.2.2.2.1 hsn.2.2.2.2.2.2.2.1 hsn.2.2.2.2.2.2.2.2.1 hsn.2.2.2.2.2.2.2.2.2.1 hsn.2.2.2.2.2.2.2.2.2.2) (cwV 2 hts gX6_match_X6_send rfl rfl rfl (by decide +kernel) ⟨Nat.le_of_ble_eq_true rfl, Nat.le_of_ble_eq_true rfl⟩) hK hW4 (zlN (hX 0 0 rfl)) rfl rfl (Nat.le_trans hsz hS4.1) hS4 rfl hl.1.1 rfl (Nat.le_of_ble_eq_true rfl) dX6_match_73 ⟨Nat.le_of_ble_eq_true rfl, Nat.le_of_ble_eq_true rfl⟩ (fun x5 σ5 H5 locs5 hp5 hW5 hz5 hS5 => ?_)
          refine W.eq (g2 := F0 m 76 ls []) rfl ?_
          refine zz_iinc (lv' := [(3, .int (zi ((k + 1 : Nat) : Int))), (2, .int (zi ((g + 1 : Nat) : Int))), (1, .int (zi ((T ||| 2 ^ b9 : Nat) : Int))), (4, .int (zi ((b9 : Nat) : Int))), (0, zr ad 0 ((0 : Nat) : Int))]) hx hb hl dX6_match_76 (k0 := 4) rfl (by decide) rfl (fun ls hl => ?_)
          refine zz_goto (tgt := 18) hx hb dX6_match_79 (by decide) ?_
          refine ih18 (T ||| 2 ^ b9) (g + 1) (k + 1) σ5 H5 locs5 ls ?_ (by omega) hW5 hS5 (zh_sub hl [4, 2, 1, 0] rfl)
          obtain ⟨v9, hv1, hv2⟩ := hp5
          refine ⟨by omega, ?_, ?_, fun κ i j hκ => ?_, fun v hv => ?_⟩
          · show _ = ytn nd (ytg (fun k d => ymm t (σ2 8 0 k).toNat d) nd (ylc t nr) k) (ych (fun k d => ymm t (σ2 8 0 k).toNat d) nd (ylc t nr) (ylc t nr - (k + 1)) (ytg (fun k d => ymm t (σ2 8 0 k).toNat d) nd (ylc t nr) k))
            rw [← hT, hbc]
            exact (if_pos hbl).symm
          · rw [hg, show yGN (ybs (fun k d => ymm t (σ2 8 0 k).toNat d) nd (ylc t nr)) nd (k + 1) = yGN (ybs (fun k d => ymm t (σ2 8 0 k).toNat d) nd (ylc t nr)) nd k + 1 from if_pos (by rw [← hb9]; exact hbl)]
          · rw [yDR_fr (by omega) 2 v9 σ5 hv2, hv1.2.2.2 κ i j (by omega)]
            exact hsame κ i j hκ
          · have hevv : ∀ κ k, ¬ ysr κ 0 k → v κ 0 k = t κ 0 k := fun κ k h => hv κ 0 k h
            have hWv := yWF_sr hWF hevv
            have hGv := yGok_of hWF hAs hn5 hevv
            obtain ⟨yw1', yw2', yw3'⟩ := yGV_ok hWv hGv k (by omega)
            obtain ⟨y1, y2⟩ := yw3' k (Nat.le_refl _) hkn
            obtain ⟨y3, y4⟩ := y2 (by rw [← hb9]; exact hbl)
            have y5 := ((hGv.1 k hkn).2.2 (by rw [← hb9]; exact hbl)).2
            have y1 : yGV (fun j => (σ2 8 0 j).toNat) (ybs (fun k d => ymm t (σ2 8 0 k).toNat d) nd (ylc t nr)) nd k v 64 0 (σ2 8 0 k).toNat = 0 := y1
            have y5 : v 47 0 (10 * (v 49 0 ((ybs (fun k d => ymm t (σ2 8 0 k).toNat d) nd (ylc t nr)) k)).toNat + (v 65 0 (σ2 8 0 k).toNat).toNat) < 100000 := y5
            rw [← hq9] at y1 y5
            rw [← hb9] at y3 y4 y5
            rw [show yGV (fun j => (σ2 8 0 j).toNat) (ybs (fun k d => ymm t (σ2 8 0 k).toNat d) nd (ylc t nr)) nd (k + 1) v = ygi (yGV (fun j => (σ2 8 0 j).toNat) (ybs (fun k d => ymm t (σ2 8 0 k).toNat d) nd (ylc t nr)) nd k v) (σ2 8 0 k).toNat ((ybs (fun k d => ymm t (σ2 8 0 k).toNat d) nd (ylc t nr)) k) from if_pos (by rw [← hb9]; exact hbl), ← hq9, ← hb9]
            exact CP_gi (hcv v hv) yw1' hbl g1 y1 y3.1 (by rw [y4, yw2' 65 _ (by omega), yw2' 47 _ (by omega)]; exact y5) hv1 hv2
  refine hcut18 _ 0 0 0 σ2 H2 locs2 ls ?_ (Nat.lt_succ_self _) hW2 hS2 (zh_sub hl [3, 2, 1, 0] rfl)
  exact ⟨Nat.zero_le _, rfl, rfl, fun _ _ _ _ => rfl, fun v hv => CP_fr hCV hWF (fun _ _ _ _ => rfl) (fun κ k h => hv κ 0 k h.1)⟩
