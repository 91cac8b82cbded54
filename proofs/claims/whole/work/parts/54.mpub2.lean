/-- a stop alone, to wander to -/
def ywd (σ : zS) (d : Nat) (b : Int) : zS := zu (zu (zu (zu σ 30 0 0 0) 53 0 (8 * d) b) 54 0 (8 * d) (-1)) 52 0 d 1
theorem yMok_wd {σ : zS} {d : Nat} {b : Int} (hb : 0 ≤ b ∧ b ≤ 9) (hpl : 0 ≤ σ 49 0 d ∧ σ 49 0 d < 10) (hww : ∀ a b, a < 10 → b < 10 → 0 ≤ σ 47 0 (10 * a + b) ∧ σ 47 0 (10 * a + b) ≤ 100000) (hnow : 0 ≤ σ 30 0 1 ∧ σ 30 0 1 ≤ 20000) (hdn : 0 ≤ σ 61 0 d ∧ σ 61 0 d ≤ 900) (her : 0 ≤ σ 62 0 d ∧ σ 62 0 d ≤ 900000000) : yMok (ywd σ d b) d 1 := by
  have E : ∀ κ i k, (κ ≠ 52 ∧ κ ≠ 53 ∧ κ ≠ 54 ∧ ¬ (κ = 30 ∧ k = 0)) → ywd σ d b κ i k = σ κ i k := fun κ i k h => by
    unfold ywd
    rw [zu_ne (by omega), zu_ne (by omega), zu_ne (by omega), zu_ne (by omega)]
  have p0 : ywd σ d b 53 0 (8 * d) = b := by
    unfold ywd
    rw [zu_ne (by omega), zu_ne (by omega), zu_same]
  have w0 : ywd σ d b 54 0 (8 * d) = -1 := by
    unfold ywd
    rw [zu_ne (by omega), zu_same]
  refine ⟨by unfold ywd; rw [zu_same]; rfl, by decide, by rw [E 49 _ _ (by omega)]; exact hpl, fun j hj => ?_, fun a b ha hb => by rw [E 47 _ _ (by omega)]; exact hww a b ha hb, by rw [E 30 _ _ (by omega)]; exact hnow, by rw [E 61 _ _ (by omega)]; omega, by rw [E 62 _ _ (by omega)]; omega⟩
  obtain rfl : j = 0 := by omega
  rw [Nat.add_zero, p0, w0]
  exact ⟨by omega, by omega, by omega, fun _ => by omega, fun h => absurd h (by omega)⟩

set_option maxHeartbeats 4000000 in
set_option maxRecDepth 100000 in
theorem c_X7_wander (l : Launch) (G : zG) (ad : zA) (A : Nat → Prop) (N0 : Nat) (σ : zS) (hM : zMm ad) (a b : Int) (ga : zg a) (gb : zg b) (hn : 0 ≤ σ 30 0 8 ∧ σ 30 0 8 ≤ 8) (hpl9 : ∀ d : Nat, (d : Int) < σ 30 0 8 → 0 ≤ σ 49 0 d ∧ σ 49 0 d < 10) (hww : ∀ a b, a < 10 → b < 10 → 0 ≤ σ 47 0 (10 * a + b) ∧ σ 47 0 (10 * a + b) ≤ 100000) (hnow : 0 ≤ σ 30 0 1 ∧ σ 30 0 1 ≤ 20000) (hdn : ∀ d : Nat, (d : Int) < σ 30 0 8 → 0 ≤ σ 61 0 d ∧ σ 61 0 d ≤ 900) (her : ∀ d : Nat, (d : Int) < σ 30 0 8 → 0 ≤ σ 62 0 d ∧ σ 62 0 d ≤ 900000000) (hgo : 0 ≤ σ 30 0 17 ∧ σ 30 0 17 < 2000000000) : Met l yX7_wander wsX7_wander ({ frames := 3, cells := 0, slots := 0, locals := 64 }) (zP G ad A N0 σ [zr ad 30 ((0 : Nat) : Int), .int (zi a), .int (zi b)]) (zQ G ad A zri (fun r u => (¬ ((0 ≤ a ∧ a ≤ σ 30 0 8 - 1) ∧ (0 ≤ b ∧ b ≤ 9)) ∧ 0 = r ∧ u = zu σ 30 0 0 1) ∨ (((0 ≤ a ∧ a ≤ σ 30 0 8 - 1) ∧ (0 ≤ b ∧ b ≤ 9)) ∧ ¬ (ymf σ a.toNat ∧ b ≠ σ 49 0 a.toNat ∧ σ 47 0 (10 * (σ 49 0 a.toNat).toNat + b.toNat) < 100000) ∧ 0 = r ∧ u = zu σ 30 0 0 2) ∨ (((0 ≤ a ∧ a ≤ σ 30 0 8 - 1) ∧ (0 ≤ b ∧ b ≤ 9)) ∧ (ymf σ a.toNat ∧ b ≠ σ 49 0 a.toNat ∧ σ 47 0 (10 * (σ 49 0 a.toNat).toNat + b.toNat) < 100000) ∧ u 55 0 a.toNat = r ∧ ybf (yLV a.toNat 1 (ywd σ a.toNat b)) a.toNat = u))) 0 0 A := by
  refine zz_of (cc := cX7_wander) (maxL := 5) (ret := (some .int)) (by decide) rfl ⟨rfl, rfl⟩ (List.forall_mem_cons.mpr ⟨zr_cat _ _ _, List.forall_mem_cons.mpr ⟨rfl, List.forall_mem_cons.mpr ⟨rfl, fun _ h => absurd h List.not_mem_nil⟩⟩⟩) (Nat.le_of_ble_eq_true rfl) ?_
  intro p e s m below meth c hx hb hr hml hts hown hlocks hsz hW0 hK ls hl
  have hS0 : va_S A s.heap s.heap [] := va_S.rf
  have hl : zh ls 5 [(0, zr ad 30 ((0 : Nat) : Int)), (1, .int (zi a)), (2, .int (zi b))] := hl
  have hinX7 : ∀ w ∈ u_ws RX7 TX7 42, w ∈ wsX7_wander := by decide +kernel
  refine zz_aload_n hx hb hl 0 dX7_wander_0 rfl rfl ?_
  refine zz_iload_n hx hb hl 1 dX7_wander_1 rfl rfl ?_
  refine zz_callV (T := TX7) (N := 42) (As := [.int (zi a)]) (rest := []) (v := ((0 : Nat) : Int)) (κ := 30) ⟨hx, hb, hml, hown, hts⟩ (c_X7_isDriver l G ad A N0 σ hM a ga hn) (cwV 1 hts gX7_wander_X7_isDriver rfl rfl rfl (by decide +kernel) ⟨Nat.le_of_ble_eq_true rfl, Nat.le_of_ble_eq_true rfl⟩) hK hW0 (zlN (hM 30 rfl)) rfl rfl (Nat.le_trans hsz hS0.1) hS0 rfl hl.1.1 rfl (Nat.le_of_ble_eq_true rfl) dX7_wander_2 ⟨Nat.le_of_ble_eq_true rfl, Nat.le_of_ble_eq_true rfl⟩ (fun x1 σ1 H1 locs1 hp1 hW1 hz1 hS1 => ?_)
  obtain ⟨rfl, rfl⟩ := hp1
  refine W.eq (g2 := F0 m 5 ls [.int (zi (zb (0 ≤ a ∧ a ≤ σ 30 0 8 - 1)))]) rfl ?_
  refine zz_if_eqb (tgt := 19) hx hb dX7_wander_5 (by decide) (fun hc5 => ?_) (fun hc5 => ?_)
  · refine zz_iconst hx hb dX7_wander_19 ?_
    refine zz_istore_n (lv' := [(3, .int (zi 0)), (0, zr ad 30 ((0 : Nat) : Int)), (1, .int (zi a)), (2, .int (zi b))]) hx hb hl dX7_wander_20 rfl (by decide) rfl (fun ls hl => ?_)
    refine zz_iload_n hx hb hl 0 dX7_wander_21 rfl rfl ?_
    refine zz_if_eq (tgt := 63) hx hb dX7_wander_22 (by decide) ⟨by decide, by decide⟩ (fun hc22 => ?_) (fun hc22 => ?_)
    · refine zz_iconst hx hb dX7_wander_63 ?_
      refine zz_istore (lv' := [(4, .int (zi 0)), (3, .int (zi 0)), (0, zr ad 30 ((0 : Nat) : Int)), (1, .int (zi a)), (2, .int (zi b))]) hx hb hl dX7_wander_64 (by decide) rfl (fun ls hl => ?_)
      refine zz_aload_n hx hb hl 2 dX7_wander_66 rfl rfl ?_
      refine zz_iload_n hx hb hl 1 dX7_wander_67 rfl rfl ?_
      refine zz_if_ne (tgt := 75) hx hb dX7_wander_68 (by decide) ⟨by decide, by decide⟩ (fun hc68 => ?_) (fun hc68 => ?_)
      · exact absurd rfl hc68
      · refine zz_iconst hx hb dX7_wander_71 ?_
        refine zz_goto (tgt := 85) hx hb dX7_wander_72 (by decide) ?_
        refine zz_callV (T := TX7) (N := 42) (As := [.int (zi 1)]) (rest := []) (v := ((0 : Nat) : Int)) (κ := 30) ⟨hx, hb, hml, hown, hts⟩ (c_X7_refused l G ad A N0 σ hM (1) ⟨by decide, by decide⟩) (cwV 1 hts gX7_wander_X7_refused rfl rfl rfl (by decide +kernel) ⟨Nat.le_of_ble_eq_true rfl, Nat.le_of_ble_eq_true rfl⟩) hK hW1 (zlN (hM 30 rfl)) rfl rfl (Nat.le_trans hsz hS1.1) hS1 rfl hl.1.1 rfl (Nat.le_of_ble_eq_true rfl) dX7_wander_85 ⟨Nat.le_of_ble_eq_true rfl, Nat.le_of_ble_eq_true rfl⟩ (fun x2 σ2 H2 locs2 hp2 hW2 hz2 hS2 => ?_)
        have hs2 : σ2 = zu σ 30 0 0 (1) := hp2.1.symm
        obtain rfl := hp2.2
        refine W.eq (g2 := F0 m 88 ls [.int (zi (zb ((1 : Int) ≠ 0)))]) rfl ?_
        refine zz_if_eqb (tgt := 93) hx hb dX7_wander_88 (by decide) (fun hc88 => ?_) (fun hc88 => ?_)
        · exact absurd (by decide) hc88
        · refine zz_iconst hx hb dX7_wander_91 ?_
          refine W.eq (g2 := F0 m 92 ls [.int (zi 0)]) rfl ?_
          refine zz_reti hx hb hr hlocks hW2 hS2 ?_ dX7_wander_92
          exact Or.inl ⟨(fun q9 => by first | exact hc5 q9.1 | exact hc12 q9.2), rfl, by rw [hs2]⟩
    · exact absurd rfl hc22
  · refine zz_iload_n hx hb hl 2 dX7_wander_8 rfl rfl ?_
    refine zz_callS (As := [.int (zi b)]) (rest := []) ⟨hx, hb, hml, hown, hts⟩ (c_X7_isPlace l G ad A N0 σ b gb) (va_cwS 1 hts gX7_wander_X7_isPlace rfl rfl rfl (by decide +kernel) ⟨Nat.le_of_ble_eq_true rfl, Nat.le_of_ble_eq_true rfl⟩) hK hW1 (Nat.le_trans hsz hS1.1) hS1 rfl hl.1.1 rfl (Nat.le_of_ble_eq_true rfl) dX7_wander_9 ⟨Nat.le_of_ble_eq_true rfl, Nat.le_of_ble_eq_true rfl⟩ (fun x3 σ3 H3 locs3 hp3 hW3 hz3 hS3 => ?_)
    obtain ⟨rfl, rfl⟩ := hp3
    refine W.eq (g2 := F0 m 12 ls [.int (zi (zb (0 ≤ b ∧ b ≤ 9)))]) rfl ?_
    refine zz_if_eqb (tgt := 19) hx hb dX7_wander_12 (by decide) (fun hc12 => ?_) (fun hc12 => ?_)
    · refine zz_iconst hx hb dX7_wander_19 ?_
      refine zz_istore_n (lv' := [(3, .int (zi 0)), (0, zr ad 30 ((0 : Nat) : Int)), (1, .int (zi a)), (2, .int (zi b))]) hx hb hl dX7_wander_20 rfl (by decide) rfl (fun ls hl => ?_)
      refine zz_iload_n hx hb hl 0 dX7_wander_21 rfl rfl ?_
      refine zz_if_eq (tgt := 63) hx hb dX7_wander_22 (by decide) ⟨by decide, by decide⟩ (fun hc22 => ?_) (fun hc22 => ?_)
      · refine zz_iconst hx hb dX7_wander_63 ?_
        refine zz_istore (lv' := [(4, .int (zi 0)), (3, .int (zi 0)), (0, zr ad 30 ((0 : Nat) : Int)), (1, .int (zi a)), (2, .int (zi b))]) hx hb hl dX7_wander_64 (by decide) rfl (fun ls hl => ?_)
        refine zz_aload_n hx hb hl 2 dX7_wander_66 rfl rfl ?_
        refine zz_iload_n hx hb hl 1 dX7_wander_67 rfl rfl ?_
        refine zz_if_ne (tgt := 75) hx hb dX7_wander_68 (by decide) ⟨by decide, by decide⟩ (fun hc68 => ?_) (fun hc68 => ?_)
        · exact absurd rfl hc68
        · refine zz_iconst hx hb dX7_wander_71 ?_
          refine zz_goto (tgt := 85) hx hb dX7_wander_72 (by decide) ?_
          refine zz_callV (T := TX7) (N := 42) (As := [.int (zi 1)]) (rest := []) (v := ((0 : Nat) : Int)) (κ := 30) ⟨hx, hb, hml, hown, hts⟩ (c_X7_refused l G ad A N0 σ hM (1) ⟨by decide, by decide⟩) (cwV 1 hts gX7_wander_X7_refused rfl rfl rfl (by decide +kernel) ⟨Nat.le_of_ble_eq_true rfl, Nat.le_of_ble_eq_true rfl⟩) hK hW3 (zlN (hM 30 rfl)) rfl rfl (Nat.le_trans hsz hS3.1) hS3 rfl hl.1.1 rfl (Nat.le_of_ble_eq_true rfl) dX7_wander_85 ⟨Nat.le_of_ble_eq_true rfl, Nat.le_of_ble_eq_true rfl⟩ (fun x4 σ4 H4 locs4 hp4 hW4 hz4 hS4 => ?_)
          have hs4 : σ4 = zu σ 30 0 0 (1) := hp4.1.symm
          obtain rfl := hp4.2
          refine W.eq (g2 := F0 m 88 ls [.int (zi (zb ((1 : Int) ≠ 0)))]) rfl ?_
          refine zz_if_eqb (tgt := 93) hx hb dX7_wander_88 (by decide) (fun hc88 => ?_) (fun hc88 => ?_)
          · exact absurd (by decide) hc88
          · refine zz_iconst hx hb dX7_wander_91 ?_
            refine W.eq (g2 := F0 m 92 ls [.int (zi 0)]) rfl ?_
            refine zz_reti hx hb hr hlocks hW4 hS4 ?_ dX7_wander_92
            exact Or.inl ⟨(fun q9 => by first | exact hc5 q9.1 | exact hc12 q9.2), rfl, by rw [hs4]⟩
      · exact absurd rfl hc22
    · refine zz_iconst hx hb dX7_wander_15 ?_
      refine zz_goto (tgt := 20) hx hb dX7_wander_16 (by decide) ?_
      refine zz_istore_n (lv' := [(3, .int (zi 1)), (0, zr ad 30 ((0 : Nat) : Int)), (1, .int (zi a)), (2, .int (zi b))]) hx hb hl dX7_wander_20 rfl (by decide) rfl (fun ls hl => ?_)
      refine zz_iload_n hx hb hl 0 dX7_wander_21 rfl rfl ?_
      refine zz_if_eq (tgt := 63) hx hb dX7_wander_22 (by decide) ⟨by decide, by decide⟩ (fun hc22 => ?_) (fun hc22 => ?_)
      · exact absurd hc22 (by decide)
      · have ea : (a : Int) = ((a.toNat : Nat) : Int) := by omega
        have eb : (b : Int) = ((b.toNat : Nat) : Int) := by omega
        have hpl := hpl9 a.toNat (by omega)
        have hww9 := hww (σ 49 0 a.toNat).toNat b.toNat (by omega) (by omega)
        have hl : zh ls 5 [(3, .int (zi 1)), (0, zr ad 30 ((0 : Nat) : Int)), (1, .int (zi ((a.toNat : Nat) : Int))), (2, .int (zi ((b.toNat : Nat) : Int)))] := by
          rw [← ea, ← eb]
          exact hl
        refine zz_aload_n hx hb hl 1 dX7_wander_25 rfl rfl ?_
        refine zz_iload_n hx hb hl 2 dX7_wander_26 rfl rfl ?_
        refine zz_callV (T := TX7) (N := 42) (As := [.int (zi ((a.toNat : Nat) : Int))]) (rest := []) (v := ((0 : Nat) : Int)) (κ := 30) ⟨hx, hb, hml, hown, hts⟩ (c_X7_isFree l G ad A N0 σ hM a.toNat (by omega)) (cwV 1 hts gX7_wander_X7_isFree rfl rfl rfl (by decide +kernel) ⟨Nat.le_of_ble_eq_true rfl, Nat.le_of_ble_eq_true rfl⟩) hK hW3 (zlN (hM 30 rfl)) rfl rfl (Nat.le_trans hsz hS3.1) hS3 rfl hl.1.1 rfl (Nat.le_of_ble_eq_true rfl) dX7_wander_27 ⟨Nat.le_of_ble_eq_true rfl, Nat.le_of_ble_eq_true rfl⟩ (fun x5 σ5 H5 locs5 hp5 hW5 hz5 hS5 => ?_)
        obtain ⟨rfl, rfl⟩ := hp5
        refine W.eq (g2 := F0 m 30 ls [.int (zi (zb (ymf σ a.toNat)))]) rfl ?_
        refine zz_if_eqb (tgt := 63) hx hb dX7_wander_30 (by decide) (fun hc30 => ?_) (fun hc30 => ?_)
        · refine zz_iconst hx hb dX7_wander_63 ?_
          refine zz_istore (lv' := [(4, .int (zi 0)), (3, .int (zi 1)), (0, zr ad 30 ((0 : Nat) : Int)), (1, .int (zi ((a.toNat : Nat) : Int))), (2, .int (zi ((b.toNat : Nat) : Int)))]) hx hb hl dX7_wander_64 (by decide) rfl (fun ls hl => ?_)
          refine zz_aload_n hx hb hl 2 dX7_wander_66 rfl rfl ?_
          refine zz_iload_n hx hb hl 1 dX7_wander_67 rfl rfl ?_
          refine zz_if_ne (tgt := 75) hx hb dX7_wander_68 (by decide) ⟨by decide, by decide⟩ (fun hc68 => ?_) (fun hc68 => ?_)
          · refine zz_iload hx hb hl 0 dX7_wander_75 rfl ?_
            refine zz_if_eq (tgt := 84) hx hb dX7_wander_77 (by decide) ⟨by decide, by decide⟩ (fun hc77 => ?_) (fun hc77 => ?_)
            · refine zz_iconst hx hb dX7_wander_84 ?_
              refine zz_callV (T := TX7) (N := 42) (As := [.int (zi 2)]) (rest := []) (v := ((0 : Nat) : Int)) (κ := 30) ⟨hx, hb, hml, hown, hts⟩ (c_X7_refused l G ad A N0 σ hM (2) ⟨by decide, by decide⟩) (cwV 1 hts gX7_wander_X7_refused rfl rfl rfl (by decide +kernel) ⟨Nat.le_of_ble_eq_true rfl, Nat.le_of_ble_eq_true rfl⟩) hK hW5 (zlN (hM 30 rfl)) rfl rfl (Nat.le_trans hsz hS5.1) hS5 rfl hl.1.1 rfl (Nat.le_of_ble_eq_true rfl) dX7_wander_85 ⟨Nat.le_of_ble_eq_true rfl, Nat.le_of_ble_eq_true rfl⟩ (fun x6 σ6 H6 locs6 hp6 hW6 hz6 hS6 => ?_)
              have hs6 : σ6 = zu σ 30 0 0 (2) := hp6.1.symm
              obtain rfl := hp6.2
              refine W.eq (g2 := F0 m 88 ls [.int (zi (zb ((2 : Int) ≠ 0)))]) rfl ?_
              refine zz_if_eqb (tgt := 93) hx hb dX7_wander_88 (by decide) (fun hc88 => ?_) (fun hc88 => ?_)
              · exact absurd (by decide) hc88
              · refine zz_iconst hx hb dX7_wander_91 ?_
                refine W.eq (g2 := F0 m 92 ls [.int (zi 0)]) rfl ?_
                refine zz_reti hx hb hr hlocks hW6 hS6 ?_ dX7_wander_92
                exact Or.inr (Or.inl ⟨⟨hc5, hc12⟩, (fun q9 => by first | exact hc30 q9.1 | exact q9.2.1 (by omega) | (have := q9.2.2; omega)), rfl, by rw [hs6]⟩)
            · exact absurd rfl hc77
          · exact absurd hc68 (by decide)
        · refine zz_iload_n hx hb hl 3 dX7_wander_33 rfl rfl ?_
          refine zz_aload_n hx hb hl 1 dX7_wander_34 rfl rfl ?_
          refine zz_get (T := TX7) (N := 42) (k := 9) (κ := 30) (w := zr ad 49 ((0 : Nat) : Int)) hx hb hts hinX7 hown hK hW5 (zlN (hM 30 rfl)) rfl rfl rfl (by decide) (hts (.fieldLink RX7 26 "HailCityModel" "place" "[I") (by decide +kernel)) (fun _ h9 => h9) rfl dX7_wander_35 ?_
          refine zz_iload_n hx hb hl 2 dX7_wander_38 rfl rfl ?_
          refine zz_iald (w := σ 49 0 a.toNat) hx hb hK hW5 (zlN (hM 49 rfl)) rfl rfl rfl (by show (0 : Int) ≤ ((a.toNat : Nat) : Int); omega) (by show ((a.toNat : Nat) : Int) < (8 : Int); omega) rfl dX7_wander_39 ?_
          refine zz_icmp_eq (tgt := 63) hx hb dX7_wander_40 (by decide) ⟨by omega, by omega⟩ (hW5.2.2.1 _ _ _) (fun hc40 => ?_) (fun hc40 => ?_)
          · refine zz_iconst hx hb dX7_wander_63 ?_
            refine zz_istore (lv' := [(4, .int (zi 0)), (3, .int (zi 1)), (0, zr ad 30 ((0 : Nat) : Int)), (1, .int (zi ((a.toNat : Nat) : Int))), (2, .int (zi ((b.toNat : Nat) : Int)))]) hx hb hl dX7_wander_64 (by decide) rfl (fun ls hl => ?_)
            refine zz_aload_n hx hb hl 2 dX7_wander_66 rfl rfl ?_
            refine zz_iload_n hx hb hl 1 dX7_wander_67 rfl rfl ?_
            refine zz_if_ne (tgt := 75) hx hb dX7_wander_68 (by decide) ⟨by decide, by decide⟩ (fun hc68 => ?_) (fun hc68 => ?_)
            · refine zz_iload hx hb hl 0 dX7_wander_75 rfl ?_
              refine zz_if_eq (tgt := 84) hx hb dX7_wander_77 (by decide) ⟨by decide, by decide⟩ (fun hc77 => ?_) (fun hc77 => ?_)
              · refine zz_iconst hx hb dX7_wander_84 ?_
                refine zz_callV (T := TX7) (N := 42) (As := [.int (zi 2)]) (rest := []) (v := ((0 : Nat) : Int)) (κ := 30) ⟨hx, hb, hml, hown, hts⟩ (c_X7_refused l G ad A N0 σ hM (2) ⟨by decide, by decide⟩) (cwV 1 hts gX7_wander_X7_refused rfl rfl rfl (by decide +kernel) ⟨Nat.le_of_ble_eq_true rfl, Nat.le_of_ble_eq_true rfl⟩) hK hW5 (zlN (hM 30 rfl)) rfl rfl (Nat.le_trans hsz hS5.1) hS5 rfl hl.1.1 rfl (Nat.le_of_ble_eq_true rfl) dX7_wander_85 ⟨Nat.le_of_ble_eq_true rfl, Nat.le_of_ble_eq_true rfl⟩ (fun x7 σ7 H7 locs7 hp7 hW7 hz7 hS7 => ?_)
                have hs7 : σ7 = zu σ 30 0 0 (2) := hp7.1.symm
                obtain rfl := hp7.2
                refine W.eq (g2 := F0 m 88 ls [.int (zi (zb ((2 : Int) ≠ 0)))]) rfl ?_
                refine zz_if_eqb (tgt := 93) hx hb dX7_wander_88 (by decide) (fun hc88 => ?_) (fun hc88 => ?_)
                · exact absurd (by decide) hc88
                · refine zz_iconst hx hb dX7_wander_91 ?_
                  refine W.eq (g2 := F0 m 92 ls [.int (zi 0)]) rfl ?_
                  refine zz_reti hx hb hr hlocks hW7 hS7 ?_ dX7_wander_92
                  exact Or.inr (Or.inl ⟨⟨hc5, hc12⟩, (fun q9 => by first | exact hc30 q9.1 | exact q9.2.1 (by omega) | (have := q9.2.2; omega)), rfl, by rw [hs7]⟩)
              · exact absurd rfl hc77
            · exact absurd hc68 (by decide)
          · refine zz_aload_n hx hb hl 1 dX7_wander_43 rfl rfl ?_
            refine zz_aload_n hx hb hl 1 dX7_wander_44 rfl rfl ?_
            refine zz_get (T := TX7) (N := 42) (k := 9) (κ := 30) (w := zr ad 49 ((0 : Nat) : Int)) hx hb hts hinX7 hown hK hW5 (zlN (hM 30 rfl)) rfl rfl rfl (by decide) (hts (.fieldLink RX7 26 "HailCityModel" "place" "[I") (by decide +kernel)) (fun _ h9 => h9) rfl dX7_wander_45 ?_
            refine zz_iload_n hx hb hl 2 dX7_wander_48 rfl rfl ?_
            refine zz_iald (w := (((σ 49 0 a.toNat).toNat : Nat) : Int)) hx hb hK hW5 (zlN (hM 49 rfl)) rfl rfl rfl (by show (0 : Int) ≤ ((a.toNat : Nat) : Int); omega) (by show ((a.toNat : Nat) : Int) < (8 : Int); omega) (show σ 49 0 a.toNat = (((σ 49 0 a.toNat).toNat : Nat) : Int) from by omega) dX7_wander_49 ?_
            refine zz_iload_n hx hb hl 3 dX7_wander_50 rfl rfl ?_
            refine zz_callV (T := TX7) (N := 42) (As := [.int (zi (((σ 49 0 a.toNat).toNat : Nat) : Int)), .int (zi ((b.toNat : Nat) : Int))]) (rest := []) (v := ((0 : Nat) : Int)) (κ := 30) ⟨hx, hb, hml, hown, hts⟩ (c_X7_wayOf l G ad A N0 σ hM (σ 49 0 a.toNat).toNat b.toNat (by omega) (by omega)) (cwV 2 hts gX7_wander_X7_wayOf rfl rfl rfl (by decide +kernel) ⟨Nat.le_of_ble_eq_true rfl, Nat.le_of_ble_eq_true rfl⟩) hK hW5 (zlN (hM 30 rfl)) rfl rfl (Nat.le_trans hsz hS5.1) hS5 rfl hl.1.1 rfl (Nat.le_of_ble_eq_true rfl) dX7_wander_51 ⟨Nat.le_of_ble_eq_true rfl, Nat.le_of_ble_eq_true rfl⟩ (fun x8 σ8 H8 locs8 hp8 hW8 hz8 hS8 => ?_)
            obtain ⟨rfl, rfl⟩ := hp8
            refine W.eq (g2 := F0 m 54 ls [.int (zi (σ 47 0 (10 * (σ 49 0 a.toNat).toNat + b.toNat)))]) rfl ?_
            refine zz_ldc (n := 100000) (v := 100000) hx hb hown (hts (.constant RX7 133 (100000)) (by decide +kernel)) (by decide +kernel) dX7_wander_54 ?_
            refine zz_icmp_ge (tgt := 63) hx hb dX7_wander_56 (by decide) ⟨by omega, by omega⟩ ⟨by decide, by decide⟩ (fun hc56 => ?_) (fun hc56 => ?_)
            · refine zz_iconst hx hb dX7_wander_63 ?_
              refine zz_istore (lv' := [(4, .int (zi 0)), (3, .int (zi 1)), (0, zr ad 30 ((0 : Nat) : Int)), (1, .int (zi ((a.toNat : Nat) : Int))), (2, .int (zi ((b.toNat : Nat) : Int)))]) hx hb hl dX7_wander_64 (by decide) rfl (fun ls hl => ?_)
              refine zz_aload_n hx hb hl 2 dX7_wander_66 rfl rfl ?_
              refine zz_iload_n hx hb hl 1 dX7_wander_67 rfl rfl ?_
              refine zz_if_ne (tgt := 75) hx hb dX7_wander_68 (by decide) ⟨by decide, by decide⟩ (fun hc68 => ?_) (fun hc68 => ?_)
              · refine zz_iload hx hb hl 0 dX7_wander_75 rfl ?_
                refine zz_if_eq (tgt := 84) hx hb dX7_wander_77 (by decide) ⟨by decide, by decide⟩ (fun hc77 => ?_) (fun hc77 => ?_)
                · refine zz_iconst hx hb dX7_wander_84 ?_
                  refine zz_callV (T := TX7) (N := 42) (As := [.int (zi 2)]) (rest := []) (v := ((0 : Nat) : Int)) (κ := 30) ⟨hx, hb, hml, hown, hts⟩ (c_X7_refused l G ad A N0 σ hM (2) ⟨by decide, by decide⟩) (cwV 1 hts gX7_wander_X7_refused rfl rfl rfl (by decide +kernel) ⟨Nat.le_of_ble_eq_true rfl, Nat.le_of_ble_eq_true rfl⟩) hK hW8 (zlN (hM 30 rfl)) rfl rfl (Nat.le_trans hsz hS8.1) hS8 rfl hl.1.1 rfl (Nat.le_of_ble_eq_true rfl) dX7_wander_85 ⟨Nat.le_of_ble_eq_true rfl, Nat.le_of_ble_eq_true rfl⟩ (fun x9 σ9 H9 locs9 hp9 hW9 hz9 hS9 => ?_)
                  have hs9 : σ9 = zu σ 30 0 0 (2) := hp9.1.symm
                  obtain rfl := hp9.2
                  refine W.eq (g2 := F0 m 88 ls [.int (zi (zb ((2 : Int) ≠ 0)))]) rfl ?_
                  refine zz_if_eqb (tgt := 93) hx hb dX7_wander_88 (by decide) (fun hc88 => ?_) (fun hc88 => ?_)
                  · exact absurd (by decide) hc88
                  · refine zz_iconst hx hb dX7_wander_91 ?_
                    refine W.eq (g2 := F0 m 92 ls [.int (zi 0)]) rfl ?_
                    refine zz_reti hx hb hr hlocks hW9 hS9 ?_ dX7_wander_92
                    exact Or.inr (Or.inl ⟨⟨hc5, hc12⟩, (fun q9 => by first | exact hc30 q9.1 | exact q9.2.1 (by omega) | (have := q9.2.2; omega)), rfl, by rw [hs9]⟩)
                · exact absurd rfl hc77
              · exact absurd hc68 (by decide)
            · refine zz_iconst hx hb dX7_wander_59 ?_
              refine zz_goto (tgt := 64) hx hb dX7_wander_60 (by decide) ?_
              refine zz_istore (lv' := [(4, .int (zi 1)), (3, .int (zi 1)), (0, zr ad 30 ((0 : Nat) : Int)), (1, .int (zi ((a.toNat : Nat) : Int))), (2, .int (zi ((b.toNat : Nat) : Int)))]) hx hb hl dX7_wander_64 (by decide) rfl (fun ls hl => ?_)
              refine zz_aload_n hx hb hl 2 dX7_wander_66 rfl rfl ?_
              refine zz_iload_n hx hb hl 1 dX7_wander_67 rfl rfl ?_
              refine zz_if_ne (tgt := 75) hx hb dX7_wander_68 (by decide) ⟨by decide, by decide⟩ (fun hc68 => ?_) (fun hc68 => ?_)
              · refine zz_iload hx hb hl 0 dX7_wander_75 rfl ?_
                refine zz_if_eq (tgt := 84) hx hb dX7_wander_77 (by decide) ⟨by decide, by decide⟩ (fun hc77 => ?_) (fun hc77 => ?_)
                · exact absurd hc77 (by decide)
                · refine zz_iconst hx hb dX7_wander_80 ?_
                  refine zz_goto (tgt := 85) hx hb dX7_wander_81 (by decide) ?_
                  refine zz_callV (T := TX7) (N := 42) (As := [.int (zi 0)]) (rest := []) (v := ((0 : Nat) : Int)) (κ := 30) ⟨hx, hb, hml, hown, hts⟩ (c_X7_refused l G ad A N0 σ hM (0) ⟨by decide, by decide⟩) (cwV 1 hts gX7_wander_X7_refused rfl rfl rfl (by decide +kernel) ⟨Nat.le_of_ble_eq_true rfl, Nat.le_of_ble_eq_true rfl⟩) hK hW8 (zlN (hM 30 rfl)) rfl rfl (Nat.le_trans hsz hS8.1) hS8 rfl hl.1.1 rfl (Nat.le_of_ble_eq_true rfl) dX7_wander_85 ⟨Nat.le_of_ble_eq_true rfl, Nat.le_of_ble_eq_true rfl⟩ (fun x10 σ10 H10 locs10 hp10 hW10 hz10 hS10 => ?_)
                  have hs10 : σ10 = zu σ 30 0 0 (0) := hp10.1.symm
                  obtain rfl := hp10.2
                  refine W.eq (g2 := F0 m 88 ls [.int (zi (zb ((0 : Int) ≠ 0)))]) rfl ?_
                  refine zz_if_eqb (tgt := 93) hx hb dX7_wander_88 (by decide) (fun hc88 => ?_) (fun hc88 => ?_)
                  · refine zz_aload_n hx hb hl 2 dX7_wander_93 rfl rfl ?_
                    refine zz_iload_n hx hb hl 3 dX7_wander_94 rfl rfl ?_
                    refine zz_iload_n hx hb hl 4 dX7_wander_95 rfl rfl ?_
                    refine zz_iconst hx hb dX7_wander_96 ?_
                    refine zz_callV (T := TX7) (N := 42) (As := [.int (zi ((a.toNat : Nat) : Int)), .int (zi ((b.toNat : Nat) : Int)), .int (zi (-1))]) (rest := []) (v := ((0 : Nat) : Int)) (κ := 30) ⟨hx, hb, hml, hown, hts⟩ (c_X7_add l G ad A N0 σ10 hM a.toNat (by omega) 0 (by rw [hs10, zu_ne (by omega)]; exact hc30.1) (by decide) ((b.toNat : Nat) : Int) (-1) ⟨by omega, by omega⟩ ⟨by decide, by decide⟩) (cwV 3 hts gX7_wander_X7_add rfl rfl rfl (by decide +kernel) ⟨Nat.le_of_ble_eq_true rfl, Nat.le_of_ble_eq_true rfl⟩) hK hW10 (zlN (hM 30 rfl)) rfl rfl (Nat.le_trans hsz hS10.1) hS10 rfl hl.1.1 rfl (Nat.le_of_ble_eq_true rfl) dX7_wander_97 ⟨Nat.le_of_ble_eq_true rfl, Nat.le_of_ble_eq_true rfl⟩ (fun x11 σ11 H11 locs11 hp11 hW11 hz11 hS11 => ?_)
                    have hwd : σ11 = ywd σ a.toNat b := by
                      rw [← hp11, hs10, ← eb]
                      rfl
                    refine W.eq (g2 := F0 m 100 ls []) rfl ?_
                    refine zz_aload_n hx hb hl 2 dX7_wander_100 rfl rfl ?_
                    refine zz_iload_n hx hb hl 3 dX7_wander_101 rfl rfl ?_
                    refine zz_callV (T := TX7) (N := 42) (As := [.int (zi ((a.toNat : Nat) : Int))]) (rest := []) (v := ((0 : Nat) : Int)) (κ := 30) ⟨hx, hb, hml, hown, hts⟩ (c_X7_leaves l G ad A N0 σ11 hM a.toNat (by omega) 1 (by rw [hwd]; exact yMok_wd hc12 hpl hww hnow (hdn _ (by omega)) (her _ (by omega))) (by rw [hwd]; unfold ywd; rw [zu_ne (by omega), zu_ne (by omega), zu_ne (by omega), zu_ne (by omega)]; exact hgo)) (cwV 1 hts gX7_wander_X7_leaves rfl rfl rfl (by decide +kernel) ⟨Nat.le_of_ble_eq_true rfl, Nat.le_of_ble_eq_true rfl⟩) hK hW11 (zlN (hM 30 rfl)) rfl rfl (Nat.le_trans hsz hS11.1) hS11 rfl hl.1.1 rfl (Nat.le_of_ble_eq_true rfl) dX7_wander_102 ⟨Nat.le_of_ble_eq_true rfl, Nat.le_of_ble_eq_true rfl⟩ (fun x12 σ12 H12 locs12 hp12 hW12 hz12 hS12 => ?_)
                    rw [hwd] at hp12
                    refine W.eq (g2 := F0 m 105 ls []) rfl ?_
                    refine zz_aload_n hx hb hl 2 dX7_wander_105 rfl rfl ?_
                    refine zz_get (T := TX7) (N := 42) (k := 15) (κ := 30) (w := zr ad 55 ((0 : Nat) : Int)) hx hb hts hinX7 hown hK hW12 (zlN (hM 30 rfl)) rfl rfl rfl (by decide) (hts (.fieldLink RX7 45 "HailCityModel" "reached" "[I") (by decide +kernel)) (fun _ h9 => h9) rfl dX7_wander_106 ?_
                    refine zz_iload_n hx hb hl 3 dX7_wander_109 rfl rfl ?_
                    refine zz_iald (w := σ12 55 0 a.toNat) hx hb hK hW12 (zlN (hM 55 rfl)) rfl rfl rfl (by show (0 : Int) ≤ ((a.toNat : Nat) : Int); omega) (by show ((a.toNat : Nat) : Int) < (8 : Int); omega) rfl dX7_wander_110 ?_
                    refine W.eq (g2 := F0 m 111 ls [.int (zi (σ12 55 0 a.toNat))]) rfl ?_
                    refine zz_reti hx hb hr hlocks hW12 hS12 ?_ dX7_wander_111
                    exact Or.inr (Or.inr ⟨⟨hc5, hc12⟩, ⟨hc30, by omega, by omega⟩, rfl, hp12⟩)
                  · exact absurd rfl hc88
              · exact absurd hc68 (by decide)

set_option maxHeartbeats 4000000 in
set_option maxRecDepth 100000 in
theorem c_X7_stop (l : Launch) (G : zG) (ad : zA) (A : Nat → Prop) (N0 : Nat) (σ : zS) (hM : zMm ad) (a b x : Int) (ga : zg a) (gb : zg b) (hx01 : x = 0 ∨ x = 1) (hn : 0 ≤ σ 30 0 8 ∧ σ 30 0 8 ≤ 8) (h529 : ∀ d : Nat, (d : Int) < σ 30 0 8 → 0 ≤ σ 52 0 d ∧ σ 52 0 d ≤ 8) : Met l yX7_stop wsX7_stop ({ frames := 2, cells := 0, slots := 0, locals := 43 }) (zP G ad A N0 σ [zr ad 30 ((0 : Nat) : Int), .int (zi a), .int (zi b), .int (zi x)]) (zQ G ad A zri (fun r u => (¬ ((0 ≤ a ∧ a ≤ σ 30 0 8 - 1) ∧ 0 ≤ b) ∧ 0 = r ∧ u = zu σ 30 0 0 1) ∨ (((0 ≤ a ∧ a ≤ σ 30 0 8 - 1) ∧ 0 ≤ b) ∧ (if b < σ 52 0 a.toNat then (if x = 0 then σ 53 0 (8 * a.toNat + b.toNat) else σ 54 0 (8 * a.toNat + b.toNat)) else -1) = r ∧ u = zu σ 30 0 0 0))) 0 0 A := by
  refine zz_of (cc := cX7_stop) (maxL := 4) (ret := (some .int)) (by decide) rfl ⟨rfl, rfl⟩ (List.forall_mem_cons.mpr ⟨zr_cat _ _ _, List.forall_mem_cons.mpr ⟨rfl, List.forall_mem_cons.mpr ⟨rfl, List.forall_mem_cons.mpr ⟨rfl, fun _ h => absurd h List.not_mem_nil⟩⟩⟩⟩) (Nat.le_of_ble_eq_true rfl) ?_
  intro p e s m below meth c hx hb hr hml hts hown hlocks hsz hW0 hK ls hl
  have hS0 : va_S A s.heap s.heap [] := va_S.rf
  have hl : zh ls 4 [(0, zr ad 30 ((0 : Nat) : Int)), (1, .int (zi a)), (2, .int (zi b)), (3, .int (zi x))] := hl
  have hinX7 : ∀ w ∈ u_ws RX7 TX7 42, w ∈ wsX7_stop := by decide +kernel
  refine zz_aload_n hx hb hl 0 dX7_stop_0 rfl rfl ?_
  refine zz_aload_n hx hb hl 0 dX7_stop_1 rfl rfl ?_
  refine zz_iload_n hx hb hl 1 dX7_stop_2 rfl rfl ?_
  refine zz_callV (T := TX7) (N := 42) (As := [.int (zi a)]) (rest := [zr ad 30 ((0 : Nat) : Int)]) (v := ((0 : Nat) : Int)) (κ := 30) ⟨hx, hb, hml, hown, hts⟩ (c_X7_isDriver l G ad A N0 σ hM a ga hn) (cwV 1 hts gX7_stop_X7_isDriver rfl rfl rfl (by decide +kernel) ⟨Nat.le_of_ble_eq_true rfl, Nat.le_of_ble_eq_true rfl⟩) hK hW0 (zlN (hM 30 rfl)) rfl rfl (Nat.le_trans hsz hS0.1) hS0 rfl hl.1.1 rfl (by simp [zr_cat, zcat_i]) dX7_stop_3 ⟨Nat.le_of_ble_eq_true rfl, Nat.le_of_ble_eq_true rfl⟩ (fun x1 σ1 H1 locs1 hp1 hW1 hz1 hS1 => ?_)
  obtain ⟨rfl, rfl⟩ := hp1
  refine W.eq (g2 := F0 m 6 ls [.int (zi (zb (0 ≤ a ∧ a ≤ σ 30 0 8 - 1))), zr ad 30 ((0 : Nat) : Int)]) rfl ?_
  refine zz_if_eqb (tgt := 17) hx hb dX7_stop_6 (by decide) (fun hc6 => ?_) (fun hc6 => ?_)
  · refine zz_iconst hx hb dX7_stop_17 ?_
    refine zz_callV (T := TX7) (N := 42) (As := [.int (zi 1)]) (rest := []) (v := ((0 : Nat) : Int)) (κ := 30) ⟨hx, hb, hml, hown, hts⟩ (c_X7_refused l G ad A N0 σ hM (1) ⟨by decide, by decide⟩) (cwV 1 hts gX7_stop_X7_refused rfl rfl rfl (by decide +kernel) ⟨Nat.le_of_ble_eq_true rfl, Nat.le_of_ble_eq_true rfl⟩) hK hW1 (zlN (hM 30 rfl)) rfl rfl (Nat.le_trans hsz hS1.1) hS1 rfl hl.1.1 rfl (Nat.le_of_ble_eq_true rfl) dX7_stop_18 ⟨Nat.le_of_ble_eq_true rfl, Nat.le_of_ble_eq_true rfl⟩ (fun x2 σ2 H2 locs2 hp2 hW2 hz2 hS2 => ?_)
    have hs2 : σ2 = zu σ 30 0 0 (1) := hp2.1.symm
    obtain rfl := hp2.2
    refine W.eq (g2 := F0 m 21 ls [.int (zi (zb ((1 : Int) ≠ 0)))]) rfl ?_
    refine zz_if_eqb (tgt := 26) hx hb dX7_stop_21 (by decide) (fun hc21 => ?_) (fun hc21 => ?_)
    · exact absurd (by decide) hc21
    · refine zz_iconst hx hb dX7_stop_24 ?_
      refine W.eq (g2 := F0 m 25 ls [.int (zi 0)]) rfl ?_
      refine zz_reti hx hb hr hlocks hW2 hS2 ?_ dX7_stop_25
      exact Or.inl ⟨fun q9 => by first | exact hc6 q9.1 | (have := q9.2; omega), rfl, by rw [hs2]⟩
  · refine zz_iload_n hx hb hl 2 dX7_stop_9 rfl rfl ?_
    refine zz_if_lt (tgt := 17) hx hb dX7_stop_10 (by decide) gb (fun hc10 => ?_) (fun hc10 => ?_)
    · refine zz_iconst hx hb dX7_stop_17 ?_
      refine zz_callV (T := TX7) (N := 42) (As := [.int (zi 1)]) (rest := []) (v := ((0 : Nat) : Int)) (κ := 30) ⟨hx, hb, hml, hown, hts⟩ (c_X7_refused l G ad A N0 σ hM (1) ⟨by decide, by decide⟩) (cwV 1 hts gX7_stop_X7_refused rfl rfl rfl (by decide +kernel) ⟨Nat.le_of_ble_eq_true rfl, Nat.le_of_ble_eq_true rfl⟩) hK hW1 (zlN (hM 30 rfl)) rfl rfl (Nat.le_trans hsz hS1.1) hS1 rfl hl.1.1 rfl (Nat.le_of_ble_eq_true rfl) dX7_stop_18 ⟨Nat.le_of_ble_eq_true rfl, Nat.le_of_ble_eq_true rfl⟩ (fun x3 σ3 H3 locs3 hp3 hW3 hz3 hS3 => ?_)
      have hs3 : σ3 = zu σ 30 0 0 (1) := hp3.1.symm
      obtain rfl := hp3.2
      refine W.eq (g2 := F0 m 21 ls [.int (zi (zb ((1 : Int) ≠ 0)))]) rfl ?_
      refine zz_if_eqb (tgt := 26) hx hb dX7_stop_21 (by decide) (fun hc21 => ?_) (fun hc21 => ?_)
      · exact absurd (by decide) hc21
      · refine zz_iconst hx hb dX7_stop_24 ?_
        refine W.eq (g2 := F0 m 25 ls [.int (zi 0)]) rfl ?_
        refine zz_reti hx hb hr hlocks hW3 hS3 ?_ dX7_stop_25
        exact Or.inl ⟨fun q9 => by first | exact hc6 q9.1 | (have := q9.2; omega), rfl, by rw [hs3]⟩
    · refine zz_iconst hx hb dX7_stop_13 ?_
      refine zz_goto (tgt := 18) hx hb dX7_stop_14 (by decide) ?_
      refine zz_callV (T := TX7) (N := 42) (As := [.int (zi 0)]) (rest := []) (v := ((0 : Nat) : Int)) (κ := 30) ⟨hx, hb, hml, hown, hts⟩ (c_X7_refused l G ad A N0 σ hM (0) ⟨by decide, by decide⟩) (cwV 1 hts gX7_stop_X7_refused rfl rfl rfl (by decide +kernel) ⟨Nat.le_of_ble_eq_true rfl, Nat.le_of_ble_eq_true rfl⟩) hK hW1 (zlN (hM 30 rfl)) rfl rfl (Nat.le_trans hsz hS1.1) hS1 rfl hl.1.1 rfl (Nat.le_of_ble_eq_true rfl) dX7_stop_18 ⟨Nat.le_of_ble_eq_true rfl, Nat.le_of_ble_eq_true rfl⟩ (fun x4 σ4 H4 locs4 hp4 hW4 hz4 hS4 => ?_)
      have hs4 : σ4 = zu σ 30 0 0 (0) := hp4.1.symm
      obtain rfl := hp4.2
      refine W.eq (g2 := F0 m 21 ls [.int (zi (zb ((0 : Int) ≠ 0)))]) rfl ?_
      refine zz_if_eqb (tgt := 26) hx hb dX7_stop_21 (by decide) (fun hc21 => ?_) (fun hc21 => ?_)
      · have ea : (a : Int) = ((a.toNat : Nat) : Int) := by omega
        have eb : (b : Int) = ((b.toNat : Nat) : Int) := by omega
        have h52 := h529 a.toNat (by omega)
        have gb2 := gb.2
        have hl : zh ls 4 [(0, zr ad 30 ((0 : Nat) : Int)), (1, .int (zi ((a.toNat : Nat) : Int))), (2, .int (zi ((b.toNat : Nat) : Int))), (3, .int (zi x))] := by
          rw [← ea, ← eb]
          exact hl
        refine zz_iload_n hx hb hl 2 dX7_stop_26 rfl rfl ?_
        refine zz_aload_n hx hb hl 0 dX7_stop_27 rfl rfl ?_
        refine zz_get (T := TX7) (N := 42) (k := 12) (κ := 30) (w := zr ad 52 ((0 : Nat) : Int)) hx hb hts hinX7 hown hK hW4 (zlN (hM 30 rfl)) rfl rfl rfl (by decide) (hts (.fieldLink RX7 36 "HailCityModel" "stops" "[I") (by decide +kernel)) (fun _ h9 => h9) rfl dX7_stop_28 ?_
        refine zz_iload_n hx hb hl 1 dX7_stop_31 rfl rfl ?_
        refine zz_iald (w := σ 52 0 a.toNat) hx hb hK hW4 (zlN (hM 52 rfl)) rfl rfl rfl (by show (0 : Int) ≤ ((a.toNat : Nat) : Int); omega) (by show ((a.toNat : Nat) : Int) < (8 : Int); omega) (show σ4 52 0 a.toNat = σ 52 0 a.toNat from by rw [hs4, zu_k (by decide)]) dX7_stop_32 ?_
        refine zz_icmp_lt (tgt := 40) hx hb dX7_stop_33 (by decide) ⟨by omega, by omega⟩ (hW1.2.2.1 _ _ _) (fun hc33 => ?_) (fun hc33 => ?_)
        · refine zz_iload_n hx hb hl 3 dX7_stop_40 rfl rfl ?_
          refine zz_if_eq (tgt := 58) hx hb dX7_stop_41 (by decide) (zg_01 hx01) (fun hc41 => ?_) (fun hc41 => ?_)
          · refine zz_aload_n hx hb hl 0 dX7_stop_58 rfl rfl ?_
            refine zz_get (T := TX7) (N := 42) (k := 13) (κ := 30) (w := zr ad 53 ((0 : Nat) : Int)) hx hb hts hinX7 hown hK hW4 (zlN (hM 30 rfl)) rfl rfl rfl (by decide) (hts (.fieldLink RX7 39 "HailCityModel" "stopAt" "[I") (by decide +kernel)) (fun _ h9 => h9) rfl dX7_stop_59 ?_
            refine zz_bipush hx hb dX7_stop_62 (by decide +kernel) ?_
            refine zz_iload_n hx hb hl 1 dX7_stop_64 rfl rfl ?_
            refine zz_imul hx hb dX7_stop_65 ?_
            refine zz_iload_n hx hb hl 2 dX7_stop_66 rfl rfl ?_
            refine zz_iadd hx hb dX7_stop_67 ?_
            refine zz_iald (w := σ 53 0 ((8 * a.toNat) + b.toNat)) hx hb hK hW4 (zlN (hM 53 rfl)) rfl rfl rfl (by show (0 : Int) ≤ (((8 * a.toNat) + b.toNat : Nat) : Int); omega) (by show (((8 * a.toNat) + b.toNat : Nat) : Int) < (64 : Int); omega) (show σ4 53 0 ((8 * a.toNat) + b.toNat) = σ 53 0 ((8 * a.toNat) + b.toNat) from by rw [hs4, zu_k (by decide)]) dX7_stop_68 ?_
            refine W.eq (g2 := F0 m 69 ls [.int (zi (σ 53 0 ((8 * a.toNat) + b.toNat)))]) rfl ?_
            refine zz_reti hx hb hr hlocks hW4 hS4 ?_ dX7_stop_69
            refine Or.inr ⟨⟨hc6, by omega⟩, ?_, by rw [hs4]⟩
            rw [if_pos (by omega), if_pos hc41]
          · refine zz_aload_n hx hb hl 0 dX7_stop_44 rfl rfl ?_
            refine zz_get (T := TX7) (N := 42) (k := 14) (κ := 30) (w := zr ad 54 ((0 : Nat) : Int)) hx hb hts hinX7 hown hK hW4 (zlN (hM 30 rfl)) rfl rfl rfl (by decide) (hts (.fieldLink RX7 42 "HailCityModel" "stopWhom" "[I") (by decide +kernel)) (fun _ h9 => h9) rfl dX7_stop_45 ?_
            refine zz_bipush hx hb dX7_stop_48 (by decide +kernel) ?_
            refine zz_iload_n hx hb hl 1 dX7_stop_50 rfl rfl ?_
            refine zz_imul hx hb dX7_stop_51 ?_
            refine zz_iload_n hx hb hl 2 dX7_stop_52 rfl rfl ?_
            refine zz_iadd hx hb dX7_stop_53 ?_
            refine zz_iald (w := σ 54 0 ((8 * a.toNat) + b.toNat)) hx hb hK hW4 (zlN (hM 54 rfl)) rfl rfl rfl (by show (0 : Int) ≤ (((8 * a.toNat) + b.toNat : Nat) : Int); omega) (by show (((8 * a.toNat) + b.toNat : Nat) : Int) < (64 : Int); omega) (show σ4 54 0 ((8 * a.toNat) + b.toNat) = σ 54 0 ((8 * a.toNat) + b.toNat) from by rw [hs4, zu_k (by decide)]) dX7_stop_54 ?_
            refine zz_goto (tgt := 69) hx hb dX7_stop_55 (by decide) ?_
            refine W.eq (g2 := F0 m 69 ls [.int (zi (σ 54 0 ((8 * a.toNat) + b.toNat)))]) rfl ?_
            refine zz_reti hx hb hr hlocks hW4 hS4 ?_ dX7_stop_69
            refine Or.inr ⟨⟨hc6, by omega⟩, ?_, by rw [hs4]⟩
            rw [if_pos (by omega), if_neg hc41]
        · refine zz_iconst hx hb dX7_stop_36 ?_
          refine zz_goto (tgt := 69) hx hb dX7_stop_37 (by decide) ?_
          refine W.eq (g2 := F0 m 69 ls [.int (zi (-1))]) rfl ?_
          refine zz_reti hx hb hr hlocks hW4 hS4 ?_ dX7_stop_69
          refine Or.inr ⟨⟨hc6, by omega⟩, ?_, by rw [hs4]⟩
          exact if_neg (by omega)
      · exact absurd rfl hc21

noncomputable def yri (σ : zS) (q : Nat) (w : Int) : Int := if w = 0 then σ 64 0 q else if w = 1 then σ 69 0 q else if w = 2 then σ 70 0 q else if w = 3 then σ 71 0 q else if w = 4 then σ 72 0 q else if w = 5 then zb (σ 71 0 q < σ 72 0 q) else σ 67 0 q

set_option maxHeartbeats 4000000 in
set_option maxRecDepth 100000 in
theorem c_X7_requestIs (l : Launch) (G : zG) (ad : zA) (A : Nat → Prop) (N0 : Nat) (σ : zS) (hM : zMm ad) (a w : Int) (ga : zg a) (gw : zg w) (hn : 0 ≤ σ 30 0 23 ∧ σ 30 0 23 ≤ 60) : Met l yX7_requestIs wsX7_requestIs ({ frames := 2, cells := 0, slots := 0, locals := 43 }) (zP G ad A N0 σ [zr ad 30 ((0 : Nat) : Int), .int (zi a), .int (zi w)]) (zQ G ad A zri (fun r u => (¬ (0 ≤ a ∧ a ≤ σ 30 0 23 - 1) ∧ 0 = r ∧ u = zu σ 30 0 0 1) ∨ ((0 ≤ a ∧ a ≤ σ 30 0 23 - 1) ∧ ¬ (0 ≤ w ∧ w ≤ 6) ∧ 0 = r ∧ u = zu σ 30 0 0 2) ∨ ((0 ≤ a ∧ a ≤ σ 30 0 23 - 1) ∧ (0 ≤ w ∧ w ≤ 6) ∧ yri σ a.toNat w = r ∧ u = zu σ 30 0 0 0))) 0 0 A := by
  refine zz_of (cc := cX7_requestIs) (maxL := 3) (ret := (some .int)) (by decide) rfl ⟨rfl, rfl⟩ (List.forall_mem_cons.mpr ⟨zr_cat _ _ _, List.forall_mem_cons.mpr ⟨rfl, List.forall_mem_cons.mpr ⟨rfl, fun _ h => absurd h List.not_mem_nil⟩⟩⟩) (Nat.le_of_ble_eq_true rfl) ?_
  intro p e s m below meth c hx hb hr hml hts hown hlocks hsz hW0 hK ls hl
  have hS0 : va_S A s.heap s.heap [] := va_S.rf
  have hl : zh ls 3 [(0, zr ad 30 ((0 : Nat) : Int)), (1, .int (zi a)), (2, .int (zi w))] := hl
  have hinX7 : ∀ w ∈ u_ws RX7 TX7 42, w ∈ wsX7_requestIs := by decide +kernel
  refine zz_aload_n hx hb hl 0 dX7_requestIs_0 rfl rfl ?_
  refine zz_aload_n hx hb hl 0 dX7_requestIs_1 rfl rfl ?_
  refine zz_iload_n hx hb hl 1 dX7_requestIs_2 rfl rfl ?_
  refine zz_callV (T := TX7) (N := 42) (As := [.int (zi a)]) (rest := [zr ad 30 ((0 : Nat) : Int)]) (v := ((0 : Nat) : Int)) (κ := 30) ⟨hx, hb, hml, hown, hts⟩ (c_X7_isRequest l G ad A N0 σ hM a ga hn) (cwV 1 hts gX7_requestIs_X7_isRequest rfl rfl rfl (by decide +kernel) ⟨Nat.le_of_ble_eq_true rfl, Nat.le_of_ble_eq_true rfl⟩) hK hW0 (zlN (hM 30 rfl)) rfl rfl (Nat.le_trans hsz hS0.1) hS0 rfl hl.1.1 rfl (by simp [zr_cat, zcat_i]) dX7_requestIs_3 ⟨Nat.le_of_ble_eq_true rfl, Nat.le_of_ble_eq_true rfl⟩ (fun x1 σ1 H1 locs1 hp1 hW1 hz1 hS1 => ?_)
  obtain ⟨rfl, rfl⟩ := hp1
  refine W.eq (g2 := F0 m 6 ls [.int (zi (zb (0 ≤ a ∧ a ≤ σ 30 0 23 - 1))), zr ad 30 ((0 : Nat) : Int)]) rfl ?_
  refine zz_if_neb (tgt := 13) hx hb dX7_requestIs_6 (by decide) (fun hc6 => ?_) (fun hc6 => ?_)
  · refine zz_iload_n hx hb hl 2 dX7_requestIs_13 rfl rfl ?_
    refine zz_iconst hx hb dX7_requestIs_14 ?_
    refine zz_bipush hx hb dX7_requestIs_15 (by decide +kernel) ?_
    refine zz_callS (As := [.int (zi w), .int (zi 0), .int (zi 6)]) (rest := [zr ad 30 ((0 : Nat) : Int)]) ⟨hx, hb, hml, hown, hts⟩ (c_X7_in l G ad A N0 σ w 0 6 gw ⟨by decide, by decide⟩ ⟨by decide, by decide⟩) (va_cwS 3 hts gX7_requestIs_X7_in rfl rfl rfl (by decide +kernel) ⟨Nat.le_of_ble_eq_true rfl, Nat.le_of_ble_eq_true rfl⟩) hK hW1 (Nat.le_trans hsz hS1.1) hS1 rfl hl.1.1 rfl (by simp [zr_cat, zcat_i]) dX7_requestIs_17 ⟨Nat.le_of_ble_eq_true rfl, Nat.le_of_ble_eq_true rfl⟩ (fun x2 σ2 H2 locs2 hp2 hW2 hz2 hS2 => ?_)
    obtain ⟨rfl, rfl⟩ := hp2
    refine W.eq (g2 := F0 m 20 ls [.int (zi (zb (0 ≤ w ∧ w ≤ 6))), zr ad 30 ((0 : Nat) : Int)]) rfl ?_
    refine zz_if_neb (tgt := 27) hx hb dX7_requestIs_20 (by decide) (fun hc20 => ?_) (fun hc20 => ?_)
    · refine zz_iconst hx hb dX7_requestIs_27 ?_
      refine zz_callV (T := TX7) (N := 42) (As := [.int (zi 0)]) (rest := []) (v := ((0 : Nat) : Int)) (κ := 30) ⟨hx, hb, hml, hown, hts⟩ (c_X7_refused l G ad A N0 σ hM (0) ⟨by decide, by decide⟩) (cwV 1 hts gX7_requestIs_X7_refused rfl rfl rfl (by decide +kernel) ⟨Nat.le_of_ble_eq_true rfl, Nat.le_of_ble_eq_true rfl⟩) hK hW2 (zlN (hM 30 rfl)) rfl rfl (Nat.le_trans hsz hS2.1) hS2 rfl hl.1.1 rfl (Nat.le_of_ble_eq_true rfl) dX7_requestIs_28 ⟨Nat.le_of_ble_eq_true rfl, Nat.le_of_ble_eq_true rfl⟩ (fun x3 σ3 H3 locs3 hp3 hW3 hz3 hS3 => ?_)
      have hs3 : σ3 = zu σ 30 0 0 (0) := hp3.1.symm
      obtain rfl := hp3.2
      refine W.eq (g2 := F0 m 31 ls [.int (zi (zb ((0 : Int) ≠ 0)))]) rfl ?_
      refine zz_if_eqb (tgt := 36) hx hb dX7_requestIs_31 (by decide) (fun hc31 => ?_) (fun hc31 => ?_)
      · have ea : (a : Int) = ((a.toNat : Nat) : Int) := by omega
        have hl : zh ls 3 [(0, zr ad 30 ((0 : Nat) : Int)), (1, .int (zi ((a.toNat : Nat) : Int))), (2, .int (zi w))] := by
          rw [← ea]
          exact hl
        refine zz_iload_n hx hb hl 2 dX7_requestIs_36 rfl rfl ?_
        by_cases hw37_0 : w = 0
        · refine W.eq (g2 := F0 m 37 ls [.int (zi 0)]) (by rw [hw37_0]) ?_
          refine lv_tableIn (x := zi 0) (off := 39) (tgt := 76) hx hb dX7_requestIs_37 (by decide +kernel) (by decide +kernel) (by decide +kernel) (by decide) ?_
          refine zz_aload_n hx hb hl 0 dX7_requestIs_76 rfl rfl ?_
          refine zz_get (T := TX7) (N := 42) (k := 24) (κ := 30) (w := zr ad 64 ((0 : Nat) : Int)) hx hb hts hinX7 hown hK hW3 (zlN (hM 30 rfl)) rfl rfl rfl (by decide) (hts (.fieldLink RX7 66 "HailCityModel" "state" "[I") (by decide +kernel)) (fun _ h9 => h9) rfl dX7_requestIs_77 ?_
          refine zz_iload_n hx hb hl 1 dX7_requestIs_80 rfl rfl ?_
          refine zz_iald (w := σ 64 0 a.toNat) hx hb hK hW3 (zlN (hM 64 rfl)) rfl rfl rfl (by show (0 : Int) ≤ ((a.toNat : Nat) : Int); omega) (by show ((a.toNat : Nat) : Int) < (60 : Int); omega) (show σ3 64 0 a.toNat = σ 64 0 a.toNat from by rw [hs3, zu_k (by decide)]) dX7_requestIs_81 ?_
          refine W.eq (g2 := F0 m 82 ls [.int (zi (σ 64 0 a.toNat))]) rfl ?_
          refine zz_reti hx hb hr hlocks hW3 hS3 ?_ dX7_requestIs_82
          refine Or.inr (Or.inr ⟨hc6, hc20, ?_, by rw [hs3]⟩)
          unfold yri
          rw [if_pos (by omega)]
        by_cases hw37_1 : w = 1
        · refine W.eq (g2 := F0 m 37 ls [.int (zi 1)]) (by rw [hw37_1]) ?_
          refine lv_tableIn (x := zi 1) (off := 46) (tgt := 83) hx hb dX7_requestIs_37 (by decide +kernel) (by decide +kernel) (by decide +kernel) (by decide) ?_
          refine zz_aload_n hx hb hl 0 dX7_requestIs_83 rfl rfl ?_
          refine zz_get (T := TX7) (N := 42) (k := 29) (κ := 30) (w := zr ad 69 ((0 : Nat) : Int)) hx hb hts hinX7 hown hK hW3 (zlN (hM 30 rfl)) rfl rfl rfl (by decide) (hts (.fieldLink RX7 81 "HailCityModel" "price" "[I") (by decide +kernel)) (fun _ h9 => h9) rfl dX7_requestIs_84 ?_
          refine zz_iload_n hx hb hl 1 dX7_requestIs_87 rfl rfl ?_
          refine zz_iald (w := σ 69 0 a.toNat) hx hb hK hW3 (zlN (hM 69 rfl)) rfl rfl rfl (by show (0 : Int) ≤ ((a.toNat : Nat) : Int); omega) (by show ((a.toNat : Nat) : Int) < (60 : Int); omega) (show σ3 69 0 a.toNat = σ 69 0 a.toNat from by rw [hs3, zu_k (by decide)]) dX7_requestIs_88 ?_
          refine W.eq (g2 := F0 m 89 ls [.int (zi (σ 69 0 a.toNat))]) rfl ?_
          refine zz_reti hx hb hr hlocks hW3 hS3 ?_ dX7_requestIs_89
          refine Or.inr (Or.inr ⟨hc6, hc20, ?_, by rw [hs3]⟩)
          unfold yri
          rw [if_neg (by omega), if_pos (by omega)]
        by_cases hw37_2 : w = 2
        · refine W.eq (g2 := F0 m 37 ls [.int (zi 2)]) (by rw [hw37_2]) ?_
          refine lv_tableIn (x := zi 2) (off := 53) (tgt := 90) hx hb dX7_requestIs_37 (by decide +kernel) (by decide +kernel) (by decide +kernel) (by decide) ?_
          refine zz_aload_n hx hb hl 0 dX7_requestIs_90 rfl rfl ?_
          refine zz_get (T := TX7) (N := 42) (k := 30) (κ := 30) (w := zr ad 70 ((0 : Nat) : Int)) hx hb hts hinX7 hown hK hW3 (zlN (hM 30 rfl)) rfl rfl rfl (by decide) (hts (.fieldLink RX7 84 "HailCityModel" "driverOf" "[I") (by decide +kernel)) (fun _ h9 => h9) rfl dX7_requestIs_91 ?_
          refine zz_iload_n hx hb hl 1 dX7_requestIs_94 rfl rfl ?_
          refine zz_iald (w := σ 70 0 a.toNat) hx hb hK hW3 (zlN (hM 70 rfl)) rfl rfl rfl (by show (0 : Int) ≤ ((a.toNat : Nat) : Int); omega) (by show ((a.toNat : Nat) : Int) < (60 : Int); omega) (show σ3 70 0 a.toNat = σ 70 0 a.toNat from by rw [hs3, zu_k (by decide)]) dX7_requestIs_95 ?_
          refine W.eq (g2 := F0 m 96 ls [.int (zi (σ 70 0 a.toNat))]) rfl ?_
          refine zz_reti hx hb hr hlocks hW3 hS3 ?_ dX7_requestIs_96
          refine Or.inr (Or.inr ⟨hc6, hc20, ?_, by rw [hs3]⟩)
          unfold yri
          rw [if_neg (by omega), if_neg (by omega), if_pos (by omega)]
        by_cases hw37_3 : w = 3
        · refine W.eq (g2 := F0 m 37 ls [.int (zi 3)]) (by rw [hw37_3]) ?_
          refine lv_tableIn (x := zi 3) (off := 60) (tgt := 97) hx hb dX7_requestIs_37 (by decide +kernel) (by decide +kernel) (by decide +kernel) (by decide) ?_
          refine zz_aload_n hx hb hl 0 dX7_requestIs_97 rfl rfl ?_
          refine zz_get (T := TX7) (N := 42) (k := 31) (κ := 30) (w := zr ad 71 ((0 : Nat) : Int)) hx hb hts hinX7 hown hK hW3 (zlN (hM 30 rfl)) rfl rfl rfl (by decide) (hts (.fieldLink RX7 87 "HailCityModel" "promise" "[I") (by decide +kernel)) (fun _ h9 => h9) rfl dX7_requestIs_98 ?_
          refine zz_iload_n hx hb hl 1 dX7_requestIs_101 rfl rfl ?_
          refine zz_iald (w := σ 71 0 a.toNat) hx hb hK hW3 (zlN (hM 71 rfl)) rfl rfl rfl (by show (0 : Int) ≤ ((a.toNat : Nat) : Int); omega) (by show ((a.toNat : Nat) : Int) < (60 : Int); omega) (show σ3 71 0 a.toNat = σ 71 0 a.toNat from by rw [hs3, zu_k (by decide)]) dX7_requestIs_102 ?_
          refine W.eq (g2 := F0 m 103 ls [.int (zi (σ 71 0 a.toNat))]) rfl ?_
          refine zz_reti hx hb hr hlocks hW3 hS3 ?_ dX7_requestIs_103
          refine Or.inr (Or.inr ⟨hc6, hc20, ?_, by rw [hs3]⟩)
          unfold yri
          rw [if_neg (by omega), if_neg (by omega), if_neg (by omega), if_pos (by omega)]
        by_cases hw37_4 : w = 4
        · refine W.eq (g2 := F0 m 37 ls [.int (zi 4)]) (by rw [hw37_4]) ?_
          refine lv_tableIn (x := zi 4) (off := 67) (tgt := 104) hx hb dX7_requestIs_37 (by decide +kernel) (by decide +kernel) (by decide +kernel) (by decide) ?_
          refine zz_aload_n hx hb hl 0 dX7_requestIs_104 rfl rfl ?_
          refine zz_get (T := TX7) (N := 42) (k := 32) (κ := 30) (w := zr ad 72 ((0 : Nat) : Int)) hx hb hts hinX7 hown hK hW3 (zlN (hM 30 rfl)) rfl rfl rfl (by decide) (hts (.fieldLink RX7 90 "HailCityModel" "letOut" "[I") (by decide +kernel)) (fun _ h9 => h9) rfl dX7_requestIs_105 ?_
          refine zz_iload_n hx hb hl 1 dX7_requestIs_108 rfl rfl ?_
          refine zz_iald (w := σ 72 0 a.toNat) hx hb hK hW3 (zlN (hM 72 rfl)) rfl rfl rfl (by show (0 : Int) ≤ ((a.toNat : Nat) : Int); omega) (by show ((a.toNat : Nat) : Int) < (60 : Int); omega) (show σ3 72 0 a.toNat = σ 72 0 a.toNat from by rw [hs3, zu_k (by decide)]) dX7_requestIs_109 ?_
          refine W.eq (g2 := F0 m 110 ls [.int (zi (σ 72 0 a.toNat))]) rfl ?_
          refine zz_reti hx hb hr hlocks hW3 hS3 ?_ dX7_requestIs_110
          refine Or.inr (Or.inr ⟨hc6, hc20, ?_, by rw [hs3]⟩)
          unfold yri
          rw [if_neg (by omega), if_neg (by omega), if_neg (by omega), if_neg (by omega), if_pos (by omega)]
        by_cases hw37_5 : w = 5
        · refine W.eq (g2 := F0 m 37 ls [.int (zi 5)]) (by rw [hw37_5]) ?_
          refine lv_tableIn (x := zi 5) (off := 74) (tgt := 111) hx hb dX7_requestIs_37 (by decide +kernel) (by decide +kernel) (by decide +kernel) (by decide) ?_
          refine zz_aload_n hx hb hl 0 dX7_requestIs_111 rfl rfl ?_
          refine zz_get (T := TX7) (N := 42) (k := 32) (κ := 30) (w := zr ad 72 ((0 : Nat) : Int)) hx hb hts hinX7 hown hK hW3 (zlN (hM 30 rfl)) rfl rfl rfl (by decide) (hts (.fieldLink RX7 90 "HailCityModel" "letOut" "[I") (by decide +kernel)) (fun _ h9 => h9) rfl dX7_requestIs_112 ?_
          refine zz_iload_n hx hb hl 1 dX7_requestIs_115 rfl rfl ?_
          refine zz_iald (w := σ 72 0 a.toNat) hx hb hK hW3 (zlN (hM 72 rfl)) rfl rfl rfl (by show (0 : Int) ≤ ((a.toNat : Nat) : Int); omega) (by show ((a.toNat : Nat) : Int) < (60 : Int); omega) (show σ3 72 0 a.toNat = σ 72 0 a.toNat from by rw [hs3, zu_k (by decide)]) dX7_requestIs_116 ?_
          refine zz_aload_n hx hb hl 0 dX7_requestIs_117 rfl rfl ?_
          refine zz_get (T := TX7) (N := 42) (k := 31) (κ := 30) (w := zr ad 71 ((0 : Nat) : Int)) hx hb hts hinX7 hown hK hW3 (zlN (hM 30 rfl)) rfl rfl rfl (by decide) (hts (.fieldLink RX7 87 "HailCityModel" "promise" "[I") (by decide +kernel)) (fun _ h9 => h9) rfl dX7_requestIs_118 ?_
          refine zz_iload_n hx hb hl 1 dX7_requestIs_121 rfl rfl ?_
          refine zz_iald (w := σ 71 0 a.toNat) hx hb hK hW3 (zlN (hM 71 rfl)) rfl rfl rfl (by show (0 : Int) ≤ ((a.toNat : Nat) : Int); omega) (by show ((a.toNat : Nat) : Int) < (60 : Int); omega) (show σ3 71 0 a.toNat = σ 71 0 a.toNat from by rw [hs3, zu_k (by decide)]) dX7_requestIs_122 ?_
          refine zz_icmp_le (tgt := 130) hx hb dX7_requestIs_123 (by decide) (hW2.2.2.1 _ _ _) (hW2.2.2.1 _ _ _) (fun hc123 => ?_) (fun hc123 => ?_)
          · refine zz_iconst hx hb dX7_requestIs_130 ?_
            refine W.eq (g2 := F0 m 131 ls [.int (zi 0)]) rfl ?_
            refine zz_reti hx hb hr hlocks hW3 hS3 ?_ dX7_requestIs_131
            refine Or.inr (Or.inr ⟨hc6, hc20, ?_, by rw [hs3]⟩)
            unfold yri
            rw [if_neg (by omega), if_neg (by omega), if_neg (by omega), if_neg (by omega), if_neg (by omega), if_pos (by omega)]
            first
              | exact zb_t (by omega)
              | exact zb_f (by omega)
          · refine zz_iconst hx hb dX7_requestIs_126 ?_
            refine zz_goto (tgt := 131) hx hb dX7_requestIs_127 (by decide) ?_
            refine W.eq (g2 := F0 m 131 ls [.int (zi 1)]) rfl ?_
            refine zz_reti hx hb hr hlocks hW3 hS3 ?_ dX7_requestIs_131
            refine Or.inr (Or.inr ⟨hc6, hc20, ?_, by rw [hs3]⟩)
            unfold yri
            rw [if_neg (by omega), if_neg (by omega), if_neg (by omega), if_neg (by omega), if_neg (by omega), if_pos (by omega)]
            first
              | exact zb_t (by omega)
              | exact zb_f (by omega)
        refine lv_tableOut (tgt := 132) hx hb dX7_requestIs_37 (by rw [zi_toInt gw]; omega) (by decide) ?_
        refine zz_aload_n hx hb hl 0 dX7_requestIs_132 rfl rfl ?_
        refine zz_get (T := TX7) (N := 42) (k := 27) (κ := 30) (w := zr ad 67 ((0 : Nat) : Int)) hx hb hts hinX7 hown hK hW3 (zlN (hM 30 rfl)) rfl rfl rfl (by decide) (hts (.fieldLink RX7 75 "HailCityModel" "until" "[I") (by decide +kernel)) (fun _ h9 => h9) rfl dX7_requestIs_133 ?_
        refine zz_iload_n hx hb hl 1 dX7_requestIs_136 rfl rfl ?_
        refine zz_iald (w := σ 67 0 a.toNat) hx hb hK hW3 (zlN (hM 67 rfl)) rfl rfl rfl (by show (0 : Int) ≤ ((a.toNat : Nat) : Int); omega) (by show ((a.toNat : Nat) : Int) < (60 : Int); omega) (show σ3 67 0 a.toNat = σ 67 0 a.toNat from by rw [hs3, zu_k (by decide)]) dX7_requestIs_137 ?_
        refine W.eq (g2 := F0 m 138 ls [.int (zi (σ 67 0 a.toNat))]) rfl ?_
        refine zz_reti hx hb hr hlocks hW3 hS3 ?_ dX7_requestIs_138
        refine Or.inr (Or.inr ⟨hc6, hc20, ?_, by rw [hs3]⟩)
        unfold yri
        rw [if_neg (by omega), if_neg (by omega), if_neg (by omega), if_neg (by omega), if_neg (by omega), if_neg (by omega)]
      · exact absurd rfl hc31
    · refine zz_iconst hx hb dX7_requestIs_23 ?_
      refine zz_goto (tgt := 28) hx hb dX7_requestIs_24 (by decide) ?_
      refine zz_callV (T := TX7) (N := 42) (As := [.int (zi 2)]) (rest := []) (v := ((0 : Nat) : Int)) (κ := 30) ⟨hx, hb, hml, hown, hts⟩ (c_X7_refused l G ad A N0 σ hM (2) ⟨by decide, by decide⟩) (cwV 1 hts gX7_requestIs_X7_refused rfl rfl rfl (by decide +kernel) ⟨Nat.le_of_ble_eq_true rfl, Nat.le_of_ble_eq_true rfl⟩) hK hW2 (zlN (hM 30 rfl)) rfl rfl (Nat.le_trans hsz hS2.1) hS2 rfl hl.1.1 rfl (Nat.le_of_ble_eq_true rfl) dX7_requestIs_28 ⟨Nat.le_of_ble_eq_true rfl, Nat.le_of_ble_eq_true rfl⟩ (fun x4 σ4 H4 locs4 hp4 hW4 hz4 hS4 => ?_)
      have hs4 : σ4 = zu σ 30 0 0 (2) := hp4.1.symm
      obtain rfl := hp4.2
      refine W.eq (g2 := F0 m 31 ls [.int (zi (zb ((2 : Int) ≠ 0)))]) rfl ?_
      refine zz_if_eqb (tgt := 36) hx hb dX7_requestIs_31 (by decide) (fun hc31 => ?_) (fun hc31 => ?_)
      · exact absurd (by decide) hc31
      · refine zz_iconst hx hb dX7_requestIs_34 ?_
        refine W.eq (g2 := F0 m 35 ls [.int (zi 0)]) rfl ?_
        refine zz_reti hx hb hr hlocks hW4 hS4 ?_ dX7_requestIs_35
        exact Or.inr (Or.inl ⟨hc6, hc20, rfl, by rw [hs4]⟩)
  · refine zz_iconst hx hb dX7_requestIs_9 ?_
    refine zz_goto (tgt := 28) hx hb dX7_requestIs_10 (by decide) ?_
    refine zz_callV (T := TX7) (N := 42) (As := [.int (zi 1)]) (rest := []) (v := ((0 : Nat) : Int)) (κ := 30) ⟨hx, hb, hml, hown, hts⟩ (c_X7_refused l G ad A N0 σ hM (1) ⟨by decide, by decide⟩) (cwV 1 hts gX7_requestIs_X7_refused rfl rfl rfl (by decide +kernel) ⟨Nat.le_of_ble_eq_true rfl, Nat.le_of_ble_eq_true rfl⟩) hK hW1 (zlN (hM 30 rfl)) rfl rfl (Nat.le_trans hsz hS1.1) hS1 rfl hl.1.1 rfl (Nat.le_of_ble_eq_true rfl) dX7_requestIs_28 ⟨Nat.le_of_ble_eq_true rfl, Nat.le_of_ble_eq_true rfl⟩ (fun x5 σ5 H5 locs5 hp5 hW5 hz5 hS5 => ?_)
    have hs5 : σ5 = zu σ 30 0 0 (1) := hp5.1.symm
    obtain rfl := hp5.2
    refine W.eq (g2 := F0 m 31 ls [.int (zi (zb ((1 : Int) ≠ 0)))]) rfl ?_
    refine zz_if_eqb (tgt := 36) hx hb dX7_requestIs_31 (by decide) (fun hc31 => ?_) (fun hc31 => ?_)
    · exact absurd (by decide) hc31
    · refine zz_iconst hx hb dX7_requestIs_34 ?_
      refine W.eq (g2 := F0 m 35 ls [.int (zi 0)]) rfl ?_
      refine zz_reti hx hb hr hlocks hW5 hS5 ?_ dX7_requestIs_35
      exact Or.inl ⟨hc6, rfl, by rw [hs5]⟩

noncomputable def ydi (σ : zS) (d : Nat) (w : Int) : Int := if w = 0 then σ 49 0 d else if w = 1 then σ 52 0 d else if w = 2 then (if σ 52 0 d = 0 then -1 else σ 55 0 d) else if w = 3 then zb (ymf σ d) else if w = 4 then yrt σ d else if w = 5 then σ 60 0 d else σ 61 0 d
theorem yrt_z (σ : zS) (x : Int) (d : Nat) : yrt (zu σ 30 0 0 x) d = yrt σ d := by
  have h58 : zu σ 30 0 0 x 58 = σ 58 := funext fun a => funext fun b => zu_ne (by omega)
  have h59 : zu σ 30 0 0 x 59 = σ 59 := funext fun a => funext fun b => zu_ne (by omega)
  unfold yrt
  rw [h58, h59]
theorem ymf_z (σ : zS) (x : Int) (d : Nat) : ymf (zu σ 30 0 0 x) d = ymf σ d := by
  unfold ymf
  rw [zu_ne (by omega), zu_ne (by omega), zu_ne (by omega)]

set_option maxHeartbeats 4000000 in
set_option maxRecDepth 100000 in
theorem c_X7_driverIs (l : Launch) (G : zG) (ad : zA) (A : Nat → Prop) (N0 : Nat) (σ : zS) (hM : zMm ad) (a w : Int) (ga : zg a) (gw : zg w) (hn : 0 ≤ σ 30 0 8 ∧ σ 30 0 8 ≤ 8) (hrt9 : ∀ d : Nat, (d : Int) < σ 30 0 8 → (0 ≤ σ 58 0 d ∧ σ 58 0 d ≤ 1000) ∧ ∀ j, j < 10 → 0 ≤ σ 59 0 (10 * d + j) ∧ σ 59 0 (10 * d + j) ≤ 5) : Met l yX7_driverIs wsX7_driverIs ({ frames := 2, cells := 0, slots := 0, locals := 43 }) (zP G ad A N0 σ [zr ad 30 ((0 : Nat) : Int), .int (zi a), .int (zi w)]) (zQ G ad A zri (fun r u => (¬ (0 ≤ a ∧ a ≤ σ 30 0 8 - 1) ∧ 0 = r ∧ u = zu σ 30 0 0 1) ∨ ((0 ≤ a ∧ a ≤ σ 30 0 8 - 1) ∧ ¬ (0 ≤ w ∧ w ≤ 6) ∧ 0 = r ∧ u = zu σ 30 0 0 2) ∨ ((0 ≤ a ∧ a ≤ σ 30 0 8 - 1) ∧ (0 ≤ w ∧ w ≤ 6) ∧ ydi σ a.toNat w = r ∧ u = zu σ 30 0 0 0))) 0 0 A := by
  refine zz_of (cc := cX7_driverIs) (maxL := 3) (ret := (some .int)) (by decide) rfl ⟨rfl, rfl⟩ (List.forall_mem_cons.mpr ⟨zr_cat _ _ _, List.forall_mem_cons.mpr ⟨rfl, List.forall_mem_cons.mpr ⟨rfl, fun _ h => absurd h List.not_mem_nil⟩⟩⟩) (Nat.le_of_ble_eq_true rfl) ?_
  intro p e s m below meth c hx hb hr hml hts hown hlocks hsz hW0 hK ls hl
  have hS0 : va_S A s.heap s.heap [] := va_S.rf
  have hl : zh ls 3 [(0, zr ad 30 ((0 : Nat) : Int)), (1, .int (zi a)), (2, .int (zi w))] := hl
  have hinX7 : ∀ w ∈ u_ws RX7 TX7 42, w ∈ wsX7_driverIs := by decide +kernel
  refine zz_aload_n hx hb hl 0 dX7_driverIs_0 rfl rfl ?_
  refine zz_aload_n hx hb hl 0 dX7_driverIs_1 rfl rfl ?_
  refine zz_iload_n hx hb hl 1 dX7_driverIs_2 rfl rfl ?_
  refine zz_callV (T := TX7) (N := 42) (As := [.int (zi a)]) (rest := [zr ad 30 ((0 : Nat) : Int)]) (v := ((0 : Nat) : Int)) (κ := 30) ⟨hx, hb, hml, hown, hts⟩ (c_X7_isDriver l G ad A N0 σ hM a ga hn) (cwV 1 hts gX7_driverIs_X7_isDriver rfl rfl rfl (by decide +kernel) ⟨Nat.le_of_ble_eq_true rfl, Nat.le_of_ble_eq_true rfl⟩) hK hW0 (zlN (hM 30 rfl)) rfl rfl (Nat.le_trans hsz hS0.1) hS0 rfl hl.1.1 rfl (by simp [zr_cat, zcat_i]) dX7_driverIs_3 ⟨Nat.le_of_ble_eq_true rfl, Nat.le_of_ble_eq_true rfl⟩ (fun x1 σ1 H1 locs1 hp1 hW1 hz1 hS1 => ?_)
  obtain ⟨rfl, rfl⟩ := hp1
  refine W.eq (g2 := F0 m 6 ls [.int (zi (zb (0 ≤ a ∧ a ≤ σ 30 0 8 - 1))), zr ad 30 ((0 : Nat) : Int)]) rfl ?_
  refine zz_if_neb (tgt := 13) hx hb dX7_driverIs_6 (by decide) (fun hc6 => ?_) (fun hc6 => ?_)
  · refine zz_iload_n hx hb hl 2 dX7_driverIs_13 rfl rfl ?_
    refine zz_iconst hx hb dX7_driverIs_14 ?_
    refine zz_bipush hx hb dX7_driverIs_15 (by decide +kernel) ?_
    refine zz_callS (As := [.int (zi w), .int (zi 0), .int (zi 6)]) (rest := [zr ad 30 ((0 : Nat) : Int)]) ⟨hx, hb, hml, hown, hts⟩ (c_X7_in l G ad A N0 σ w 0 6 gw ⟨by decide, by decide⟩ ⟨by decide, by decide⟩) (va_cwS 3 hts gX7_driverIs_X7_in rfl rfl rfl (by decide +kernel) ⟨Nat.le_of_ble_eq_true rfl, Nat.le_of_ble_eq_true rfl⟩) hK hW1 (Nat.le_trans hsz hS1.1) hS1 rfl hl.1.1 rfl (by simp [zr_cat, zcat_i]) dX7_driverIs_17 ⟨Nat.le_of_ble_eq_true rfl, Nat.le_of_ble_eq_true rfl⟩ (fun x2 σ2 H2 locs2 hp2 hW2 hz2 hS2 => ?_)
    obtain ⟨rfl, rfl⟩ := hp2
    refine W.eq (g2 := F0 m 20 ls [.int (zi (zb (0 ≤ w ∧ w ≤ 6))), zr ad 30 ((0 : Nat) : Int)]) rfl ?_
    refine zz_if_neb (tgt := 27) hx hb dX7_driverIs_20 (by decide) (fun hc20 => ?_) (fun hc20 => ?_)
    · refine zz_iconst hx hb dX7_driverIs_27 ?_
      refine zz_callV (T := TX7) (N := 42) (As := [.int (zi 0)]) (rest := []) (v := ((0 : Nat) : Int)) (κ := 30) ⟨hx, hb, hml, hown, hts⟩ (c_X7_refused l G ad A N0 σ hM (0) ⟨by decide, by decide⟩) (cwV 1 hts gX7_driverIs_X7_refused rfl rfl rfl (by decide +kernel) ⟨Nat.le_of_ble_eq_true rfl, Nat.le_of_ble_eq_true rfl⟩) hK hW2 (zlN (hM 30 rfl)) rfl rfl (Nat.le_trans hsz hS2.1) hS2 rfl hl.1.1 rfl (Nat.le_of_ble_eq_true rfl) dX7_driverIs_28 ⟨Nat.le_of_ble_eq_true rfl, Nat.le_of_ble_eq_true rfl⟩ (fun x3 σ3 H3 locs3 hp3 hW3 hz3 hS3 => ?_)
      have hs3 : σ3 = zu σ 30 0 0 (0) := hp3.1.symm
      obtain rfl := hp3.2
      refine W.eq (g2 := F0 m 31 ls [.int (zi (zb ((0 : Int) ≠ 0)))]) rfl ?_
      refine zz_if_eqb (tgt := 36) hx hb dX7_driverIs_31 (by decide) (fun hc31 => ?_) (fun hc31 => ?_)
      · have ea : (a : Int) = ((a.toNat : Nat) : Int) := by omega
        have hl : zh ls 3 [(0, zr ad 30 ((0 : Nat) : Int)), (1, .int (zi ((a.toNat : Nat) : Int))), (2, .int (zi w))] := by
          rw [← ea]
          exact hl
        refine zz_iload_n hx hb hl 2 dX7_driverIs_36 rfl rfl ?_
        by_cases hw37_0 : w = 0
        · refine W.eq (g2 := F0 m 37 ls [.int (zi 0)]) (by rw [hw37_0]) ?_
          refine lv_tableIn (x := zi 0) (off := 39) (tgt := 76) hx hb dX7_driverIs_37 (by decide +kernel) (by decide +kernel) (by decide +kernel) (by decide) ?_
          refine zz_aload_n hx hb hl 0 dX7_driverIs_76 rfl rfl ?_
          refine zz_get (T := TX7) (N := 42) (k := 9) (κ := 30) (w := zr ad 49 ((0 : Nat) : Int)) hx hb hts hinX7 hown hK hW3 (zlN (hM 30 rfl)) rfl rfl rfl (by decide) (hts (.fieldLink RX7 26 "HailCityModel" "place" "[I") (by decide +kernel)) (fun _ h9 => h9) rfl dX7_driverIs_77 ?_
          refine zz_iload_n hx hb hl 1 dX7_driverIs_80 rfl rfl ?_
          refine zz_iald (w := σ 49 0 a.toNat) hx hb hK hW3 (zlN (hM 49 rfl)) rfl rfl rfl (by show (0 : Int) ≤ ((a.toNat : Nat) : Int); omega) (by show ((a.toNat : Nat) : Int) < (8 : Int); omega) (show σ3 49 0 a.toNat = σ 49 0 a.toNat from by rw [hs3, zu_k (by decide)]) dX7_driverIs_81 ?_
          refine W.eq (g2 := F0 m 82 ls [.int (zi (σ 49 0 a.toNat))]) rfl ?_
          refine zz_reti hx hb hr hlocks hW3 hS3 ?_ dX7_driverIs_82
          refine Or.inr (Or.inr ⟨hc6, hc20, ?_, by rw [hs3]⟩)
          unfold ydi
          rw [if_pos (by omega)]
        by_cases hw37_1 : w = 1
        · refine W.eq (g2 := F0 m 37 ls [.int (zi 1)]) (by rw [hw37_1]) ?_
          refine lv_tableIn (x := zi 1) (off := 46) (tgt := 83) hx hb dX7_driverIs_37 (by decide +kernel) (by decide +kernel) (by decide +kernel) (by decide) ?_
          refine zz_aload_n hx hb hl 0 dX7_driverIs_83 rfl rfl ?_
          refine zz_get (T := TX7) (N := 42) (k := 12) (κ := 30) (w := zr ad 52 ((0 : Nat) : Int)) hx hb hts hinX7 hown hK hW3 (zlN (hM 30 rfl)) rfl rfl rfl (by decide) (hts (.fieldLink RX7 36 "HailCityModel" "stops" "[I") (by decide +kernel)) (fun _ h9 => h9) rfl dX7_driverIs_84 ?_
          refine zz_iload_n hx hb hl 1 dX7_driverIs_87 rfl rfl ?_
          refine zz_iald (w := σ 52 0 a.toNat) hx hb hK hW3 (zlN (hM 52 rfl)) rfl rfl rfl (by show (0 : Int) ≤ ((a.toNat : Nat) : Int); omega) (by show ((a.toNat : Nat) : Int) < (8 : Int); omega) (show σ3 52 0 a.toNat = σ 52 0 a.toNat from by rw [hs3, zu_k (by decide)]) dX7_driverIs_88 ?_
          refine W.eq (g2 := F0 m 89 ls [.int (zi (σ 52 0 a.toNat))]) rfl ?_
          refine zz_reti hx hb hr hlocks hW3 hS3 ?_ dX7_driverIs_89
          refine Or.inr (Or.inr ⟨hc6, hc20, ?_, by rw [hs3]⟩)
          unfold ydi
          rw [if_neg (by omega), if_pos (by omega)]
        by_cases hw37_2 : w = 2
        · refine W.eq (g2 := F0 m 37 ls [.int (zi 2)]) (by rw [hw37_2]) ?_
          refine lv_tableIn (x := zi 2) (off := 53) (tgt := 90) hx hb dX7_driverIs_37 (by decide +kernel) (by decide +kernel) (by decide +kernel) (by decide) ?_
          refine zz_aload_n hx hb hl 0 dX7_driverIs_90 rfl rfl ?_
          refine zz_get (T := TX7) (N := 42) (k := 12) (κ := 30) (w := zr ad 52 ((0 : Nat) : Int)) hx hb hts hinX7 hown hK hW3 (zlN (hM 30 rfl)) rfl rfl rfl (by decide) (hts (.fieldLink RX7 36 "HailCityModel" "stops" "[I") (by decide +kernel)) (fun _ h9 => h9) rfl dX7_driverIs_91 ?_
          refine zz_iload_n hx hb hl 1 dX7_driverIs_94 rfl rfl ?_
          refine zz_iald (w := σ 52 0 a.toNat) hx hb hK hW3 (zlN (hM 52 rfl)) rfl rfl rfl (by show (0 : Int) ≤ ((a.toNat : Nat) : Int); omega) (by show ((a.toNat : Nat) : Int) < (8 : Int); omega) (show σ3 52 0 a.toNat = σ 52 0 a.toNat from by rw [hs3, zu_k (by decide)]) dX7_driverIs_95 ?_
          refine zz_if_ne (tgt := 103) hx hb dX7_driverIs_96 (by decide) (hW2.2.2.1 _ _ _) (fun hc96 => ?_) (fun hc96 => ?_)
          · refine zz_aload_n hx hb hl 0 dX7_driverIs_103 rfl rfl ?_
            refine zz_get (T := TX7) (N := 42) (k := 15) (κ := 30) (w := zr ad 55 ((0 : Nat) : Int)) hx hb hts hinX7 hown hK hW3 (zlN (hM 30 rfl)) rfl rfl rfl (by decide) (hts (.fieldLink RX7 45 "HailCityModel" "reached" "[I") (by decide +kernel)) (fun _ h9 => h9) rfl dX7_driverIs_104 ?_
            refine zz_iload_n hx hb hl 1 dX7_driverIs_107 rfl rfl ?_
            refine zz_iald (w := σ 55 0 a.toNat) hx hb hK hW3 (zlN (hM 55 rfl)) rfl rfl rfl (by show (0 : Int) ≤ ((a.toNat : Nat) : Int); omega) (by show ((a.toNat : Nat) : Int) < (8 : Int); omega) (show σ3 55 0 a.toNat = σ 55 0 a.toNat from by rw [hs3, zu_k (by decide)]) dX7_driverIs_108 ?_
            refine W.eq (g2 := F0 m 109 ls [.int (zi (σ 55 0 a.toNat))]) rfl ?_
            refine zz_reti hx hb hr hlocks hW3 hS3 ?_ dX7_driverIs_109
            refine Or.inr (Or.inr ⟨hc6, hc20, ?_, by rw [hs3]⟩)
            unfold ydi
            rw [if_neg (by omega), if_neg (by omega), if_pos (by omega)]
            first
              | exact if_pos (by omega)
              | exact if_neg (by omega)
          · refine zz_iconst hx hb dX7_driverIs_99 ?_
            refine zz_goto (tgt := 109) hx hb dX7_driverIs_100 (by decide) ?_
            refine W.eq (g2 := F0 m 109 ls [.int (zi (-1))]) rfl ?_
            refine zz_reti hx hb hr hlocks hW3 hS3 ?_ dX7_driverIs_109
            refine Or.inr (Or.inr ⟨hc6, hc20, ?_, by rw [hs3]⟩)
            unfold ydi
            rw [if_neg (by omega), if_neg (by omega), if_pos (by omega)]
            first
              | exact if_pos (by omega)
              | exact if_neg (by omega)
        by_cases hw37_3 : w = 3
        · refine W.eq (g2 := F0 m 37 ls [.int (zi 3)]) (by rw [hw37_3]) ?_
          refine lv_tableIn (x := zi 3) (off := 73) (tgt := 110) hx hb dX7_driverIs_37 (by decide +kernel) (by decide +kernel) (by decide +kernel) (by decide) ?_
          refine zz_aload_n hx hb hl 0 dX7_driverIs_110 rfl rfl ?_
          refine zz_iload_n hx hb hl 1 dX7_driverIs_111 rfl rfl ?_
          refine zz_callV (T := TX7) (N := 42) (As := [.int (zi ((a.toNat : Nat) : Int))]) (rest := []) (v := ((0 : Nat) : Int)) (κ := 30) ⟨hx, hb, hml, hown, hts⟩ (c_X7_isFree l G ad A N0 σ3 hM a.toNat (by omega)) (cwV 1 hts gX7_driverIs_X7_isFree rfl rfl rfl (by decide +kernel) ⟨Nat.le_of_ble_eq_true rfl, Nat.le_of_ble_eq_true rfl⟩) hK hW3 (zlN (hM 30 rfl)) rfl rfl (Nat.le_trans hsz hS3.1) hS3 rfl hl.1.1 rfl (Nat.le_of_ble_eq_true rfl) dX7_driverIs_112 ⟨Nat.le_of_ble_eq_true rfl, Nat.le_of_ble_eq_true rfl⟩ (fun x4 σ4 H4 locs4 hp4 hW4 hz4 hS4 => ?_)
          obtain ⟨rfl, hx9⟩ := hp4
          rw [hs3, ymf_z] at hx9
          obtain rfl := hx9
          refine W.eq (g2 := F0 m 115 ls [.int (zi (zb (ymf σ a.toNat)))]) rfl ?_
          refine zz_if_eqb (tgt := 122) hx hb dX7_driverIs_115 (by decide) (fun hc115 => ?_) (fun hc115 => ?_)
          · refine zz_iconst hx hb dX7_driverIs_122 ?_
            refine W.eq (g2 := F0 m 123 ls [.int (zi 0)]) rfl ?_
            refine zz_reti hx hb hr hlocks hW4 hS4 ?_ dX7_driverIs_123
            refine Or.inr (Or.inr ⟨hc6, hc20, ?_, by rw [hs3]⟩)
            unfold ydi
            rw [if_neg (by omega), if_neg (by omega), if_neg (by omega), if_pos (by omega)]
            first
              | exact zb_t hc115
              | exact zb_f hc115
          · refine zz_iconst hx hb dX7_driverIs_118 ?_
            refine zz_goto (tgt := 123) hx hb dX7_driverIs_119 (by decide) ?_
            refine W.eq (g2 := F0 m 123 ls [.int (zi 1)]) rfl ?_
            refine zz_reti hx hb hr hlocks hW4 hS4 ?_ dX7_driverIs_123
            refine Or.inr (Or.inr ⟨hc6, hc20, ?_, by rw [hs3]⟩)
            unfold ydi
            rw [if_neg (by omega), if_neg (by omega), if_neg (by omega), if_pos (by omega)]
            first
              | exact zb_t hc115
              | exact zb_f hc115
        by_cases hw37_4 : w = 4
        · refine W.eq (g2 := F0 m 37 ls [.int (zi 4)]) (by rw [hw37_4]) ?_
          refine lv_tableIn (x := zi 4) (off := 87) (tgt := 124) hx hb dX7_driverIs_37 (by decide +kernel) (by decide +kernel) (by decide +kernel) (by decide) ?_
          refine zz_aload_n hx hb hl 0 dX7_driverIs_124 rfl rfl ?_
          refine zz_iload_n hx hb hl 1 dX7_driverIs_125 rfl rfl ?_
          refine zz_callV (T := TX7) (N := 42) (As := [.int (zi ((a.toNat : Nat) : Int))]) (rest := []) (v := ((0 : Nat) : Int)) (κ := 30) ⟨hx, hb, hml, hown, hts⟩ (c_X7_ratingOf l G ad A N0 σ3 hM a.toNat (by omega) (by rw [hs3, zu_ne (by omega)]; exact (hrt9 a.toNat (by omega)).1) (fun j hj => by rw [hs3, zu_ne (by omega)]; exact (hrt9 a.toNat (by omega)).2 j hj)) (cwV 1 hts gX7_driverIs_X7_ratingOf rfl rfl rfl (by decide +kernel) ⟨Nat.le_of_ble_eq_true rfl, Nat.le_of_ble_eq_true rfl⟩) hK hW3 (zlN (hM 30 rfl)) rfl rfl (Nat.le_trans hsz hS3.1) hS3 rfl hl.1.1 rfl (Nat.le_of_ble_eq_true rfl) dX7_driverIs_126 ⟨Nat.le_of_ble_eq_true rfl, Nat.le_of_ble_eq_true rfl⟩ (fun x5 σ5 H5 locs5 hp5 hW5 hz5 hS5 => ?_)
          obtain ⟨rfl, hx9⟩ := hp5
          rw [hs3, yrt_z] at hx9
          obtain rfl := hx9
          refine W.eq (g2 := F0 m 129 ls [.int (zi (yrt σ a.toNat))]) rfl ?_
          refine W.eq (g2 := F0 m 129 ls [.int (zi (yrt σ a.toNat))]) rfl ?_
          refine zz_reti hx hb hr hlocks hW5 hS5 ?_ dX7_driverIs_129
          refine Or.inr (Or.inr ⟨hc6, hc20, ?_, by rw [hs3]⟩)
          unfold ydi
          rw [if_neg (by omega), if_neg (by omega), if_neg (by omega), if_neg (by omega), if_pos (by omega)]
        by_cases hw37_5 : w = 5
        · refine W.eq (g2 := F0 m 37 ls [.int (zi 5)]) (by rw [hw37_5]) ?_
          refine lv_tableIn (x := zi 5) (off := 93) (tgt := 130) hx hb dX7_driverIs_37 (by decide +kernel) (by decide +kernel) (by decide +kernel) (by decide) ?_
          refine zz_aload_n hx hb hl 0 dX7_driverIs_130 rfl rfl ?_
          refine zz_get (T := TX7) (N := 42) (k := 20) (κ := 30) (w := zr ad 60 ((0 : Nat) : Int)) hx hb hts hinX7 hown hK hW3 (zlN (hM 30 rfl)) rfl rfl rfl (by decide) (hts (.fieldLink RX7 57 "HailCityModel" "counted" "[I") (by decide +kernel)) (fun _ h9 => h9) rfl dX7_driverIs_131 ?_
          refine zz_iload_n hx hb hl 1 dX7_driverIs_134 rfl rfl ?_
          refine zz_iald (w := σ 60 0 a.toNat) hx hb hK hW3 (zlN (hM 60 rfl)) rfl rfl rfl (by show (0 : Int) ≤ ((a.toNat : Nat) : Int); omega) (by show ((a.toNat : Nat) : Int) < (8 : Int); omega) (show σ3 60 0 a.toNat = σ 60 0 a.toNat from by rw [hs3, zu_k (by decide)]) dX7_driverIs_135 ?_
          refine W.eq (g2 := F0 m 136 ls [.int (zi (σ 60 0 a.toNat))]) rfl ?_
          refine zz_reti hx hb hr hlocks hW3 hS3 ?_ dX7_driverIs_136
          refine Or.inr (Or.inr ⟨hc6, hc20, ?_, by rw [hs3]⟩)
          unfold ydi
          rw [if_neg (by omega), if_neg (by omega), if_neg (by omega), if_neg (by omega), if_neg (by omega), if_pos (by omega)]
        refine lv_tableOut (tgt := 137) hx hb dX7_driverIs_37 (by rw [zi_toInt gw]; omega) (by decide) ?_
        refine zz_aload_n hx hb hl 0 dX7_driverIs_137 rfl rfl ?_
        refine zz_get (T := TX7) (N := 42) (k := 21) (κ := 30) (w := zr ad 61 ((0 : Nat) : Int)) hx hb hts hinX7 hown hK hW3 (zlN (hM 30 rfl)) rfl rfl rfl (by decide) (hts (.fieldLink RX7 60 "HailCityModel" "done" "[I") (by decide +kernel)) (fun _ h9 => h9) rfl dX7_driverIs_138 ?_
        refine zz_iload_n hx hb hl 1 dX7_driverIs_141 rfl rfl ?_
        refine zz_iald (w := σ 61 0 a.toNat) hx hb hK hW3 (zlN (hM 61 rfl)) rfl rfl rfl (by show (0 : Int) ≤ ((a.toNat : Nat) : Int); omega) (by show ((a.toNat : Nat) : Int) < (8 : Int); omega) (show σ3 61 0 a.toNat = σ 61 0 a.toNat from by rw [hs3, zu_k (by decide)]) dX7_driverIs_142 ?_
        refine W.eq (g2 := F0 m 143 ls [.int (zi (σ 61 0 a.toNat))]) rfl ?_
        refine zz_reti hx hb hr hlocks hW3 hS3 ?_ dX7_driverIs_143
        refine Or.inr (Or.inr ⟨hc6, hc20, ?_, by rw [hs3]⟩)
        unfold ydi
        rw [if_neg (by omega), if_neg (by omega), if_neg (by omega), if_neg (by omega), if_neg (by omega), if_neg (by omega)]
      · exact absurd rfl hc31
    · refine zz_iconst hx hb dX7_driverIs_23 ?_
      refine zz_goto (tgt := 28) hx hb dX7_driverIs_24 (by decide) ?_
      refine zz_callV (T := TX7) (N := 42) (As := [.int (zi 2)]) (rest := []) (v := ((0 : Nat) : Int)) (κ := 30) ⟨hx, hb, hml, hown, hts⟩ (c_X7_refused l G ad A N0 σ hM (2) ⟨by decide, by decide⟩) (cwV 1 hts gX7_driverIs_X7_refused rfl rfl rfl (by decide +kernel) ⟨Nat.le_of_ble_eq_true rfl, Nat.le_of_ble_eq_true rfl⟩) hK hW2 (zlN (hM 30 rfl)) rfl rfl (Nat.le_trans hsz hS2.1) hS2 rfl hl.1.1 rfl (Nat.le_of_ble_eq_true rfl) dX7_driverIs_28 ⟨Nat.le_of_ble_eq_true rfl, Nat.le_of_ble_eq_true rfl⟩ (fun x6 σ6 H6 locs6 hp6 hW6 hz6 hS6 => ?_)
      have hs6 : σ6 = zu σ 30 0 0 (2) := hp6.1.symm
      obtain rfl := hp6.2
      refine W.eq (g2 := F0 m 31 ls [.int (zi (zb ((2 : Int) ≠ 0)))]) rfl ?_
      refine zz_if_eqb (tgt := 36) hx hb dX7_driverIs_31 (by decide) (fun hc31 => ?_) (fun hc31 => ?_)
      · exact absurd (by decide) hc31
      · refine zz_iconst hx hb dX7_driverIs_34 ?_
        refine W.eq (g2 := F0 m 35 ls [.int (zi 0)]) rfl ?_
        refine zz_reti hx hb hr hlocks hW6 hS6 ?_ dX7_driverIs_35
        exact Or.inr (Or.inl ⟨hc6, hc20, rfl, by rw [hs6]⟩)
  · refine zz_iconst hx hb dX7_driverIs_9 ?_
    refine zz_goto (tgt := 28) hx hb dX7_driverIs_10 (by decide) ?_
    refine zz_callV (T := TX7) (N := 42) (As := [.int (zi 1)]) (rest := []) (v := ((0 : Nat) : Int)) (κ := 30) ⟨hx, hb, hml, hown, hts⟩ (c_X7_refused l G ad A N0 σ hM (1) ⟨by decide, by decide⟩) (cwV 1 hts gX7_driverIs_X7_refused rfl rfl rfl (by decide +kernel) ⟨Nat.le_of_ble_eq_true rfl, Nat.le_of_ble_eq_true rfl⟩) hK hW1 (zlN (hM 30 rfl)) rfl rfl (Nat.le_trans hsz hS1.1) hS1 rfl hl.1.1 rfl (Nat.le_of_ble_eq_true rfl) dX7_driverIs_28 ⟨Nat.le_of_ble_eq_true rfl, Nat.le_of_ble_eq_true rfl⟩ (fun x7 σ7 H7 locs7 hp7 hW7 hz7 hS7 => ?_)
    have hs7 : σ7 = zu σ 30 0 0 (1) := hp7.1.symm
    obtain rfl := hp7.2
    refine W.eq (g2 := F0 m 31 ls [.int (zi (zb ((1 : Int) ≠ 0)))]) rfl ?_
    refine zz_if_eqb (tgt := 36) hx hb dX7_driverIs_31 (by decide) (fun hc31 => ?_) (fun hc31 => ?_)
    · exact absurd (by decide) hc31
    · refine zz_iconst hx hb dX7_driverIs_34 ?_
      refine W.eq (g2 := F0 m 35 ls [.int (zi 0)]) rfl ?_
      refine zz_reti hx hb hr hlocks hW7 hS7 ?_ dX7_driverIs_35
      exact Or.inl ⟨hc6, rfl, by rw [hs7]⟩
