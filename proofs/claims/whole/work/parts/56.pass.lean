/-! a minute passes, in the model -/
/-- what a driver does when a minute has passed -/
noncomputable def yP1 (d : Nat) (σ : zS) : zS := if 0 < σ 52 0 d ∧ σ 55 0 d ≤ σ 30 0 1 then ybf (yLV d ((σ 52 0 d).toNat - 1) (ymt σ d ((σ 52 0 d).toNat - 1))) d else σ
noncomputable def yP2 : Nat → zS → zS
  | 0, σ => σ
  | i + 1, σ => yP1 i (yP2 i σ)
/-- what the steps of the driver i leave as it was -/
def yel (i κ k : Nat) : Prop := ¬ ((κ = 49 ∨ κ = 52 ∨ κ = 55 ∨ κ = 56 ∨ κ = 61 ∨ κ = 62) ∧ k = i) ∧ ¬ ((κ = 53 ∨ κ = 54) ∧ 8 * i ≤ k ∧ k < 8 * i + 8) ∧ κ ≠ 64 ∧ κ ≠ 72 ∧ ¬ (κ = 30 ∧ k = 17)
theorem ymt_el {σ : zS} {d n κ i k : Nat} (hn : n ≤ 8) (h : yel d κ k) : ymt σ d n κ i k = σ κ i k := by
  unfold yel at h
  have e : yms (zu σ 49 0 d (σ 53 0 (8 * d))) d n κ i k = σ κ i k := by
    unfold yms
    rw [if_neg (by omega), zu_ne (by omega)]
  unfold ymt
  split
  · rw [zu_ne (by omega), zu_ne (by omega), zu_ne (by omega), zu_ne (by omega), zu_ne (by omega), e]
  · split
    · rw [zu_ne (by omega), zu_ne (by omega), e]
    · rw [zu_ne (by omega), e]
theorem yLV_el {d κ i k : Nat} (h : yel d κ k) : ∀ (n : Nat) (σ : zS), n ≤ 8 → yLV d n σ κ i k = σ κ i k
  | 0, _, _ => rfl
  | n + 1, σ, hn => by
    have e : zu σ 55 0 d (σ 30 0 1 + ywy σ d) κ i k = σ κ i k := by
      unfold yel at h
      rw [zu_ne (by omega)]
    show (if _ then _ else _ : zS) κ i k = _
    split
    · rw [yLV_el h n _ (by omega), ymt_el (by omega) h, e]
    · exact e
theorem ybf_el {σ : zS} {d κ i k : Nat} (h : yel d κ k) : ybf σ d κ i k = σ κ i k := by
  unfold yel at h
  unfold ybf
  split
  · rw [zu_ne (by omega), zu_ne (by omega)]
  · rfl
theorem yP1_el {σ : zS} {d κ i k : Nat} (hs : σ 52 0 d ≤ 8) (h : yel d κ k) : yP1 d σ κ i k = σ κ i k := by
  unfold yP1
  split
  · rw [ybf_el h, yLV_el h _ _ (by omega), ymt_el (by omega) h]
  · rfl
theorem yLV_17 {d : Nat} : ∀ (n : Nat) (σ : zS), yLV d n σ 30 0 17 = σ 30 0 17
  | 0, _ => rfl
  | n + 1, σ => by
    show (if _ then _ else _ : zS) 30 0 17 = _
    split
    · rw [yLV_17 n, ymt_fr (by omega), zu_ne (by omega)]
    · exact zu_ne (by omega)
theorem ybf_17 (σ : zS) (d : Nat) : σ 30 0 17 ≤ ybf σ d 30 0 17 ∧ ybf σ d 30 0 17 ≤ σ 30 0 17 + 1 := by
  unfold ybf
  split
  · rw [zu_ne (by omega), zu_same]; omega
  · omega
theorem yP1_17 (σ : zS) (d : Nat) : σ 30 0 17 ≤ yP1 d σ 30 0 17 ∧ yP1 d σ 30 0 17 ≤ σ 30 0 17 + 1 := by
  unfold yP1
  split
  · have h := ybf_17 (yLV d ((σ 52 0 d).toNat - 1) (ymt σ d ((σ 52 0 d).toNat - 1))) d
    rw [yLV_17, ymt_fr (by omega)] at h
    exact h
  · omega
theorem yP2_17 (σ : zS) : ∀ i, σ 30 0 17 ≤ yP2 i σ 30 0 17 ∧ yP2 i σ 30 0 17 ≤ σ 30 0 17 + i
  | 0 => ⟨Int.le_refl _, by show σ 30 0 17 ≤ σ 30 0 17 + (0 : Nat); omega⟩
  | i + 1 => by
    have h1 := yP2_17 σ i
    have h2 := yP1_17 (yP2 i σ) i
    show σ 30 0 17 ≤ yP1 i (yP2 i σ) 30 0 17 ∧ yP1 i (yP2 i σ) 30 0 17 ≤ _
    omega
/-- the row of another driver is not touched -/
theorem yMok_ot {σ : zS} {i d n : Nat} (hs : σ 52 0 i ≤ 8) (hi : i ≠ d) (h : yMok σ d n) : yMok (yP1 i σ) d n := by
  have e : ∀ κ k, yel i κ k → yP1 i σ κ 0 k = σ κ 0 k := fun κ k h => yP1_el hs h
  obtain ⟨a1, a2, a3, a4, a5, a6, a7, a8⟩ := h
  refine ⟨by rw [e 52 d (by unfold yel; omega)]; exact a1, a2, by rw [e 49 d (by unfold yel; omega)]; exact a3, fun j hj => ?_, fun a b ha hb => by rw [e 47 _ (by unfold yel; omega)]; exact a5 a b ha hb, by rw [e 30 1 (by unfold yel; omega)]; exact a6, by rw [e 61 d (by unfold yel; omega)]; exact a7, by rw [e 62 d (by unfold yel; omega)]; exact a8⟩
  rw [e 53 _ (by unfold yel; omega), e 54 _ (by unfold yel; omega), e 69 _ (by unfold yel; omega)]
  exact a4 j hj
theorem yP2_ok {σ : zS} {nd : Nat} (h : ∀ d, d < nd → ∃ n, yMok σ d n) : ∀ i, i ≤ nd → ∀ d, i ≤ d → d < nd → ∃ n, yMok (yP2 i σ) d n
  | 0, _, d, _, hd => h d hd
  | i + 1, hi, d, h1, h2 => by
    obtain ⟨n, hn⟩ := yP2_ok h i (by omega) d (by omega) h2
    obtain ⟨n', hn'⟩ := yP2_ok h i (by omega) i (Nat.le_refl _) (by omega)
    refine ⟨n, yMok_ot ?_ (by omega) hn⟩
    have := hn'.1
    have := hn'.2.1
    omega

noncomputable def yPc (σ : zS) (n : Nat) : zS := fun κ i k => if κ = 60 ∧ i = 0 ∧ k < n then σ 60 0 k + zb (yhr σ k (σ 52 0 k).toNat) else σ κ i k
noncomputable def yPa (σ : zS) (nd : Nat) : zS := zu (yPc σ nd) 30 0 1 (σ 30 0 1 + 1)
noncomputable def yPe (σ : zS) (n : Nat) : zS := fun κ i k => if κ = 64 ∧ i = 0 ∧ k < n then (if σ 64 0 k = 0 ∧ σ 67 0 k ≤ σ 30 0 1 then 4 else σ 64 0 k) else σ κ i k
noncomputable def yPs (σ : zS) (nd nr : Nat) : zS := yPe (yP2 nd (yPa σ nd)) nr
theorem yPc_fr {σ : zS} {n κ i k : Nat} (h : κ ≠ 60) : yPc σ n κ i k = σ κ i k := if_neg (fun q => h q.1)
theorem yPa_fr {σ : zS} {n κ i k : Nat} (h : κ ≠ 60 ∧ ¬ (κ = 30 ∧ k = 1)) : yPa σ n κ i k = σ κ i k := by
  unfold yPa
  rw [zu_ne (by omega), yPc_fr h.1]
theorem yPa_ok {σ : zS} {nd d n : Nat} (hnow : σ 30 0 1 < 20000) (h : yMok σ d n) : yMok (yPa σ nd) d n := by
  obtain ⟨a1, a2, a3, a4, a5, a6, a7, a8⟩ := h
  have e1 : yPa σ nd 30 0 1 = σ 30 0 1 + 1 := by unfold yPa; rw [zu_same]
  refine ⟨by rw [yPa_fr (by omega)]; exact a1, a2, by rw [yPa_fr (by omega)]; exact a3, fun j hj => ?_, fun a b ha hb => by rw [yPa_fr (by omega)]; exact a5 a b ha hb, by rw [e1]; omega, by rw [yPa_fr (by omega)]; exact a7, by rw [yPa_fr (by omega)]; exact a8⟩
  rw [yPa_fr (by omega), yPa_fr (by omega), yPa_fr (by omega)]
  exact a4 j hj
theorem yhr_fr {σ u : zS} {d n : Nat} (h : ∀ k, u 54 0 k = σ 54 0 k) : yhr u d n ↔ yhr σ d n := by
  unfold yhr
  simp only [h]

theorem yP2_fr {σ : zS} {nd : Nat} (h : ∀ d, d < nd → ∃ n, yMok σ d n) {κ k : Nat} (hk : κ ≠ 49 ∧ κ ≠ 52 ∧ κ ≠ 53 ∧ κ ≠ 54 ∧ κ ≠ 55 ∧ κ ≠ 56 ∧ κ ≠ 61 ∧ κ ≠ 62 ∧ κ ≠ 64 ∧ κ ≠ 72 ∧ ¬ (κ = 30 ∧ k = 17)) : ∀ i, i ≤ nd → yP2 i σ κ 0 k = σ κ 0 k
  | 0, _ => rfl
  | i + 1, hi => by
    obtain ⟨n', hn'⟩ := yP2_ok h i (by omega) i (Nat.le_refl _) (by omega)
    have e1 := hn'.1
    have e2 := hn'.2.1
    show yP1 i (yP2 i σ) κ 0 k = _
    rw [yP1_el (by omega) (by unfold yel; omega)]
    exact yP2_fr h hk i (by omega)

theorem yPe_st {σ : zS} {i : Nat} {x : Int} (h : x = if σ 64 0 i = 0 ∧ σ 67 0 i ≤ σ 30 0 1 then 4 else σ 64 0 i) : zu (yPe σ i) 64 0 i x = yPe σ (i + 1) := by
  funext κ i' k
  by_cases h1 : κ = 64 ∧ i' = 0 ∧ k = i
  · obtain ⟨rfl, rfl, rfl⟩ := h1
    rw [zu_same, h]
    exact (if_pos (by omega)).symm
  · rw [zu_ne h1]
    by_cases h2 : κ = 64 ∧ i' = 0 ∧ k < i
    · exact (if_pos h2 : yPe σ i κ i' k = _).trans (if_pos (show κ = 64 ∧ i' = 0 ∧ k < i + 1 by omega) : yPe σ (i + 1) κ i' k = _).symm
    · exact (if_neg h2 : yPe σ i κ i' k = _).trans (if_neg (show ¬ (κ = 64 ∧ i' = 0 ∧ k < i + 1) by omega) : yPe σ (i + 1) κ i' k = _).symm

set_option maxHeartbeats 4000000 in
set_option maxRecDepth 100000 in
theorem c_X7_passes (l : Launch) (G : zG) (ad : zA) (A : Nat → Prop) (N0 : Nat) (σ : zS) (hM : zMm ad) (nd nr : Nat) (hnd : nd ≤ 8) (hnr : nr ≤ 60) (h8 : σ 30 0 8 = (nd : Int)) (h23 : σ 30 0 23 = (nr : Int)) (hok : ∀ d, d < nd → ∃ n, yMok σ d n) (hnow : 0 ≤ σ 30 0 1 ∧ σ 30 0 1 < 20000) (hcn : ∀ d, d < nd → 0 ≤ σ 60 0 d ∧ σ 60 0 d ≤ 100000) (hgo : 0 ≤ σ 30 0 17 ∧ σ 30 0 17 < 1900000000) : Met l yX7_passes wsX7_passes ({ frames := 3, cells := 0, slots := 0, locals := 64 }) (zP G ad A N0 σ [zr ad 30 ((0 : Nat) : Int)]) (zQ G ad A zrv (fun _ u => yPs σ nd nr = u)) 0 0 A := by
  refine zz_of (cc := cX7_passes) (maxL := 2) (ret := none) (by decide) rfl ⟨rfl, rfl⟩ (List.forall_mem_cons.mpr ⟨zr_cat _ _ _, fun _ h => absurd h List.not_mem_nil⟩) (Nat.le_of_ble_eq_true rfl) ?_
  intro p e s m below meth c hx hb hr hml hts hown hlocks hsz hW0 hK ls hl
  have hS0 : va_S A s.heap s.heap [] := va_S.rf
  have hl : zh ls 2 [(0, zr ad 30 ((0 : Nat) : Int))] := hl
  have hinX7 : ∀ w ∈ u_ws RX7 TX7 42, w ∈ wsX7_passes := by decide +kernel
  refine zz_iconst hx hb dX7_passes_0 ?_
  refine zz_istore_n (lv' := [(1, .int (zi 0)), (0, zr ad 30 ((0 : Nat) : Int))]) hx hb hl dX7_passes_1 rfl (by decide) rfl (fun ls hl => ?_)
  have hcut2 : ∀ (n9 : Nat) (i : Nat)  (σ9 : zS) (H9 : Heap) (locs9 : List Loc) (ls : Array Slot), (i ≤ nd ∧ σ9 = yPc σ i) → (nd - i) < n9 → ZW G ad A σ9 H9 → va_S A s.heap H9 locs9 → zh ls 2 [(0, zr ad 30 ((0 : Nat) : Int)), (1, .int (zi ((i : Nat) : Int)))] → W p l e ({ frames := 3, cells := 0, slots := 0, locals := 64 }) s m ([zr ad 30 ((0 : Nat) : Int)] : List Value).toArray below meth c H9 locs9 0 0 (MQ below (zQ G ad A zrv (fun _ u => yPs σ nd nr = u)) ([zr ad 30 ((0 : Nat) : Int)] : List Value).toArray s 0 0 A) (F0 m 2 ls []) := by
    intro n9
    induction n9 with
    | zero =>
      intro i σ1 H1 locs1 ls hI2 hm2 hW1 hS1 hl
      exact absurd hm2 (Nat.not_lt_zero _)
    | succ n9 ih2 =>
      intro i σ1 H1 locs1 ls hI2 hm2 hW1 hS1 hl
      obtain ⟨hi1, hi2⟩ := hI2
      refine zz_iload_n hx hb hl 1 dX7_passes_2 rfl rfl ?_
      refine zz_aload_n hx hb hl 0 dX7_passes_3 rfl rfl ?_
      refine zz_get (T := TX7) (N := 42) (k := 8) (κ := 30) (w := .int (zi ((nd : Nat) : Int))) hx hb hts hinX7 hown hK hW1 (zlN (hM 30 rfl)) rfl rfl rfl (by decide) (hts (.fieldLink RX7 127 "HailCityModel" "drivers" "I") (by decide +kernel)) (fun _ h9 => h9) (congrArg (fun z => Value.int (zi z)) (show σ1 30 0 8 = ((nd : Nat) : Int) from by rw [hi2, yPc_fr (by decide)]; exact h8)) dX7_passes_4 ?_
      refine zz_icmp_ge (tgt := 38) hx hb dX7_passes_7 (by decide) ⟨by omega, by omega⟩ ⟨by omega, by omega⟩ (fun hc7 => ?_) (fun hc7 => ?_)
      · refine zz_aload_n hx hb hl 0 dX7_passes_38 rfl rfl ?_
        refine lv_dup hx hb dX7_passes_39 (zr_cat _ _ _) ?_
        refine zz_get (T := TX7) (N := 42) (k := 1) (κ := 30) (w := .int (zi (σ 30 0 1))) hx hb hts hinX7 hown hK hW1 (zlN (hM 30 rfl)) rfl rfl rfl (by decide) (hts (.fieldLink RX7 161 "HailCityModel" "now" "I") (by decide +kernel)) (fun _ h9 => h9) (congrArg (fun z => Value.int (zi z)) (show σ1 30 0 1 = σ 30 0 1 from by rw [hi2, yPc_fr (by decide)])) dX7_passes_40 ?_
        refine zz_iconst hx hb dX7_passes_43 ?_
        refine zz_iadd hx hb dX7_passes_44 ?_
        refine zz_put (T := TX7) (N := 42) (k := 1) (κ := 30) (v := ((0 : Nat) : Int)) (x := ((σ 30 0 1) + 1)) (ty := .int) hx hb hts hinX7 tyX7 tyX7_ok nmX7 hown hK hW1 hS1 (zlN (hM 30 rfl)) rfl rfl rfl (by decide) (hts (.fieldLink RX7 161 "HailCityModel" "now" "I") (by decide +kernel)) (fun _ h9 => h9) rfl (by decide +kernel) rfl rfl rfl ⟨by omega, by omega⟩ (fun h9 _ => absurd h9 (by decide)) (fun h9 => absurd h9 (by decide)) dX7_passes_45 (fun H2 locs2 hW2' hS2 => ?_)
        obtain ⟨σ2, hs2⟩ : ∃ z, z = zu σ1 30 0 1 ((σ 30 0 1) + 1) := ⟨_, rfl⟩
        have hW2 : ZW G ad A σ2 H2 := by rw [hs2]; exact hW2'
        have hPA : σ2 = yPa σ nd := by rw [hs2, hi2, show i = nd by omega]; rfl
        have hokA : ∀ d, d < nd → ∃ n, yMok (yPa σ nd) d n := fun d hd => by
          obtain ⟨n, hn⟩ := hok d hd
          exact ⟨n, yPa_ok hnow.2 hn⟩
        refine zz_iconst hx hb dX7_passes_48 ?_
        refine zz_istore_n (lv' := [(1, .int (zi 0)), (0, zr ad 30 ((0 : Nat) : Int))]) hx hb hl dX7_passes_49 rfl (by decide) rfl (fun ls hl => ?_)
        have hcut50 : ∀ (n9 : Nat) (j : Nat)  (σ9 : zS) (H9 : Heap) (locs9 : List Loc) (ls : Array Slot), (j ≤ nd ∧ σ9 = yP2 j (yPa σ nd)) → (nd - j) < n9 → ZW G ad A σ9 H9 → va_S A s.heap H9 locs9 → zh ls 2 [(0, zr ad 30 ((0 : Nat) : Int)), (1, .int (zi ((j : Nat) : Int)))] → W p l e ({ frames := 3, cells := 0, slots := 0, locals := 64 }) s m ([zr ad 30 ((0 : Nat) : Int)] : List Value).toArray below meth c H9 locs9 0 0 (MQ below (zQ G ad A zrv (fun _ u => yPs σ nd nr = u)) ([zr ad 30 ((0 : Nat) : Int)] : List Value).toArray s 0 0 A) (F0 m 50 ls []) := by
          intro n9
          induction n9 with
          | zero =>
            intro j σ3 H3 locs3 ls hI50 hm50 hW3 hS3 hl
            exact absurd hm50 (Nat.not_lt_zero _)
          | succ n9 ih50 =>
            intro j σ3 H3 locs3 ls hI50 hm50 hW3 hS3 hl
            obtain ⟨hj1, hj2⟩ := hI50
            refine zz_iload_n hx hb hl 1 dX7_passes_50 rfl rfl ?_
            refine zz_aload_n hx hb hl 0 dX7_passes_51 rfl rfl ?_
            refine zz_get (T := TX7) (N := 42) (k := 8) (κ := 30) (w := .int (zi ((nd : Nat) : Int))) hx hb hts hinX7 hown hK hW3 (zlN (hM 30 rfl)) rfl rfl rfl (by decide) (hts (.fieldLink RX7 127 "HailCityModel" "drivers" "I") (by decide +kernel)) (fun _ h9 => h9) (congrArg (fun z => Value.int (zi z)) (show σ3 30 0 8 = ((nd : Nat) : Int) from by rw [hj2, yP2_fr hokA (by decide) j hj1, yPa_fr (by decide)]; exact h8)) dX7_passes_52 ?_
            refine zz_icmp_ge (tgt := 96) hx hb dX7_passes_55 (by decide) ⟨by omega, by omega⟩ ⟨by omega, by omega⟩ (fun hc55 => ?_) (fun hc55 => ?_)
            · refine zz_iconst hx hb dX7_passes_96 ?_
              refine zz_istore_n (lv' := [(1, .int (zi 0)), (0, zr ad 30 ((0 : Nat) : Int))]) hx hb hl dX7_passes_97 rfl (by decide) rfl (fun ls hl => ?_)
              have hcut98 : ∀ (n9 : Nat) (k9 : Nat)  (σ9 : zS) (H9 : Heap) (locs9 : List Loc) (ls : Array Slot), (k9 ≤ nr ∧ σ9 = yPe (yP2 nd (yPa σ nd)) k9) → (nr - k9) < n9 → ZW G ad A σ9 H9 → va_S A s.heap H9 locs9 → zh ls 2 [(0, zr ad 30 ((0 : Nat) : Int)), (1, .int (zi ((k9 : Nat) : Int)))] → W p l e ({ frames := 3, cells := 0, slots := 0, locals := 64 }) s m ([zr ad 30 ((0 : Nat) : Int)] : List Value).toArray below meth c H9 locs9 0 0 (MQ below (zQ G ad A zrv (fun _ u => yPs σ nd nr = u)) ([zr ad 30 ((0 : Nat) : Int)] : List Value).toArray s 0 0 A) (F0 m 98 ls []) := by
                intro n9
                induction n9 with
                | zero =>
                  intro k9 σ4 H4 locs4 ls hI98 hm98 hW4 hS4 hl
                  exact absurd hm98 (Nat.not_lt_zero _)
                | succ n9 ih98 =>
                  intro k9 σ4 H4 locs4 ls hI98 hm98 hW4 hS4 hl
                  obtain ⟨hk1, hk2⟩ := hI98
                  have e64 : σ4 64 0 k9 = yP2 nd (yPa σ nd) 64 0 k9 := by rw [hk2]; exact if_neg (by omega)
                  have e67 : σ4 67 0 k9 = yP2 nd (yPa σ nd) 67 0 k9 := by rw [hk2]; exact if_neg (by omega)
                  have e301 : σ4 30 0 1 = yP2 nd (yPa σ nd) 30 0 1 := by rw [hk2]; exact if_neg (by omega)
                  refine zz_iload_n hx hb hl 1 dX7_passes_98 rfl rfl ?_
                  refine zz_aload_n hx hb hl 0 dX7_passes_99 rfl rfl ?_
                  refine zz_get (T := TX7) (N := 42) (k := 23) (κ := 30) (w := .int (zi ((nr : Nat) : Int))) hx hb hts hinX7 hown hK hW4 (zlN (hM 30 rfl)) rfl rfl rfl (by decide) (hts (.fieldLink RX7 130 "HailCityModel" "requests" "I") (by decide +kernel)) (fun _ h9 => h9) (congrArg (fun z => Value.int (zi z)) (show σ4 30 0 23 = ((nr : Nat) : Int) from by rw [hk2]; exact (if_neg (by omega)).trans ((yP2_fr hokA (by decide) nd (Nat.le_refl _)).trans ((yPa_fr (by decide)).trans h23)))) dX7_passes_100 ?_
                  refine zz_icmp_ge (tgt := 150) hx hb dX7_passes_103 (by decide) ⟨by omega, by omega⟩ ⟨by omega, by omega⟩ (fun hc103 => ?_) (fun hc103 => ?_)
                  · refine W.eq (g2 := F0 m 150 ls []) rfl ?_
                    refine zz_retv hx hb hr hlocks hW4 hS4 ?_ dX7_passes_150
                    obtain rfl : k9 = nr := by omega
                    exact hk2.symm
                  · refine zz_aload_n hx hb hl 0 dX7_passes_106 rfl rfl ?_
                    refine zz_get (T := TX7) (N := 42) (k := 24) (κ := 30) (w := zr ad 64 ((0 : Nat) : Int)) hx hb hts hinX7 hown hK hW4 (zlN (hM 30 rfl)) rfl rfl rfl (by decide) (hts (.fieldLink RX7 66 "HailCityModel" "state" "[I") (by decide +kernel)) (fun _ h9 => h9) rfl dX7_passes_107 ?_
                    refine zz_iload_n hx hb hl 1 dX7_passes_110 rfl rfl ?_
                    refine zz_aload_n hx hb hl 0 dX7_passes_111 rfl rfl ?_
                    refine zz_get (T := TX7) (N := 42) (k := 24) (κ := 30) (w := zr ad 64 ((0 : Nat) : Int)) hx hb hts hinX7 hown hK hW4 (zlN (hM 30 rfl)) rfl rfl rfl (by decide) (hts (.fieldLink RX7 66 "HailCityModel" "state" "[I") (by decide +kernel)) (fun _ h9 => h9) rfl dX7_passes_112 ?_
                    refine zz_iload_n hx hb hl 1 dX7_passes_115 rfl rfl ?_
                    refine zz_iald (w := σ4 64 0 k9) hx hb hK hW4 (zlN (hM 64 rfl)) rfl rfl rfl (by show (0 : Int) ≤ ((k9 : Nat) : Int); omega) (by show ((k9 : Nat) : Int) < (60 : Int); omega) rfl dX7_passes_116 ?_
                    refine zz_if_ne (tgt := 137) hx hb dX7_passes_117 (by decide) (hW4.2.2.1 _ _ _) (fun hc117 => ?_) (fun hc117 => ?_)
                    · refine zz_aload_n hx hb hl 0 dX7_passes_137 rfl rfl ?_
                      refine zz_get (T := TX7) (N := 42) (k := 24) (κ := 30) (w := zr ad 64 ((0 : Nat) : Int)) hx hb hts hinX7 hown hK hW4 (zlN (hM 30 rfl)) rfl rfl rfl (by decide) (hts (.fieldLink RX7 66 "HailCityModel" "state" "[I") (by decide +kernel)) (fun _ h9 => h9) rfl dX7_passes_138 ?_
                      refine zz_iload_n hx hb hl 1 dX7_passes_141 rfl rfl ?_
                      refine zz_iald (w := σ4 64 0 k9) hx hb hK hW4 (zlN (hM 64 rfl)) rfl rfl rfl (by show (0 : Int) ≤ ((k9 : Nat) : Int); omega) (by show ((k9 : Nat) : Int) < (60 : Int); omega) rfl dX7_passes_142 ?_
                      refine zz_iast (y := (σ4 64 0 k9)) hx hb hK hW4 hS4 (zlN (hM 64 rfl)) rfl rfl rfl (by show (0 : Int) ≤ ((k9 : Nat) : Int); omega) (by show ((k9 : Nat) : Int) < (60 : Int); omega) (hW4.2.2.1 _ _ _) dX7_passes_143 (fun H5 locs5 hW5' hS5 => ?_)
                      obtain ⟨σ5, hs5⟩ : ∃ z, z = zu σ4 64 0 k9 (σ4 64 0 k9) := ⟨_, rfl⟩
                      have hW5 : ZW G ad A σ5 H5 := by rw [hs5]; exact hW5'
                      refine zz_iinc (lv' := [(1, .int (zi ((k9 + 1 : Nat) : Int))), (0, zr ad 30 ((0 : Nat) : Int))]) hx hb hl dX7_passes_144 (k0 := 1) rfl (by decide) rfl (fun ls hl => ?_)
                      refine zz_goto (tgt := 98) hx hb dX7_passes_147 (by decide) ?_
                      refine ih98 (k9 + 1) σ5 H5 locs5 ls ?_ (by omega) hW5 hS5 (zh_sub hl [1, 0] rfl)
                      refine ⟨by omega, ?_⟩
                      rw [hs5, hk2]
                      refine yPe_st ?_
                      first
                        | exact (if_pos ⟨by omega, by omega⟩).symm
                        | (rw [if_neg (by omega)]; exact if_neg (by omega))
                    · refine zz_aload_n hx hb hl 0 dX7_passes_120 rfl rfl ?_
                      refine zz_get (T := TX7) (N := 42) (k := 1) (κ := 30) (w := .int (zi (σ4 30 0 1))) hx hb hts hinX7 hown hK hW4 (zlN (hM 30 rfl)) rfl rfl rfl (by decide) (hts (.fieldLink RX7 161 "HailCityModel" "now" "I") (by decide +kernel)) (fun _ h9 => h9) rfl dX7_passes_121 ?_
                      refine zz_aload_n hx hb hl 0 dX7_passes_124 rfl rfl ?_
                      refine zz_get (T := TX7) (N := 42) (k := 27) (κ := 30) (w := zr ad 67 ((0 : Nat) : Int)) hx hb hts hinX7 hown hK hW4 (zlN (hM 30 rfl)) rfl rfl rfl (by decide) (hts (.fieldLink RX7 75 "HailCityModel" "until" "[I") (by decide +kernel)) (fun _ h9 => h9) rfl dX7_passes_125 ?_
                      refine zz_iload_n hx hb hl 1 dX7_passes_128 rfl rfl ?_
                      refine zz_iald (w := σ4 67 0 k9) hx hb hK hW4 (zlN (hM 67 rfl)) rfl rfl rfl (by show (0 : Int) ≤ ((k9 : Nat) : Int); omega) (by show ((k9 : Nat) : Int) < (60 : Int); omega) rfl dX7_passes_129 ?_
                      refine zz_icmp_lt (tgt := 137) hx hb dX7_passes_130 (by decide) (hW4.2.2.1 _ _ _) (hW4.2.2.1 _ _ _) (fun hc130 => ?_) (fun hc130 => ?_)
                      · refine zz_aload_n hx hb hl 0 dX7_passes_137 rfl rfl ?_
                        refine zz_get (T := TX7) (N := 42) (k := 24) (κ := 30) (w := zr ad 64 ((0 : Nat) : Int)) hx hb hts hinX7 hown hK hW4 (zlN (hM 30 rfl)) rfl rfl rfl (by decide) (hts (.fieldLink RX7 66 "HailCityModel" "state" "[I") (by decide +kernel)) (fun _ h9 => h9) rfl dX7_passes_138 ?_
                        refine zz_iload_n hx hb hl 1 dX7_passes_141 rfl rfl ?_
                        refine zz_iald (w := σ4 64 0 k9) hx hb hK hW4 (zlN (hM 64 rfl)) rfl rfl rfl (by show (0 : Int) ≤ ((k9 : Nat) : Int); omega) (by show ((k9 : Nat) : Int) < (60 : Int); omega) rfl dX7_passes_142 ?_
                        refine zz_iast (y := (σ4 64 0 k9)) hx hb hK hW4 hS4 (zlN (hM 64 rfl)) rfl rfl rfl (by show (0 : Int) ≤ ((k9 : Nat) : Int); omega) (by show ((k9 : Nat) : Int) < (60 : Int); omega) (hW4.2.2.1 _ _ _) dX7_passes_143 (fun H6 locs6 hW6' hS6 => ?_)
                        obtain ⟨σ6, hs6⟩ : ∃ z, z = zu σ4 64 0 k9 (σ4 64 0 k9) := ⟨_, rfl⟩
                        have hW6 : ZW G ad A σ6 H6 := by rw [hs6]; exact hW6'
                        refine zz_iinc (lv' := [(1, .int (zi ((k9 + 1 : Nat) : Int))), (0, zr ad 30 ((0 : Nat) : Int))]) hx hb hl dX7_passes_144 (k0 := 1) rfl (by decide) rfl (fun ls hl => ?_)
                        refine zz_goto (tgt := 98) hx hb dX7_passes_147 (by decide) ?_
                        refine ih98 (k9 + 1) σ6 H6 locs6 ls ?_ (by omega) hW6 hS6 (zh_sub hl [1, 0] rfl)
                        refine ⟨by omega, ?_⟩
                        rw [hs6, hk2]
                        refine yPe_st ?_
                        first
                          | exact (if_pos ⟨by omega, by omega⟩).symm
                          | (rw [if_neg (by omega)]; exact if_neg (by omega))
                      · refine zz_iconst hx hb dX7_passes_133 ?_
                        refine zz_goto (tgt := 143) hx hb dX7_passes_134 (by decide) ?_
                        refine zz_iast (y := 4) hx hb hK hW4 hS4 (zlN (hM 64 rfl)) rfl rfl rfl (by show (0 : Int) ≤ ((k9 : Nat) : Int); omega) (by show ((k9 : Nat) : Int) < (60 : Int); omega) ⟨by decide, by decide⟩ dX7_passes_143 (fun H7 locs7 hW7' hS7 => ?_)
                        obtain ⟨σ7, hs7⟩ : ∃ z, z = zu σ4 64 0 k9 4 := ⟨_, rfl⟩
                        have hW7 : ZW G ad A σ7 H7 := by rw [hs7]; exact hW7'
                        refine zz_iinc (lv' := [(1, .int (zi ((k9 + 1 : Nat) : Int))), (0, zr ad 30 ((0 : Nat) : Int))]) hx hb hl dX7_passes_144 (k0 := 1) rfl (by decide) rfl (fun ls hl => ?_)
                        refine zz_goto (tgt := 98) hx hb dX7_passes_147 (by decide) ?_
                        refine ih98 (k9 + 1) σ7 H7 locs7 ls ?_ (by omega) hW7 hS7 (zh_sub hl [1, 0] rfl)
                        refine ⟨by omega, ?_⟩
                        rw [hs7, hk2]
                        refine yPe_st ?_
                        first
                          | exact (if_pos ⟨by omega, by omega⟩).symm
                          | (rw [if_neg (by omega)]; exact if_neg (by omega))
              refine hcut98 _ 0 σ3 H3 locs3 ls ?_ (Nat.lt_succ_self _) hW3 hS3 (zh_sub hl [1, 0] rfl)
              refine ⟨Nat.zero_le _, ?_⟩
              obtain rfl : j = nd := by omega
              rw [hj2]
              funext κ i k
              exact (if_neg (by omega)).symm
            · obtain ⟨n9, hok8⟩ := yP2_ok hokA j (by omega) j (Nat.le_refl _) (by omega)
              rw [← hj2] at hok8
              have e52 := hok8.1
              refine zz_aload_n hx hb hl 0 dX7_passes_58 rfl rfl ?_
              refine zz_get (T := TX7) (N := 42) (k := 12) (κ := 30) (w := zr ad 52 ((0 : Nat) : Int)) hx hb hts hinX7 hown hK hW3 (zlN (hM 30 rfl)) rfl rfl rfl (by decide) (hts (.fieldLink RX7 36 "HailCityModel" "stops" "[I") (by decide +kernel)) (fun _ h9 => h9) rfl dX7_passes_59 ?_
              refine zz_iload_n hx hb hl 1 dX7_passes_62 rfl rfl ?_
              refine zz_iald (w := σ3 52 0 j) hx hb hK hW3 (zlN (hM 52 rfl)) rfl rfl rfl (by show (0 : Int) ≤ ((j : Nat) : Int); omega) (by show ((j : Nat) : Int) < (8 : Int); omega) rfl dX7_passes_63 ?_
              refine zz_if_le (tgt := 90) hx hb dX7_passes_64 (by decide) (hW3.2.2.1 _ _ _) (fun hc64 => ?_) (fun hc64 => ?_)
              · refine zz_iinc (lv' := [(1, .int (zi ((j + 1 : Nat) : Int))), (0, zr ad 30 ((0 : Nat) : Int))]) hx hb hl dX7_passes_90 (k0 := 1) rfl (by decide) rfl (fun ls hl => ?_)
                refine zz_goto (tgt := 50) hx hb dX7_passes_93 (by decide) ?_
                refine ih50 (j + 1) σ3 H3 locs3 ls ?_ (by omega) hW3 hS3 (zh_sub hl [1, 0] rfl)
                refine ⟨by omega, ?_⟩
                show σ3 = yP1 j (yP2 j (yPa σ nd))
                unfold yP1
                rw [← hj2, if_neg (fun q => by omega)]
              · refine zz_aload_n hx hb hl 0 dX7_passes_67 rfl rfl ?_
                refine zz_get (T := TX7) (N := 42) (k := 15) (κ := 30) (w := zr ad 55 ((0 : Nat) : Int)) hx hb hts hinX7 hown hK hW3 (zlN (hM 30 rfl)) rfl rfl rfl (by decide) (hts (.fieldLink RX7 45 "HailCityModel" "reached" "[I") (by decide +kernel)) (fun _ h9 => h9) rfl dX7_passes_68 ?_
                refine zz_iload_n hx hb hl 1 dX7_passes_71 rfl rfl ?_
                refine zz_iald (w := σ3 55 0 j) hx hb hK hW3 (zlN (hM 55 rfl)) rfl rfl rfl (by show (0 : Int) ≤ ((j : Nat) : Int); omega) (by show ((j : Nat) : Int) < (8 : Int); omega) rfl dX7_passes_72 ?_
                refine zz_aload_n hx hb hl 0 dX7_passes_73 rfl rfl ?_
                refine zz_get (T := TX7) (N := 42) (k := 1) (κ := 30) (w := .int (zi (σ3 30 0 1))) hx hb hts hinX7 hown hK hW3 (zlN (hM 30 rfl)) rfl rfl rfl (by decide) (hts (.fieldLink RX7 161 "HailCityModel" "now" "I") (by decide +kernel)) (fun _ h9 => h9) rfl dX7_passes_74 ?_
                refine zz_icmp_gt (tgt := 90) hx hb dX7_passes_77 (by decide) (hW3.2.2.1 _ _ _) (hW3.2.2.1 _ _ _) (fun hc77 => ?_) (fun hc77 => ?_)
                · refine zz_iinc (lv' := [(1, .int (zi ((j + 1 : Nat) : Int))), (0, zr ad 30 ((0 : Nat) : Int))]) hx hb hl dX7_passes_90 (k0 := 1) rfl (by decide) rfl (fun ls hl => ?_)
                  refine zz_goto (tgt := 50) hx hb dX7_passes_93 (by decide) ?_
                  refine ih50 (j + 1) σ3 H3 locs3 ls ?_ (by omega) hW3 hS3 (zh_sub hl [1, 0] rfl)
                  refine ⟨by omega, ?_⟩
                  show σ3 = yP1 j (yP2 j (yPa σ nd))
                  unfold yP1
                  rw [← hj2, if_neg (fun q => by omega)]
                · obtain ⟨n2, rfl⟩ : ∃ n2, n9 = n2 + 1 := ⟨n9 - 1, by omega⟩
                  have hok7 := hok8
                  obtain ⟨p1, p2, p3, p4, p5, p6, p7, p8⟩ := hok7
                  have p40 : (0 ≤ σ3 53 0 (8 * j) ∧ σ3 53 0 (8 * j) < 10) ∧ -1 ≤ σ3 54 0 (8 * j) ∧ σ3 54 0 (8 * j) < 160 ∧ (σ3 54 0 (8 * j) < 100 → σ3 54 0 (8 * j) < 60) ∧ (100 ≤ σ3 54 0 (8 * j) → 0 ≤ σ3 69 0 (σ3 54 0 (8 * j) - 100).toNat ∧ σ3 69 0 (σ3 54 0 (8 * j) - 100).toNat ≤ 3000000) := p4 0 (by omega)
                  refine zz_aload_n hx hb hl 0 dX7_passes_80 rfl rfl ?_
                  refine zz_iload_n hx hb hl 1 dX7_passes_81 rfl rfl ?_
                  refine zz_callV (T := TX7) (N := 42) (As := [.int (zi ((j : Nat) : Int))]) (rest := []) (v := ((0 : Nat) : Int)) (κ := 30) ⟨hx, hb, hml, hown, hts⟩ (c_X7_takeFirst l G ad A N0 σ3 hM j (by omega) n2 p1 p2 p40.2.2.1 p40.2.2.2.1 ⟨p7.1, by omega⟩ ⟨p8.1, by omega⟩ p40.2.2.2.2) (cwV 1 hts gX7_passes_X7_takeFirst rfl rfl rfl (by decide +kernel) ⟨Nat.le_of_ble_eq_true rfl, Nat.le_of_ble_eq_true rfl⟩) hK hW3 (zlN (hM 30 rfl)) rfl rfl (Nat.le_trans hsz hS3.1) hS3 rfl hl.1.1 rfl (Nat.le_of_ble_eq_true rfl) dX7_passes_82 ⟨Nat.le_of_ble_eq_true rfl, Nat.le_of_ble_eq_true rfl⟩ (fun x8 σ8 H8 locs8 hp8 hW8 hz8 hS8 => ?_)
                  refine W.eq (g2 := F0 m 85 ls []) rfl ?_
                  refine zz_aload_n hx hb hl 0 dX7_passes_85 rfl rfl ?_
                  refine zz_iload_n hx hb hl 1 dX7_passes_86 rfl rfl ?_
                  refine zz_callV (T := TX7) (N := 42) (As := [.int (zi ((j : Nat) : Int))]) (rest := []) (v := ((0 : Nat) : Int)) (κ := 30) ⟨hx, hb, hml, hown, hts⟩ (c_X7_leaves l G ad A N0 σ8 hM j (by omega) n2 (by rw [← hp8]; exact yMok_nx hok8) (by rw [← hp8, ymt_fr (by omega), hj2]; have h9 := yP2_17 (yPa σ nd) j; rw [yPa_fr (by decide)] at h9; omega)) (cwV 1 hts gX7_passes_X7_leaves rfl rfl rfl (by decide +kernel) ⟨Nat.le_of_ble_eq_true rfl, Nat.le_of_ble_eq_true rfl⟩) hK hW8 (zlN (hM 30 rfl)) rfl rfl (Nat.le_trans hsz hS8.1) hS8 rfl hl.1.1 rfl (Nat.le_of_ble_eq_true rfl) dX7_passes_87 ⟨Nat.le_of_ble_eq_true rfl, Nat.le_of_ble_eq_true rfl⟩ (fun x9 σ9 H9 locs9 hp9 hW9 hz9 hS9 => ?_)
                  refine W.eq (g2 := F0 m 90 ls []) rfl ?_
                  refine zz_iinc (lv' := [(1, .int (zi ((j + 1 : Nat) : Int))), (0, zr ad 30 ((0 : Nat) : Int))]) hx hb hl dX7_passes_90 (k0 := 1) rfl (by decide) rfl (fun ls hl => ?_)
                  refine zz_goto (tgt := 50) hx hb dX7_passes_93 (by decide) ?_
                  refine ih50 (j + 1) σ9 H9 locs9 ls ?_ (by omega) hW9 hS9 (zh_sub hl [1, 0] rfl)
                  refine ⟨by omega, ?_⟩
                  show σ9 = yP1 j (yP2 j (yPa σ nd))
                  unfold yP1
                  rw [← hj2, if_pos ⟨by omega, by omega⟩, show (σ3 52 0 j).toNat - 1 = n2 by omega, ← hp9, ← hp8]
        refine hcut50 _ 0 σ2 H2 locs2 ls ?_ (Nat.lt_succ_self _) hW2 hS2 (zh_sub hl [1, 0] rfl)
        exact ⟨Nat.zero_le _, hPA⟩
      · obtain ⟨n9, hok9⟩ := hok i (by omega)
        have e52 := hok9.1
        have e528 := hok9.2.1
        have hci := hcn i (by omega)
        refine zz_aload_n hx hb hl 0 dX7_passes_10 rfl rfl ?_
        refine zz_get (T := TX7) (N := 42) (k := 20) (κ := 30) (w := zr ad 60 ((0 : Nat) : Int)) hx hb hts hinX7 hown hK hW1 (zlN (hM 30 rfl)) rfl rfl rfl (by decide) (hts (.fieldLink RX7 57 "HailCityModel" "counted" "[I") (by decide +kernel)) (fun _ h9 => h9) rfl dX7_passes_11 ?_
        refine zz_iload_n hx hb hl 1 dX7_passes_14 rfl rfl ?_
        refine zz_dup2 hx hb dX7_passes_15 rfl (zr_cat _ _ _) ?_
        refine zz_iald (w := σ 60 0 i) hx hb hK hW1 (zlN (hM 60 rfl)) rfl rfl rfl (by show (0 : Int) ≤ ((i : Nat) : Int); omega) (by show ((i : Nat) : Int) < (8 : Int); omega) (show σ1 60 0 i = σ 60 0 i from by rw [hi2]; exact if_neg (by omega)) dX7_passes_16 ?_
        refine zz_aload_n hx hb hl 0 dX7_passes_17 rfl rfl ?_
        refine zz_iload_n hx hb hl 1 dX7_passes_18 rfl rfl ?_
        refine zz_callV (T := TX7) (N := 42) (As := [.int (zi ((i : Nat) : Int))]) (rest := [.int (zi (σ 60 0 i)), .int (zi ((i : Nat) : Int)), zr ad 60 ((0 : Nat) : Int)]) (v := ((0 : Nat) : Int)) (κ := 30) ⟨hx, hb, hml, hown, hts⟩ (c_X7_hasRider l G ad A N0 σ1 hM i (by omega) (σ 52 0 i).toNat (by rw [hi2, yPc_fr (by decide)]; omega) (by omega)) (cwV 1 hts gX7_passes_X7_hasRider rfl rfl rfl (by decide +kernel) ⟨Nat.le_of_ble_eq_true rfl, Nat.le_of_ble_eq_true rfl⟩) hK hW1 (zlN (hM 30 rfl)) rfl rfl (Nat.le_trans hsz hS1.1) hS1 rfl hl.1.1 rfl (by simp [zr_cat, zcat_i]) dX7_passes_19 ⟨Nat.le_of_ble_eq_true rfl, Nat.le_of_ble_eq_true rfl⟩ (fun x10 σ10 H10 locs10 hp10 hW10 hz10 hS10 => ?_)
        obtain ⟨rfl, hx9⟩ := hp10
        rw [propext (yhr_fr (σ := σ) (fun k => by rw [hi2, yPc_fr (by decide)]))] at hx9
        obtain rfl := hx9
        refine W.eq (g2 := F0 m 22 ls [.int (zi (zb (yhr σ i (σ 52 0 i).toNat))), .int (zi (σ 60 0 i)), .int (zi ((i : Nat) : Int)), zr ad 60 ((0 : Nat) : Int)]) rfl ?_
        refine zz_if_eqb (tgt := 29) hx hb dX7_passes_22 (by decide) (fun hc22 => ?_) (fun hc22 => ?_)
        · refine zz_iconst hx hb dX7_passes_29 ?_
          refine zz_iadd hx hb dX7_passes_30 ?_
          refine zz_iast (y := ((σ 60 0 i) + 0)) hx hb hK hW10 hS10 (zlN (hM 60 rfl)) rfl rfl rfl (by show (0 : Int) ≤ ((i : Nat) : Int); omega) (by show ((i : Nat) : Int) < (8 : Int); omega) ⟨by omega, by omega⟩ dX7_passes_31 (fun H11 locs11 hW11' hS11 => ?_)
          obtain ⟨σ11, hs11⟩ : ∃ z, z = zu σ1 60 0 i ((σ 60 0 i) + 0) := ⟨_, rfl⟩
          have hW11 : ZW G ad A σ11 H11 := by rw [hs11]; exact hW11'
          refine zz_iinc (lv' := [(1, .int (zi ((i + 1 : Nat) : Int))), (0, zr ad 30 ((0 : Nat) : Int))]) hx hb hl dX7_passes_32 (k0 := 1) rfl (by decide) rfl (fun ls hl => ?_)
          refine zz_goto (tgt := 2) hx hb dX7_passes_35 (by decide) ?_
          refine ih2 (i + 1) σ11 H11 locs11 ls ?_ (by omega) hW11 hS11 (zh_sub hl [1, 0] rfl)
          refine ⟨by omega, ?_⟩
          funext κ i' k
          by_cases h : κ = 60 ∧ i' = 0 ∧ k = i
          · obtain ⟨rfl, rfl, rfl⟩ := h
            rw [hs11, zu_same]
            unfold yPc
            rw [if_pos (by omega), zb_f hc22]
          · rw [hs11, zu_ne h, hi2]
            unfold yPc
            by_cases h2 : κ = 60 ∧ i' = 0 ∧ k < i
            · rw [if_pos h2, if_pos (by omega)]
            · rw [if_neg h2, if_neg (by omega)]
        · refine zz_iconst hx hb dX7_passes_25 ?_
          refine zz_goto (tgt := 30) hx hb dX7_passes_26 (by decide) ?_
          refine zz_iadd hx hb dX7_passes_30 ?_
          refine zz_iast (y := ((σ 60 0 i) + 1)) hx hb hK hW10 hS10 (zlN (hM 60 rfl)) rfl rfl rfl (by show (0 : Int) ≤ ((i : Nat) : Int); omega) (by show ((i : Nat) : Int) < (8 : Int); omega) ⟨by omega, by omega⟩ dX7_passes_31 (fun H12 locs12 hW12' hS12 => ?_)
          obtain ⟨σ12, hs12⟩ : ∃ z, z = zu σ1 60 0 i ((σ 60 0 i) + 1) := ⟨_, rfl⟩
          have hW12 : ZW G ad A σ12 H12 := by rw [hs12]; exact hW12'
          refine zz_iinc (lv' := [(1, .int (zi ((i + 1 : Nat) : Int))), (0, zr ad 30 ((0 : Nat) : Int))]) hx hb hl dX7_passes_32 (k0 := 1) rfl (by decide) rfl (fun ls hl => ?_)
          refine zz_goto (tgt := 2) hx hb dX7_passes_35 (by decide) ?_
          refine ih2 (i + 1) σ12 H12 locs12 ls ?_ (by omega) hW12 hS12 (zh_sub hl [1, 0] rfl)
          refine ⟨by omega, ?_⟩
          funext κ i' k
          by_cases h : κ = 60 ∧ i' = 0 ∧ k = i
          · obtain ⟨rfl, rfl, rfl⟩ := h
            rw [hs12, zu_same]
            unfold yPc
            rw [if_pos (by omega), zb_t hc22]
          · rw [hs12, zu_ne h, hi2]
            unfold yPc
            by_cases h2 : κ = 60 ∧ i' = 0 ∧ k < i
            · rw [if_pos h2, if_pos (by omega)]
            · rw [if_neg h2, if_neg (by omega)]
  refine hcut2 _ 0 σ s.heap [] ls ?_ (Nat.lt_succ_self _) hW0 hS0 (zh_sub hl [1, 0] rfl)
  refine ⟨Nat.zero_le _, ?_⟩
  funext κ i k
  exact (if_neg (by omega)).symm
