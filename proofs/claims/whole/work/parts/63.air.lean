/-! a request is given: well formed still; the airport -/
theorem ygm_fr {t : zS} {d q κ k : Nat} (h : ¬ ((κ = 64 ∨ κ = 70 ∨ κ = 71 ∨ κ = 73) ∧ k = q) ∧ ¬ ((κ = 53 ∨ κ = 54) ∧ (k = 8 * d ∨ k = 8 * d + 1)) ∧ ¬ (κ = 52 ∧ k = d)) : ygm t d q κ 0 k = t κ 0 k := by
  unfold ygm
  rw [zu_ne (by omega), zu_ne (by omega), zu_ne (by omega), zu_ne (by omega), zu_ne (by omega), zu_ne (by omega), zu_ne (by omega), zu_ne (by omega), zu_ne (by omega), zu_ne (by omega)]
theorem ygm_at {t : zS} {d q : Nat} : (ygm t d q 53 0 (8 * d) = t 65 0 q ∧ ygm t d q 53 0 (8 * d + 1) = t 66 0 q) ∧ (ygm t d q 54 0 (8 * d) = (q : Int) ∧ ygm t d q 54 0 (8 * d + 1) = 100 + (q : Int)) ∧ ygm t d q 52 0 d = 2 ∧ ygm t d q 64 0 q = 1 ∧ ygm t d q 70 0 q = (d : Int) ∧ ygm t d q 73 0 q = t 30 0 1 ∧ ygm t d q 71 0 q = ygp t d q := by
  unfold ygm
  refine ⟨⟨?_, ?_⟩, ⟨?_, ?_⟩, ?_, ?_, ?_, ?_, ?_⟩
  · rw [zu_ne (by omega), zu_ne (by omega), zu_ne (by omega), zu_ne (by omega), zu_ne (by omega), zu_same]
  · rw [zu_ne (by omega), zu_ne (by omega), zu_same]
  · rw [zu_ne (by omega), zu_ne (by omega), zu_ne (by omega), zu_ne (by omega), zu_same]
  · rw [zu_ne (by omega), zu_same]
    omega
  · rw [zu_same]
  · rw [zu_ne (by omega), zu_ne (by omega), zu_ne (by omega), zu_ne (by omega), zu_ne (by omega), zu_ne (by omega), zu_ne (by omega), zu_ne (by omega), zu_ne (by omega), zu_same]
  · rw [zu_ne (by omega), zu_ne (by omega), zu_ne (by omega), zu_ne (by omega), zu_ne (by omega), zu_ne (by omega), zu_ne (by omega), zu_ne (by omega), zu_same]
  · rw [zu_ne (by omega), zu_ne (by omega), zu_ne (by omega), zu_ne (by omega), zu_ne (by omega), zu_ne (by omega), zu_ne (by omega), zu_same]
  · rw [zu_ne (by omega), zu_ne (by omega), zu_ne (by omega), zu_ne (by omega), zu_ne (by omega), zu_ne (by omega), zu_same]
theorem yWF_gm {t : zS} {nd nr ns d q : Nat} {c B : Int} (h : yWF t nd nr ns c B) (hd : d < nd) (hq : q < nr) (h0 : t 64 0 q = 0) (h52 : t 52 0 d = 0) (hw : t 47 0 (10 * (t 49 0 d).toNat + (t 65 0 q).toNat) < 100000) : yWF (ygm t d q) nd nr ns c B := by
  obtain ⟨g, hds, hqs, hns⟩ := id h
  obtain ⟨⟨p0, p1⟩, ⟨w0, w1⟩, n2, s1, d1, t1, r1⟩ := ygm_at (t := t) (d := d) (q := q)
  obtain ⟨⟨b1, b2, b3⟩, bg⟩ := id g
  have F : ∀ κ k, ¬ ((κ = 64 ∨ κ = 70 ∨ κ = 71 ∨ κ = 73) ∧ k = q) ∧ ¬ ((κ = 53 ∨ κ = 54) ∧ (k = 8 * d ∨ k = 8 * d + 1)) ∧ ¬ (κ = 52 ∧ k = d) → ygm t d q κ 0 k = t κ 0 k := fun κ k h => ygm_fr h
  have hwq := hqs q hq
  obtain ⟨c1, c2, c3, c4, c5, c6, c7, c8, c9, c10, c11, c12⟩ := hwq
  have hN : yDN (ygm t d q) nr = yDN t nr := yDN_same (fun p hp => by
    by_cases e : p = q
    · subst e; omega
    · rw [F 64 p (by omega)])
  refine ⟨yWg_ot g (fun κ k hk => F κ k (by omega)) (by rw [F 30 1 (by omega)]; exact bg.2.1) (by rw [F 30 17 (by omega)]; exact bg.2.2.2.1), fun d' hd9 => ?_, fun p hp => ?_, yWn_ot hns (fun κ k hk => F κ k (by omega))⟩
  · by_cases e : d' = d
    · subst e
      obtain ⟨⟨a1, a2⟩, a3, a4, a5, a6, a7, a8, a9, a10, a11⟩ := hds d' hd
      have e0 : 8 * d' + 0 = 8 * d' := rfl
      refine ⟨⟨by rw [F 49 _ (by omega)]; exact a1, by rw [n2]; decide⟩, fun j hj => ?_, fun j hj => ?_, fun hj => ?_, by rw [F 55 _ (by omega)]; exact a6, ⟨by rw [F 58 _ (by omega)]; exact a7.1, fun j hj => by rw [F 59 _ (by omega)]; exact a7.2 j hj⟩, by rw [F 60 _ (by omega), F 30 1 (by omega)]; exact a8, by rw [F 61 _ (by omega), hN]; exact a9, by rw [F 61 _ (by omega), F 62 _ (by omega)]; exact a10, ?_⟩
      · rw [n2] at hj
        rcases (show j = 0 ∨ j = 1 by omega) with rfl | rfl
        · rw [e0, p0]; exact c1
        · rw [p1]; exact c2
      · rw [n2] at hj
        obtain rfl : j = 0 := by omega
        rw [e0, p0, p1, F 47 _ (by omega)]
        exact c3
      · unfold ywy
        rw [p0, F 49 _ (by omega), F 47 _ (by omega)]
        exact hw
      · rw [n2]
        rw [h52] at a11
        refine yRS_give hq b2 a11 ?_ w1 s1 d1 (fun p hp hpq => ⟨F 64 p (by omega), F 70 p (by omega)⟩)
        exact w0
    · refine yWd_ot (hds d' hd9) (Int.le_refl _) (fun κ k hk => F κ k (by omega)) (by rw [F 30 1 (by omega)]; exact Int.le_refl _) (Nat.le_of_eq hN.symm) (fun p hp => ?_)
      by_cases e2 : p = q
      · subst e2
        rw [d1]
        have := c7 h0
        omega
      · rw [F 64 p (by omega), F 70 p (by omega)]
        exact ⟨fun h => ⟨rfl, h⟩, fun h _ => h⟩
  · by_cases e2 : p = q
    · subst e2
      have hwa := yWF_w h (t 49 0 d).toNat (t 65 0 p).toNat (by have := (hds d hd).1.1; omega) (by omega)
      have hwb := yWF_w h (t 65 0 p).toNat (t 66 0 p).toNat (by omega) (by omega)
      unfold yWq
      rw [s1, d1, t1, r1, F 65 _ (by omega), F 66 _ (by omega), F 67 _ (by omega), F 69 _ (by omega), F 72 _ (by omega), F 47 _ (by omega), F 30 1 (by omega)]
      refine ⟨c1, c2, c3, c4, c5, by omega, by omega, by omega, by omega, by omega, ?_, c12⟩
      unfold ygp
      omega
    · exact yWq_ot (hqs p hp) (Nat.le_refl _) (fun κ k hk => F κ k (by omega)) (by rw [F 30 1 (by omega)]; exact Int.le_refl _)
/-- a request is given -/
noncomputable def ygi (t : zS) (q d : Nat) : zS := ybf (yLV d 2 (ygm t d q)) d
theorem yWF_gi {t : zS} {nd nr ns d q : Nat} {c B : Int} (h : yWF t nd nr ns c B) (hd : d < nd) (hq : q < nr) (h0 : t 64 0 q = 0) (h52 : t 52 0 d = 0) (hw : t 47 0 (10 * (t 49 0 d).toNat + (t 65 0 q).toNat) < 100000) : yWF (ygi t q d) nd nr ns c (B + 1) :=
  yWF_bf (yWF_LV hd 2 _ (yWF_gm h hd hq h0 h52 hw) (ygm_at (t := t) (d := d) (q := q)).2.2.1)
/-- who is first at the airport -/
noncomputable def yfM (t : zS) : Nat → Int
  | 0 => -1
  | k + 1 => @ite Int (ymf t k ∧ t 49 0 k = 0 ∧ (yfM t k = -1 ∨ t 56 0 k < t 56 0 (yfM t k).toNat)) (Classical.propDecidable _) (k : Int) (yfM t k)
theorem yfM_rg (t : zS) : ∀ n : Nat, yfM t n = -1 ∨ (0 ≤ yfM t n ∧ yfM t n < n ∧ ymf t (yfM t n).toNat ∧ t 49 0 (yfM t n).toNat = 0)
  | 0 => Or.inl rfl
  | n + 1 => by
    have ih := yfM_rg t n
    by_cases c : ymf t n ∧ t 49 0 n = 0 ∧ (yfM t n = -1 ∨ t 56 0 n < t 56 0 (yfM t n).toNat)
    · have e : yfM t (n + 1) = (n : Int) := if_pos c
      rw [e]
      exact Or.inr ⟨by omega, by omega, by rw [show ((n : Int)).toNat = n by omega]; exact c.1, by rw [show ((n : Int)).toNat = n by omega]; exact c.2.1⟩
    · have e : yfM t (n + 1) = yfM t n := if_neg c
      rw [e]
      rcases ih with h | ⟨h1, h2, h3⟩
      · exact Or.inl h
      · exact Or.inr ⟨h1, by omega, h3⟩
def yaC (nd i : Nat) (w : zS) : Prop := w 64 0 i = 0 ∧ w 65 0 i = 0 ∧ yfM w nd ≠ -1
noncomputable def yAR (nd : Nat) : Nat → zS → zS
  | 0, t => t
  | i + 1, t => @ite zS (yaC nd i (yAR nd i t)) (Classical.propDecidable _) (ygi (yAR nd i t) i (yfM (yAR nd i t) nd).toNat) (yAR nd i t)
noncomputable def yAN (nd : Nat) (t : zS) : Nat → Nat
  | 0 => 0
  | i + 1 => @ite Nat (yaC nd i (yAR nd i t)) (Classical.propDecidable _) (yAN nd t i + 1) (yAN nd t i)
theorem yAN_le (nd : Nat) (t : zS) : ∀ i, yAN nd t i ≤ i
  | 0 => Nat.le_refl 0
  | i + 1 => by
    have h := yAN_le nd t i
    show @ite Nat _ (Classical.propDecidable _) _ _ ≤ _
    split <;> omega
theorem yWF_00 {t : zS} {nd nr ns : Nat} {c B : Int} (h : yWF t nd nr ns c B) {d q : Nat} (h1 : t 49 0 d = t 65 0 q) (h2 : 0 ≤ t 65 0 q ∧ t 65 0 q < 10) : t 47 0 (10 * (t 49 0 d).toNat + (t 65 0 q).toNat) = 0 := by
  obtain ⟨⟨a1, a2, a5, a6, a7, a8, a9⟩, -⟩ := h
  rw [h1, a9 _ _ (by omega) (by omega)]
  exact ywf_dg (by decide) a8 10 _
theorem yWF_a1 {w : zS} {nd nr ns i : Nat} {c B : Int} (h : yWF w nd nr ns c B) (hi : i < nr) (ha : yaC nd i w) : yWF (ygi w i (yfM w nd).toNat) nd nr ns c (B + 1) := by
  obtain ⟨h1, h2, h3⟩ := ha
  obtain ⟨f1, f2, f3, f4⟩ := (yfM_rg w nd).resolve_left h3
  exact yWF_gi h (by omega) hi h1 f3.1 (by rw [yWF_00 h (by omega) (by omega)]; decide)
theorem yWF_AR {t : zS} {nd nr ns : Nat} {c B : Int} (h : yWF t nd nr ns c B) : ∀ i : Nat, i ≤ nr → yWF (yAR nd i t) nd nr ns c (B + i)
  | 0, _ => yWF_B h (Int.le_refl _) (by omega)
  | i + 1, hi => by
    have ih := yWF_AR h i (by omega)
    by_cases ha : yaC nd i (yAR nd i t)
    · rw [show yAR nd (i + 1) t = _ from if_pos ha]
      exact yWF_B (yWF_a1 ih (by omega) ha) (Int.le_refl _) (by omega)
    · rw [show yAR nd (i + 1) t = _ from if_neg ha]
      exact yWF_B ih (Int.le_refl _) (by omega)

set_option maxHeartbeats 4000000 in
set_option maxRecDepth 100000 in
theorem c_X7_airport (l : Launch) (G : zG) (ad : zA) (A : Nat → Prop) (N0 : Nat) (σ : zS) (hM : zMm ad) (nd nr ns : Nat) (c9 B9 : Int) (hWF : yWF σ nd nr ns c9 B9) (hB9 : B9 ≤ 1000000) : Met l yX7_airport wsX7_airport ({ frames := 4, cells := 0, slots := 0, locals := 86 }) (zP G ad A N0 σ [zr ad 30 ((0 : Nat) : Int)]) (zQ G ad A zri (fun r u => (yAN nd (zu σ 30 0 0 0) nr : Int) = r ∧ u = yAR nd nr (zu σ 30 0 0 0))) 0 0 A := by
  refine zz_of (cc := cX7_airport) (maxL := 5) (ret := (some .int)) (by decide) rfl ⟨rfl, rfl⟩ (List.forall_mem_cons.mpr ⟨zr_cat _ _ _, fun _ h => absurd h List.not_mem_nil⟩) (Nat.le_of_ble_eq_true rfl) ?_
  intro p e s m below meth c hx hb hr hml hts hown hlocks hsz hW0 hK ls hl
  have hS0 : va_S A s.heap s.heap [] := va_S.rf
  have hl : zh ls 5 [(0, zr ad 30 ((0 : Nat) : Int))] := hl
  have hinX7 : ∀ w ∈ u_ws RX7 TX7 42, w ∈ wsX7_airport := by decide +kernel
  have h8 := hWF.1.2.1.1
  have h23 := hWF.1.2.1.2.1
  have hnd := hWF.1.1.1
  have hnr := hWF.1.1.2.1
  have hnow := hWF.1.2.2.1
  have hord := hWF.1.2.2.2.2.1
  refine zz_aload_n hx hb hl 0 dX7_airport_0 rfl rfl ?_
  refine zz_iconst hx hb dX7_airport_1 ?_
  refine zz_put (T := TX7) (N := 42) (k := 0) (κ := 30) (v := ((0 : Nat) : Int)) (x := 0) (ty := .int) hx hb hts hinX7 tyX7 tyX7_ok nmX7 hown hK hW0 hS0 (zlN (hM 30 rfl)) rfl rfl rfl (by decide) (hts (.fieldLink RX7 120 "HailCityModel" "thrown" "I") (by decide +kernel)) (fun _ h9 => h9) rfl (by decide +kernel) rfl rfl rfl ⟨by decide, by decide⟩ (fun h9 _ => absurd h9 (by decide)) (fun h9 => absurd h9 (by decide)) dX7_airport_2 (fun H1 locs1 hW1' hS1 => ?_)
  obtain ⟨σ1, hs1⟩ : ∃ z, z = zu σ 30 0 0 0 := ⟨_, rfl⟩
  have hW1 : ZW G ad A σ1 H1 := by rw [hs1]; exact hW1'
  refine zz_iconst hx hb dX7_airport_5 ?_
  refine zz_istore_n (lv' := [(1, .int (zi 0)), (0, zr ad 30 ((0 : Nat) : Int))]) hx hb hl dX7_airport_6 rfl (by decide) rfl (fun ls hl => ?_)
  refine zz_iconst hx hb dX7_airport_7 ?_
  refine zz_istore_n (lv' := [(2, .int (zi 0)), (1, .int (zi 0)), (0, zr ad 30 ((0 : Nat) : Int))]) hx hb hl dX7_airport_8 rfl (by decide) rfl (fun ls hl => ?_)
  have hcut9 : ∀ (n9 : Nat) (n i : Nat)  (σ9 : zS) (H9 : Heap) (locs9 : List Loc) (ls : Array Slot), (i ≤ nr ∧ n = yAN nd (zu σ 30 0 0 0) i ∧ σ9 = yAR nd i (zu σ 30 0 0 0)) → (nr - i) < n9 → ZW G ad A σ9 H9 → va_S A s.heap H9 locs9 → zh ls 5 [(0, zr ad 30 ((0 : Nat) : Int)), (1, .int (zi ((n : Nat) : Int))), (2, .int (zi ((i : Nat) : Int)))] → W p l e ({ frames := 4, cells := 0, slots := 0, locals := 86 }) s m ([zr ad 30 ((0 : Nat) : Int)] : List Value).toArray below meth c H9 locs9 0 0 (MQ below (zQ G ad A zri (fun r u => (yAN nd (zu σ 30 0 0 0) nr : Int) = r ∧ u = yAR nd nr (zu σ 30 0 0 0))) ([zr ad 30 ((0 : Nat) : Int)] : List Value).toArray s 0 0 A) (F0 m 9 ls []) := by
    intro n9
    induction n9 with
    | zero =>
      intro n i σ2 H2 locs2 ls hI9 hm9 hW2 hS2 hl
      exact absurd hm9 (Nat.not_lt_zero _)
    | succ n9 ih9 =>
      intro n i σ2 H2 locs2 ls hI9 hm9 hW2 hS2 hl
      obtain ⟨hi1, hn2, hi2⟩ := hI9
      have hw := yWF_AR (yWF_z (x := 0) hWF) i hi1
      rw [← hi2] at hw
      have hnle := yAN_le nd (zu σ 30 0 0 0) i
      have hord2 := hw.1.2.2.2.2.1
      refine zz_iload_n hx hb hl 2 dX7_airport_9 rfl rfl ?_
      refine zz_aload_n hx hb hl 0 dX7_airport_10 rfl rfl ?_
      refine zz_get (T := TX7) (N := 42) (k := 23) (κ := 30) (w := .int (zi ((nr : Nat) : Int))) hx hb hts hinX7 hown hK hW2 (zlN (hM 30 rfl)) rfl rfl rfl (by decide) (hts (.fieldLink RX7 130 "HailCityModel" "requests" "I") (by decide +kernel)) (fun _ h9 => h9) (congrArg (fun z => Value.int (zi z)) (show σ2 30 0 23 = ((nr : Nat) : Int) from hw.1.2.1.2.1)) dX7_airport_11 ?_
      refine zz_icmp_ge (tgt := 122) hx hb dX7_airport_14 (by decide) ⟨by omega, by omega⟩ ⟨by omega, by omega⟩ (fun hc14 => ?_) (fun hc14 => ?_)
      · refine zz_iload_n hx hb hl 1 dX7_airport_122 rfl rfl ?_
        refine W.eq (g2 := F0 m 123 ls [.int (zi ((n : Nat) : Int))]) rfl ?_
        refine zz_reti hx hb hr hlocks hW2 hS2 ?_ dX7_airport_123
        obtain rfl : i = nr := by omega
        exact ⟨by rw [hn2], hi2⟩
      · refine zz_iconst hx hb dX7_airport_17 ?_
        refine zz_istore_n (lv' := [(3, .int (zi (-1))), (0, zr ad 30 ((0 : Nat) : Int)), (1, .int (zi ((n : Nat) : Int))), (2, .int (zi ((i : Nat) : Int)))]) hx hb hl dX7_airport_18 rfl (by decide) rfl (fun ls hl => ?_)
        refine zz_iconst hx hb dX7_airport_19 ?_
        refine zz_istore (lv' := [(4, .int (zi 0)), (3, .int (zi (-1))), (0, zr ad 30 ((0 : Nat) : Int)), (1, .int (zi ((n : Nat) : Int))), (2, .int (zi ((i : Nat) : Int)))]) hx hb hl dX7_airport_20 (by decide) rfl (fun ls hl => ?_)
        have hcut22 : ∀ (n9 : Nat) (k9 : Nat)  (H9 : Heap) (locs9 : List Loc) (ls : Array Slot), (k9 ≤ nd) → (nd - k9) < n9 → ZW G ad A σ2 H9 → va_S A s.heap H9 locs9 → zh ls 5 [(0, zr ad 30 ((0 : Nat) : Int)), (1, .int (zi ((n : Nat) : Int))), (2, .int (zi ((i : Nat) : Int))), (3, .int (zi (yfM σ2 k9))), (4, .int (zi ((k9 : Nat) : Int)))] → W p l e ({ frames := 4, cells := 0, slots := 0, locals := 86 }) s m ([zr ad 30 ((0 : Nat) : Int)] : List Value).toArray below meth c H9 locs9 0 0 (MQ below (zQ G ad A zri (fun r u => (yAN nd (zu σ 30 0 0 0) nr : Int) = r ∧ u = yAR nd nr (zu σ 30 0 0 0))) ([zr ad 30 ((0 : Nat) : Int)] : List Value).toArray s 0 0 A) (F0 m 22 ls []) := by
          intro n9
          induction n9 with
          | zero =>
            intro k9 H3 locs3 ls hI22 hm22 hW3 hS3 hl
            exact absurd hm22 (Nat.not_lt_zero _)
          | succ n9 ih22 =>
            intro k9 H3 locs3 ls hI22 hm22 hW3 hS3 hl
            have hfr := yfM_rg σ2 k9
            refine zz_iload hx hb hl 4 dX7_airport_22 rfl ?_
            refine zz_aload_n hx hb hl 0 dX7_airport_24 rfl rfl ?_
            refine zz_get (T := TX7) (N := 42) (k := 8) (κ := 30) (w := .int (zi ((nd : Nat) : Int))) hx hb hts hinX7 hown hK hW3 (zlN (hM 30 rfl)) rfl rfl rfl (by decide) (hts (.fieldLink RX7 127 "HailCityModel" "drivers" "I") (by decide +kernel)) (fun _ h9 => h9) (congrArg (fun z => Value.int (zi z)) (show σ2 30 0 8 = ((nd : Nat) : Int) from hw.1.2.1.1)) dX7_airport_25 ?_
            refine zz_icmp_ge (tgt := 84) hx hb dX7_airport_28 (by decide) ⟨by omega, by omega⟩ ⟨by omega, by omega⟩ (fun hc28 => ?_) (fun hc28 => ?_)
            · have hkn : k9 = nd := by omega
              have hff := yfM_rg σ2 nd
              have hwq := hw.2.2.1 i (by omega)
              have hl : zh ls 5 [(0, zr ad 30 ((0 : Nat) : Int)), (1, .int (zi ((n : Nat) : Int))), (2, .int (zi ((i : Nat) : Int))), (3, .int (zi (yfM σ2 nd))), (4, .int (zi ((nd : Nat) : Int)))] := by
                rw [← hkn]
                exact hl
              refine zz_aload_n hx hb hl 0 dX7_airport_84 rfl rfl ?_
              refine zz_get (T := TX7) (N := 42) (k := 24) (κ := 30) (w := zr ad 64 ((0 : Nat) : Int)) hx hb hts hinX7 hown hK hW3 (zlN (hM 30 rfl)) rfl rfl rfl (by decide) (hts (.fieldLink RX7 66 "HailCityModel" "state" "[I") (by decide +kernel)) (fun _ h9 => h9) rfl dX7_airport_85 ?_
              refine zz_iload_n hx hb hl 2 dX7_airport_88 rfl rfl ?_
              refine zz_iald (w := σ2 64 0 i) hx hb hK hW3 (zlN (hM 64 rfl)) rfl rfl rfl (by show (0 : Int) ≤ ((i : Nat) : Int); omega) (by show ((i : Nat) : Int) < (60 : Int); omega) rfl dX7_airport_89 ?_
              refine zz_if_ne (tgt := 116) hx hb dX7_airport_90 (by decide) (hW3.2.2.1 _ _ _) (fun hc90 => ?_) (fun hc90 => ?_)
              · refine zz_iinc (lv' := [(2, .int (zi ((i + 1 : Nat) : Int))), (0, zr ad 30 ((0 : Nat) : Int)), (1, .int (zi ((n : Nat) : Int))), (3, .int (zi (yfM σ2 nd))), (4, .int (zi ((nd : Nat) : Int)))]) hx hb hl dX7_airport_116 (k0 := 2) rfl (by decide) rfl (fun ls hl => ?_)
                refine zz_goto (tgt := 9) hx hb dX7_airport_119 (by decide) ?_
                refine ih9 n (i + 1) σ2 H3 locs3 ls ?_ (by omega) hW3 hS3 (zh_sub hl [1, 2, 0] rfl)
                have hac : ¬ yaC nd i σ2 := fun q9 => by have q1 := q9.1; have q2 := q9.2.1; have q3 := q9.2.2; omega
                rw [hi2] at hac
                refine ⟨by omega, ?_, ?_⟩
                · rw [hn2]; exact (if_neg hac).symm
                · rw [hi2]; exact (if_neg hac).symm
              · refine zz_aload_n hx hb hl 0 dX7_airport_93 rfl rfl ?_
                refine zz_get (T := TX7) (N := 42) (k := 25) (κ := 30) (w := zr ad 65 ((0 : Nat) : Int)) hx hb hts hinX7 hown hK hW3 (zlN (hM 30 rfl)) rfl rfl rfl (by decide) (hts (.fieldLink RX7 69 "HailCityModel" "from" "[I") (by decide +kernel)) (fun _ h9 => h9) rfl dX7_airport_94 ?_
                refine zz_iload_n hx hb hl 2 dX7_airport_97 rfl rfl ?_
                refine zz_iald (w := σ2 65 0 i) hx hb hK hW3 (zlN (hM 65 rfl)) rfl rfl rfl (by show (0 : Int) ≤ ((i : Nat) : Int); omega) (by show ((i : Nat) : Int) < (60 : Int); omega) rfl dX7_airport_98 ?_
                refine zz_if_ne (tgt := 116) hx hb dX7_airport_99 (by decide) (hW3.2.2.1 _ _ _) (fun hc99 => ?_) (fun hc99 => ?_)
                · refine zz_iinc (lv' := [(2, .int (zi ((i + 1 : Nat) : Int))), (0, zr ad 30 ((0 : Nat) : Int)), (1, .int (zi ((n : Nat) : Int))), (3, .int (zi (yfM σ2 nd))), (4, .int (zi ((nd : Nat) : Int)))]) hx hb hl dX7_airport_116 (k0 := 2) rfl (by decide) rfl (fun ls hl => ?_)
                  refine zz_goto (tgt := 9) hx hb dX7_airport_119 (by decide) ?_
                  refine ih9 n (i + 1) σ2 H3 locs3 ls ?_ (by omega) hW3 hS3 (zh_sub hl [1, 2, 0] rfl)
                  have hac : ¬ yaC nd i σ2 := fun q9 => by have q1 := q9.1; have q2 := q9.2.1; have q3 := q9.2.2; omega
                  rw [hi2] at hac
                  refine ⟨by omega, ?_, ?_⟩
                  · rw [hn2]; exact (if_neg hac).symm
                  · rw [hi2]; exact (if_neg hac).symm
                · refine zz_iload_n hx hb hl 3 dX7_airport_102 rfl rfl ?_
                  refine zz_iconst hx hb dX7_airport_103 ?_
                  refine zz_icmp_eq (tgt := 116) hx hb dX7_airport_104 (by decide) ⟨by omega, by omega⟩ ⟨by decide, by decide⟩ (fun hc104 => ?_) (fun hc104 => ?_)
                  · refine zz_iinc (lv' := [(2, .int (zi ((i + 1 : Nat) : Int))), (0, zr ad 30 ((0 : Nat) : Int)), (1, .int (zi ((n : Nat) : Int))), (3, .int (zi (yfM σ2 nd))), (4, .int (zi ((nd : Nat) : Int)))]) hx hb hl dX7_airport_116 (k0 := 2) rfl (by decide) rfl (fun ls hl => ?_)
                    refine zz_goto (tgt := 9) hx hb dX7_airport_119 (by decide) ?_
                    refine ih9 n (i + 1) σ2 H3 locs3 ls ?_ (by omega) hW3 hS3 (zh_sub hl [1, 2, 0] rfl)
                    have hac : ¬ yaC nd i σ2 := fun q9 => by have q1 := q9.1; have q2 := q9.2.1; have q3 := q9.2.2; omega
                    rw [hi2] at hac
                    refine ⟨by omega, ?_, ?_⟩
                    · rw [hn2]; exact (if_neg hac).symm
                    · rw [hi2]; exact (if_neg hac).symm
                  · refine zz_aload_n hx hb hl 0 dX7_airport_107 rfl rfl ?_
                    refine zz_iload_n hx hb hl 2 dX7_airport_108 rfl rfl ?_
                    refine zz_iload_n hx hb hl 3 dX7_airport_109 rfl rfl ?_
                    refine W.eq (g2 := F0 m 110 ls [.int (zi (((yfM σ2 nd).toNat : Nat) : Int)), .int (zi ((i : Nat) : Int)), zr ad 30 ((0 : Nat) : Int)]) (by rw [show (((yfM σ2 nd).toNat : Nat) : Int) = yfM σ2 nd by omega]) ?_
                    refine zz_callV (T := TX7) (N := 42) (As := [.int (zi ((i : Nat) : Int)), .int (zi (((yfM σ2 nd).toNat : Nat) : Int))]) (rest := []) (v := ((0 : Nat) : Int)) (κ := 30) ⟨hx, hb, hml, hown, hts⟩ (c_X7_give l G ad A N0 σ2 hM (yfM σ2 nd).toNat (by omega) i (by omega) (hff.resolve_left (by omega)).2.2.1.1 (hw.2.1 _ (by omega)).1.1 (hw.2.2.1 i (by omega)).1 (hw.2.2.1 i (by omega)).2.1 (fun a b ha hb => by have h9 := yWF_w hw a b ha hb; omega) hw.1.2.2.1 (by have h9 := (hw.2.1 _ (show (yfM σ2 nd).toNat < nd by omega)).2.2.2.2.2.2.2.1; have := yDN_le σ2 nr; omega) (by have h9 := (hw.2.1 _ (show (yfM σ2 nd).toNat < nd by omega)).2.2.2.2.2.2.2; have := yDN_le σ2 nr; omega) (hw.2.2.1 i (by omega)).2.2.2.2.1 (by have := hw.1.2.2.2.2.1; omega)) (cwV 2 hts gX7_airport_X7_give rfl rfl rfl (by decide +kernel) ⟨Nat.le_of_ble_eq_true rfl, Nat.le_of_ble_eq_true rfl⟩) hK hW3 (zlN (hM 30 rfl)) rfl rfl (Nat.le_trans hsz hS3.1) hS3 rfl hl.1.1 rfl (Nat.le_of_ble_eq_true rfl) dX7_airport_110 ⟨Nat.le_of_ble_eq_true rfl, Nat.le_of_ble_eq_true rfl⟩ (fun x4 σ4 H4 locs4 hp4 hW4 hz4 hS4 => ?_)
                    have hgi : σ4 = ygi σ2 i (yfM σ2 nd).toNat := hp4.symm
                    refine W.eq (g2 := F0 m 113 ls []) rfl ?_
                    refine zz_iinc (lv' := [(1, .int (zi ((n + 1 : Nat) : Int))), (0, zr ad 30 ((0 : Nat) : Int)), (2, .int (zi ((i : Nat) : Int))), (3, .int (zi (yfM σ2 nd))), (4, .int (zi ((nd : Nat) : Int)))]) hx hb hl dX7_airport_113 (k0 := 1) rfl (by decide) rfl (fun ls hl => ?_)
                    refine zz_iinc (lv' := [(2, .int (zi ((i + 1 : Nat) : Int))), (1, .int (zi ((n + 1 : Nat) : Int))), (0, zr ad 30 ((0 : Nat) : Int)), (3, .int (zi (yfM σ2 nd))), (4, .int (zi ((nd : Nat) : Int)))]) hx hb hl dX7_airport_116 (k0 := 2) rfl (by decide) rfl (fun ls hl => ?_)
                    refine zz_goto (tgt := 9) hx hb dX7_airport_119 (by decide) ?_
                    refine ih9 (n + 1) (i + 1) σ4 H4 locs4 ls ?_ (by omega) hW4 hS4 (zh_sub hl [2, 1, 0] rfl)
                    have hac : yaC nd i σ2 := ⟨by omega, by omega, by omega⟩
                    rw [hi2] at hac
                    refine ⟨by omega, ?_, ?_⟩
                    · rw [hn2]; exact (if_pos hac).symm
                    · rw [hgi, hi2]; exact (if_pos hac).symm
            · refine zz_aload_n hx hb hl 0 dX7_airport_31 rfl rfl ?_
              refine zz_iload hx hb hl 4 dX7_airport_32 rfl ?_
              refine zz_callV (T := TX7) (N := 42) (As := [.int (zi ((k9 : Nat) : Int))]) (rest := []) (v := ((0 : Nat) : Int)) (κ := 30) ⟨hx, hb, hml, hown, hts⟩ (c_X7_isFree l G ad A N0 σ2 hM k9 (by omega)) (cwV 1 hts gX7_airport_X7_isFree rfl rfl rfl (by decide +kernel) ⟨Nat.le_of_ble_eq_true rfl, Nat.le_of_ble_eq_true rfl⟩) hK hW3 (zlN (hM 30 rfl)) rfl rfl (Nat.le_trans hsz hS3.1) hS3 rfl hl.1.1 rfl (Nat.le_of_ble_eq_true rfl) dX7_airport_34 ⟨Nat.le_of_ble_eq_true rfl, Nat.le_of_ble_eq_true rfl⟩ (fun x5 σ5 H5 locs5 hp5 hW5 hz5 hS5 => ?_)
              obtain ⟨rfl, rfl⟩ := hp5
              refine W.eq (g2 := F0 m 37 ls [.int (zi (zb (ymf σ2 k9)))]) rfl ?_
              refine zz_if_eqb (tgt := 76) hx hb dX7_airport_37 (by decide) (fun hc37 => ?_) (fun hc37 => ?_)
              · refine zz_iload_n hx hb hl 3 dX7_airport_76 rfl rfl ?_
                refine zz_istore_n (lv' := [(3, .int (zi (yfM σ2 k9))), (0, zr ad 30 ((0 : Nat) : Int)), (1, .int (zi ((n : Nat) : Int))), (2, .int (zi ((i : Nat) : Int))), (4, .int (zi ((k9 : Nat) : Int)))]) hx hb hl dX7_airport_77 rfl (by decide) rfl (fun ls hl => ?_)
                refine zz_iinc (lv' := [(4, .int (zi ((k9 + 1 : Nat) : Int))), (3, .int (zi (yfM σ2 k9))), (0, zr ad 30 ((0 : Nat) : Int)), (1, .int (zi ((n : Nat) : Int))), (2, .int (zi ((i : Nat) : Int)))]) hx hb hl dX7_airport_78 (k0 := 4) rfl (by decide) rfl (fun ls hl => ?_)
                refine zz_goto (tgt := 22) hx hb dX7_airport_81 (by decide) ?_
                refine ih22 (k9 + 1) H5 locs5 ls ?_ (by omega) hW5 hS5 (zh_sub hl [2, 3, 4, 1, 0] (by
                          have e9 : yfM σ2 (k9 + 1) = yfM σ2 k9 := by
                            first | exact if_pos (show ymf σ2 k9 ∧ σ2 49 0 k9 = 0 ∧ (yfM σ2 k9 = -1 ∨ σ2 56 0 k9 < σ2 56 0 (yfM σ2 k9).toNat) from ⟨hc37, by omega, by first | exact Or.inl (by omega) | exact Or.inr (by omega)⟩) | exact if_neg (fun q => hc37 q.1) | exact if_neg (fun q => hc47 q.2.1) | (refine if_neg (fun q => ?_); have h2 := q.2.2; omega)
                          rw [e9]; rfl))
                omega
              · refine zz_aload_n hx hb hl 0 dX7_airport_40 rfl rfl ?_
                refine zz_get (T := TX7) (N := 42) (k := 9) (κ := 30) (w := zr ad 49 ((0 : Nat) : Int)) hx hb hts hinX7 hown hK hW5 (zlN (hM 30 rfl)) rfl rfl rfl (by decide) (hts (.fieldLink RX7 26 "HailCityModel" "place" "[I") (by decide +kernel)) (fun _ h9 => h9) rfl dX7_airport_41 ?_
                refine zz_iload hx hb hl 4 dX7_airport_44 rfl ?_
                refine zz_iald (w := σ2 49 0 k9) hx hb hK hW5 (zlN (hM 49 rfl)) rfl rfl rfl (by show (0 : Int) ≤ ((k9 : Nat) : Int); omega) (by show ((k9 : Nat) : Int) < (8 : Int); omega) rfl dX7_airport_46 ?_
                refine zz_if_ne (tgt := 76) hx hb dX7_airport_47 (by decide) (hW5.2.2.1 _ _ _) (fun hc47 => ?_) (fun hc47 => ?_)
                · refine zz_iload_n hx hb hl 3 dX7_airport_76 rfl rfl ?_
                  refine zz_istore_n (lv' := [(3, .int (zi (yfM σ2 k9))), (0, zr ad 30 ((0 : Nat) : Int)), (1, .int (zi ((n : Nat) : Int))), (2, .int (zi ((i : Nat) : Int))), (4, .int (zi ((k9 : Nat) : Int)))]) hx hb hl dX7_airport_77 rfl (by decide) rfl (fun ls hl => ?_)
                  refine zz_iinc (lv' := [(4, .int (zi ((k9 + 1 : Nat) : Int))), (3, .int (zi (yfM σ2 k9))), (0, zr ad 30 ((0 : Nat) : Int)), (1, .int (zi ((n : Nat) : Int))), (2, .int (zi ((i : Nat) : Int)))]) hx hb hl dX7_airport_78 (k0 := 4) rfl (by decide) rfl (fun ls hl => ?_)
                  refine zz_goto (tgt := 22) hx hb dX7_airport_81 (by decide) ?_
                  refine ih22 (k9 + 1) H5 locs5 ls ?_ (by omega) hW5 hS5 (zh_sub hl [2, 3, 4, 1, 0] (by
                            have e9 : yfM σ2 (k9 + 1) = yfM σ2 k9 := by
                              first | exact if_pos (show ymf σ2 k9 ∧ σ2 49 0 k9 = 0 ∧ (yfM σ2 k9 = -1 ∨ σ2 56 0 k9 < σ2 56 0 (yfM σ2 k9).toNat) from ⟨hc37, by omega, by first | exact Or.inl (by omega) | exact Or.inr (by omega)⟩) | exact if_neg (fun q => hc37 q.1) | exact if_neg (fun q => hc47 q.2.1) | (refine if_neg (fun q => ?_); have h2 := q.2.2; omega)
                            rw [e9]; rfl))
                  omega
                · refine zz_iload_n hx hb hl 3 dX7_airport_50 rfl rfl ?_
                  refine zz_iconst hx hb dX7_airport_51 ?_
                  refine zz_icmp_eq (tgt := 71) hx hb dX7_airport_52 (by decide) ⟨by omega, by omega⟩ ⟨by decide, by decide⟩ (fun hc52 => ?_) (fun hc52 => ?_)
                  · refine zz_iload hx hb hl 4 dX7_airport_71 rfl ?_
                    refine zz_goto (tgt := 77) hx hb dX7_airport_73 (by decide) ?_
                    refine zz_istore_n (lv' := [(3, .int (zi ((k9 : Nat) : Int))), (0, zr ad 30 ((0 : Nat) : Int)), (1, .int (zi ((n : Nat) : Int))), (2, .int (zi ((i : Nat) : Int))), (4, .int (zi ((k9 : Nat) : Int)))]) hx hb hl dX7_airport_77 rfl (by decide) rfl (fun ls hl => ?_)
                    refine zz_iinc (lv' := [(4, .int (zi ((k9 + 1 : Nat) : Int))), (3, .int (zi ((k9 : Nat) : Int))), (0, zr ad 30 ((0 : Nat) : Int)), (1, .int (zi ((n : Nat) : Int))), (2, .int (zi ((i : Nat) : Int)))]) hx hb hl dX7_airport_78 (k0 := 4) rfl (by decide) rfl (fun ls hl => ?_)
                    refine zz_goto (tgt := 22) hx hb dX7_airport_81 (by decide) ?_
                    refine ih22 (k9 + 1) H5 locs5 ls ?_ (by omega) hW5 hS5 (zh_sub hl [2, 3, 4, 1, 0] (by
                              have e9 : yfM σ2 (k9 + 1) = ((k9 : Nat) : Int) := by
                                first | exact if_pos (show ymf σ2 k9 ∧ σ2 49 0 k9 = 0 ∧ (yfM σ2 k9 = -1 ∨ σ2 56 0 k9 < σ2 56 0 (yfM σ2 k9).toNat) from ⟨hc37, by omega, by first | exact Or.inl (by omega) | exact Or.inr (by omega)⟩) | exact if_neg (fun q => hc37 q.1) | exact if_neg (fun q => hc47 q.2.1) | (refine if_neg (fun q => ?_); have h2 := q.2.2; omega)
                              rw [e9]; rfl))
                    omega
                  · refine zz_aload_n hx hb hl 0 dX7_airport_55 rfl rfl ?_
                    refine zz_get (T := TX7) (N := 42) (k := 16) (κ := 30) (w := zr ad 56 ((0 : Nat) : Int)) hx hb hts hinX7 hown hK hW5 (zlN (hM 30 rfl)) rfl rfl rfl (by decide) (hts (.fieldLink RX7 48 "HailCityModel" "freeSince" "[I") (by decide +kernel)) (fun _ h9 => h9) rfl dX7_airport_56 ?_
                    refine zz_iload hx hb hl 4 dX7_airport_59 rfl ?_
                    refine zz_iald (w := σ2 56 0 k9) hx hb hK hW5 (zlN (hM 56 rfl)) rfl rfl rfl (by show (0 : Int) ≤ ((k9 : Nat) : Int); omega) (by show ((k9 : Nat) : Int) < (8 : Int); omega) rfl dX7_airport_61 ?_
                    refine zz_aload_n hx hb hl 0 dX7_airport_62 rfl rfl ?_
                    refine zz_get (T := TX7) (N := 42) (k := 16) (κ := 30) (w := zr ad 56 ((0 : Nat) : Int)) hx hb hts hinX7 hown hK hW5 (zlN (hM 30 rfl)) rfl rfl rfl (by decide) (hts (.fieldLink RX7 48 "HailCityModel" "freeSince" "[I") (by decide +kernel)) (fun _ h9 => h9) rfl dX7_airport_63 ?_
                    refine zz_iload_n hx hb hl 3 dX7_airport_66 rfl rfl ?_
                    refine zz_iald (w := σ2 56 0 ((yfM σ2 k9).toNat)) hx hb hK hW5 (zlN (hM 56 rfl)) rfl rfl rfl (by show (0 : Int) ≤ yfM σ2 k9; omega) (by show (yfM σ2 k9) < (8 : Int); omega) rfl dX7_airport_67 ?_
                    refine zz_icmp_ge (tgt := 76) hx hb dX7_airport_68 (by decide) (hW5.2.2.1 _ _ _) (hW5.2.2.1 _ _ _) (fun hc68 => ?_) (fun hc68 => ?_)
                    · refine zz_iload_n hx hb hl 3 dX7_airport_76 rfl rfl ?_
                      refine zz_istore_n (lv' := [(3, .int (zi (yfM σ2 k9))), (0, zr ad 30 ((0 : Nat) : Int)), (1, .int (zi ((n : Nat) : Int))), (2, .int (zi ((i : Nat) : Int))), (4, .int (zi ((k9 : Nat) : Int)))]) hx hb hl dX7_airport_77 rfl (by decide) rfl (fun ls hl => ?_)
                      refine zz_iinc (lv' := [(4, .int (zi ((k9 + 1 : Nat) : Int))), (3, .int (zi (yfM σ2 k9))), (0, zr ad 30 ((0 : Nat) : Int)), (1, .int (zi ((n : Nat) : Int))), (2, .int (zi ((i : Nat) : Int)))]) hx hb hl dX7_airport_78 (k0 := 4) rfl (by decide) rfl (fun ls hl => ?_)
                      refine zz_goto (tgt := 22) hx hb dX7_airport_81 (by decide) ?_
                      refine ih22 (k9 + 1) H5 locs5 ls ?_ (by omega) hW5 hS5 (zh_sub hl [2, 3, 4, 1, 0] (by
                                have e9 : yfM σ2 (k9 + 1) = yfM σ2 k9 := by
                                  first | exact if_pos (show ymf σ2 k9 ∧ σ2 49 0 k9 = 0 ∧ (yfM σ2 k9 = -1 ∨ σ2 56 0 k9 < σ2 56 0 (yfM σ2 k9).toNat) from ⟨hc37, by omega, by first | exact Or.inl (by omega) | exact Or.inr (by omega)⟩) | exact if_neg (fun q => hc37 q.1) | exact if_neg (fun q => hc47 q.2.1) | (refine if_neg (fun q => ?_); have h2 := q.2.2; omega)
                                rw [e9]; rfl))
                      omega
                    · refine zz_iload hx hb hl 4 dX7_airport_71 rfl ?_
                      refine zz_goto (tgt := 77) hx hb dX7_airport_73 (by decide) ?_
                      refine zz_istore_n (lv' := [(3, .int (zi ((k9 : Nat) : Int))), (0, zr ad 30 ((0 : Nat) : Int)), (1, .int (zi ((n : Nat) : Int))), (2, .int (zi ((i : Nat) : Int))), (4, .int (zi ((k9 : Nat) : Int)))]) hx hb hl dX7_airport_77 rfl (by decide) rfl (fun ls hl => ?_)
                      refine zz_iinc (lv' := [(4, .int (zi ((k9 + 1 : Nat) : Int))), (3, .int (zi ((k9 : Nat) : Int))), (0, zr ad 30 ((0 : Nat) : Int)), (1, .int (zi ((n : Nat) : Int))), (2, .int (zi ((i : Nat) : Int)))]) hx hb hl dX7_airport_78 (k0 := 4) rfl (by decide) rfl (fun ls hl => ?_)
                      refine zz_goto (tgt := 22) hx hb dX7_airport_81 (by decide) ?_
                      refine ih22 (k9 + 1) H5 locs5 ls ?_ (by omega) hW5 hS5 (zh_sub hl [2, 3, 4, 1, 0] (by
                                have e9 : yfM σ2 (k9 + 1) = ((k9 : Nat) : Int) := by
                                  first | exact if_pos (show ymf σ2 k9 ∧ σ2 49 0 k9 = 0 ∧ (yfM σ2 k9 = -1 ∨ σ2 56 0 k9 < σ2 56 0 (yfM σ2 k9).toNat) from ⟨hc37, by omega, by first | exact Or.inl (by omega) | exact Or.inr (by omega)⟩) | exact if_neg (fun q => hc37 q.1) | exact if_neg (fun q => hc47 q.2.1) | (refine if_neg (fun q => ?_); have h2 := q.2.2; omega)
                                rw [e9]; rfl))
                      omega
        refine hcut22 _ 0 H2 locs2 ls ?_ (Nat.lt_succ_self _) hW2 hS2 (zh_sub hl [2, 3, 4, 1, 0] rfl)
        exact Nat.zero_le _
  refine hcut9 _ 0 0 σ1 H1 locs1 ls ?_ (Nat.lt_succ_self _) hW1 hS1 (zh_sub hl [2, 1, 0] rfl)
  exact ⟨Nat.zero_le _, rfl, by rw [hs1]; rfl⟩
