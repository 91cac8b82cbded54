/-! a request is given: well formed still; the airport -/
theorem ygm_fr {t : zS} {d q κ k : Nat} (h : ¬ ((κ = 64 ∨ κ = 70 ∨ κ = 71 ∨ κ = 73) ∧ k = q) ∧ ¬ ((κ = 53 ∨ κ = 54) ∧ (k = 8 * d ∨ k = 8 * d + 1)) ∧ ¬ (κ = 52 ∧ k = d)) : ygm t d q κ 0 k = t κ 0 k := by
  unfold ygm
  rw [zu_ne (by omega), zu_ne (by omega), zu_ne (by omega), zu_ne (by omega), zu_ne (by omega), zu_ne (by omega), zu_ne (by omega), zu_ne (by omega), zu_ne (by omega), zu_ne (by omega)]
theorem ygm_at {t : zS} {d q : Nat} : (ygm t d q 53 0 (8 * d) = t 65 0 q ∧ ygm t d q 53 0 (8 * d + 1) = t 66 0 q) ∧ (ygm t d q 54 0 (8 * d) = (q : Int) ∧ ygm t d q 54 0 (8 * d + 1) = 100 + (q : Int)) ∧ ygm t d q 52 0 d = 2 ∧ ygm t d q 64 0 q = 1 ∧ ygm t d q 70 0 q = (d : Int) ∧ ygm t d q 73 0 q = t 30 0 1 ∧ ygm t d q 71 0 q = ygp t d q := by
  unfold ygm
  refine ⟨⟨?_, ?_⟩, ⟨?_, ?_⟩, ?_, ?_, ?_, ?_, ?_⟩
  · rw [zu_ne (by omega), zu_ne (by omega), zu_ne (by omega), zu_ne (by omega), zu_ne (by omega), zu_same]
  · rw [zu_ne (by omega), zu_ne (by omega), zu_same]
  · rw [zu_ne (by omega), zu_ne (by omega), zu_ne (by omega), zu_ne (by omega), zu_same]
  · rw [zu_ne (by omega), zu_same]
    omega
  · rw [zu_same]
  · rw [zu_ne (by omega), zu_ne (by omega), zu_ne (by omega), zu_ne (by omega), zu_ne (by omega), zu_ne (by omega), zu_ne (by omega), zu_ne (by omega), zu_ne (by omega), zu_same]
  · rw [zu_ne (by omega), zu_ne (by omega), zu_ne (by omega), zu_ne (by omega), zu_ne (by omega), zu_ne (by omega), zu_ne (by omega), zu_ne (by omega), zu_same]
  · rw [zu_ne (by omega), zu_ne (by omega), zu_ne (by omega), zu_ne (by omega), zu_ne (by omega), zu_ne (by omega), zu_ne (by omega), zu_same]
  · rw [zu_ne (by omega), zu_ne (by omega), zu_ne (by omega), zu_ne (by omega), zu_ne (by omega), zu_ne (by omega), zu_same]
theorem yWF_gm {t : zS} {nd nr ns d q : Nat} {c B : Int} (h : yWF t nd nr ns c B) (hd : d < nd) (hq : q < nr) (h0 : t 64 0 q = 0) (h52 : t 52 0 d = 0) (hw : t 47 0 (10 * (t 49 0 d).toNat + (t 65 0 q).toNat) < 100000) : yWF (ygm t d q) nd nr ns c B := by
  obtain ⟨g, hds, hqs, hns⟩ := id h
  obtain ⟨⟨p0, p1⟩, ⟨w0, w1⟩, n2, s1, d1, t1, r1⟩ := ygm_at (t := t) (d := d) (q := q)
  obtain ⟨⟨b1, b2, b3⟩, bg⟩ := id g
  have F : ∀ κ k, ¬ ((κ = 64 ∨ κ = 70 ∨ κ = 71 ∨ κ = 73) ∧ k = q) ∧ ¬ ((κ = 53 ∨ κ = 54) ∧ (k = 8 * d ∨ k = 8 * d + 1)) ∧ ¬ (κ = 52 ∧ k = d) → ygm t d q κ 0 k = t κ 0 k := fun κ k h => ygm_fr h
  have hwq := hqs q hq
  obtain ⟨c1, c2, c3, c4, c5, c6, c7, c8, c9, c10, c11, c12⟩ := hwq
  have hN : yDN (ygm t d q) nr = yDN t nr := yDN_same (fun p hp => by
    by_cases e : p = q
    · subst e; omega
    · rw [F 64 p (by omega)])
  refine ⟨yWg_ot g (fun κ k hk => F κ k (by omega)) (by rw [F 30 1 (by omega)]; exact bg.2.1) (by rw [F 30 17 (by omega)]; exact bg.2.2.2.1), fun d' hd9 => ?_, fun p hp => ?_, yWn_ot hns (fun κ k hk => F κ k (by omega))⟩
  · by_cases e : d' = d
    · subst e
      obtain ⟨⟨a1, a2⟩, a3, a4, a5, a6, a7, a8, a9, a10, a11⟩ := hds d' hd
      have e0 : 8 * d' + 0 = 8 * d' := rfl
      refine ⟨⟨by rw [F 49 _ (by omega)]; exact a1, by rw [n2]; decide⟩, fun j hj => ?_, fun j hj => ?_, fun hj => ?_, by rw [F 55 _ (by omega)]; exact a6, ⟨by rw [F 58 _ (by omega)]; exact a7.1, fun j hj => by rw [F 59 _ (by omega)]; exact a7.2 j hj⟩, by rw [F 60 _ (by omega), F 30 1 (by omega)]; exact a8, by rw [F 61 _ (by omega), hN]; exact a9, by rw [F 61 _ (by omega), F 62 _ (by omega)]; exact a10, ?_⟩
      · rw [n2] at hj
        rcases (show j = 0 ∨ j = 1 by omega) with rfl | rfl
        · rw [e0, p0]; exact c1
        · rw [p1]; exact c2
      · rw [n2] at hj
        obtain rfl : j = 0 := by omega
        rw [e0, p0, p1, F 47 _ (by omega)]
        exact c3
      · unfold ywy
        rw [p0, F 49 _ (by omega), F 47 _ (by omega)]
        exact hw
      · rw [n2]
        rw [h52] at a11
        refine yRS_give hq b2 a11 ?_ w1 s1 d1 (fun p hp hpq => ⟨F 64 p (by omega), F 70 p (by omega)⟩)
        exact w0
    · refine yWd_ot (hds d' hd9) (Int.le_refl _) (fun κ k hk => F κ k (by omega)) (by rw [F 30 1 (by omega)]; exact Int.le_refl _) (Nat.le_of_eq hN.symm) (fun p hp => ?_)
      by_cases e2 : p = q
      · subst e2
        rw [d1]
        have := c7 h0
        omega
      · rw [F 64 p (by omega), F 70 p (by omega)]
        exact ⟨fun h => ⟨rfl, h⟩, fun h _ => h⟩
  · by_cases e2 : p = q
    · subst e2
      have hwa := yWF_w h (t 49 0 d).toNat (t 65 0 p).toNat (by have := (hds d hd).1.1; omega) (by omega)
      have hwb := yWF_w h (t 65 0 p).toNat (t 66 0 p).toNat (by omega) (by omega)
      unfold yWq
      rw [s1, d1, t1, r1, F 65 _ (by omega), F 66 _ (by omega), F 67 _ (by omega), F 69 _ (by omega), F 72 _ (by omega), F 47 _ (by omega), F 30 1 (by omega)]
      refine ⟨c1, c2, c3, c4, c5, by omega, by omega, by omega, by omega, by omega, ?_, c12⟩
      unfold ygp
      omega
    · exact yWq_ot (hqs p hp) (Nat.le_refl _) (fun κ k hk => F κ k (by omega)) (by rw [F 30 1 (by omega)]; exact Int.le_refl _)
/-- a request is given -/
noncomputable def ygi (t : zS) (q d : Nat) : zS := ybf (yLV d 2 (ygm t d q)) d
theorem yWF_gi {t : zS} {nd nr ns d q : Nat} {c B : Int} (h : yWF t nd nr ns c B) (hd : d < nd) (hq : q < nr) (h0 : t 64 0 q = 0) (h52 : t 52 0 d = 0) (hw : t 47 0 (10 * (t 49 0 d).toNat + (t 65 0 q).toNat) < 100000) : yWF (ygi t q d) nd nr ns c (B + 1) :=
  yWF_bf (yWF_LV hd 2 _ (yWF_gm h hd hq h0 h52 hw) (ygm_at (t := t) (d := d) (q := q)).2.2.1)
/-- who is first at the airport -/
noncomputable def yfM (t : zS) : Nat → Int
  | 0 => -1
  | k + 1 => @ite Int (ymf t k ∧ t 49 0 k = 0 ∧ (yfM t k = -1 ∨ t 56 0 k < t 56 0 (yfM t k).toNat)) (Classical.propDecidable _) (k : Int) (yfM t k)
theorem yfM_rg (t : zS) : ∀ n : Nat, yfM t n = -1 ∨ (0 ≤ yfM t n ∧ yfM t n < n ∧ ymf t (yfM t n).toNat ∧ t 49 0 (yfM t n).toNat = 0)
  | 0 => Or.inl rfl
  | n + 1 => by
    have ih := yfM_rg t n
    by_cases c : ymf t n ∧ t 49 0 n = 0 ∧ (yfM t n = -1 ∨ t 56 0 n < t 56 0 (yfM t n).toNat)
    · have e : yfM t (n + 1) = (n : Int) := if_pos c
      rw [e]
      exact Or.inr ⟨by omega, by omega, by rw [show ((n : Int)).toNat = n by omega]; exact c.1, by rw [show ((n : Int)).toNat = n by omega]; exact c.2.1⟩
    · have e : yfM t (n + 1) = yfM t n := if_neg c
      rw [e]
      rcases ih with h | ⟨h1, h2, h3⟩
      · exact Or.inl h
      · exact Or.inr ⟨h1, by omega, h3⟩
def yaC (nd i : Nat) (w : zS) : Prop := w 64 0 i = 0 ∧ w 65 0 i = 0 ∧ yfM w nd ≠ -1
noncomputable def yAR (nd : Nat) : Nat → zS → zS
  | 0, t => t
  | i + 1, t => @ite zS (yaC nd i (yAR nd i t)) (Classical.propDecidable _) (ygi (yAR nd i t) i (yfM (yAR nd i t) nd).toNat) (yAR nd i t)
noncomputable def yAN (nd : Nat) (t : zS) : Nat → Nat
  | 0 => 0
  | i + 1 => @ite Nat (yaC nd i (yAR nd i t)) (Classical.propDecidable _) (yAN nd t i + 1) (yAN nd t i)
theorem yAN_le (nd : Nat) (t : zS) : ∀ i, yAN nd t i ≤ i
  | 0 => Nat.le_refl 0
  | i + 1 => by
    have h := yAN_le nd t i
    show @ite Nat _ (Classical.propDecidable _) _ _ ≤ _
    split <;> omega
theorem yWF_00 {t : zS} {nd nr ns : Nat} {c B : Int} (h : yWF t nd nr ns c B) {d q : Nat} (h1 : t 49 0 d = t 65 0 q) (h2 : 0 ≤ t 65 0 q ∧ t 65 0 q < 10) : t 47 0 (10 * (t 49 0 d).toNat + (t 65 0 q).toNat) = 0 := by
  obtain ⟨⟨a1, a2, a5, a6, a7, a8, a9⟩, -⟩ := h
  rw [h1, a9 _ _ (by omega) (by omega)]
  exact ywf_dg (by decide) a8 10 _
theorem yWF_a1 {w : zS} {nd nr ns i : Nat} {c B : Int} (h : yWF w nd nr ns c B) (hi : i < nr) (ha : yaC nd i w) : yWF (ygi w i (yfM w nd).toNat) nd nr ns c (B + 1) := by
  obtain ⟨h1, h2, h3⟩ := ha
  obtain ⟨f1, f2, f3, f4⟩ := (yfM_rg w nd).resolve_left h3
  exact yWF_gi h (by omega) hi h1 f3.1 (by rw [yWF_00 h (by omega) (by omega)]; decide)
theorem yWF_AR {t : zS} {nd nr ns : Nat} {c B : Int} (h : yWF t nd nr ns c B) : ∀ i : Nat, i ≤ nr → yWF (yAR nd i t) nd nr ns c (B + i)
  | 0, _ => yWF_B h (Int.le_refl _) (by omega)
  | i + 1, hi => by
    have ih := yWF_AR h i (by omega)
    by_cases ha : yaC nd i (yAR nd i t)
    · rw [show yAR nd (i + 1) t = _ from if_pos ha]
      exact yWF_B (yWF_a1 ih (by omega) ha) (Int.le_refl _) (by omega)
    · rw [show yAR nd (i + 1) t = _ from if_neg ha]
      exact yWF_B ih (Int.le_refl _) (by omega)
