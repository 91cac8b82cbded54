/-! P24: WHAT THE CALLS DO TO IT -/
/-- of a driver's row, with its next stop -/
def pR (t : zS) (sl : Prop) (d : Nat) : Prop := pT t sl d (t 55 0 d) ∧ (0 < t 52 0 d → t 30 0 1 < t 55 0 d)
/-- all that holds between the calls -/
def pV (t : zS) (sl : Prop) (nd nr : Nat) : Prop := pI t sl nd nr ∧ (∀ d, d < nd → pR t sl d) ∧ ∀ q, q < nr → t 64 0 q = 0 → t 30 0 1 < t 67 0 q
theorem pR_ot {t u : zS} {sl : Prop} {d : Nat} (h : pR t sl d) (h8 : t 52 0 d ≤ 8) (h52 : u 52 0 d = t 52 0 d) (h53 : ∀ j, j < 8 → u 53 0 (8 * d + j) = t 53 0 (8 * d + j)) (h54 : ∀ j, j < 8 → u 54 0 (8 * d + j) = t 54 0 (8 * d + j)) (h47 : ∀ k, u 47 0 k = t 47 0 k) (h71 : ∀ j : Nat, (j : Int) < t 52 0 d → 100 ≤ t 54 0 (8 * d + j) → u 71 0 (t 54 0 (8 * d + j) - 100).toNat = t 71 0 (t 54 0 (8 * d + j) - 100).toNat) (h55 : u 55 0 d = t 55 0 d) (hn : u 30 0 1 = t 30 0 1) : pR u sl d := by
  unfold pR
  rw [h55, h52, hn]
  exact ⟨pT_ot h.1 h8 h52 h53 h54 h47 h71, h.2⟩
theorem pV_fr {t u : zS} {sl : Prop} {nd nr : Nat} (h8 : ∀ d, d < nd → t 52 0 d ≤ 8) (h : pV t sl nd nr) (e : ∀ κ k, κ = 64 ∨ κ = 71 ∨ κ = 72 ∨ κ = 52 ∨ κ = 53 ∨ κ = 54 ∨ κ = 58 ∨ κ = 59 ∨ κ = 55 ∨ κ = 47 ∨ κ = 67 ∨ (κ = 30 ∧ k = 1) → u κ 0 k = t κ 0 k) : pV u sl nd nr := by
  refine ⟨⟨fun q hq => pQ_ot (h.1.1 q hq) (e 64 _ (by omega)) (e 71 _ (by omega)) (e 72 _ (by omega)), fun d hd => pD_ot (h.1.2 d hd) (h8 d hd) (e 52 _ (by omega)) (fun _ _ => e 54 _ (by omega)) (e 58 _ (by omega)) (fun _ _ => e 59 _ (by omega)) (fun _ q _ _ hs => by rw [e 64 q (by omega)] at hs; exact hs)⟩, fun d hd => pR_ot (h.2.1 d hd) (h8 d hd) (e 52 _ (by omega)) (fun _ _ => e 53 _ (by omega)) (fun _ _ => e 54 _ (by omega)) (fun _ => e 47 _ (by omega)) (fun _ _ _ => e 71 _ (by omega)) (e 55 _ (by omega)) (e 30 1 (by omega)), fun q hq hs => ?_⟩
  rw [e 64 q (by omega)] at hs
  rw [e 30 1 (by omega), e 67 q (by omega)]
  exact h.2.2 q hq hs
theorem pWF_8 {t : zS} {nd nr ns : Nat} {c B : Int} (h : yWF t nd nr ns c B) : ∀ d, d < nd → t 52 0 d ≤ 8 := fun d hd => (h.2.1 d hd).1.2.2
theorem pV_z {t : zS} {sl : Prop} {nd nr ns : Nat} {c B x : Int} (h : yWF t nd nr ns c B) (hv : pV t sl nd nr) : pV (zu t 30 0 0 x) sl nd nr := pV_fr (pWF_8 h) hv (fun κ k hk => zu_ne (by omega))
theorem pM_z {t : zS} {nd nr : Nat} {x : Int} : pM t (zu t 30 0 0 x) nd nr := pM_ot (fun κ k hk => zu_ne (by omega))
theorem pV_bf {t : zS} {sl : Prop} {nd nr ns d : Nat} {c B : Int} (h : yWF t nd nr ns c B) (hv : pV t sl nd nr) : pV (ybf t d) sl nd nr := pV_fr (pWF_8 h) hv (fun κ k hk => ybf_f2 (by omega))
theorem pM_bf {t : zS} {nd nr d : Nat} : pM t (ybf t d) nd nr := pM_ot (fun κ k hk => ybf_f2 (by omega))
theorem pV_sl {t : zS} {sl sl' : Prop} {nd nr : Nat} (h : pV t sl nd nr) (k : sl → sl') : pV t sl' nd nr :=
  ⟨⟨fun q hq => ⟨(h.1.1 q hq).1, fun e => ⟨((h.1.1 q hq).2.1 e).1, ((h.1.1 q hq).2.1 e).2.imp k id⟩, (h.1.1 q hq).2.2⟩, h.1.2⟩, fun d hd => ⟨fun j hj hw => ((h.2.1 d hd).1 j hj hw).imp k id, (h.2.1 d hd).2⟩, h.2.2⟩
/-- a driver is sent on -/
theorem pV_LV {t : zS} {sl : Prop} {nd nr ns d n : Nat} {c B : Int} (h : yWF t nd nr ns c B) (hd : d < nd) (hn : t 52 0 d = (n : Int)) (hI : pI t sl nd nr) (hp : 0 < n → pT t sl d (t 30 0 1 + ywy t d)) (ho : ∀ d', d' < nd → d' ≠ d → pR t sl d') (hw : ∀ q, q < nr → t 64 0 q = 0 → t 30 0 1 < t 67 0 q) : pV (yLV d n t) sl nd nr ∧ pM t (yLV d n t) nd nr := by
  have h8 := pWF_8 h
  have hn8 : n ≤ 8 := by have := h8 d hd; omega
  obtain ⟨k1, k2, k3, k4⟩ := pI_LV hd n t h hn hI hp
  have EL : ∀ κ k, yel d κ k → yLV d n t κ 0 k = t κ 0 k := fun κ k hk => yLV_el hk n t hn8
  have hnow : yLV d n t 30 0 1 = t 30 0 1 := EL 30 1 (by unfold yel; omega)
  refine ⟨⟨k1, fun d' hd' => ?_, fun q hq hs => ?_⟩, k4⟩
  · by_cases e : d' = d
    · subst e
      exact ⟨k2, fun g => by rw [hnow]; exact k3 g⟩
    · exact pR_ot (ho d' hd' e) (h8 d' hd') (EL 52 d' (by unfold yel; omega)) (fun j hj => EL 53 _ (by unfold yel; omega)) (fun j hj => EL 54 _ (by unfold yel; omega)) (fun k => EL 47 k (by unfold yel; omega)) (fun j _ _ => EL 71 _ (by unfold yel; omega)) (EL 55 d' (by unfold yel; omega)) hnow
  · have h6 := (h.2.2.1 q hq).2.2.2.2.2.1
    have h7 := (k4.1 q hq).1
    rw [hnow, EL 67 q (by unfold yel; omega)]
    exact hw q hq (by omega)
/-- who rides in a row doesn't WAIT -/
theorem pWF_ride {t : zS} {nd nr ns d : Nat} {c B : Int} (h : yWF t nd nr ns c B) (hd : d < nd) {j q : Nat} (hj : (j : Int) < t 52 0 d) (hw : t 54 0 (8 * d + j) = 100 + (q : Int)) : q < nr ∧ t 64 0 q ≠ 0 ∧ t 64 0 q ≠ 3 ∧ t 64 0 q ≠ 4 := by
  have hnr := h.1.1.2.1
  have hrow := yWF_row h hd hj
  rw [hw, show (100 + (q : Int) - 100).toNat = q by omega, show (100 + (q : Int)).toNat = 100 + q by omega] at hrow
  rcases hrow with e | ⟨e1, e2, e3, e4⟩ | ⟨e1, e2, e3, e4⟩
  · omega
  · omega
  · omega
theorem pV_gm {t : zS} {sl : Prop} {nd nr ns d q : Nat} {c B : Int} (h : yWF t nd nr ns c B) (hv : pV t sl nd nr) (hd : d < nd) (hq : q < nr) (h0 : t 64 0 q = 0) (h52 : t 52 0 d = 0) : pI (ygm t d q) sl nd nr ∧ pT (ygm t d q) sl d (t 30 0 1 + ywy (ygm t d q) d) ∧ (∀ d', d' < nd → d' ≠ d → pR (ygm t d q) sl d') ∧ (∀ q', q' < nr → ygm t d q 64 0 q' = 0 → t 30 0 1 < ygm t d q 67 0 q') ∧ pM t (ygm t d q) nd nr := by
  have hnr := h.1.1.2.1
  obtain ⟨⟨g1, g2⟩, ⟨g3, g4⟩, g5, g6, g7, g8, g9⟩ := ygm_at (t := t) (d := d) (q := q)
  have h71 := (hv.1.1 q hq).1 h0
  have F : ∀ κ k, ¬ ((κ = 64 ∨ κ = 70 ∨ κ = 71 ∨ κ = 73) ∧ k = q) ∧ ¬ ((κ = 53 ∨ κ = 54) ∧ (k = 8 * d ∨ k = 8 * d + 1)) ∧ ¬ (κ = 52 ∧ k = d) → ygm t d q κ 0 k = t κ 0 k := fun κ k hk => ygm_fr hk
  refine ⟨⟨fun q' hq' => ?_, fun d' hd' => ?_⟩, fun j hj hw => ?_, fun d' hd' hne => ?_, fun q' hq' hs => ?_, ⟨fun q' hq' => ?_, fun d' hd' => ?_⟩⟩
  · by_cases e : q' = q
    · subst e
      refine ⟨fun k => ?_, fun k => ?_, fun _ => ?_⟩
      · rw [g6] at k; exact absurd k (by decide)
      · rw [g6] at k; exact absurd k (by decide)
      · rw [F 72 q' (by omega)]
        exact (hv.1.1 q' hq').2.2 (by omega)
    · exact pQ_ot (hv.1.1 q' hq') (F 64 q' (by omega)) (F 71 q' (by omega)) (F 72 q' (by omega))
  · by_cases e : d' = d
    · subst e
      refine ⟨fun j p hj hw hs => ?_, ?_, fun j h1 h2 => ?_⟩
      · rw [g5] at hj
        rcases (by omega : j = 0 ∨ j = 1) with e | e
        · subst e
          rw [Nat.add_zero, g3] at hw
          omega
        · subst e
          rw [g4] at hw
          refine ⟨0, by decide, ?_⟩
          rw [Nat.add_zero, g3]
          omega
      · rw [g5]
        exact Nat.le_trans (ycO_le 2) (by decide)
      · rw [F 59 _ (by omega)]
        rw [F 58 _ (by omega)] at h2
        exact (hv.1.2 d' hd').2.2 j h1 h2
    · refine pD_ot (hv.1.2 d' hd') (pWF_8 h d' hd') (F 52 d' (by omega)) (fun j hj => F 54 _ (by omega)) (F 58 _ (by omega)) (fun j hj => F 59 _ (by omega)) (fun j p hj hw hs => ?_)
      have hr := pWF_ride h hd' hj hw
      by_cases ep : p = q
      · subst ep; exact absurd h0 hr.2.1
      · rw [F 64 p (by omega)] at hs; exact hs
  · rw [g5] at hj
    refine Or.inr ?_
    rcases (by omega : j = 0 ∨ j = 1) with e | e
    · subst e
      rw [Nat.add_zero, g3] at hw
      omega
    · subst e
      rw [g4, show (100 + (q : Int) - 100).toNat = q by omega, g9]
      have e0 : yPd (ygm t d q) d 0 = t 65 0 q := g1
      have e1 : yPd (ygm t d q) d 1 = t 66 0 q := g2
      have ey : ywy (ygm t d q) d = t 47 0 (10 * (t 49 0 d).toNat + (t 65 0 q).toNat) := by
        unfold ywy
        rw [F 47 _ (by omega), F 49 _ (by omega), g1]
      show t 30 0 1 + ywy (ygm t d q) d + yW (ygm t d q) (yPd (ygm t d q) d 0).toNat (yPd (ygm t d q) d 1).toNat ≤ ygp t d q
      have ew : yW (ygm t d q) (t 65 0 q).toNat (t 66 0 q).toNat = t 47 0 (10 * (t 65 0 q).toNat + (t 66 0 q).toNat) := F 47 _ (by omega)
      obtain ⟨wq1, wq2, -⟩ := h.2.2.1 q hq
      have hww := (yWF_w h (t 65 0 q).toNat (t 66 0 q).toNat (by omega) (by omega)).1
      rw [e0, e1, ew, ey]
      unfold ygp
      omega
  · refine pR_ot (hv.2.1 d' hd') (pWF_8 h d' hd') (F 52 d' (by omega)) (fun j hj => F 53 _ (by omega)) (fun j hj => F 54 _ (by omega)) (fun k => F 47 k (by omega)) (fun j hj hw => ?_) (F 55 d' (by omega)) (F 30 1 (by omega))
    have hr := pWF_ride h hd' hj (q := (t 54 0 (8 * d' + j) - 100).toNat) (by omega)
    refine F 71 _ ⟨fun k => ?_, by omega, by omega⟩
    rw [k.2] at hr
    exact hr.2.1 h0
  · by_cases e : q' = q
    · subst e
      rw [g6] at hs
      exact absurd hs (by decide)
    · rw [F 64 q' (by omega)] at hs
      rw [F 67 q' (by omega)]
      exact hv.2.2 q' hq' hs
  · by_cases e : q' = q
    · subst e
      rw [g6, h0]
      exact ⟨by decide, fun k => absurd k (by decide), F 69 q' (by omega), F 67 q' (by omega), fun k => absurd h71 k⟩
    · rw [F 64 q' (by omega)]
      exact ⟨Int.le_refl _, fun _ => rfl, F 69 q' (by omega), F 67 q' (by omega), fun _ => F 71 q' (by omega)⟩
  · rw [F 62 d' (by omega), F 60 d' (by omega)]
    exact ⟨Int.le_refl _, Int.le_refl _⟩
/-- a request is given -/
theorem pV_gi {t : zS} {sl : Prop} {nd nr ns d q : Nat} {c B : Int} (h : yWF t nd nr ns c B) (hv : pV t sl nd nr) (hd : d < nd) (hq : q < nr) (h0 : t 64 0 q = 0) (h52 : t 52 0 d = 0) (hw : t 47 0 (10 * (t 49 0 d).toNat + (t 65 0 q).toNat) < 100000) : pV (ygi t q d) sl nd nr ∧ pM t (ygi t q d) nd nr := by
  obtain ⟨k1, k2, k3, k4, k5⟩ := pV_gm h hv hd hq h0 h52
  have hnow : ygm t d q 30 0 1 = t 30 0 1 := ygm_fr (by omega)
  have hg := yWF_gm h hd hq h0 h52 hw
  have h2 := (ygm_at (t := t) (d := d) (q := q)).2.2.1
  obtain ⟨m1, m2⟩ := pV_LV hg hd (n := 2) h2 k1 (fun _ => by rw [hnow]; exact k2) k3 (fun q' hq' hs => by rw [hnow]; exact k4 q' hq' hs)
  exact ⟨pV_bf (yWF_LV hd 2 _ hg h2) m1, pM_tr k5 (pM_tr m2 pM_bf)⟩
/-- at the airport -/
theorem pV_AR {t : zS} {sl : Prop} {nd nr ns : Nat} {c B : Int} (h : yWF t nd nr ns c B) (hv : pV t sl nd nr) : ∀ i : Nat, i ≤ nr → pV (yAR nd i t) sl nd nr ∧ pM t (yAR nd i t) nd nr
  | 0, _ => ⟨hv, pM_rf t nd nr⟩
  | i + 1, hi => by
    obtain ⟨k1, k2⟩ := pV_AR h hv i (by omega)
    have hw := yWF_AR h i (by omega)
    show pV (@ite zS (yaC nd i (yAR nd i t)) (Classical.propDecidable _) _ _) sl nd nr ∧ pM t (@ite zS (yaC nd i (yAR nd i t)) (Classical.propDecidable _) _ _) nd nr
    by_cases c : yaC nd i (yAR nd i t)
    · rw [if_pos c]
      obtain ⟨c1, c2, c3⟩ := c
      rcases yfM_rg (yAR nd i t) nd with e | ⟨f1, f2, f3, f4⟩
      · exact absurd e c3
      · have hq := hw.2.2.1 i (by omega)
        obtain ⟨m1, m2⟩ := pV_gi hw k1 (d := (yfM (yAR nd i t) nd).toNat) (q := i) (by omega) (by omega) c1 f3.1 (by rw [yWF_00 hw (by rw [f4, c2]) hq.1]; decide)
        exact ⟨m1, pM_tr k2 m2⟩
    · rw [if_neg c]
      exact ⟨k1, k2⟩
/-- a driver wanders -/
theorem pV_wander {t : zS} {sl : Prop} {nd nr ns d : Nat} {c B b : Int} (h : yWF t nd nr ns c B) (hv : pV t sl nd nr) (hd : d < nd) (h52 : t 52 0 d = 0) (hb : 0 ≤ b ∧ b < 10) (hw : t 47 0 (10 * (t 49 0 d).toNat + b.toNat) < 100000) : pV (ybf (yLV d 1 (ywd t d b)) d) sl nd nr ∧ pM t (ybf (yLV d 1 (ywd t d b)) d) nd nr := by
  have F : ∀ κ k, ¬ (κ = 30 ∧ k = 0) ∧ ¬ ((κ = 53 ∨ κ = 54) ∧ k = 8 * d) ∧ ¬ (κ = 52 ∧ k = d) → ywd t d b κ 0 k = t κ 0 k := fun κ k hk => by
    unfold ywd
    rw [zu_ne (by omega), zu_ne (by omega), zu_ne (by omega), zu_ne (by omega)]
  have e52 : ywd t d b 52 0 d = 1 := by unfold ywd; rw [zu_same]
  have e54 : ywd t d b 54 0 (8 * d) = -1 := by unfold ywd; rw [zu_ne (by omega), zu_same]
  have hg := yWF_wd h hd h52 hb hw
  have hI : pI (ywd t d b) sl nd nr := by
    refine ⟨fun q hq => pQ_ot (hv.1.1 q hq) (F 64 q (by omega)) (F 71 q (by omega)) (F 72 q (by omega)), fun d' hd' => ?_⟩
    by_cases e : d' = d
    · subst e
      refine ⟨fun j p hj hw hs => ?_, ?_, fun j h1 h2 => ?_⟩
      · rw [e52] at hj
        obtain rfl : j = 0 := by omega
        rw [Nat.add_zero, e54] at hw
        omega
      · rw [e52]
        exact Nat.le_trans (ycO_le 1) (by decide)
      · rw [F 59 _ (by omega)]
        rw [F 58 _ (by omega)] at h2
        exact (hv.1.2 d' hd').2.2 j h1 h2
    · exact pD_ot (hv.1.2 d' hd') (pWF_8 h d' hd') (F 52 d' (by omega)) (fun j hj => F 54 _ (by omega)) (F 58 _ (by omega)) (fun j hj => F 59 _ (by omega)) (fun j p _ _ hs => by rw [F 64 p (by omega)] at hs; exact hs)
  obtain ⟨m1, m2⟩ := pV_LV hg hd (n := 1) e52 hI (fun _ j hj hw => by
    rw [e52] at hj
    obtain rfl : j = 0 := by omega
    rw [Nat.add_zero, e54] at hw
    omega) (fun d' hd' hne => pR_ot (hv.2.1 d' hd') (pWF_8 h d' hd') (F 52 d' (by omega)) (fun j hj => F 53 _ (by omega)) (fun j hj => F 54 _ (by omega)) (fun k => F 47 k (by omega)) (fun j _ _ => F 71 _ (by omega)) (F 55 d' (by omega)) (F 30 1 (by omega))) (fun q hq hs => by
    rw [F 64 q (by omega)] at hs
    rw [F 30 1 (by omega), F 67 q (by omega)]
    exact hv.2.2 q hq hs)
  exact ⟨pV_bf (yWF_LV hd 1 _ hg e52) m1, pM_tr (pM_ot (fun κ k hk => F κ k (by omega))) (pM_tr m2 pM_bf)⟩
theorem pV_rest {t : zS} {sl : Prop} {nd nr ns d : Nat} {c B x : Int} (h : yWF t nd nr ns c B) (hv : pV t sl nd nr) : pV (ymr t d x) sl nd nr ∧ pM t (ymr t d x) nd nr := by
  have F : ∀ κ k, ¬ (κ = 30 ∧ (k = 0 ∨ k = 17)) ∧ κ ≠ 50 ∧ κ ≠ 56 → ymr t d x κ 0 k = t κ 0 k := fun κ k hk => by
    unfold ymr
    split
    · rw [ybf_f2 (by omega), zu_ne (by omega), zu_ne (by omega)]
    · rw [zu_ne (by omega), zu_ne (by omega)]
  exact ⟨pV_fr (pWF_8 h) hv (fun κ k hk => F κ k (by omega)), pM_ot (fun κ k hk => F κ k (by omega))⟩
theorem pV_cap {t : zS} {sl : Prop} {nd nr ns : Nat} {c B x : Int} (h : yWF t nd nr ns c B) (hv : pV t sl nd nr) : pV (zu (zu t 30 0 0 0) 30 0 2 x) sl nd nr ∧ pM t (zu (zu t 30 0 0 0) 30 0 2 x) nd nr := by
  have F : ∀ κ k, ¬ (κ = 30 ∧ (k = 0 ∨ k = 2)) → zu (zu t 30 0 0 0) 30 0 2 x κ 0 k = t κ 0 k := fun κ k hk => by rw [zu_ne (by omega), zu_ne (by omega)]
  exact ⟨pV_fr (pWF_8 h) hv (fun κ k hk => F κ k (by omega)), pM_ot (fun κ k hk => F κ k (by omega))⟩
/-- a street takes as long as is told: no promise is looked at any more -/
theorem pV_slow {t u : zS} {sl : Prop} {nd nr ns : Nat} {c B : Int} (h : yWF t nd nr ns c B) (hv : pV t sl nd nr) (e : ∀ κ k, κ ≠ 46 ∧ κ ≠ 47 ∧ ¬ (κ = 30 ∧ k = 0) → u κ 0 k = t κ 0 k) : pV u True nd nr ∧ pM t u nd nr := by
  have h8 := pWF_8 h
  refine ⟨⟨⟨fun q hq => ?_, fun d hd => pD_ot (hv.1.2 d hd) (h8 d hd) (e 52 _ (by omega)) (fun _ _ => e 54 _ (by omega)) (e 58 _ (by omega)) (fun _ _ => e 59 _ (by omega)) (fun _ q _ _ hs => by rw [e 64 q (by omega)] at hs; exact hs)⟩, fun d hd => ⟨fun _ _ _ => Or.inl trivial, ?_⟩, fun q hq hs => ?_⟩, pM_ot (fun κ k hk => e κ k (by omega))⟩
  · obtain ⟨q1, q2, q3⟩ := hv.1.1 q hq
    unfold pQ
    rw [e 64 q (by omega), e 71 q (by omega), e 72 q (by omega)]
    exact ⟨q1, fun k => ⟨(q2 k).1, Or.inl trivial⟩, q3⟩
  · rw [e 52 d (by omega), e 55 d (by omega), e 30 1 (by omega)]
    exact (hv.2.1 d hd).2
  · rw [e 64 q (by omega)] at hs
    rw [e 30 1 (by omega), e 67 q (by omega)]
    exact hv.2.2 q hq hs
