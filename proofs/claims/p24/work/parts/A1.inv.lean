/-! P24: WHAT HOLDS OF THE STORE -/
/-- of a request: told no promise while it WAITS; let out in time, or not at all -/
def pQ (t : zS) (sl : Prop) (q : Nat) : Prop := (t 64 0 q = 0 → t 71 0 q = -1) ∧ (t 64 0 q = 3 → 0 ≤ t 72 0 q ∧ (sl ∨ t 72 0 q ≤ t 71 0 q)) ∧ (t 64 0 q ≠ 3 → t 72 0 q = -1)
/-- of a driver: who is SENT is let in ahead of being let out; four riders at most; stars are told -/
def pD (t : zS) (d : Nat) : Prop := (∀ j q : Nat, (j : Int) < t 52 0 d → t 54 0 (8 * d + j) = 100 + (q : Int) → t 64 0 q = 1 → ∃ i, i < j ∧ t 54 0 (8 * d + i) = (q : Int)) ∧ ycO (fun j => t 54 0 (8 * d + j)) (t 52 0 d).toNat ≤ 4 ∧ ∀ j : Nat, j < 10 → (j : Int) < t 58 0 d → 1 ≤ t 59 0 (10 * d + j)
/-- the promises of a row, if its next stop is reached at T0 -/
def pT (t : zS) (sl : Prop) (d : Nat) (T0 : Int) : Prop := ∀ j : Nat, (j : Int) < t 52 0 d → 100 ≤ t 54 0 (8 * d + j) → sl ∨ yT (yW t) T0 (yPd t d) j ≤ t 71 0 (t 54 0 (8 * d + j) - 100).toNat
def pI (t : zS) (sl : Prop) (nd nr : Nat) : Prop := (∀ q, q < nr → pQ t sl q) ∧ ∀ d, d < nd → pD t d
/-- nothing goes back -/
def pM (t u : zS) (nd nr : Nat) : Prop := (∀ q, q < nr → t 64 0 q ≤ u 64 0 q ∧ (3 ≤ t 64 0 q → u 64 0 q = t 64 0 q) ∧ u 69 0 q = t 69 0 q ∧ u 67 0 q = t 67 0 q ∧ (t 71 0 q ≠ -1 → u 71 0 q = t 71 0 q)) ∧ ∀ d, d < nd → t 62 0 d ≤ u 62 0 d ∧ t 60 0 d ≤ u 60 0 d
theorem pM_rf (t : zS) (nd nr : Nat) : pM t t nd nr := ⟨fun q _ => ⟨Int.le_refl _, fun _ => rfl, rfl, rfl, fun _ => rfl⟩, fun d _ => ⟨Int.le_refl _, Int.le_refl _⟩⟩
theorem pM_tr {t u v : zS} {nd nr : Nat} (h : pM t u nd nr) (g : pM u v nd nr) : pM t v nd nr := by
  refine ⟨fun q hq => ?_, fun d hd => ?_⟩
  · obtain ⟨a1, a2, a3, a4, a5⟩ := h.1 q hq
    obtain ⟨b1, b2, b3, b4, b5⟩ := g.1 q hq
    refine ⟨Int.le_trans a1 b1, fun k => ?_, b3.trans a3, b4.trans a4, fun k => ?_⟩
    · rw [b2 (by omega), a2 k]
    · rw [b5 (by rw [a5 k]; exact k), a5 k]
  · have a := h.2 d hd
    have b := g.2 d hd
    exact ⟨Int.le_trans a.1 b.1, Int.le_trans a.2 b.2⟩
/-- what pM speaks of has stayed -/
theorem pM_ot {t u : zS} {nd nr : Nat} (e : ∀ κ k, κ = 64 ∨ κ = 69 ∨ κ = 67 ∨ κ = 71 ∨ κ = 62 ∨ κ = 60 → u κ 0 k = t κ 0 k) : pM t u nd nr :=
  ⟨fun q _ => ⟨by rw [e 64 q (by omega)]; exact Int.le_refl _, fun _ => e 64 q (by omega), e 69 q (by omega), e 67 q (by omega), fun _ => e 71 q (by omega)⟩, fun d _ => ⟨by rw [e 62 d (by omega)]; exact Int.le_refl _, by rw [e 60 d (by omega)]; exact Int.le_refl _⟩⟩
theorem pQ_ot {t u : zS} {sl : Prop} {q : Nat} (h : pQ t sl q) (h64 : u 64 0 q = t 64 0 q) (h71 : u 71 0 q = t 71 0 q) (h72 : u 72 0 q = t 72 0 q) : pQ u sl q := by
  unfold pQ
  rw [h64, h71, h72]
  exact h
theorem pD_ot {t u : zS} {d : Nat} (h : pD t d) (h8 : t 52 0 d ≤ 8) (h52 : u 52 0 d = t 52 0 d) (h54 : ∀ j, j < 8 → u 54 0 (8 * d + j) = t 54 0 (8 * d + j)) (h58 : u 58 0 d = t 58 0 d) (h59 : ∀ j, j < 10 → u 59 0 (10 * d + j) = t 59 0 (10 * d + j)) (h64 : ∀ j q : Nat, (j : Int) < t 52 0 d → t 54 0 (8 * d + j) = 100 + (q : Int) → u 64 0 q = 1 → t 64 0 q = 1) : pD u d := by
  obtain ⟨a1, a2, a3⟩ := h
  refine ⟨fun j q hj hw hs => ?_, ?_, fun j h1 h2 => ?_⟩
  · rw [h52] at hj
    rw [h54 j (by omega)] at hw
    obtain ⟨i, hi, e⟩ := a1 j q hj hw (h64 j q hj hw hs)
    exact ⟨i, hi, by rw [h54 i (by omega)]; exact e⟩
  · rw [h52, ycO_congr (w := fun j => t 54 0 (8 * d + j)) (fun j hj => h54 j (by omega))]
    exact a2
  · rw [h59 j h1]
    rw [h58] at h2
    exact a3 j h1 h2
theorem pT_ot {t u : zS} {sl : Prop} {d : Nat} {T0 : Int} (h : pT t sl d T0) (h8 : t 52 0 d ≤ 8) (h52 : u 52 0 d = t 52 0 d) (h53 : ∀ j, j < 8 → u 53 0 (8 * d + j) = t 53 0 (8 * d + j)) (h54 : ∀ j, j < 8 → u 54 0 (8 * d + j) = t 54 0 (8 * d + j)) (h47 : ∀ k, u 47 0 k = t 47 0 k) (h71 : ∀ j : Nat, (j : Int) < t 52 0 d → 100 ≤ t 54 0 (8 * d + j) → u 71 0 (t 54 0 (8 * d + j) - 100).toNat = t 71 0 (t 54 0 (8 * d + j) - 100).toNat) : pT u sl d T0 := fun j hj hw => by
  rw [h52] at hj
  rw [h54 j (by omega)] at hw ⊢
  rcases h j hj hw with k | k
  · exact Or.inl k
  · refine Or.inr ?_
    rw [h71 j hj hw, yT_cg (w := yW u) (P := yPd u d) (w' := yW t) (t1 := T0) (Q := yPd t d) rfl (fun a b => h47 _) j (fun i hi => h53 i (by omega))]
    exact k
theorem yT_sh {w : Nat → Nat → Int} {T0 : Int} {Q : Nat → Int} : ∀ j, yT w (T0 + w (Q 0).toNat (Q 1).toNat) (fun i => Q (i + 1)) j = yT w T0 Q (j + 1)
  | 0 => rfl
  | j + 1 => by
    show yT w (T0 + w (Q 0).toNat (Q 1).toNat) (fun i => Q (i + 1)) j + _ = yT w T0 Q (j + 1) + _
    rw [yT_sh j]
theorem yT_ge {w : Nat → Nat → Int} {T0 : Int} {Q : Nat → Int} : ∀ j, (∀ i, i < j → 0 ≤ w (Q i).toNat (Q (i + 1)).toNat) → T0 ≤ yT w T0 Q j
  | 0, _ => Int.le_refl _
  | j + 1, h => by
    have h1 := yT_ge (w := w) (T0 := T0) (Q := Q) j (fun i hi => h i (by omega))
    have h2 := h j (by omega)
    show T0 ≤ yT w T0 Q j + _
    omega
theorem ycO_sh {w : Nat → Int} : ∀ n, ycO w (n + 1) = (if 100 ≤ w 0 then 1 else 0) + ycO (fun j => w (j + 1)) n
  | 0 => by
    show 0 + _ = _ + 0
    rw [Nat.zero_add, Nat.add_zero]
  | n + 1 => by
    show ycO w (n + 1) + (if 100 ≤ w (n + 1) then 1 else 0) = _ + (ycO (fun j => w (j + 1)) n + (if 100 ≤ w (n + 1) then 1 else 0))
    rw [ycO_sh n, Nat.add_assoc]
/-- the next stop is done -/
theorem pI_mt {t : zS} {sl : Prop} {nd nr ns d n : Nat} {c B : Int} (h : yWF t nd nr ns c B) (hd : d < nd) (hn : t 52 0 d = (n : Int) + 1) (hI : pI t sl nd nr) (hp : pT t sl d (t 30 0 1)) : pI (ymt t d n) sl nd nr ∧ (0 < n → pT (ymt t d n) sl d (t 30 0 1 + ywy (ymt t d n) d)) ∧ pM t (ymt t d n) nd nr := by
  obtain ⟨⟨b1, b2, b3⟩, bg⟩ := h.1
  have hw0 := yWF_row h hd (j := 0) (by omega)
  rw [Nat.add_zero] at hw0
  obtain ⟨⟨a1, a2⟩, a3, a4, a5, a6, a7, a8, a9, a10, a11⟩ := h.2.1 d hd
  have h64 : ∀ q, q < 60 → ymt t d n 64 0 q = yst1 (t 54 0 (8 * d)) (t 64 0) q := fun q hq => ymt_64 (by omega) (by omega) hq
  have FR : ∀ κ k, κ ≠ 49 ∧ κ ≠ 52 ∧ κ ≠ 53 ∧ κ ≠ 54 ∧ κ ≠ 61 ∧ κ ≠ 62 ∧ κ ≠ 64 ∧ κ ≠ 72 → ymt t d n κ 0 k = t κ 0 k := fun κ k hk => ymt_fr (by omega)
  have EL : ∀ κ k, yel d κ k → ymt t d n κ 0 k = t κ 0 k := fun κ k hk => ymt_el (by omega) hk
  have hp0 : 100 ≤ t 54 0 (8 * d) → sl ∨ t 30 0 1 ≤ t 71 0 (t 54 0 (8 * d) - 100).toNat := fun k => hp 0 (by omega) k
  refine ⟨⟨fun q hq => ?_, fun d' hd' => ?_⟩, fun h0 j hj hw => ?_, ⟨fun q hq => ?_, fun d' hd' => ?_⟩⟩
  · obtain ⟨q1, q2, q3⟩ := hI.1 q hq
    have hnow := bg.1
    unfold pQ
    rw [h64 q (by omega), FR 71 q (by decide), ymt_72]
    unfold yst1
    by_cases e1 : (q : Int) = t 54 0 (8 * d) - 100
    · rw [if_pos e1, if_pos ⟨by omega, e1⟩]
      refine ⟨fun k => absurd k (by decide), fun _ => ⟨by omega, ?_⟩, fun k => absurd rfl k⟩
      have := hp0 (by omega)
      rw [show (t 54 0 (8 * d) - 100).toNat = q by omega] at this
      exact this
    · rw [if_neg e1, if_neg (show ¬ (100 ≤ t 54 0 (8 * d) ∧ (q : Int) = t 54 0 (8 * d) - 100) from fun k => e1 k.2)]
      by_cases e2 : (q : Int) = t 54 0 (8 * d)
      · rw [if_pos e2]
        rw [show (t 54 0 (8 * d)).toNat = q by omega] at hw0
        exact ⟨fun k => absurd k (by decide), fun k => absurd k (by decide), fun _ => q3 (by omega)⟩
      · rw [if_neg e2]
        exact ⟨q1, q2, q3⟩
  · by_cases e : d' = d
    · subst e
      obtain ⟨g1, g2, g3⟩ := hI.2 d' hd'
      refine ⟨fun j q hj hw hs => ?_, ?_, fun j h1 h2 => ?_⟩
      · rw [ymt_52] at hj
        rw [ymt_st t d' n (Or.inr rfl) (by omega)] at hw
        have hrow := yWF_row h hd (j := j + 1) (by omega)
        have hq : q < 60 := by omega
        rw [h64 q hq] at hs
        unfold yst1 at hs
        by_cases e1 : (q : Int) = t 54 0 (8 * d') - 100
        · rw [if_pos e1] at hs; exact absurd hs (by decide)
        · rw [if_neg e1] at hs
          by_cases e2 : (q : Int) = t 54 0 (8 * d')
          · rw [if_pos e2] at hs; exact absurd hs (by decide)
          · rw [if_neg e2] at hs
            obtain ⟨i, hi, ei⟩ := g1 (j + 1) q (by omega) hw hs
            rcases Nat.eq_zero_or_pos i with h0 | h0
            · subst h0; exact absurd ei.symm e2
            · refine ⟨i - 1, by omega, ?_⟩
              rw [ymt_st t d' n (Or.inr rfl) (by omega), show i - 1 + 1 = i by omega]
              exact ei
      · rw [ymt_52, show ((n : Int)).toNat = n by omega, ycO_congr (w := fun j => t 54 0 (8 * d' + (j + 1))) (fun j hj => ymt_st t d' n (Or.inr rfl) hj)]
        rw [show (t 52 0 d').toNat = n + 1 by omega, ycO_sh] at g2
        exact Nat.le_trans (Nat.le_add_left _ _) g2
      · rw [FR 59 _ (by decide)]
        rw [FR 58 _ (by decide)] at h2
        exact g3 j h1 h2
    · refine pD_ot (hI.2 d' hd') (h.2.1 d' hd').1.2.2 (EL 52 d' (by unfold yel; omega)) (fun j hj => EL 54 _ (by unfold yel; omega)) (FR 58 _ (by decide)) (fun j hj => FR 59 _ (by decide)) (fun j q hj hw hs => ?_)
      have hrow := yWF_row h hd' hj
      rw [h64 q (by omega)] at hs
      unfold yst1 at hs
      by_cases e1 : (q : Int) = t 54 0 (8 * d) - 100
      · rw [if_pos e1] at hs; exact absurd hs (by decide)
      · rw [if_neg e1] at hs
        by_cases e2 : (q : Int) = t 54 0 (8 * d)
        · rw [if_pos e2] at hs; exact absurd hs (by decide)
        · rw [if_neg e2] at hs; exact hs
  · rw [ymt_52] at hj
    have ew : ymt t d n 54 0 (8 * d + j) = t 54 0 (8 * d + (j + 1)) := ymt_st t d n (Or.inr rfl) (by omega)
    rw [ew] at hw ⊢
    rcases hp (j + 1) (by omega) hw with k | k
    · exact Or.inl k
    · refine Or.inr ?_
      have e1 : yPd (ymt t d n) d 0 = yPd t d 1 := ymt_st t d n (Or.inl rfl) (j := 0) h0
      have e2 : ywy (ymt t d n) d = yW t (yPd t d 0).toNat (yPd t d 1).toNat := by
        unfold ywy
        rw [FR 47 _ (by decide), ymt_49]
        have e3 : ymt t d n 53 0 (8 * d) = t 53 0 (8 * d + 1) := e1
        rw [e3]
        rfl
      rw [FR 71 _ (by decide), e2, yT_cg (w := yW (ymt t d n)) (P := yPd (ymt t d n) d) (w' := yW t) (t1 := t 30 0 1 + yW t (yPd t d 0).toNat (yPd t d 1).toNat) (Q := fun i => yPd t d (i + 1)) rfl (fun a b => FR 47 _ (by decide)) j (fun i hi => ymt_st t d n (Or.inl rfl) (by omega)), yT_sh]
      exact k
  · have hq6 := (h.2.2.1 q hq).2.2.2.2.2.1
    refine ⟨?_, fun k => ?_, FR 69 q (by decide), FR 67 q (by decide), fun _ => FR 71 q (by decide)⟩
    · rw [h64 q (by omega)]
      unfold yst1
      by_cases e1 : (q : Int) = t 54 0 (8 * d) - 100
      · rw [if_pos e1]
        rw [show (t 54 0 (8 * d) - 100).toNat = q by omega] at hw0
        omega
      · rw [if_neg e1]
        by_cases e2 : (q : Int) = t 54 0 (8 * d)
        · rw [if_pos e2]
          rw [show (t 54 0 (8 * d)).toNat = q by omega] at hw0
          omega
        · rw [if_neg e2]; exact Int.le_refl _
    · rw [h64 q (by omega)]
      unfold yst1
      rw [if_neg, if_neg]
      · intro e2
        rw [show (t 54 0 (8 * d)).toNat = q by omega] at hw0
        omega
      · intro e1
        rw [show (t 54 0 (8 * d) - 100).toNat = q by omega] at hw0
        omega
  · refine ⟨?_, by rw [FR 60 d' (by decide)]; exact Int.le_refl _⟩
    by_cases e : d' = d
    · subst e
      rw [ymt_62e]
      by_cases e1 : 100 ≤ t 54 0 (8 * d')
      · rw [if_pos e1]
        have hpr := (h.2.2.1 (t 54 0 (8 * d') - 100).toNat (by omega)).2.2.2.2.1
        omega
      · rw [if_neg e1]; exact Int.le_refl _
    · rw [EL 62 d' (by unfold yel; omega)]; exact Int.le_refl _
/-- it leaves, and does what it reaches at once -/
theorem pI_LV {sl : Prop} {nd nr ns d : Nat} {c B : Int} (hd : d < nd) : ∀ (n : Nat) (t : zS), yWF t nd nr ns c B → t 52 0 d = (n : Int) → pI t sl nd nr → (0 < n → pT t sl d (t 30 0 1 + ywy t d)) → pI (yLV d n t) sl nd nr ∧ pT (yLV d n t) sl d (yLV d n t 55 0 d) ∧ (0 < yLV d n t 52 0 d → t 30 0 1 < yLV d n t 55 0 d) ∧ pM t (yLV d n t) nd nr
  | 0, t, _, hn, hI, _ => ⟨hI, fun j hj => by have hj : (j : Int) < t 52 0 d := hj; omega, fun hj => by have hj : 0 < t 52 0 d := hj; omega, pM_rf t nd nr⟩
  | n + 1, t, h, hn, hI, hp => by
    have hy := yWF_wy h hd (by omega)
    have h9 := h.1.2.2.1
    have h1 : yWF (zu t 55 0 d (t 30 0 1 + ywy t d)) nd nr ns c B := yWF_55 h (by omega)
    have h8 := (h.2.1 d hd).1.2.2
    have e : ∀ κ k, κ ≠ 55 → zu t 55 0 d (t 30 0 1 + ywy t d) κ 0 k = t κ 0 k := fun κ k hk => zu_ne (by omega)
    have hI1 : pI (zu t 55 0 d (t 30 0 1 + ywy t d)) sl nd nr := ⟨fun q hq => pQ_ot (hI.1 q hq) (e 64 _ (by decide)) (e 71 _ (by decide)) (e 72 _ (by decide)), fun d' hd' => pD_ot (hI.2 d' hd') (h.2.1 d' hd').1.2.2 (e 52 _ (by decide)) (fun _ _ => e 54 _ (by decide)) (e 58 _ (by decide)) (fun _ _ => e 59 _ (by decide)) (fun _ q _ _ hs => by rw [e 64 q (by decide)] at hs; exact hs)⟩
    have hT1 : pT (zu t 55 0 d (t 30 0 1 + ywy t d)) sl d (t 30 0 1 + ywy t d) := pT_ot (hp (by omega)) h8 (e 52 _ (by decide)) (fun _ _ => e 53 _ (by decide)) (fun _ _ => e 54 _ (by decide)) (fun _ => e 47 _ (by decide)) (fun _ _ _ => e 71 _ (by decide))
    have hM1 : pM t (zu t 55 0 d (t 30 0 1 + ywy t d)) nd nr := pM_ot (fun κ k hk => e κ k (by omega))
    show pI (if _ then _ else _) sl nd nr ∧ pT (if _ then _ else _) sl d ((if _ then _ else _ : zS) 55 0 d) ∧ (0 < (if _ then _ else _ : zS) 52 0 d → _ < (if _ then _ else _ : zS) 55 0 d) ∧ pM t (if _ then _ else _) nd nr
    by_cases hz : ywy t d = 0
    · rw [if_pos hz]
      have hnow : zu t 55 0 d (t 30 0 1 + ywy t d) 30 0 1 = t 30 0 1 := e 30 1 (by decide)
      obtain ⟨k1, k2, k3⟩ := pI_mt h1 hd (n := n) (by rw [e 52 _ (by decide), hn]; rfl) hI1 (by rw [hnow]; rw [hz, Int.add_zero] at hT1 ⊢; exact hT1)
      have hnow2 : ymt (zu t 55 0 d (t 30 0 1 + ywy t d)) d n 30 0 1 = t 30 0 1 := by rw [ymt_fr (by omega), hnow]
      obtain ⟨m1, m2, m3, m4⟩ := pI_LV hd n _ (yWF_mt h1 hd (by rw [e 52 _ (by decide), hn]; rfl)) (ymt_52 _ _ _) k1 (fun g => by rw [hnow2]; rw [hnow] at k2; exact k2 g)
      rw [hnow2] at m3
      exact ⟨m1, m2, m3, pM_tr hM1 (pM_tr k3 m4)⟩
    · rw [if_neg hz]
      exact ⟨hI1, by rw [zu_same]; exact hT1, fun _ => by rw [zu_same]; omega, hM1⟩
