/-! P24: cancel, rate, request, driver, share, pass -/
theorem pV_c0 {t : zS} {sl : Prop} {nd nr ns q : Nat} {c B : Int} (h : yWF t nd nr ns c B) (hv : pV t sl nd nr) (hq : q < nr) (h0 : t 64 0 q = 0) : pV (zu (zu t 30 0 0 0) 64 0 q 4) sl nd nr ∧ pM t (zu (zu t 30 0 0 0) 64 0 q 4) nd nr := by
  have F : ∀ κ k, ¬ (κ = 30 ∧ k = 0) ∧ ¬ (κ = 64 ∧ k = q) → zu (zu t 30 0 0 0) 64 0 q 4 κ 0 k = t κ 0 k := fun κ k hk => by rw [zu_ne (by omega), zu_ne (by omega)]
  have g64 : zu (zu t 30 0 0 0) 64 0 q 4 64 0 q = 4 := zu_same
  have h8 := pWF_8 h
  refine ⟨⟨⟨fun p hp => ?_, fun d hd => pD_ot (hv.1.2 d hd) (h8 d hd) (F 52 _ (by omega)) (fun _ _ => F 54 _ (by omega)) (F 58 _ (by omega)) (fun _ _ => F 59 _ (by omega)) (fun _ p _ _ hs => ?_)⟩, fun d hd => pR_ot (hv.2.1 d hd) (h8 d hd) (F 52 _ (by omega)) (fun _ _ => F 53 _ (by omega)) (fun _ _ => F 54 _ (by omega)) (fun _ => F 47 _ (by omega)) (fun _ _ _ => F 71 _ (by omega)) (F 55 _ (by omega)) (F 30 1 (by omega)), fun p hp hs => ?_⟩, ⟨fun p hp => ?_, fun d hd => ?_⟩⟩
  · by_cases e : p = q
    · subst e
      refine ⟨fun k => ?_, fun k => ?_, fun _ => ?_⟩
      · rw [g64] at k; exact absurd k (by decide)
      · rw [g64] at k; exact absurd k (by decide)
      · rw [F 72 p (by omega)]; exact (hv.1.1 p hp).2.2 (by omega)
    · exact pQ_ot (hv.1.1 p hp) (F 64 p (by omega)) (F 71 p (by omega)) (F 72 p (by omega))
  · by_cases e : p = q
    · subst e; rw [g64] at hs; exact absurd hs (by decide)
    · rw [F 64 p (by omega)] at hs; exact hs
  · by_cases e : p = q
    · subst e; rw [g64] at hs; exact absurd hs (by decide)
    · rw [F 64 p (by omega)] at hs
      rw [F 30 1 (by omega), F 67 p (by omega)]
      exact hv.2.2 p hp hs
  · by_cases e : p = q
    · subst e
      rw [g64, h0]
      exact ⟨by decide, fun k => absurd k (by decide), F 69 p (by omega), F 67 p (by omega), fun _ => F 71 p (by omega)⟩
    · rw [F 64 p (by omega)]
      exact ⟨Int.le_refl _, fun _ => rfl, F 69 p (by omega), F 67 p (by omega), fun _ => F 71 p (by omega)⟩
  · rw [F 62 d (by omega), F 60 d (by omega)]
    exact ⟨Int.le_refl _, Int.le_refl _⟩
theorem yT_del {w : Nat → Nat → Int} {T0 : Int} {P : Nat → Int} {o n : Nat} (ho : 0 < o) (htr : ∀ i, i + 2 ≤ n → w (P i).toNat (P (i + 2)).toNat ≤ w (P i).toNat (P (i + 1)).toNat + w (P (i + 1)).toNat (P (i + 2)).toNat) : ∀ j, j < n → yT w T0 (fun j => if j < o then P j else P (j + 1)) j ≤ yT w T0 P (if j < o then j else j + 1)
  | 0, _ => by
    rw [if_pos ho]
    exact Int.le_refl _
  | j + 1, hj => by
    have ih := yT_del (T0 := T0) ho htr j (by omega)
    show yT w T0 (fun j => if j < o then P j else P (j + 1)) j + w (if j < o then P j else P (j + 1)).toNat (if j + 1 < o then P (j + 1) else P (j + 1 + 1)).toNat ≤ _
    by_cases c1 : j + 1 < o
    · rw [if_pos (show j < o by omega)] at ih ⊢
      rw [if_pos c1, if_pos c1]
      show _ ≤ yT w T0 P j + w (P j).toNat (P (j + 1)).toNat
      omega
    · rw [if_neg c1, if_neg c1]
      by_cases c2 : j < o
      · rw [if_pos c2] at ih ⊢
        have h2 := htr j (by omega)
        show _ ≤ yT w T0 P j + w (P j).toNat (P (j + 1)).toNat + w (P (j + 1)).toNat (P (j + 2)).toNat
        show _ + w (P j).toNat (P (j + 2)).toNat ≤ _
        omega
      · rw [if_neg c2] at ih ⊢
        show _ ≤ yT w T0 P (j + 1) + w (P (j + 1)).toNat (P (j + 2)).toNat
        show _ + w (P (j + 1)).toNat (P (j + 2)).toNat ≤ _
        omega
theorem ycO_mn {w w' : Nat → Int} : ∀ n, (∀ j, j < n → 100 ≤ w' j → 100 ≤ w j) → ycO w' n ≤ ycO w n
  | 0, _ => Nat.le_refl _
  | n + 1, h => by
    have h1 := ycO_mn n (fun j hj => h j (by omega))
    have h2 := h n (by omega)
    show ycO w' n + (if 100 ≤ w' n then 1 else 0) ≤ ycO w n + (if 100 ≤ w n then 1 else 0)
    split <;> split <;> omega
theorem ycO_del {w : Nat → Int} {o : Nat} : ∀ n, ycO (fun j => if j < o then w j else w (j + 1)) n ≤ ycO w (n + 1)
  | 0 => Nat.zero_le _
  | n + 1 => by
    by_cases c : n < o
    · have h1 : ycO (fun j => if j < o then w j else w (j + 1)) (n + 1) = ycO w (n + 1) := ycO_congr (fun j hj => if_pos (by omega))
      rw [h1]
      exact Nat.le_add_right _ _
    · have h1 := ycO_del (w := w) (o := o) n
      show ycO (fun j => if j < o then w j else w (j + 1)) n + (if 100 ≤ (if n < o then w n else w (n + 1)) then 1 else 0) ≤ ycO w (n + 1) + (if 100 ≤ w (n + 1) then 1 else 0)
      rw [if_neg c]
      omega
/-- ways by way of a third place -/
theorem pW_tri {t : zS} {nd nr ns : Nat} {c B : Int} (h : yWF t nd nr ns c B) {a b e : Nat} (ha : a < 10) (hb : b < 10) (he : e < 10) : t 47 0 (10 * a + e) ≤ t 47 0 (10 * a + b) + t 47 0 (10 * b + e) := by
  obtain ⟨⟨a1, a2, a5, a6, a7, a8, a9⟩, -⟩ := h
  rw [a9 _ _ ha he, a9 _ _ ha hb, a9 _ _ hb he]
  exact ywf_tri (F := 100000) (by decide) a8 10 a b e (by omega)
theorem pV_cl {t : zS} {sl : Prop} {nd nr ns q o : Nat} {c B : Int} (h : yWF t nd nr ns c B) (hv : pV t sl nd nr) (hq : q < nr) (h1 : t 64 0 q = 1) (ho : yco t q o) : pV (ycl t q o) sl nd nr ∧ pM t (ycl t q o) nd nr := by
  have hnr := h.1.1.2.1
  have hwq := h.2.2.1 q hq
  have hD0 := hwq.2.2.2.2.2.2.2.2.1 (by omega) (by omega)
  have hD1 := hwq.2.2.2.2.2.2.2.1
  obtain ⟨D, hD⟩ : ∃ z, z = (t 70 0 q).toNat := ⟨_, rfl⟩
  have hDn : D < nd := by omega
  have h8 := pWF_8 h
  have h8D := h8 D hDn
  obtain ⟨o1, o2, o3⟩ := ho
  rw [← hD] at o1 o2 o3
  obtain ⟨n, hn⟩ : ∃ n : Nat, t 52 0 D = (n : Int) + 1 := ⟨(t 52 0 D).toNat - 1, by omega⟩
  have F : ∀ κ k, ¬ (κ = 30 ∧ k = 0) ∧ ¬ ((κ = 53 ∨ κ = 54) ∧ 8 * D ≤ k ∧ k < 8 * D + 8) ∧ ¬ (κ = 52 ∧ k = D) ∧ ¬ (κ = 64 ∧ k = q) → ycl t q o κ 0 k = t κ 0 k := fun κ k hk => ycl_fr (by rw [← hD]; omega) (by rw [← hD]; exact hk)
  have e52 : ycl t q o 52 0 D = (n : Int) := by
    unfold ycl
    rw [← hD, zu_ne (by omega), zu_same]; omega
  have e64 : ycl t q o 64 0 q = 4 := by
    unfold ycl
    rw [zu_same]
  have e53 : ∀ j, j < n → ycl t q o 53 0 (8 * D + j) = if j < o then t 53 0 (8 * D + j) else t 53 0 (8 * D + (j + 1)) := fun j hj => by
    unfold ycl
    rw [← hD, zu_ne (by omega), zu_ne (by omega), ymk_53 (by omega), zu_ne (by omega), zu_ne (by omega)]
  have e54 : ∀ j, j < n → ycl t q o 54 0 (8 * D + j) = if t 54 0 (8 * D + (if j < o then j else j + 1)) = (q : Int) then -1 else t 54 0 (8 * D + (if j < o then j else j + 1)) := fun j hj => by
    unfold ycl
    rw [← hD, zu_ne (by omega), zu_ne (by omega), ymk_54 (by omega)]
    rw [show (fun j => zu t 30 0 0 0 54 0 (8 * D + j)) = fun j => t 54 0 (8 * D + j) from funext fun j => zu_ne (by omega)]
    unfold ycx
    by_cases cc : j < o
    · simp only [if_pos cc]
    · simp only [if_neg cc]
  have hgD := hv.1.2 D hDn
  obtain ⟨i0, hi0, -⟩ := hgD.1 o q o1 o2 h1
  have hop : 0 < o := by omega
  -- a let-out of the new row stood in the old
  have old : ∀ j, j < n → 100 ≤ ycl t q o 54 0 (8 * D + j) → ycl t q o 54 0 (8 * D + j) = t 54 0 (8 * D + (if j < o then j else j + 1)) ∧ ycl t q o 54 0 (8 * D + j) ≠ 100 + (q : Int) := fun j hj hw => by
    rw [e54 j hj] at hw ⊢
    by_cases c2 : t 54 0 (8 * D + (if j < o then j else j + 1)) = (q : Int)
    · rw [if_pos c2] at hw; omega
    · rw [if_neg c2]
      refine ⟨rfl, fun c3 => ?_⟩
      have := o3 _ (by split <;> omega) c3
      split at this <;> omega
  have hIv : pI (ycl t q o) sl nd nr := by
    refine ⟨fun p hp => ?_, fun d hd => ?_⟩
    · by_cases e : p = q
      · subst e
        refine ⟨fun k => ?_, fun k => ?_, fun _ => ?_⟩
        · rw [e64] at k; exact absurd k (by decide)
        · rw [e64] at k; exact absurd k (by decide)
        · rw [F 72 p (by omega)]; exact (hv.1.1 p hp).2.2 (by omega)
      · exact pQ_ot (hv.1.1 p hp) (F 64 p (by omega)) (F 71 p (by omega)) (F 72 p (by omega))
    · by_cases e : d = D
      · rw [e]
        refine ⟨fun j p hj hw hs => ?_, ?_, fun j k1 k2 => ?_⟩
        · rw [e52] at hj
          obtain ⟨g1, g2⟩ := old j (by omega) (by omega)
          rw [hw] at g1 g2
          have hpq : p ≠ q := by omega
          rw [F 64 p (by omega)] at hs
          obtain ⟨i, hi, ei⟩ := hgD.1 _ p (by split <;> omega) g1.symm hs
          have hr := pWF_ride h hDn (j := if j < o then j else j + 1) (q := p) (by split <;> omega) g1.symm
          have hio : i ≠ o := fun k => by rw [k, o2] at ei; omega
          by_cases c1 : i < o
          · refine ⟨i, by split at hi <;> omega, ?_⟩
            rw [e54 i (by split at hi <;> omega), if_pos c1, if_neg (by rw [ei]; omega)]
            exact ei
          · refine ⟨i - 1, by split at hi <;> omega, ?_⟩
            rw [e54 (i - 1) (by split at hi <;> omega), if_neg (show ¬ i - 1 < o by omega), show i - 1 + 1 = i by omega, if_neg (by rw [ei]; omega)]
            exact ei
        · rw [e52, show ((n : Int)).toNat = n by omega]
          have k1 := hgD.2.1
          rw [show (t 52 0 D).toNat = n + 1 by omega] at k1
          refine Nat.le_trans (Nat.le_trans (ycO_mn n (w := fun j => if j < o then t 54 0 (8 * D + j) else t 54 0 (8 * D + (j + 1))) (fun j hj hw => ?_)) (ycO_del (w := fun j => t 54 0 (8 * D + j)) n)) k1
          have g1 := (old j hj hw).1
          by_cases c1 : j < o
          · rw [if_pos c1] at g1 ⊢; rw [← g1]; exact hw
          · rw [if_neg c1] at g1 ⊢; rw [← g1]; exact hw
        · rw [F 59 _ (by omega)]
          rw [F 58 _ (by omega)] at k2
          exact hgD.2.2 j k1 k2
      · refine pD_ot (hv.1.2 d hd) (h8 d hd) (F 52 _ (by omega)) (fun _ _ => F 54 _ (by omega)) (F 58 _ (by omega)) (fun _ _ => F 59 _ (by omega)) (fun _ p _ _ hs => ?_)
        by_cases e2 : p = q
        · subst e2; rw [e64] at hs; exact absurd hs (by decide)
        · rw [F 64 p (by omega)] at hs; exact hs
  refine ⟨⟨hIv, fun d hd => ?_, fun p hp hs => ?_⟩, ⟨fun p hp => ?_, fun d hd => by rw [F 62 d (by omega), F 60 d (by omega)]; exact ⟨Int.le_refl _, Int.le_refl _⟩⟩⟩
  · by_cases e : d = D
    · rw [e]
      have hR := hv.2.1 D hDn
      have hP : ∀ i, i ≤ n → 0 ≤ t 53 0 (8 * D + i) ∧ t 53 0 (8 * D + i) < 10 := fun i hi => (h.2.1 D hDn).2.1 i (by omega)
      unfold pR
      rw [F 55 D (by omega), F 30 1 (by omega), e52]
      refine ⟨fun j hj hw => ?_, fun k => hR.2 (by omega)⟩
      rw [e52] at hj
      obtain ⟨g1, g2⟩ := old j (by omega) hw
      rw [g1] at hw ⊢
      rcases hR.1 _ (by split <;> omega) hw with k | k
      · exact Or.inl k
      · refine Or.inr ?_
        rw [F 71 _ (by omega), yT_cg (w := yW (ycl t q o)) (P := yPd (ycl t q o) D) (w' := yW t) (t1 := t 55 0 D) (Q := fun j => if j < o then yPd t D j else yPd t D (j + 1)) rfl (fun a b => F 47 _ (by omega)) j (fun i hi => e53 i (by omega))]
        refine Int.le_trans (yT_del (n := n) hop (fun i hi => ?_) j (by omega)) k
        have q0 := hP i (by omega)
        have q1 := hP (i + 1) (by omega)
        have q2 := hP (i + 2) (by omega)
        exact pW_tri h (a := (yPd t D i).toNat) (b := (yPd t D (i + 1)).toNat) (e := (yPd t D (i + 2)).toNat) (by unfold yPd; omega) (by unfold yPd; omega) (by unfold yPd; omega)
    · exact pR_ot (hv.2.1 d hd) (h8 d hd) (F 52 _ (by omega)) (fun _ _ => F 53 _ (by omega)) (fun _ _ => F 54 _ (by omega)) (fun _ => F 47 _ (by omega)) (fun _ _ _ => F 71 _ (by omega)) (F 55 _ (by omega)) (F 30 1 (by omega))
  · by_cases e : p = q
    · subst e; rw [e64] at hs; exact absurd hs (by decide)
    · rw [F 64 p (by omega)] at hs
      rw [F 30 1 (by omega), F 67 p (by omega)]
      exact hv.2.2 p hp hs
  · by_cases e : p = q
    · subst e
      rw [e64, h1]
      exact ⟨by decide, fun k => absurd k (by decide), F 69 p (by omega), F 67 p (by omega), fun _ => F 71 p (by omega)⟩
    · rw [F 64 p (by omega)]
      exact ⟨Int.le_refl _, fun _ => rfl, F 69 p (by omega), F 67 p (by omega), fun _ => F 71 p (by omega)⟩
theorem pV_ra {t : zS} {sl : Prop} {nd nr ns q D : Nat} {c B x : Int} (h : yWF t nd nr ns c B) (hv : pV t sl nd nr) (hx : 1 ≤ x) (h58 : 0 ≤ t 58 0 D) : pV (yra t q D ((t 58 0 D).toNat % 10) x) sl nd nr ∧ pM t (yra t q D ((t 58 0 D).toNat % 10) x) nd nr := by
  have F : ∀ κ k, ¬ (κ = 30 ∧ (k = 0 ∨ k = 17)) ∧ κ ≠ 74 ∧ ¬ (κ = 59 ∧ k = 10 * D + (t 58 0 D).toNat % 10) ∧ ¬ (κ = 58 ∧ k = D) ∧ κ ≠ 51 ∧ κ ≠ 56 → yra t q D ((t 58 0 D).toNat % 10) x κ 0 k = t κ 0 k := fun κ k hk => by
    unfold yra
    split
    · rw [ybf_f2 (by omega)]
      unfold yrw yrv
      rw [zu_ne (by omega), zu_ne (by omega), zu_ne (by omega), zu_ne (by omega), zu_ne (by omega)]
    · unfold yrw yrv
      rw [zu_ne (by omega), zu_ne (by omega), zu_ne (by omega), zu_ne (by omega), zu_ne (by omega)]
  have g59 : yra t q D ((t 58 0 D).toNat % 10) x 59 0 (10 * D + (t 58 0 D).toNat % 10) = x := by
    unfold yra
    split
    · rw [ybf_f2 (by omega)]
      unfold yrw yrv
      rw [zu_ne (by omega), zu_ne (by omega), zu_same]
    · unfold yrw yrv
      rw [zu_ne (by omega), zu_ne (by omega), zu_same]
  have g58 : yra t q D ((t 58 0 D).toNat % 10) x 58 0 D = t 58 0 D + 1 := by
    unfold yra
    split
    · rw [ybf_f2 (by omega)]
      unfold yrw yrv
      rw [zu_ne (by omega), zu_same]
    · unfold yrw yrv
      rw [zu_ne (by omega), zu_same]
  have h8 := pWF_8 h
  refine ⟨⟨⟨fun p hp => pQ_ot (hv.1.1 p hp) (F 64 p (by omega)) (F 71 p (by omega)) (F 72 p (by omega)), fun d hd => ?_⟩, fun d hd => pR_ot (hv.2.1 d hd) (h8 d hd) (F 52 _ (by omega)) (fun _ _ => F 53 _ (by omega)) (fun _ _ => F 54 _ (by omega)) (fun _ => F 47 _ (by omega)) (fun _ _ _ => F 71 _ (by omega)) (F 55 _ (by omega)) (F 30 1 (by omega)), fun p hp hs => ?_⟩, pM_ot (fun κ k hk => F κ k (by omega))⟩
  · by_cases e : d = D
    · subst e
      obtain ⟨a1, a2, a3⟩ := hv.1.2 d hd
      have h9 := h8 d hd
      refine ⟨fun j p hj hw hs => ?_, ?_, fun j k1 k2 => ?_⟩
      · rw [F 52 d (by omega)] at hj
        rw [F 54 _ (by omega)] at hw
        rw [F 64 p (by omega)] at hs
        obtain ⟨i, hi, ei⟩ := a1 j p hj hw hs
        exact ⟨i, hi, by rw [F 54 _ (by omega)]; exact ei⟩
      · rw [F 52 d (by omega), ycO_congr (w := fun j => t 54 0 (8 * d + j)) (fun j hj => F 54 _ (by omega))]
        exact a2
      · rw [g58] at k2
        by_cases e2 : j = (t 58 0 d).toNat % 10
        · rw [e2, g59]; exact hx
        · rw [F 59 _ (by omega)]
          exact a3 j k1 (by omega)
    · exact pD_ot (hv.1.2 d hd) (h8 d hd) (F 52 _ (by omega)) (fun _ _ => F 54 _ (by omega)) (F 58 _ (by omega)) (fun j hj => F 59 _ (by omega)) (fun _ p _ _ hs => by rw [F 64 p (by omega)] at hs; exact hs)
  · rw [F 64 p (by omega)] at hs
    rw [F 30 1 (by omega), F 67 p (by omega)]
    exact hv.2.2 p hp hs
theorem pV_rq {t : zS} {sl : Prop} {nd nr ns a b : Nat} {c B m x : Int} (h : yWF t nd nr ns c B) (hv : pV t sl nd nr) (hn : nr < 60) (hm : 1 ≤ m) : pV (yrq t nd nr a b m x) sl nd (nr + 1) ∧ pM t (yrq t nd nr a b m x) nd nr := by
  have F : ∀ κ k, ¬ (κ = 30 ∧ (k = 0 ∨ k = 23)) ∧ ¬ ((κ = 69 ∨ κ = 65 ∨ κ = 66 ∨ κ = 67 ∨ κ = 68 ∨ κ = 70 ∨ κ = 71 ∨ κ = 72) ∧ k = nr) → yrq t nd nr a b m x κ 0 k = t κ 0 k := fun κ k hk => yrq_fr hk
  have h8 := pWF_8 h
  have h64 : t 64 0 nr = 0 := (h.2.2.2.2 nr (Nat.le_refl _) hn).1
  have e67 : yrq t nd nr a b m x 67 0 nr = t 30 0 1 + m := (yrq_at (t := t)).2.2.2.2.1
  have e71 : yrq t nd nr a b m x 71 0 nr = -1 := by unfold yrq; rw [zu_ne (by omega), zu_ne (by omega), zu_same]
  have e72 : yrq t nd nr a b m x 72 0 nr = -1 := by unfold yrq; rw [zu_ne (by omega), zu_same]
  refine ⟨⟨⟨fun p hp => ?_, fun d hd => pD_ot (hv.1.2 d hd) (h8 d hd) (F 52 _ (by omega)) (fun _ _ => F 54 _ (by omega)) (F 58 _ (by omega)) (fun _ _ => F 59 _ (by omega)) (fun _ p _ _ hs => by rw [F 64 p (by omega)] at hs; exact hs)⟩, fun d hd => pR_ot (hv.2.1 d hd) (h8 d hd) (F 52 _ (by omega)) (fun _ _ => F 53 _ (by omega)) (fun _ _ => F 54 _ (by omega)) (fun _ => F 47 _ (by omega)) (fun j hj hw => ?_) (F 55 _ (by omega)) (F 30 1 (by omega)), fun p hp hs => ?_⟩, ⟨fun p hp => ?_, fun d hd => ?_⟩⟩
  · by_cases e : p = nr
    · subst e
      unfold pQ
      rw [F 64 p (by omega), h64, e71, e72]
      exact ⟨fun _ => rfl, fun k => absurd k (by decide), fun _ => rfl⟩
    · exact pQ_ot (hv.1.1 p (by omega)) (F 64 p (by omega)) (F 71 p (by omega)) (F 72 p (by omega))
  · have hr := pWF_ride h hd hj (q := (t 54 0 (8 * d + j) - 100).toNat) (by omega)
    exact F 71 _ (by omega)
  · rw [F 30 1 (by omega)]
    by_cases e : p = nr
    · subst e
      rw [e67]; omega
    · rw [F 64 p (by omega)] at hs
      rw [F 67 p (by omega)]
      exact hv.2.2 p (by omega) hs
  · rw [F 64 p (by omega)]
    exact ⟨Int.le_refl _, fun _ => rfl, F 69 p (by omega), F 67 p (by omega), fun _ => F 71 p (by omega)⟩
  · rw [F 62 d (by omega), F 60 d (by omega)]
    exact ⟨Int.le_refl _, Int.le_refl _⟩
theorem pV_dr {t : zS} {sl : Prop} {nd nr ns : Nat} {c B x : Int} (h : yWF t nd nr ns c B) (hv : pV t sl nd nr) (hn : nd < 8) : pV (ybf (zu (zu (zu t 30 0 0 0) 49 0 nd x) 30 0 8 ((nd : Int) + 1)) nd) sl (nd + 1) nr := by
  have F : ∀ κ k, ¬ (κ = 30 ∧ (k = 0 ∨ k = 8 ∨ k = 17)) ∧ ¬ (κ = 49 ∧ k = nd) ∧ κ ≠ 56 → ybf (zu (zu (zu t 30 0 0 0) 49 0 nd x) 30 0 8 ((nd : Int) + 1)) nd κ 0 k = t κ 0 k := fun κ k hk => by
    rw [ybf_f2 (by omega), zu_ne (by omega), zu_ne (by omega), zu_ne (by omega)]
  have h8 := pWF_8 h
  obtain ⟨⟨n1, n2, n3, n4, n5⟩, n6⟩ := h.2.2.2.1 nd (Nat.le_refl _) hn
  have hR : ∀ d, d < nd + 1 → pD (ybf (zu (zu (zu t 30 0 0 0) 49 0 nd x) 30 0 8 ((nd : Int) + 1)) nd) d ∧ pR (ybf (zu (zu (zu t 30 0 0 0) 49 0 nd x) 30 0 8 ((nd : Int) + 1)) nd) sl d := fun d hd => by
    by_cases e : d = nd
    · rw [e]
      refine ⟨⟨fun j p hj => ?_, ?_, fun j k1 k2 => ?_⟩, fun j hj => ?_, fun k => ?_⟩
      · rw [F 52 nd (by omega), n3] at hj; omega
      · rw [F 52 nd (by omega), n3]; exact Nat.zero_le _
      · rw [F 58 nd (by omega), n4] at k2; omega
      · rw [F 52 nd (by omega), n3] at hj; omega
      · rw [F 52 nd (by omega), n3] at k; omega
    · have hd' : d < nd := by omega
      exact ⟨pD_ot (hv.1.2 d hd') (h8 d hd') (F 52 _ (by omega)) (fun _ _ => F 54 _ (by omega)) (F 58 _ (by omega)) (fun _ _ => F 59 _ (by omega)) (fun _ p _ _ hs => by rw [F 64 p (by omega)] at hs; exact hs), pR_ot (hv.2.1 d hd') (h8 d hd') (F 52 _ (by omega)) (fun _ _ => F 53 _ (by omega)) (fun _ _ => F 54 _ (by omega)) (fun _ => F 47 _ (by omega)) (fun _ _ _ => F 71 _ (by omega)) (F 55 _ (by omega)) (F 30 1 (by omega))⟩
  refine ⟨⟨fun p hp => pQ_ot (hv.1.1 p hp) (F 64 p (by omega)) (F 71 p (by omega)) (F 72 p (by omega)), fun d hd => (hR d hd).1⟩, fun d hd => (hR d hd).2, fun p hp hs => ?_⟩
  rw [F 64 p (by omega)] at hs
  rw [F 30 1 (by omega), F 67 p (by omega)]
  exact hv.2.2 p hp hs
