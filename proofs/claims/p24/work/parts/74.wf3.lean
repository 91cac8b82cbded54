/-! what the calls leave is well formed -/
theorem yWF_cap {t : zS} {nd nr ns : Nat} {c B a : Int} (h : yWF t nd nr ns c B) (ha : 100 ≤ a ∧ a ≤ 300) : yWF (zu t 30 0 2 a) nd nr ns c B := by
  obtain ⟨g, hd, hq, hn⟩ := h
  obtain ⟨a1, ⟨a2, a3, a4⟩, a5, a6, a7, a8, a9⟩ := g
  have E : ∀ κ k, ¬ (κ = 30 ∧ k = 2) → zu t 30 0 2 a κ 0 k = t κ 0 k := fun κ k h => zu_ne (by omega)
  have f44 : zu t 30 0 2 a 44 0 = t 44 0 := funext fun k => E 44 k (by omega)
  have f45 : zu t 30 0 2 a 45 0 = t 45 0 := funext fun k => E 45 k (by omega)
  have f46 : zu t 30 0 2 a 46 0 = t 46 0 := funext fun k => E 46 k (by omega)
  refine ⟨⟨a1, ⟨by rw [E 30 8 (by omega)]; exact a2, by rw [E 30 23 (by omega)]; exact a3, by rw [E 30 3 (by omega)]; exact a4⟩, by rw [E 30 1 (by omega)]; exact a5, by rw [zu_same]; exact ha, by rw [E 30 17 (by omega)]; exact a7, by rw [f44, f45, f46]; exact a8, fun x y hx hy => by rw [f44, f45, f46, E 47 _ (by omega)]; exact a9 x y hx hy⟩, fun d h1 => yWd_ot (hd d h1) (Int.le_refl _) (fun κ k hk => E κ k (by omega)) (by rw [E 30 1 (by omega)]; exact Int.le_refl _) (Nat.le_of_eq (yDN_same (fun q _ => by rw [E 64 q (by omega)])).symm) (fun q _ => by rw [E 64 q (by omega), E 70 q (by omega)]; exact ⟨fun h => ⟨rfl, h⟩, fun h _ => h⟩), fun q h1 => yWq_ot (hq q h1) (Nat.le_refl _) (fun κ k hk => E κ k (by omega)) (by rw [E 30 1 (by omega)]; exact Int.le_refl _), yWn_ot hn (fun κ k hk => E κ k (by omega))⟩
theorem yWF_5x {t : zS} {nd nr ns d κ : Nat} {c B x : Int} (h : yWF t nd nr ns c B) (hd : d < nd) (hκ : κ = 50 ∨ κ = 51) : yWF (zu t κ 0 d x) nd nr ns c B :=
  yWF_fr h (fun κ' k hk => zu_ne (by unfold yWk at hk; omega)) (Int.le_refl _) (by rw [zu_ne (by omega)]; exact h.1.2.2.2.2.1)
theorem yWF_rest {t : zS} {nd nr ns d : Nat} {c B x : Int} (h : yWF t nd nr ns c B) (hd : d < nd) : yWF (ymr t d x) nd nr ns c (B + 1) := by
  have h1 : yWF (zu (zu t 30 0 0 0) 50 0 d x) nd nr ns c B := yWF_5x (yWF_z h) hd (Or.inl rfl)
  unfold ymr
  split
  · exact yWF_bf h1
  · exact yWF_B h1 (Int.le_refl _) (by omega)
theorem ywd_fr {t : zS} {d κ k : Nat} {b : Int} (h : ¬ (κ = 30 ∧ k = 0) ∧ ¬ ((κ = 53 ∨ κ = 54) ∧ k = 8 * d) ∧ ¬ (κ = 52 ∧ k = d)) : ywd t d b κ 0 k = t κ 0 k := by
  unfold ywd
  rw [zu_ne (by omega), zu_ne (by omega), zu_ne (by omega), zu_ne (by omega)]
theorem ywd_at {t : zS} {d : Nat} {b : Int} : ywd t d b 52 0 d = 1 ∧ ywd t d b 53 0 (8 * d) = b ∧ ywd t d b 54 0 (8 * d) = -1 := by
  unfold ywd
  refine ⟨by rw [zu_same], by rw [zu_ne (by omega), zu_ne (by omega), zu_same], by rw [zu_ne (by omega), zu_same]⟩
theorem yWF_wd {t : zS} {nd nr ns d : Nat} {c B b : Int} (h : yWF t nd nr ns c B) (hd : d < nd) (h52 : t 52 0 d = 0) (hb : 0 ≤ b ∧ b < 10) (hw : t 47 0 (10 * (t 49 0 d).toNat + b.toNat) < 100000) : yWF (ywd t d b) nd nr ns c B := by
  obtain ⟨g, hds, hqs, hns⟩ := id h
  obtain ⟨n1, p0, w0⟩ := ywd_at (t := t) (d := d) (b := b)
  obtain ⟨⟨b1, b2, b3⟩, bg⟩ := id g
  have F : ∀ κ k, ¬ (κ = 30 ∧ k = 0) ∧ ¬ ((κ = 53 ∨ κ = 54) ∧ k = 8 * d) ∧ ¬ (κ = 52 ∧ k = d) → ywd t d b κ 0 k = t κ 0 k := fun κ k h => ywd_fr h
  have hN : yDN (ywd t d b) nr = yDN t nr := yDN_same (fun p hp => by rw [F 64 p (by omega)])
  have hs : ∀ d' q, q < nr → (t 70 0 q = ((d' : Nat) : Int) → ywd t d b 64 0 q = t 64 0 q ∧ ywd t d b 70 0 q = ((d' : Nat) : Int)) ∧ (ywd t d b 70 0 q = ((d' : Nat) : Int) → ywd t d b 64 0 q = 1 → t 70 0 q = ((d' : Nat) : Int)) := fun d' q _ => by
    rw [F 64 q (by omega), F 70 q (by omega)]
    exact ⟨fun h => ⟨rfl, h⟩, fun h _ => h⟩
  refine ⟨yWg_ot g (fun κ k hk => F κ k (by omega)) (by rw [F 30 1 (by omega)]; exact bg.2.1) (by rw [F 30 17 (by omega)]; exact bg.2.2.2.1), fun d' hd9 => ?_, fun p hp => yWq_ot (hqs p hp) (Nat.le_refl _) (fun κ k hk => F κ k (by omega)) (by rw [F 30 1 (by omega)]; exact Int.le_refl _), yWn_ot hns (fun κ k hk => F κ k (by omega))⟩
  by_cases e : d' = d
  · subst e
    obtain ⟨⟨a1, a2⟩, a3, a4, a5, a6, a7, a8, a9, a10, a11⟩ := hds d' hd
    refine ⟨⟨by rw [F 49 _ (by omega)]; exact a1, by rw [n1]; decide⟩, fun j hj => ?_, fun j hj => ?_, fun hj => ?_, by rw [F 55 _ (by omega)]; exact a6, ⟨by rw [F 58 _ (by omega)]; exact a7.1, fun j hj => by rw [F 59 _ (by omega)]; exact a7.2 j hj⟩, by rw [F 60 _ (by omega), F 30 1 (by omega)]; exact a8, by rw [F 61 _ (by omega), hN]; exact a9, by rw [F 61 _ (by omega), F 62 _ (by omega)]; exact a10, ?_⟩
    · rw [n1] at hj
      obtain rfl : j = 0 := by omega
      rw [Nat.add_zero, p0]; exact hb
    · rw [n1] at hj
      omega
    · unfold ywy
      rw [p0, F 49 _ (by omega), F 47 _ (by omega)]
      exact hw
    · rw [n1]
      rw [h52] at a11
      have h5 := yRS_other (w' := fun j => ywd t d' b 54 0 (8 * d' + j)) a11 (fun j hj => absurd hj (Nat.not_lt_zero j)) (hs d')
      exact yRS_wander h5 w0
  · exact yWd_ot (hds d' hd9) (Int.le_refl _) (fun κ k hk => F κ k (by omega)) (by rw [F 30 1 (by omega)]; exact Int.le_refl _) (Nat.le_of_eq hN.symm) (hs d')
theorem yWF_wander {t : zS} {nd nr ns d : Nat} {c B b : Int} (h : yWF t nd nr ns c B) (hd : d < nd) (h52 : t 52 0 d = 0) (hb : 0 ≤ b ∧ b < 10) (hw : t 47 0 (10 * (t 49 0 d).toNat + b.toNat) < 100000) : yWF (ybf (yLV d 1 (ywd t d b)) d) nd nr ns c (B + 1) :=
  yWF_bf (yWF_LV hd 1 _ (yWF_wd h hd h52 hb hw) ywd_at.1)
theorem yWF_c0 {t : zS} {nd nr ns q : Nat} {c B : Int} (h : yWF t nd nr ns c B) (hq : q < nr) (h0 : t 64 0 q = 0) : yWF (zu (zu t 30 0 0 0) 64 0 q 4) nd nr ns c B := by
  obtain ⟨g, hds, hqs, hns⟩ := yWF_z (x := 0) h
  have h0' : zu t 30 0 0 0 64 0 q = 0 := by rw [zu_ne (by omega)]; exact h0
  generalize zu t 30 0 0 0 = v at g hds hqs hns h0'
  have F : ∀ κ k, ¬ (κ = 64 ∧ k = q) → zu v 64 0 q 4 κ 0 k = v κ 0 k := fun κ k h => zu_ne (by omega)
  obtain ⟨c1, c2, c3, c4, c5, c6, c7, c8, c9, c10, c11, c12⟩ := hqs q hq
  have hN : yDN (zu v 64 0 q 4) nr = yDN v nr := yDN_same (fun p hp => by
    by_cases e : p = q
    · subst e; rw [zu_same]; omega
    · rw [F 64 p (by omega)])
  refine ⟨yWg_ot g (fun κ k hk => F κ k (by omega)) (by rw [F 30 1 (by omega)]; exact g.2.2.1) (by rw [F 30 17 (by omega)]; exact g.2.2.2.2.1), fun d' hd9 => ?_, fun p hp => ?_, yWn_ot hns (fun κ k hk => F κ k (by omega))⟩
  · refine yWd_ot (hds d' hd9) (Int.le_refl _) (fun κ k hk => F κ k (by omega)) (by rw [F 30 1 (by omega)]; exact Int.le_refl _) (Nat.le_of_eq hN.symm) (fun p hp => ?_)
    rw [F 70 p (by omega)]
    by_cases e : p = q
    · subst e
      have := c7 h0'
      omega
    · rw [F 64 p (by omega)]
      exact ⟨fun h => ⟨rfl, h⟩, fun h _ => h⟩
  · by_cases e : p = q
    · subst e
      unfold yWq
      rw [zu_same, F 65 _ (by omega), F 66 _ (by omega), F 67 _ (by omega), F 69 _ (by omega), F 70 _ (by omega), F 71 _ (by omega), F 72 _ (by omega), F 73 _ (by omega), F 47 _ (by omega), F 30 _ (by omega)]
      exact ⟨c1, c2, c3, c4, c5, by omega, by omega, c8, by omega, c10, c11, c12⟩
    · exact yWq_ot (hqs p hp) (Nat.le_refl _) (fun κ k hk => F κ k (by omega)) (by rw [F 30 1 (by omega)]; exact Int.le_refl _)
theorem ycl_fr {t : zS} {q o κ k : Nat} (hD : (t 52 0 (t 70 0 q).toNat).toNat ≤ 8) (h : ¬ (κ = 30 ∧ k = 0) ∧ ¬ ((κ = 53 ∨ κ = 54) ∧ 8 * (t 70 0 q).toNat ≤ k ∧ k < 8 * (t 70 0 q).toNat + 8) ∧ ¬ (κ = 52 ∧ k = (t 70 0 q).toNat) ∧ ¬ (κ = 64 ∧ k = q)) : ycl t q o κ 0 k = t κ 0 k := by
  unfold ycl
  rw [zu_ne (by omega), zu_ne (by omega), ymk_fr (by omega), zu_ne (by omega)]
theorem yWF_cl {t : zS} {nd nr ns q o : Nat} {c B : Int} (h : yWF t nd nr ns c B) (hq : q < nr) (h1 : t 64 0 q = 1) (ho : yco t q o) : yWF (ycl t q o) nd nr ns c B := by
  obtain ⟨g, hds, hqs, hns⟩ := id h
  obtain ⟨⟨b1, b2, b3⟩, bg⟩ := id g
  obtain ⟨c1, c2, c3, c4, c5, c6, c7, c8, c9, c10, c11, c12⟩ := hqs q hq
  have hD0 := c9 (by omega) (by omega)
  obtain ⟨D, hD⟩ : ∃ z, z = (t 70 0 q).toNat := ⟨_, rfl⟩
  have hDn : D < nd := by omega
  obtain ⟨⟨a1, a2⟩, a3, a4, a5, a6, a7, a8, a9, a10, a11⟩ := hds D hDn
  obtain ⟨o1, o2, o3⟩ := ho
  rw [← hD] at o1 o2 o3
  obtain ⟨n, hn⟩ : ∃ n : Nat, t 52 0 D = (n : Int) + 1 := ⟨(t 52 0 D).toNat - 1, by omega⟩
  have F : ∀ κ k, ¬ (κ = 30 ∧ k = 0) ∧ ¬ ((κ = 53 ∨ κ = 54) ∧ 8 * D ≤ k ∧ k < 8 * D + 8) ∧ ¬ (κ = 52 ∧ k = D) ∧ ¬ (κ = 64 ∧ k = q) → ycl t q o κ 0 k = t κ 0 k := fun κ k hk => ycl_fr (by rw [← hD]; omega) (by rw [← hD]; exact hk)
  have e52 : ycl t q o 52 0 D = (n : Int) := by
    unfold ycl
    rw [← hD, zu_ne (by omega), zu_same]; omega
  have e64 : ycl t q o 64 0 q = 4 := by unfold ycl; rw [zu_same]
  have e53 : ∀ j, j < n → ycl t q o 53 0 (8 * D + j) = if j < o then t 53 0 (8 * D + j) else t 53 0 (8 * D + (j + 1)) := fun j hj => by
    unfold ycl
    rw [← hD, zu_ne (by omega), zu_ne (by omega), ymk_53 (by omega), zu_ne (by omega), zu_ne (by omega)]
  have e54 : ∀ j, j < n → ycl t q o 54 0 (8 * D + j) = ycx (fun j => t 54 0 (8 * D + j)) (q : Int) o j := fun j hj => by
    unfold ycl
    rw [← hD, zu_ne (by omega), zu_ne (by omega), ymk_54 (by omega)]
    rw [show (fun j => zu t 30 0 0 0 54 0 (8 * D + j)) = fun j => t 54 0 (8 * D + j) from funext fun j => zu_ne (by omega)]
  have hN : yDN (ycl t q o) nr = yDN t nr := yDN_same (fun p hp => by
    by_cases e : p = q
    · subst e; omega
    · rw [F 64 p (by omega)])
  have hP : ∀ j, j < n + 1 → 0 ≤ t 53 0 (8 * D + j) ∧ t 53 0 (8 * D + j) < 10 := fun j hj => a3 j (by omega)
  have hch := yfn_ch (P := fun j => t 53 0 (8 * D + j)) (n := n + 1) h hP (fun j hj => a4 j (by omega))
  refine ⟨yWg_ot g (fun κ k hk => F κ k (by omega)) (by rw [F 30 1 (by omega)]; exact bg.2.1) (by rw [F 30 17 (by omega)]; exact bg.2.2.2.1), fun d' hd9 => ?_, fun p hp => ?_, yWn_ot hns (fun κ k hk => F κ k (by omega))⟩
  · by_cases e : d' = D
    · subst e
      refine ⟨⟨by rw [F 49 _ (by omega)]; exact a1, by rw [e52]; omega⟩, fun j hj => ?_, fun j hj => ?_, fun hj => ?_, by rw [F 55 _ (by omega)]; exact a6, ⟨by rw [F 58 _ (by omega)]; exact a7.1, fun j hj => by rw [F 59 _ (by omega)]; exact a7.2 j hj⟩, by rw [F 60 _ (by omega), F 30 1 (by omega)]; exact a8, by rw [F 61 _ (by omega), hN]; exact a9, by rw [F 61 _ (by omega), F 62 _ (by omega)]; exact a10, ?_⟩
      · rw [e52] at hj
        rw [e53 j (by omega)]
        split
        · exact hP j (by omega)
        · exact hP (j + 1) (by omega)
      · rw [e52] at hj
        rw [e53 j (by omega), e53 (j + 1) (by omega), F 47 _ (by omega)]
        by_cases x1 : j + 1 < o
        · rw [if_pos (by omega), if_pos x1]; exact hch j (j + 1) (by omega) (by omega)
        · rw [if_neg x1]
          by_cases x2 : j < o
          · rw [if_pos x2]; exact hch j (j + 1 + 1) (by omega) (by omega)
          · rw [if_neg x2]; exact hch (j + 1) (j + 1 + 1) (by omega) (by omega)
      · rw [e52] at hj
        have h0 := e53 0 (by omega)
        rw [Nat.add_zero] at h0
        have y0 : yfn t (t 49 0 d') (t 53 0 (8 * d')) := a5 (by omega)
        have p0 := hP 0 (by omega)
        rw [Nat.add_zero] at p0
        unfold ywy
        rw [h0, F 49 _ (by omega), F 47 _ (by omega)]
        by_cases x1 : 0 < o
        · rw [if_pos x1]; exact y0
        · rw [if_neg x1]
          exact yfn_t h a1 p0 (hP 1 (by omega)) y0 (hch 0 1 (by omega) (by omega))
      · rw [e52, show ((n : Nat) : Int).toNat = n by omega]
        rw [show (t 52 0 d').toNat = n + 1 by omega] at a11
        have h5 := yRS_cancel (w' := fun j => ycl t q o 54 0 (8 * d' + j)) (st' := ycl t q o 64 0) hq b2 a11 (by omega) o2 e54 e64 (fun p hp hpq => F 64 p (by omega))
        exact yRS_other h5 (fun j hj => rfl) (fun p hp => by rw [F 70 p (by omega)]; exact ⟨fun h => ⟨rfl, h⟩, fun h _ => h⟩)
    · refine yWd_ot (hds d' hd9) (Int.le_refl _) (fun κ k hk => F κ k (by omega)) (by rw [F 30 1 (by omega)]; exact Int.le_refl _) (Nat.le_of_eq hN.symm) (fun p hp => ?_)
      rw [F 70 p (by omega)]
      by_cases e2 : p = q
      · subst e2
        omega
      · rw [F 64 p (by omega)]
        exact ⟨fun h => ⟨rfl, h⟩, fun h _ => h⟩
  · by_cases e : p = q
    · subst e
      unfold yWq
      rw [e64, F 65 _ (by omega), F 66 _ (by omega), F 67 _ (by omega), F 69 _ (by omega), F 70 _ (by omega), F 71 _ (by omega), F 72 _ (by omega), F 73 _ (by omega), F 47 _ (by omega), F 30 _ (by omega)]
      exact ⟨c1, c2, c3, c4, c5, by omega, by omega, c8, by omega, c10, c11, c12⟩
    · exact yWq_ot (hqs p hp) (Nat.le_refl _) (fun κ k hk => F κ k (by omega)) (by rw [F 30 1 (by omega)]; exact Int.le_refl _)
theorem yWF_ra {σ : zS} {nd nr ns q D K : Nat} {c B t : Int} (h : yWF σ nd nr ns c B) (hq : q < nr) (hD : D < nd) (hK : K < 10) (ht : 0 ≤ t ∧ t ≤ 5) : yWF (yra σ q D K t) nd nr ns (c + 1) (B + 1) := by
  have h8 := h.1.1.1
  have h1 : yWF (yrv σ q D K t) nd nr ns (c + 1) B := by
    obtain ⟨g, hds, hqs, hns⟩ := id h
    have F : ∀ κ k, ¬ (κ = 30 ∧ k = 0) ∧ ¬ (κ = 74 ∧ k = q) ∧ ¬ (κ = 59 ∧ k = 10 * D + K) ∧ ¬ (κ = 58 ∧ k = D) → yrv σ q D K t κ 0 k = σ κ 0 k := fun κ k hk => by
      unfold yrv
      rw [zu_ne (by omega), zu_ne (by omega), zu_ne (by omega), zu_ne (by omega)]
    have e58 : yrv σ q D K t 58 0 D = σ 58 0 D + 1 := by unfold yrv; rw [zu_same]
    have hN : yDN (yrv σ q D K t) nr = yDN σ nr := yDN_same (fun p hp => by rw [F 64 p (by omega)])
    have hs : ∀ d' p, p < nr → (σ 70 0 p = ((d' : Nat) : Int) → yrv σ q D K t 64 0 p = σ 64 0 p ∧ yrv σ q D K t 70 0 p = ((d' : Nat) : Int)) ∧ (yrv σ q D K t 70 0 p = ((d' : Nat) : Int) → yrv σ q D K t 64 0 p = 1 → σ 70 0 p = ((d' : Nat) : Int)) := fun d' p _ => by
      rw [F 64 p (by omega), F 70 p (by omega)]
      exact ⟨fun h => ⟨rfl, h⟩, fun h _ => h⟩
    refine ⟨yWg_ot g (fun κ k hk => F κ k (by omega)) (by rw [F 30 1 (by omega)]; exact g.2.2.1) (by rw [F 30 17 (by omega)]; exact g.2.2.2.2.1), fun d' hd9 => ?_, fun p hp => yWq_ot (hqs p hp) (Nat.le_refl _) (fun κ k hk => F κ k (by omega)) (by rw [F 30 1 (by omega)]; exact Int.le_refl _), yWn_ot hns (fun κ k hk => F κ k (by omega))⟩
    by_cases e : d' = D
    · subst e
      obtain ⟨⟨a1, a2⟩, a3, a4, a5, a6, a7, a8, a9, a10, a11⟩ := hds d' hd9
      refine ⟨⟨by rw [F 49 _ (by omega)]; exact a1, by rw [F 52 _ (by omega)]; exact a2⟩, fun j hj => ?_, fun j hj => ?_, fun hj => ?_, by rw [F 55 _ (by omega)]; exact a6, ⟨by rw [e58]; omega, yrv_st (by omega) ht a7.2⟩, by rw [F 60 _ (by omega), F 30 1 (by omega)]; exact a8, by rw [F 61 _ (by omega), hN]; exact a9, by rw [F 61 _ (by omega), F 62 _ (by omega)]; exact a10, ?_⟩
      · rw [F 52 _ (by omega)] at hj
        rw [F 53 _ (by omega)]; exact a3 j hj
      · rw [F 52 _ (by omega)] at hj
        rw [F 53 _ (by omega), F 53 _ (by omega), F 47 _ (by omega)]; exact a4 j hj
      · rw [F 52 _ (by omega)] at hj
        unfold ywy
        rw [F 53 _ (by omega), F 49 _ (by omega), F 47 _ (by omega)]; exact a5 hj
      · rw [F 52 _ (by omega)]
        exact yRS_other a11 (fun j hj => F 54 _ (by omega)) (hs d')
    · exact yWd_ot (hds d' hd9) (by omega) (fun κ k hk => F κ k (by omega)) (by rw [F 30 1 (by omega)]; exact Int.le_refl _) (Nat.le_of_eq hN.symm) (hs d')
  have h2 : yWF (yrw σ q D K t) nd nr ns (c + 1) B := yWF_5x h1 hD (Or.inr rfl)
  unfold yra
  split
  · exact yWF_bf h2
  · exact yWF_B h2 (Int.le_refl _) (by omega)
/-- the streets change: what could be reached still can -/
theorem yWF_ways {t u : zS} {nd nr ns ns' : Nat} {c B : Int} (h : yWF t nd nr ns c B) (hn : ns' ≤ 20) (h3 : u 30 0 3 = (ns' : Int)) (hst : yst (u 44 0) (u 45 0) (u 46 0) ns') (hww : ∀ a b, a < 10 → b < 10 → u 47 0 (10 * a + b) = ywf 100000 (u 44 0) (u 45 0) (u 46 0) ns' 10 a b) (e : ∀ κ k, ¬ (κ = 30 ∧ (k = 0 ∨ k = 3)) ∧ ¬ (44 ≤ κ ∧ κ ≤ 47) → u κ 0 k = t κ 0 k) (hle : ns ≤ ns') (ho : ∀ k, k < ns → u 44 0 k = t 44 0 k ∧ u 45 0 k = t 45 0 k) : yWF u nd nr ns' c B := by
  obtain ⟨g, hds, hqs, hns⟩ := id h
  obtain ⟨⟨b1, b2, b3⟩, ⟨b4, b5, b6⟩, b7, b8, b9, b10, b11⟩ := id g
  have W : ∀ a b : Nat, a < 10 → b < 10 → t 47 0 (10 * a + b) < 100000 → u 47 0 (10 * a + b) < 100000 := fun a b ha hb hl => by
    rw [b11 a b ha hb] at hl
    rw [hww a b ha hb]
    exact ywf_stay b10 hst hle ho hl
  have hN : yDN u nr = yDN t nr := yDN_same (fun p hp => by rw [e 64 p (by omega)])
  refine ⟨⟨⟨b1, b2, hn⟩, ⟨by rw [e 30 8 (by omega)]; exact b4, by rw [e 30 23 (by omega)]; exact b5, h3⟩, by rw [e 30 1 (by omega)]; exact b7, by rw [e 30 2 (by omega)]; exact b8, by rw [e 30 17 (by omega)]; exact b9, hst, hww⟩, fun d hd => ?_, fun q hq => ?_, yWn_ot hns (fun κ k hk => e κ k (by omega))⟩
  · obtain ⟨⟨a1, a2⟩, a3, a4, a5, a6, a7, a8, a9, a10, a11⟩ := hds d hd
    refine ⟨⟨by rw [e 49 _ (by omega)]; exact a1, by rw [e 52 _ (by omega)]; exact a2⟩, fun j hj => ?_, fun j hj => ?_, fun hj => ?_, by rw [e 55 _ (by omega)]; exact a6, ⟨by rw [e 58 _ (by omega)]; exact a7.1, fun j hj => by rw [e 59 _ (by omega)]; exact a7.2 j hj⟩, by rw [e 60 _ (by omega), e 30 1 (by omega)]; exact a8, by rw [e 61 _ (by omega), hN]; exact a9, by rw [e 61 _ (by omega), e 62 _ (by omega)]; exact a10, ?_⟩
    · rw [e 52 _ (by omega)] at hj
      rw [e 53 _ (by omega)]; exact a3 j hj
    · rw [e 52 _ (by omega)] at hj
      have p1 := a3 j (by omega)
      have p2 := a3 (j + 1) (by omega)
      rw [e 53 _ (by omega), e 53 _ (by omega)]
      exact W _ _ (by omega) (by omega) (a4 j hj)
    · rw [e 52 _ (by omega)] at hj
      have p1 := a3 0 (by omega)
      rw [Nat.add_zero] at p1
      unfold ywy
      rw [e 53 _ (by omega), e 49 _ (by omega)]
      exact W _ _ (by omega) (by omega) (a5 hj)
    · rw [e 52 _ (by omega)]
      exact yRS_other a11 (fun j hj => e 54 _ (by omega)) (fun p _ => by rw [e 64 p (by omega), e 70 p (by omega)]; exact ⟨fun h => ⟨rfl, h⟩, fun h _ => h⟩)
  · obtain ⟨c1, c2, c3, c4⟩ := hqs q hq
    unfold yWq
    rw [e 64 _ (by omega), e 65 _ (by omega), e 66 _ (by omega), e 67 _ (by omega), e 69 _ (by omega), e 70 _ (by omega), e 71 _ (by omega), e 72 _ (by omega), e 73 _ (by omega), e 30 1 (by omega)]
    exact ⟨c1, c2, W _ _ (by omega) (by omega) c3, c4⟩
theorem yWF_street {t u : zS} {nd nr ns : Nat} {c B a b m : Int} (h : yWF t nd nr ns c B) (hn : ns < 20) (ha : 0 ≤ a ∧ a ≤ 9) (hb : 0 ≤ b ∧ b ≤ 9) (hab : a ≠ b) (hm : 1 ≤ m ∧ m ≤ 20) (hu : yfw (zu (zu (zu (zu (zu t 30 0 0 0) 44 0 ns a) 45 0 ns b) 46 0 ns m) 30 0 3 ((ns : Int) + 1)) u (ns + 1)) : yWF u nd nr (ns + 1) c B := by
  obtain ⟨u1, u2⟩ := hu
  generalize hv : zu (zu (zu (zu (zu t 30 0 0 0) 44 0 ns a) 45 0 ns b) 46 0 ns m) 30 0 3 ((ns : Int) + 1) = v at u1 u2
  have e44 : ∀ k, v 44 0 k = if k = ns then a else t 44 0 k := fun k => by
    rw [← hv, zu_ne (by omega), zu_ne (by omega), zu_ne (by omega)]
    split
    · rename_i e; subst e; rw [zu_same]
    · rw [zu_ne (by omega), zu_ne (by omega)]
  have e45 : ∀ k, v 45 0 k = if k = ns then b else t 45 0 k := fun k => by
    rw [← hv, zu_ne (by omega), zu_ne (by omega)]
    split
    · rename_i e; subst e; rw [zu_same]
    · rw [zu_ne (by omega), zu_ne (by omega), zu_ne (by omega)]
  have e46 : ∀ k, v 46 0 k = if k = ns then m else t 46 0 k := fun k => by
    rw [← hv, zu_ne (by omega)]
    split
    · rename_i e; subst e; rw [zu_same]
    · rw [zu_ne (by omega), zu_ne (by omega), zu_ne (by omega), zu_ne (by omega)]
  have f : ∀ κ, κ ≠ 47 → u κ 0 = v κ 0 := fun κ h => funext fun k => u2 κ 0 k h
  have hst := h.1.2.2.2.2.2.1
  refine yWF_ways h (by omega) ?_ ?_ ?_ (fun κ k hk => ?_) (by omega) (fun k hk => ?_)
  · rw [f 30 (by decide), ← hv, zu_same]; omega
  · rw [f 44 (by decide), f 45 (by decide), f 46 (by decide)]
    intro k hk
    rw [e44, e45, e46]
    by_cases e : k = ns
    · rw [if_pos e, if_pos e, if_pos e]
      exact ⟨ha.1, by omega, hb.1, by omega, hab, hm⟩
    · rw [if_neg e, if_neg e, if_neg e]
      exact hst k (by omega)
  · rw [f 44 (by decide), f 45 (by decide), f 46 (by decide)]
    exact u1
  · rw [u2 κ 0 k (by omega), ← hv, zu_ne (by omega), zu_ne (by omega), zu_ne (by omega), zu_ne (by omega), zu_ne (by omega)]
  · rw [f 44 (by decide), f 45 (by decide), e44, e45, if_neg (by omega), if_neg (by omega)]
    exact ⟨rfl, rfl⟩
theorem yWF_slow {t u : zS} {nd nr ns s : Nat} {c B m : Int} (h : yWF t nd nr ns c B) (hs : s < ns) (hm : 1 ≤ m ∧ m ≤ 20) (hu : yfw (zu (zu t 30 0 0 0) 46 0 s m) u ns) : yWF u nd nr ns c B := by
  obtain ⟨u1, u2⟩ := hu
  generalize hv : zu (zu t 30 0 0 0) 46 0 s m = v at u1 u2
  have e44 : ∀ k, v 44 0 k = t 44 0 k := fun k => by rw [← hv, zu_ne (by omega), zu_ne (by omega)]
  have e45 : ∀ k, v 45 0 k = t 45 0 k := fun k => by rw [← hv, zu_ne (by omega), zu_ne (by omega)]
  have e46 : ∀ k, v 46 0 k = if k = s then m else t 46 0 k := fun k => by
    rw [← hv]
    split
    · rename_i e; subst e; rw [zu_same]
    · rw [zu_ne (by omega), zu_ne (by omega)]
  have f : ∀ κ, κ ≠ 47 → u κ 0 = v κ 0 := fun κ h => funext fun k => u2 κ 0 k h
  have hst := h.1.2.2.2.2.2.1
  refine yWF_ways h h.1.1.2.2 ?_ ?_ ?_ (fun κ k hk => ?_) (Nat.le_refl _) (fun k hk => ?_)
  · rw [f 30 (by decide), ← hv, zu_ne (by omega), zu_ne (by omega)]; exact h.1.2.1.2.2
  · rw [f 44 (by decide), f 45 (by decide), f 46 (by decide)]
    intro k hk
    have := hst k hk
    rw [e44, e45, e46]
    split
    · omega
    · exact this
  · rw [f 44 (by decide), f 45 (by decide), f 46 (by decide)]
    exact u1
  · rw [u2 κ 0 k (by omega), ← hv, zu_ne (by omega), zu_ne (by omega)]
  · rw [f 44 (by decide), f 45 (by decide), e44, e45]
    exact ⟨rfl, rfl⟩
theorem yrq_fr {t : zS} {nd nr a b κ k : Nat} {m x : Int} (h : ¬ (κ = 30 ∧ (k = 0 ∨ k = 23)) ∧ ¬ ((κ = 69 ∨ κ = 65 ∨ κ = 66 ∨ κ = 67 ∨ κ = 68 ∨ κ = 70 ∨ κ = 71 ∨ κ = 72) ∧ k = nr)) : yrq t nd nr a b m x κ 0 k = t κ 0 k := by
  unfold yrq
  rw [zu_ne (by omega), zu_ne (by omega), zu_ne (by omega), zu_ne (by omega), zu_ne (by omega), zu_ne (by omega), zu_ne (by omega), zu_ne (by omega), zu_ne (by omega), zu_ne (by omega)]
theorem yrq_at {t : zS} {nd nr a b : Nat} {m x : Int} : yrq t nd nr a b m x 30 0 23 = (nr : Int) + 1 ∧ yrq t nd nr a b m x 69 0 nr = yrp (zu t 30 0 0 0) nd nr a b ∧ yrq t nd nr a b m x 65 0 nr = (a : Int) ∧ yrq t nd nr a b m x 66 0 nr = (b : Int) ∧ yrq t nd nr a b m x 67 0 nr = t 30 0 1 + m ∧ yrq t nd nr a b m x 68 0 nr = x ∧ yrq t nd nr a b m x 70 0 nr = -1 ∧ yrq t nd nr a b m x 71 0 nr = -1 ∧ yrq t nd nr a b m x 72 0 nr = -1 := by
  unfold yrq
  refine ⟨by rw [zu_same], ?_, ?_, ?_, ?_, ?_, ?_, ?_, ?_⟩
  · rw [zu_ne (by omega), zu_ne (by omega), zu_ne (by omega), zu_ne (by omega), zu_ne (by omega), zu_ne (by omega), zu_ne (by omega), zu_ne (by omega), zu_same]
  · rw [zu_ne (by omega), zu_ne (by omega), zu_ne (by omega), zu_ne (by omega), zu_ne (by omega), zu_ne (by omega), zu_ne (by omega), zu_same]
  · rw [zu_ne (by omega), zu_ne (by omega), zu_ne (by omega), zu_ne (by omega), zu_ne (by omega), zu_ne (by omega), zu_same]
  · rw [zu_ne (by omega), zu_ne (by omega), zu_ne (by omega), zu_ne (by omega), zu_ne (by omega), zu_same]
  · rw [zu_ne (by omega), zu_ne (by omega), zu_ne (by omega), zu_ne (by omega), zu_same]
  · rw [zu_ne (by omega), zu_ne (by omega), zu_ne (by omega), zu_same]
  · rw [zu_ne (by omega), zu_ne (by omega), zu_same]
  · rw [zu_ne (by omega), zu_same]
theorem yrp_rg {t : zS} {nd nr ns a b : Nat} {c B : Int} (h : yWF t nd nr ns c B) (ha : a < 10) (hb : b < 10) (hl : t 47 0 (10 * a + b) < 100000) : 0 ≤ yrp t nd nr a b ∧ yrp t nd nr a b ≤ 3000000 := by
  have h1 := yWF_w h a b ha hb
  have h2 := yht_rg (σ := t) (nd := nd) (nr := nr) (z := (a : Int) / 3) h.1.2.2.2.1
  have h3 := yprice_rg (w := t 47 0 (10 * a + b)) (H := yht t nd nr ((a : Int) / 3)) ⟨h1.1, h1.2.2.1 hl⟩ h2
  unfold yrp
  omega
theorem yWF_rq {t : zS} {nd nr ns a b : Nat} {c B m x : Int} (h : yWF t nd nr ns c B) (hn : nr < 60) (ha : a < 10) (hb : b < 10) (hm : 1 ≤ m ∧ m ≤ 60) (hl : t 47 0 (10 * a + b) < 100000) : yWF (yrq t nd nr a b m x) nd (nr + 1) ns c B := by
  have hpr := yrp_rg (yWF_z (x := 0) h) ha hb (by rw [zu_ne (by omega)]; exact hl)
  obtain ⟨g, hds, hqs, hns⟩ := id h
  obtain ⟨⟨b1, b2, b3⟩, ⟨b4, b5, b6⟩, b7, b8, b9, b10, b11⟩ := id g
  obtain ⟨e23, e69, e65, e66, e67, e68, e70, e71, e72⟩ := yrq_at (t := t) (nd := nd) (nr := nr) (a := a) (b := b) (m := m) (x := x)
  have F : ∀ κ k, ¬ (κ = 30 ∧ (k = 0 ∨ k = 23)) ∧ ¬ ((κ = 69 ∨ κ = 65 ∨ κ = 66 ∨ κ = 67 ∨ κ = 68 ∨ κ = 70 ∨ κ = 71 ∨ κ = 72) ∧ k = nr) → yrq t nd nr a b m x κ 0 k = t κ 0 k := fun κ k hk => yrq_fr hk
  have f44 : yrq t nd nr a b m x 44 0 = t 44 0 := funext fun k => F 44 k (by omega)
  have f45 : yrq t nd nr a b m x 45 0 = t 45 0 := funext fun k => F 45 k (by omega)
  have f46 : yrq t nd nr a b m x 46 0 = t 46 0 := funext fun k => F 46 k (by omega)
  have h64n : yrq t nd nr a b m x 64 0 nr = 0 := by rw [F 64 _ (by omega)]; exact (hns.2 nr (Nat.le_refl _) hn).1
  have hN : yDN (yrq t nd nr a b m x) (nr + 1) = yDN t nr := by
    show yDN (yrq t nd nr a b m x) nr + (if yrq t nd nr a b m x 64 0 nr = 3 then 1 else 0) = _
    rw [h64n, if_neg (by decide), Nat.add_zero]
    exact yDN_same (fun p hp => by rw [F 64 p (by omega)])
  refine ⟨⟨⟨b1, by omega, b3⟩, ⟨by rw [F 30 8 (by omega)]; exact b4, by rw [e23]; omega, by rw [F 30 3 (by omega)]; exact b6⟩, by rw [F 30 1 (by omega)]; exact b7, by rw [F 30 2 (by omega)]; exact b8, by rw [F 30 17 (by omega)]; exact b9, by rw [f44, f45, f46]; exact b10, fun x y hx hy => by rw [f44, f45, f46, F 47 _ (by omega)]; exact b11 x y hx hy⟩, fun d hd => ?_, fun q hq => ?_, ⟨fun d h1 h2 => ?_, fun q h1 h2 => ?_⟩⟩
  · obtain ⟨⟨a1, a2⟩, a3, a4, a5, a6, a7, a8, a9, a10, a11⟩ := hds d hd
    refine ⟨⟨by rw [F 49 _ (by omega)]; exact a1, by rw [F 52 _ (by omega)]; exact a2⟩, fun j hj => ?_, fun j hj => ?_, fun hj => ?_, by rw [F 55 _ (by omega)]; exact a6, ⟨by rw [F 58 _ (by omega)]; exact a7.1, fun j hj => by rw [F 59 _ (by omega)]; exact a7.2 j hj⟩, by rw [F 60 _ (by omega), F 30 1 (by omega)]; exact a8, by rw [F 61 _ (by omega), hN]; exact a9, by rw [F 61 _ (by omega), F 62 _ (by omega)]; exact a10, ?_⟩
    · rw [F 52 _ (by omega)] at hj
      rw [F 53 _ (by omega)]; exact a3 j hj
    · rw [F 52 _ (by omega)] at hj
      rw [F 53 _ (by omega), F 53 _ (by omega), F 47 _ (by omega)]; exact a4 j hj
    · rw [F 52 _ (by omega)] at hj
      unfold ywy
      rw [F 53 _ (by omega), F 49 _ (by omega), F 47 _ (by omega)]; exact a5 hj
    · rw [F 52 _ (by omega)]
      exact yRS_new a11 (fun j hj => F 54 _ (by omega)) (fun p hp => ⟨F 64 p (by omega), F 70 p (by omega)⟩) h64n
  · by_cases e : q = nr
    · subst e
      unfold yWq
      rw [h64n, e65, e66, e67, e69, e70, e71, e72, F 73 _ (by omega), F 47 _ (by omega), F 30 1 (by omega), (hns.2 q (Nat.le_refl _) hn).2.1]
      exact ⟨by omega, by omega, hl, by omega, hpr, by decide, fun _ => rfl, by omega, fun h => absurd rfl h, by decide, by decide, by decide⟩
    · exact yWq_ot (hqs q (by omega)) (Nat.le_refl _) (fun κ k hk => F κ k (by omega)) (by rw [F 30 1 (by omega)]; exact Int.le_refl _)
  · have h3 := hns.1 d h1 h2
    rw [F 50 d (by omega), F 51 d (by omega), F 52 d (by omega), F 55 d (by omega), F 58 d (by omega), F 60 d (by omega), F 61 d (by omega), F 62 d (by omega)]
    exact ⟨h3.1, fun j hj => by rw [F 59 _ (by omega)]; exact h3.2 j hj⟩
  · rw [F 64 q (by omega), F 73 q (by omega), F 74 q (by omega)]
    exact hns.2 q (by omega) h2
theorem yWF_dr {t : zS} {nd nr ns : Nat} {c B a : Int} (h : yWF t nd nr ns c B) (hc : 0 ≤ c) (hn : nd < 8) (ha : 0 ≤ a ∧ a ≤ 9) : yWF (ybf (zu (zu (zu t 30 0 0 0) 49 0 nd a) 30 0 8 ((nd : Int) + 1)) nd) (nd + 1) nr ns c (B + 1) := by
  refine yWF_bf ?_
  obtain ⟨g, hds, hqs, hns⟩ := id h
  obtain ⟨⟨b1, b2, b3⟩, ⟨b4, b5, b6⟩, b7, b8, b9, b10, b11⟩ := id g
  obtain ⟨v, hv⟩ : ∃ v, v = zu (zu (zu t 30 0 0 0) 49 0 nd a) 30 0 8 ((nd : Int) + 1) := ⟨_, rfl⟩
  rw [← hv]
  have F : ∀ κ k, ¬ (κ = 30 ∧ (k = 0 ∨ k = 8)) ∧ ¬ (κ = 49 ∧ k = nd) → v κ 0 k = t κ 0 k := fun κ k hk => by
    rw [hv, zu_ne (by omega), zu_ne (by omega), zu_ne (by omega)]
  have f44 : v 44 0 = t 44 0 := funext fun k => F 44 k (by omega)
  have f45 : v 45 0 = t 45 0 := funext fun k => F 45 k (by omega)
  have f46 : v 46 0 = t 46 0 := funext fun k => F 46 k (by omega)
  have e49 : v 49 0 nd = a := by rw [hv, zu_ne (by omega), zu_same]
  have hN : yDN v nr = yDN t nr := yDN_same (fun p hp => by rw [F 64 p (by omega)])
  refine ⟨⟨⟨by omega, b2, b3⟩, ⟨by rw [hv, zu_same]; omega, by rw [F 30 23 (by omega)]; exact b5, by rw [F 30 3 (by omega)]; exact b6⟩, by rw [F 30 1 (by omega)]; exact b7, by rw [F 30 2 (by omega)]; exact b8, by rw [F 30 17 (by omega)]; exact b9, by rw [f44, f45, f46]; exact b10, fun x y hx hy => by rw [f44, f45, f46, F 47 _ (by omega)]; exact b11 x y hx hy⟩, fun d hd => ?_, fun q hq => yWq_ot (hqs q hq) (by omega) (fun κ k hk => F κ k (by omega)) (by rw [F 30 1 (by omega)]; exact Int.le_refl _), ⟨fun d h1 h2 => ?_, fun q h1 h2 => ?_⟩⟩
  · by_cases e : d = nd
    · subst e
      obtain ⟨⟨x50, x51, x52, x58, x60, x61, x62, x55⟩, x59⟩ := hns.1 d (Nat.le_refl _) hn
      have e52 : v 52 0 d = 0 := by rw [F 52 _ (by omega)]; exact x52
      refine ⟨⟨by rw [e49]; omega, by rw [e52]; decide⟩, fun j hj => by rw [e52] at hj; omega, fun j hj => by rw [e52] at hj; omega, fun hj => by rw [e52] at hj; omega, by rw [F 55 _ (by omega)]; exact x55, ⟨by rw [F 58 _ (by omega), x58]; omega, fun j hj => by rw [F 59 _ (by omega), x59 j hj]; decide⟩, by rw [F 60 _ (by omega), x60, F 30 1 (by omega)]; omega, by rw [F 61 _ (by omega), x61]; omega, by rw [F 61 _ (by omega), F 62 _ (by omega), x61, x62]; decide, ?_⟩
      rw [e52]
      refine ⟨fun j hj => absurd hj (Nat.not_lt_zero j), fun i j hi => absurd hi (Nat.not_lt_zero i), fun q hq h1 h2 => ?_⟩
      rw [F 70 q (by omega)] at h2
      have := (hqs q hq).2.2.2.2.2.2.2.1
      omega
    · exact yWd_ot (hds d (by omega)) (Int.le_refl _) (fun κ k hk => F κ k (by omega)) (by rw [F 30 1 (by omega)]; exact Int.le_refl _) (Nat.le_of_eq hN.symm) (fun p _ => by rw [F 64 p (by omega), F 70 p (by omega)]; exact ⟨fun h => ⟨rfl, h⟩, fun h _ => h⟩)
  · have h3 := hns.1 d (by omega) h2
    rw [F 50 d (by omega), F 51 d (by omega), F 52 d (by omega), F 55 d (by omega), F 58 d (by omega), F 60 d (by omega), F 61 d (by omega), F 62 d (by omega)]
    exact ⟨h3.1, fun j hj => by rw [F 59 _ (by omega)]; exact h3.2 j hj⟩
  · rw [F 64 q (by omega), F 73 q (by omega), F 74 q (by omega)]
    exact hns.2 q h1 h2
