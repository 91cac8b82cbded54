/-! the calls, in both: ratings, shares, streets, new ones -/
theorem zsum_cg {f g : Nat → Int} : ∀ n : Nat, (∀ j, j < n → f j = g j) → zsum f n = zsum g n
  | 0, _ => rfl
  | n + 1, h => by
    show zsum f n + f n = zsum g n + g n
    rw [zsum_cg n (fun j hj => h j (by omega)), h n (by omega)]
/-- a rating is told: the class's words of it -/
def yrs (σ u : zS) (d q sc : Nat) (x : Int) : Prop := (∀ j, u 19 d j = if j = sc % 10 then x else zu σ 23 q 11 1 19 d j) ∧ u 17 d 3 = (sc : Int) + 1 ∧ u 17 d 4 = zsum (u 19 d) (min (sc + 1) 10) * 100 / ((min (sc + 1) 10 : Nat) : Int) ∧ u 17 d 5 = zb (4 ≤ sc ∧ u 17 d 4 < 350) ∧ zfr (fun κ i k => i = d ∧ (κ = 19 ∨ (κ = 17 ∧ (k = 3 ∨ k = 4 ∨ k = 5)))) (zu σ 23 q 11 1) u
theorem CP_ra {σ t u : zS} {nd nr ns q D K sc : Nat} {c B x w : Int} (h : CP σ t nd nr ns) (hw : yWF t nd nr ns c B) (hq : q < nr) (hD : D < nd) (hsc : t 58 0 D = (sc : Int)) (hK : K = sc % 10) (hx : 0 ≤ x ∧ x ≤ 5) (hu : yrs σ u D q sc x) (hW : w = zb (yfr σ D)) (h51 : t 51 0 D = 0 ∨ t 51 0 D = 1) : CP (yqf u D w) (yra t q D K x) nd nr ns ∧ u 17 D 4 = yrt (yra t q D K x) D := by
  obtain ⟨u19, u3, u4, u5, uf⟩ := hu
  obtain ⟨g, hds, hqs⟩ := id h
  obtain ⟨⟨⟨a1, a2, a3, a4, a5, a6, a7, a8, a9⟩, a10, a11, a12⟩, a13⟩ := hds D hD
  have h8 := hw.1.1.1
  have F : ∀ κ k, ¬ (κ = 30 ∧ k = 0) ∧ ¬ (κ = 74 ∧ k = q) ∧ ¬ (κ = 59 ∧ k = 10 * D + K) ∧ ¬ (κ = 58 ∧ k = D) → yrv t q D K x κ 0 k = t κ 0 k := fun κ k hk => by
    unfold yrv
    rw [zu_ne (by omega), zu_ne (by omega), zu_ne (by omega), zu_ne (by omega)]
  have e58 : yrv t q D K x 58 0 D = (sc : Int) + 1 := by unfold yrv; rw [zu_same, hsc]
  have e59 : ∀ j, j < 10 → yrv t q D K x 59 0 (10 * D + j) = u 19 D j := fun j hj => by
    rw [u19, zu_ne (by omega)]
    unfold yrv
    by_cases e : j = sc % 10
    · rw [if_pos e, zu_ne (by omega), hK, e, zu_same]
    · rw [if_neg e, zu_ne (by omega), zu_ne (by omega), zu_ne (by omega), zu_ne (by omega)]
      exact (a11 j hj).symm
  have e74 : yrv t q D K x 74 0 q = 1 := by unfold yrv; rw [zu_ne (by omega), zu_ne (by omega), zu_same]
  have ert : u 17 D 4 = yrt (yrv t q D K x) D := by
    rw [u4]
    unfold yrt
    rw [e58, if_neg (by omega), zsum_cg (f := fun j => yrv t q D K x 59 0 (10 * D + j)) (g := u 19 D) _ (fun j hj => e59 j (by omega)), show (min ((sc : Int) + 1) 10).toNat = min (sc + 1) 10 by omega, Int.mul_comm 100]
    congr 1
    omega
  have W : ∀ κ k, ¬ (κ = 51 ∧ k = D) → yrw t q D K x κ 0 k = yrv t q D K x κ 0 k := fun κ k hk => zu_ne (by omega)
  have w51 : yrw t q D K x 51 0 D = u 17 D 5 := by
    unfold yrw
    rw [zu_same, u5, ert, hsc]
    refine zb_congr ?_
    omega
  have ert2 : yrt (yrw t q D K x) D = yrt (yrv t q D K x) D := yrt_f2 (W 58 _ (by omega)) (fun k _ _ => W 59 k (by omega))
  have U : ∀ κ i k, ¬ (i = D ∧ (κ = 19 ∨ (κ = 17 ∧ (k = 3 ∨ k = 4 ∨ k = 5)))) → ¬ (κ = 23 ∧ i = q ∧ k = 11) → u κ i k = σ κ i k := fun κ i k k0 k1 => (uf κ i k k0).trans (zu_ne (by omega))
  have hcp : CP u (yrw t q D K x) nd nr ns := by
    refine ⟨CPg_ot g (fun κ i k hk => U κ i k (by omega) (by omega)) (fun κ k hk => by rw [W κ k (by omega), F κ k (by omega)]) (by rw [U 0 0 8 (by omega) (by omega), W 30 1 (by omega), F 30 1 (by omega)]; exact g.2.1.2.1) (by rw [U 0 0 9 (by omega) (by omega), W 30 17 (by omega), F 30 17 (by omega)]; exact g.2.1.2.2), fun d' h2 => ?_, fun p h2 => ?_⟩
    · by_cases e : d' = D
      · subst e
        unfold CPd CPd0
        rw [ert2, w51, u3, ert, U 17 d' 6 (by omega) (by omega), U 17 d' 7 (by omega) (by omega), U 17 d' 8 (by omega) (by omega), U 17 d' 9 (by omega) (by omega), U 17 d' 10 (by omega) (by omega), U 17 d' 11 (by omega) (by omega), U 17 d' 12 (by omega) (by omega), U 18 d' 3 (by omega) (by omega), W 58 _ (by omega), e58, W 49 _ (by omega), F 49 _ (by omega), W 50 _ (by omega), F 50 _ (by omega), W 56 _ (by omega), F 56 _ (by omega), W 55 _ (by omega), F 55 _ (by omega), W 60 _ (by omega), F 60 _ (by omega), W 61 _ (by omega), F 61 _ (by omega), W 62 _ (by omega), F 62 _ (by omega), W 52 _ (by omega), F 52 _ (by omega)]
        refine ⟨⟨⟨rfl, rfl, rfl, a4, a5, a6, a7, a8, a9⟩, a10, fun j hj => by rw [W 59 _ (by omega), e59 j hj], fun j hj => ?_⟩, a13⟩
        have := (hw.2.1 d' hD).1.2.2
        rw [U 20 _ _ (by omega) (by omega), U 21 _ _ (by omega) (by omega), U 22 _ _ (by omega) (by omega), W 53 _ (by omega), F 53 _ (by omega), W 54 _ (by omega), F 54 _ (by omega)]
        exact a12 j hj
      · exact CPd_ot (hds d' h2) (hw.2.1 d' h2).1.2.2 (fun κ i k hk => by unfold yDs at hk; exact U κ i k (by omega) (by omega)) (fun κ k hk => by unfold yDt at hk; rw [W κ k (by omega), F κ k (by omega)])
    · by_cases e : p = q
      · subst e
        obtain ⟨b1, b2, b3, b4, b5, b6, b7, b8, b9, b10, b11⟩ := hqs p h2
        have x11 : u 23 p 11 = 1 := (uf 23 p 11 (by omega)).trans zu_same
        unfold CPq
        rw [x11, W 74 _ (by omega), e74, U 23 p 1 (by omega) (by omega), U 23 p 2 (by omega) (by omega), U 23 p 3 (by omega) (by omega), U 23 p 4 (by omega) (by omega), U 23 p 5 (by omega) (by omega), U 23 p 6 (by omega) (by omega), U 23 p 7 (by omega) (by omega), U 23 p 8 (by omega) (by omega), U 23 p 9 (by omega) (by omega), U 23 p 10 (by omega) (by omega), W 64 _ (by omega), F 64 _ (by omega), W 65 _ (by omega), F 65 _ (by omega), W 66 _ (by omega), F 66 _ (by omega), W 67 _ (by omega), F 67 _ (by omega), W 68 _ (by omega), F 68 _ (by omega), W 69 _ (by omega), F 69 _ (by omega), W 70 _ (by omega), F 70 _ (by omega), W 71 _ (by omega), F 71 _ (by omega), W 72 _ (by omega), F 72 _ (by omega), W 73 _ (by omega), F 73 _ (by omega)]
        exact ⟨b1, b2, b3, b4, b5, b6, b7, b8, b9, b10, rfl⟩
      · exact CPq_ot (hqs p h2) (fun k _ => U 23 p k (by omega) (by omega)) (fun κ h3 h4 => by rw [W κ p (by omega), F κ p (by omega)])
  have hwr : yWF (yrw t q D K x) nd nr ns (c + 1) (B + 1) := by
    have h1 := yWF_ra (σ := t) (K := K) (t := x) hw hq hD (by omega) hx
    unfold yra at h1
    split at h1
    · rename_i hc
      -- ybf changes nothing that counts
      exact yWF_fr h1 (fun κ k hk => (ybf_f2 (by unfold yWk at hk; omega)).symm) (Int.le_refl _) (by
        have h9 := ybf_17 (yrw t q D K x) D
        have h10 := h1.1.2.2.2.2.1
        have h11 := hw.1.2.2.2.2.1
        have h12 : yrw t q D K x 30 0 17 = t 30 0 17 := by rw [W 30 17 (by omega), F 30 17 (by omega)]
        omega)
    · exact h1
  have hf := CP_free hcp hD
  have hf0 := CP_free h hD
  refine ⟨?_, ?_⟩
  · unfold yra
    by_cases c1 : t 51 0 D ≠ 0 ∧ yrw t q D K x 51 0 D = 0
    · rw [if_pos c1]
      have e : w = 0 := by
        rw [hW]
        exact zb_f (fun q => c1.1 (hf0.1 q).2.2)
      rw [e]
      exact CP_bf hcp hwr hD
    · rw [if_neg c1]
      have e : yqf u D w = u := yqf_1 (fun q9 => by
        obtain ⟨q1, q2⟩ := q9
        have q3 := hf.1 q2
        unfold ymf at q3
        rw [W 52 _ (by omega), F 52 _ (by omega), W 50 _ (by omega), F 50 _ (by omega)] at q3
        have q4 : yfr σ D := hf0.2 ⟨q3.1, q3.2.1, by
          rcases h51 with h51 | h51
          · exact h51
          · exact absurd ⟨by omega, q3.2.2⟩ c1⟩
        rw [hW, zb_t q4] at q1
        omega)
      rw [e]
      exact hcp
  · rw [ert, ← ert2]
    unfold yra
    split
    · exact (yrt_f2 (ybf_f2 (by omega)) (fun k _ _ => ybf_f2 (by omega))).symm
    · rfl
theorem zins_Q {P : Nat → Int} {a b : Int} {f s j : Nat} (h : f < s) : zins s b (zins f a P) j = yQ P a b f s j := by
  unfold zins yQ yold
  by_cases c1 : j < s
  · rw [if_pos c1]
    by_cases c2 : j < f
    · rw [if_pos c2, if_neg (by omega), if_neg (by omega), if_neg (by omega), if_neg (by omega)]
      rfl
    · rw [if_neg c2]
      by_cases c3 : j = f
      · rw [if_pos c3, if_pos c3]
      · rw [if_neg c3, if_neg c3, if_neg (by omega), if_pos (by omega), if_neg (by omega)]
        rfl
  · rw [if_neg c1]
    by_cases c2 : j = s
    · rw [if_pos c2, if_neg (by omega), if_pos c2]
    · rw [if_neg c2, if_neg (by omega), if_neg (by omega), if_neg (by omega), if_neg c2, if_pos (by omega), if_pos (by omega)]
theorem yT_cl {w w' : Nat → Nat → Int} {t0 : Int} {P : Nat → Int} : ∀ n, (∀ j, j < n → w (P j).toNat (P (j + 1)).toNat = w' (P j).toNat (P (j + 1)).toNat) → yT w t0 P n = yT w' t0 P n
  | 0, _ => rfl
  | n + 1, h => by
    show yT w t0 P n + w (P n).toNat (P (n + 1)).toNat = yT w' t0 P n + w' (P n).toNat (P (n + 1)).toNat
    rw [yT_cl n (fun j hj => h j (by omega)), h n (by omega)]
/-- the times of a row with both stops put in are the same in both -/
theorem CP_yT {σ t : zS} {nd nr ns q d n f s : Nat} {c B : Int} (h : CP σ t nd nr ns) (hw : yWF t nd nr ns c B) (hq : q < nr) (hd : d < nd) (hn : t 52 0 d = (n : Int)) (hn1 : 1 ≤ n) (hfs : f < s) (hf : f ≤ n) (hs : s ≤ n + 1) {m : Nat} (hm : m ≤ n + 1) (hway : ∀ j, j < m → yfn t (yQ (yPd t d) (t 65 0 q) (t 66 0 q) f s j) (yQ (yPd t d) (t 65 0 q) (t 66 0 q) f s (j + 1))) : yT (σ 6) (σ 17 d 9) (yQ (σ 20 d) (σ 23 q 1) (σ 23 q 2) f s) m = yl1 t q d f s m := by
  obtain ⟨g, hds, hqs⟩ := id h
  obtain ⟨⟨⟨a1, a2, a3, a4, a5, a6, a7, a8, a9⟩, a10, a11, a12⟩, a13⟩ := hds d hd
  obtain ⟨b1, b2, b3⟩ := hqs q hq
  obtain ⟨c1, c2, c3⟩ := hw.2.2.1 q hq
  have hP : ∀ j, j < n → 0 ≤ yPd t d j ∧ yPd t d j < 10 := fun j hj => (hw.2.1 d hd).2.1 j (by omega)
  have hQ : ∀ j, j < n + 2 → 0 ≤ yQ (yPd t d) (t 65 0 q) (t 66 0 q) f s j ∧ yQ (yPd t d) (t 65 0 q) (t 66 0 q) f s j < 10 := fun j hj => yQ_rg hfs hf hs hj hP c1 c2
  have e9 := a13 (by omega)
  have eQ : ∀ j, j < n + 2 → yQ (σ 20 d) (σ 23 q 1) (σ 23 q 2) f s j = yQ (yPd t d) (t 65 0 q) (t 66 0 q) f s j := fun j hj => by
    unfold yQ
    rw [b1, b2]
    by_cases e1 : j = f
    · rw [if_pos e1, if_pos e1]
    · rw [if_neg e1, if_neg e1]
      by_cases e2 : j = s
      · rw [if_pos e2, if_pos e2]
      · rw [if_neg e2, if_neg e2]
        exact (a12 _ (by have := yold_lt hfs hf hs hj e1 e2; omega)).1
  rw [yT_cg e9 (fun _ _ => rfl) m (fun j hj => eQ j (by omega))]
  unfold yl1
  refine yT_cl m (fun j hj => ?_)
  have h1 := hQ j (by omega)
  have h2 := hQ (j + 1) (by omega)
  exact CP_way g (by omega) (by omega) (hway j hj)
theorem CP_mp {σ t u v : zS} {nd nr ns q d n f s : Nat} {c B : Int} (h : CP σ t nd nr ns) (hw : yWF t nd nr ns c B) (hq : q < nr) (h0 : t 64 0 q = 0) (hz : yzf t nd q d n f s) (hu : ypu σ u d n f s q) (hv : ymp t v d n f s q) : CP u v nd nr ns := by
  have hway := yzf_way hw hq hz
  obtain ⟨z1, z2, z3, z4, z5, z6⟩ := id hz
  have h6 := ycS_6 hw z1 z2 z3
  have hnr := hw.1.1.2.1
  obtain ⟨u18, urow, ⟨u6, u7, u8, u9⟩, uf⟩ := hu
  obtain ⟨v52, vrow, ⟨v64, v70, v73, v71⟩, vf⟩ := hv
  obtain ⟨g, hds, hqs⟩ := id h
  obtain ⟨⟨⟨a1, a2, a3, a4, a5, a6, a7, a8, a9⟩, a10, a11, a12⟩, a13⟩ := hds d z1
  obtain ⟨b1, b2, b3, b4, b5, b6, b7, b8, b9, b10, b11⟩ := hqs q hq
  obtain ⟨k1, k2, k3, k4⟩ := hw.2.2.1 q hq
  have eT := CP_yT h hw hq z1 z2 h6.1 z5.1 z4.2 z5.2 (m := f) (by omega) (fun j hj => hway j (j + 1) (by omega) (by omega))
  have e2 : σ 6 (σ 23 q 1).toNat (σ 23 q 2).toNat = t 47 0 (10 * (t 65 0 q).toNat + (t 66 0 q).toNat) := by
    rw [b1, b2]; exact CP_way g (by omega) (by omega) k3
  have U : ∀ κ i k, ¬ ((κ = 14 ∧ i = 0 ∧ 2 ≤ k ∧ k ≤ 8) ∨ (24 ≤ κ ∧ κ ≤ 27) ∨ (i = d ∧ (κ = 20 ∨ κ = 21 ∨ κ = 22 ∨ (κ = 18 ∧ k = 3))) ∨ (κ = 23 ∧ i = q ∧ (k = 6 ∨ k = 7 ∨ k = 8 ∨ k = 9))) → u κ i k = σ κ i k := fun κ i k hk => uf κ i k hk
  have T : ∀ κ k, ¬ (κ = 79 ∨ κ = 80 ∨ κ = 81 ∨ ((κ = 53 ∨ κ = 54) ∧ 8 * d ≤ k ∧ k < 8 * d + n + 2) ∨ (κ = 52 ∧ k = d) ∨ ((κ = 64 ∨ κ = 70 ∨ κ = 71 ∨ κ = 73) ∧ k = q)) → v κ 0 k = t κ 0 k := fun κ k hk => vf κ 0 k hk
  refine ⟨CPg_ot g (fun κ i k hk => U κ i k (by omega)) (fun κ k hk => T κ k (by omega)) (by rw [U 0 0 8 (by omega), T 30 1 (by omega)]; exact g.2.1.2.1) (by rw [U 0 0 9 (by omega), T 30 17 (by omega)]; exact g.2.1.2.2), fun d' h2 => ?_, fun p h2 => ?_⟩
  · by_cases e : d' = d
    · subst e
      have er : yrt v d' = yrt t d' := yrt_f2 (T 58 _ (by omega)) (fun k _ _ => T 59 _ (by omega))
      unfold CPd CPd0
      rw [er, v52, u18, U 17 d' 3 (by omega), U 17 d' 4 (by omega), U 17 d' 5 (by omega), U 17 d' 6 (by omega), U 17 d' 7 (by omega), U 17 d' 8 (by omega), U 17 d' 9 (by omega), U 17 d' 10 (by omega), U 17 d' 11 (by omega), U 17 d' 12 (by omega), T 58 _ (by omega), T 51 _ (by omega), T 49 _ (by omega), T 50 _ (by omega), T 55 _ (by omega), T 56 _ (by omega), T 60 _ (by omega), T 61 _ (by omega), T 62 _ (by omega)]
      refine ⟨⟨⟨a1, a2, a3, a4, a5, a6, a7, a8, a9⟩, rfl, fun j hj => by rw [U 19 _ _ (by omega), T 59 _ (by omega)]; exact a11 j hj, fun j hj => ?_⟩, fun _ => a13 (by omega)⟩
      obtain ⟨x1, x2, x3⟩ := urow j (by omega)
      obtain ⟨y1, y2⟩ := vrow j (by omega)
      rw [x1, x2, x3, y1, y2, zins_Q z5.1, zins_Q z5.1, zins_Q z5.1]
      unfold yQ
      rw [b1, b2]
      by_cases e1 : j = f
      · rw [if_pos e1, if_pos e1, if_pos e1, if_pos e1, if_pos e1]
        exact ⟨rfl, (if_pos (by omega)).symm, (if_pos (by omega)).symm⟩
      · rw [if_neg e1, if_neg e1, if_neg e1, if_neg e1, if_neg e1]
        by_cases e3 : j = s
        · rw [if_pos e3, if_pos e3, if_pos e3, if_pos e3, if_pos e3]
          refine ⟨rfl, ?_, (if_neg (by omega)).symm⟩
          unfold yw1
          rw [if_neg (by omega)]
          omega
        · rw [if_neg e3, if_neg e3, if_neg e3, if_neg e3, if_neg e3]
          exact a12 _ (by have := yold_lt z5.1 z4.2 z5.2 (show j < n + 2 by omega) e1 e3; omega)
    · exact CPd_ot (hds d' h2) (hw.2.1 d' h2).1.2.2 (fun κ i k hk => by unfold yDs at hk; exact U κ i k (by omega)) (fun κ k hk => by unfold yDt at hk; exact T κ k (by omega))
  · by_cases e : p = q
    · subst e
      unfold CPq
      rw [v64, v70, v73, v71, u6, u7, u8, u9, U 23 p 1 (by omega), U 23 p 2 (by omega), U 23 p 3 (by omega), U 23 p 4 (by omega), U 23 p 5 (by omega), U 23 p 10 (by omega), U 23 p 11 (by omega), T 65 _ (by omega), T 66 _ (by omega), T 67 _ (by omega), T 68 _ (by omega), T 69 _ (by omega), T 72 _ (by omega), T 74 _ (by omega)]
      refine ⟨b1, b2, b3, b4, b5, rfl, rfl, g.2.1.2.1, ?_, b10, b11⟩
      rw [eT, e2]
      rfl
    · exact CPq_ot (hqs p h2) (fun k _ => U 23 p k (by omega)) (fun κ h3 h4 => T κ p (by omega))
theorem yws_cg {F : Int} {o p t o' p' t' : Nat → Int} : ∀ s, (∀ k, k < s → o k = o' k ∧ p k = p' k ∧ t k = t' k) → yws F o p t s = yws F o' p' t' s
  | 0, _ => rfl
  | s + 1, h => by
    obtain ⟨e1, e2, e3⟩ := h s (by omega)
    show ywe _ _ _ _ = ywe _ _ _ _
    rw [yws_cg s (fun k hk => h k (by omega)), e1, e2, e3]
theorem ywf_cg {F : Int} {o p t o' p' t' : Nat → Int} {n : Nat} (h : ∀ k, k < n → o k = o' k ∧ p k = p' k ∧ t k = t' k) : ∀ m, ywf F o p t n m = ywf F o' p' t' n m
  | 0 => yws_cg n h
  | m + 1 => by
    show ywo _ _ = ywo _ _
    rw [ywf_cg h m]
/-- the streets change -/
theorem CP_str {σ t u v : zS} {nd nr ns ns' : Nat} {c B : Int} (h : CP σ t nd nr ns) (hw : yWF t nd nr ns c B) (hwv : yWF v nd nr ns' c B) (h4 : u 1 0 4 = (ns' : Int)) (he : ∀ k, k < ns' → u 2 0 k = v 44 0 k ∧ u 3 0 k = v 45 0 k ∧ u 4 0 k = v 46 0 k) (h6 : ∀ a b, a < 10 → b < 10 → u 6 a b = ywf 1000000 (u 2 0) (u 3 0) (u 4 0) ns' 10 a b) (uf : zfr (fun κ i k => κ = 6 ∨ (κ = 1 ∧ k = 4) ∨ κ = 2 ∨ κ = 3 ∨ κ = 4) σ u) (vf : ∀ κ k, ¬ (κ = 30 ∧ (k = 0 ∨ k = 3)) ∧ ¬ (44 ≤ κ ∧ κ ≤ 47) → v κ 0 k = t κ 0 k) : CP u v nd nr ns' := by
  obtain ⟨⟨⟨a1, a2, a3⟩, ⟨a4, a5, a6⟩, a7, a8, a9, a10⟩, hd, hq⟩ := h
  have U : ∀ κ i k, ¬ (κ = 6 ∨ (κ = 1 ∧ k = 4) ∨ κ = 2 ∨ κ = 3 ∨ κ = 4) → u κ i k = σ κ i k := fun κ i k hk => uf κ i k hk
  have hst := hwv.1.2.2.2.2.2.1
  refine ⟨⟨⟨by rw [U 0 0 5 (by omega)]; exact a1, by rw [U 0 0 6 (by omega)]; exact a2, h4⟩, ⟨by rw [U 0 0 7 (by omega), vf 30 2 (by omega)]; exact a4, by rw [U 0 0 8 (by omega), vf 30 1 (by omega)]; exact a5, by rw [U 0 0 9 (by omega), vf 30 17 (by omega)]; exact a6⟩, fun i hi => by rw [U 15 0 i (by omega)]; exact a7 i hi, fun i hi => by rw [U 16 0 i (by omega)]; exact a8 i hi, he, fun a b ha hb => ?_⟩, fun d h1 => CPd_ot (hd d h1) (hw.2.1 d h1).1.2.2 (fun κ i k hk => by unfold yDs at hk; exact U κ i k (by omega)) (fun κ k hk => by unfold yDt at hk; exact vf κ k (by omega)), fun q h1 => CPq_ot (hq q h1) (fun k _ => U 23 q k (by omega)) (fun κ h2 h3 => vf κ q (by omega))⟩
  rw [h6 a b ha hb, ywf_cg he, hwv.1.2.2.2.2.2.2 a b ha hb]
  rcases ywf_cm hst a b with ⟨x1, x2⟩ | ⟨x1, x2⟩
  · exact Or.inl ⟨by omega, x2⟩
  · exact Or.inr ⟨x1, x2⟩
/-- a request is told -/
theorem CP_rq {σ t u : zS} {nd nr ns a b : Nat} {c B m x : Int} (h : CP σ t nd nr ns) (hw : yWF t nd nr ns c B) (hn : nr < 60) (h6 : u 0 0 6 = (nr : Int) + 1) (h16 : u 16 0 nr = (nr : Int)) (hu : u 23 nr 1 = (a : Int) ∧ u 23 nr 2 = (b : Int) ∧ u 23 nr 3 = x ∧ u 23 nr 4 = t 30 0 1 + m ∧ u 23 nr 5 = yrp t nd nr a b ∧ u 23 nr 6 = 0 ∧ u 23 nr 7 = -1 ∧ u 23 nr 8 = 0 ∧ u 23 nr 9 = -1 ∧ u 23 nr 10 = -1 ∧ u 23 nr 11 = 0) (uf : ∀ κ i k, ¬ (κ = 23 ∧ i = nr) ∧ ¬ (κ = 16 ∧ i = 0 ∧ k = nr) ∧ ¬ (κ = 0 ∧ i = 0 ∧ k = 6) → u κ i k = σ κ i k) (hp : yrp (zu t 30 0 0 0) nd nr a b = yrp t nd nr a b) : CP u (yrq t nd nr a b m x) nd (nr + 1) ns := by
  obtain ⟨⟨⟨a1, a2, a3⟩, ⟨a4, a5, a6⟩, a7, a8, a9, a10⟩, hd, hq⟩ := h
  obtain ⟨e23, e69, e65, e66, e67, e68, e70, e71, e72⟩ := yrq_at (t := t) (nd := nd) (nr := nr) (a := a) (b := b) (m := m) (x := x)
  have F : ∀ κ k, ¬ (κ = 30 ∧ (k = 0 ∨ k = 23)) ∧ ¬ ((κ = 69 ∨ κ = 65 ∨ κ = 66 ∨ κ = 67 ∨ κ = 68 ∨ κ = 70 ∨ κ = 71 ∨ κ = 72) ∧ k = nr) → yrq t nd nr a b m x κ 0 k = t κ 0 k := fun κ k hk => yrq_fr hk
  refine ⟨⟨⟨by rw [uf 0 0 5 (by omega)]; exact a1, by rw [h6]; omega, by rw [uf 1 0 4 (by omega)]; exact a3⟩, ⟨by rw [uf 0 0 7 (by omega), F 30 2 (by omega)]; exact a4, by rw [uf 0 0 8 (by omega), F 30 1 (by omega)]; exact a5, by rw [uf 0 0 9 (by omega), F 30 17 (by omega)]; exact a6⟩, fun i hi => by rw [uf 15 0 i (by omega)]; exact a7 i hi, fun i hi => ?_, fun k hk => ?_, fun y z hy hz => ?_⟩, fun d h1 => CPd_ot (hd d h1) (hw.2.1 d h1).1.2.2 (fun κ i k hk => by unfold yDs at hk; exact uf κ i k (by omega)) (fun κ k hk => by unfold yDt at hk; exact F κ k (by omega)), fun q h1 => ?_⟩
  · by_cases e : i = nr
    · subst e; exact h16
    · rw [uf 16 0 i (by omega)]; exact a8 i (by omega)
  · rw [uf 2 0 k (by omega), uf 3 0 k (by omega), uf 4 0 k (by omega), F 44 k (by omega), F 45 k (by omega), F 46 k (by omega)]
    exact a9 k hk
  · rw [uf 6 y z (by omega), F 47 _ (by omega)]
    exact a10 y z hy hz
  · by_cases e : q = nr
    · subst e
      obtain ⟨u1, u2, u3, u4, u5, u6, u7, u8, u9, u10, u11⟩ := hu
      have hns := hw.2.2.2.2 q (Nat.le_refl _) hn
      unfold CPq
      rw [u1, u2, u3, u4, u5, u6, u7, u8, u9, u10, u11, e65, e66, e67, e68, e69, e70, e71, e72, F 64 _ (by omega), F 73 _ (by omega), F 74 _ (by omega), hns.1, hns.2.1, hns.2.2, hp]
      exact ⟨rfl, rfl, rfl, rfl, rfl, rfl, rfl, rfl, rfl, rfl, rfl⟩
    · exact CPq_ot (hq q (by omega)) (fun k _ => uf 23 q k (by omega)) (fun κ h2 h3 => F κ q (by omega))
/-- a driver is told -/
theorem CP_dr {σ t u : zS} {nd nr ns : Nat} {c B a : Int} (h : CP σ t nd nr ns) (hw : yWF t nd nr ns c B) (hc : 0 ≤ c) (hn : nd < 8) (ha : 0 ≤ a ∧ a ≤ 9) (h5 : u 0 0 5 = (nd : Int) + 1) (h15 : u 15 0 nd = (nd : Int)) (hu : u 17 nd 3 = 0 ∧ u 17 nd 4 = 500 ∧ u 17 nd 5 = 0 ∧ u 17 nd 6 = a ∧ u 17 nd 7 = 0 ∧ u 17 nd 10 = 0 ∧ u 17 nd 11 = 0 ∧ u 17 nd 12 = 0 ∧ u 18 nd 3 = 0 ∧ ∀ j, j < 10 → u 19 nd j = 0) (uf : ∀ κ i k, ¬ (17 ≤ κ ∧ κ ≤ 22 ∧ i = nd) ∧ ¬ (κ = 15 ∧ i = 0 ∧ k = nd) ∧ ¬ (κ = 0 ∧ i = 0 ∧ k = 5) → u κ i k = σ κ i k) : CP (yqf u nd 0) (ybf (zu (zu (zu t 30 0 0 0) 49 0 nd a) 30 0 8 ((nd : Int) + 1)) nd) (nd + 1) nr ns := by
  obtain ⟨⟨⟨a1, a2, a3⟩, ⟨a4, a5, a6⟩, a7, a8, a9, a10⟩, hd, hq⟩ := id h
  obtain ⟨⟨x50, x51, x52, x58, x60, x61, x62, x55⟩, x59⟩ := hw.2.2.2.1 nd (Nat.le_refl _) hn
  obtain ⟨u3, u4, u5, u6, u7, u10, u11, u12, u18, u19⟩ := hu
  obtain ⟨v, hv⟩ : ∃ v, v = zu (zu (zu t 30 0 0 0) 49 0 nd a) 30 0 8 ((nd : Int) + 1) := ⟨_, rfl⟩
  rw [← hv]
  have F : ∀ κ k, ¬ (κ = 30 ∧ (k = 0 ∨ k = 8)) ∧ ¬ (κ = 49 ∧ k = nd) → v κ 0 k = t κ 0 k := fun κ k hk => by
    rw [hv, zu_ne (by omega), zu_ne (by omega), zu_ne (by omega)]
  have e49 : v 49 0 nd = a := by rw [hv, zu_ne (by omega), zu_same]
  have hmf : ymf v nd := ⟨by rw [F 52 _ (by omega)]; exact x52, by rw [F 50 _ (by omega)]; exact x50, by rw [F 51 _ (by omega)]; exact x51⟩
  have hfr : yfr u nd := ⟨u18, u7, u5⟩
  have eq1 : yqf u nd 0 = zu (zu u 17 nd 8 (u 0 0 9)) 0 0 9 (u 0 0 9 + 1) := if_pos ⟨rfl, hfr⟩
  have eq2 : ybf v nd = zu (zu v 30 0 17 (v 30 0 17 + 1)) 56 0 nd (v 30 0 17 + 1) := if_pos hmf
  have o9 : u 0 0 9 = t 30 0 17 := by rw [uf 0 0 9 (by omega)]; exact a6
  rw [eq1, eq2]
  have P : ∀ κ i k, ¬ (17 ≤ κ ∧ κ ≤ 22 ∧ i = nd) ∧ ¬ (κ = 15 ∧ i = 0 ∧ k = nd) ∧ ¬ (κ = 0 ∧ i = 0 ∧ (k = 5 ∨ k = 9)) → zu (zu u 17 nd 8 (u 0 0 9)) 0 0 9 (u 0 0 9 + 1) κ i k = σ κ i k := fun κ i k hk => by
    rw [zu_ne (by omega), zu_ne (by omega)]
    exact uf κ i k (by omega)
  have Q : ∀ κ k, ¬ (κ = 30 ∧ (k = 0 ∨ k = 8 ∨ k = 17)) ∧ ¬ ((κ = 49 ∨ κ = 56) ∧ k = nd) → zu (zu v 30 0 17 (v 30 0 17 + 1)) 56 0 nd (v 30 0 17 + 1) κ 0 k = t κ 0 k := fun κ k hk => by
    rw [zu_ne (by omega), zu_ne (by omega)]
    exact F κ k (by omega)
  have N : ∀ κ k, ¬ (κ = 17 ∧ k = 8) ∧ κ ≠ 0 → zu (zu u 17 nd 8 (u 0 0 9)) 0 0 9 (u 0 0 9 + 1) κ nd k = u κ nd k := fun κ k hk => by
    rw [zu_ne (by omega), zu_ne (by omega)]
  refine ⟨⟨⟨by rw [zu_ne (by omega), zu_ne (by omega), h5]; omega, by rw [P 0 0 6 (by omega)]; exact a2, by rw [P 1 0 4 (by omega)]; exact a3⟩, ⟨by rw [P 0 0 7 (by omega), Q 30 2 (by omega)]; exact a4, by rw [P 0 0 8 (by omega), Q 30 1 (by omega)]; exact a5, by rw [zu_same, zu_ne (by omega), zu_same, o9, F 30 17 (by omega)]⟩, fun i hi => ?_, fun i hi => by rw [P 16 0 i (by omega)]; exact a8 i hi, fun k hk => ?_, fun y z hy hz => ?_⟩, fun d h1 => ?_, fun q h1 => CPq_ot (hq q h1) (fun k _ => P 23 q k (by omega)) (fun κ h2 h3 => Q κ q (by omega))⟩
  · by_cases e : i = nd
    · subst e
      rw [zu_ne (by omega), zu_ne (by omega)]; exact h15
    · rw [P 15 0 i (by omega)]; exact a7 i (by omega)
  · rw [P 2 0 k (by omega), P 3 0 k (by omega), P 4 0 k (by omega), Q 44 k (by omega), Q 45 k (by omega), Q 46 k (by omega)]
    exact a9 k hk
  · rw [P 6 y z (by omega), Q 47 _ (by omega)]
    exact a10 y z hy hz
  · by_cases e : d = nd
    · subst e
      have e52 : zu (zu v 30 0 17 (v 30 0 17 + 1)) 56 0 d (v 30 0 17 + 1) 52 0 d = 0 := by rw [Q 52 _ (by omega)]; exact x52
      have e58 : zu (zu v 30 0 17 (v 30 0 17 + 1)) 56 0 d (v 30 0 17 + 1) 58 0 d = 0 := by rw [Q 58 _ (by omega)]; exact x58
      have er : yrt (zu (zu v 30 0 17 (v 30 0 17 + 1)) 56 0 d (v 30 0 17 + 1)) d = 500 := by
        unfold yrt
        rw [e58]
        exact if_pos rfl
      have f49 : zu (zu v 30 0 17 (v 30 0 17 + 1)) 56 0 d (v 30 0 17 + 1) 49 0 d = a := by rw [zu_ne (by omega), zu_ne (by omega)]; exact e49
      have f56 : zu (zu u 17 d 8 (u 0 0 9)) 0 0 9 (u 0 0 9 + 1) 17 d 8 = zu (zu v 30 0 17 (v 30 0 17 + 1)) 56 0 d (v 30 0 17 + 1) 56 0 d - 1 := by
        rw [zu_ne (by omega), zu_same, zu_same, o9, F 30 17 (by omega)]; omega
      unfold CPd CPd0
      rw [er, e52, e58, f49, f56, N 17 3 (by omega), N 17 4 (by omega), N 17 5 (by omega), N 17 6 (by omega), N 17 7 (by omega), N 17 10 (by omega), N 17 11 (by omega), N 17 12 (by omega), N 18 3 (by omega), u3, u4, u5, u6, u7, u10, u11, u12, u18, Q 51 _ (by omega), Q 50 _ (by omega), Q 60 _ (by omega), Q 61 _ (by omega), Q 62 _ (by omega), x50, x51, x60, x61, x62]
      exact ⟨⟨⟨rfl, rfl, rfl, rfl, rfl, rfl, rfl, rfl, rfl⟩, rfl, fun j hj => by rw [N 19 _ (by omega), Q 59 _ (by omega), u19 j hj, x59 j hj], fun j hj => by omega⟩, fun hp => by omega⟩
    · exact CPd_ot (hd d (by omega)) (hw.2.1 d (by omega)).1.2.2 (fun κ i k hk => by unfold yDs at hk; exact P κ i k (by omega)) (fun κ k hk => by unfold yDt at hk; exact Q κ k (by omega))
