/-! P24: prices and earnings are small -/
def pE (t : zS) (nd nr : Nat) : Prop := (∀ q, q < nr → (0 ≤ t 69 0 q ∧ t 69 0 q ≤ 22500) ∧ t 65 0 q ≠ t 66 0 q) ∧ ∀ d, d < nd → t 62 0 d ≤ 22500 * t 61 0 d
theorem pE_fr {t u : zS} {nd nr : Nat} (h : pE t nd nr) (e : ∀ κ k, κ = 69 ∨ κ = 61 ∨ κ = 62 ∨ κ = 65 ∨ κ = 66 → u κ 0 k = t κ 0 k) : pE u nd nr :=
  ⟨fun q hq => by rw [e 69 q (by omega), e 65 q (by omega), e 66 q (by omega)]; exact h.1 q hq, fun d hd => by rw [e 62 d (by omega), e 61 d (by omega)]; exact h.2 d hd⟩
theorem pE_bf {t : zS} {nd nr d : Nat} (h : pE t nd nr) : pE (ybf t d) nd nr := pE_fr h (fun κ k hk => ybf_f2 (by omega))
theorem pE_mt {t : zS} {nd nr ns d n : Nat} {c B : Int} (h : yWF t nd nr ns c B) (hd : d < nd) (hn : t 52 0 d = (n : Int) + 1) (hE : pE t nd nr) : pE (ymt t d n) nd nr := by
  have hw0 := yWF_row h hd (j := 0) (by omega)
  rw [Nat.add_zero] at hw0
  have h8 := pWF_8 h d hd
  refine ⟨fun q hq => by rw [ymt_fr (κ := 69) (by omega), ymt_fr (κ := 65) (by omega), ymt_fr (κ := 66) (by omega)]; exact hE.1 q hq, fun d' hd' => ?_⟩
  by_cases e : d' = d
  · subst e
    rw [ymt_61e, ymt_62e]
    have h2 := hE.2 d' hd'
    by_cases k : 100 ≤ t 54 0 (8 * d')
    · rw [if_pos k, if_pos k]
      have := (hE.1 (t 54 0 (8 * d') - 100).toNat (by omega)).1
      omega
    · rw [if_neg k, if_neg k]; exact h2
  · rw [ymt_el (by omega) (by unfold yel; omega), ymt_el (by omega) (by unfold yel; omega)]
    exact hE.2 d' hd'
theorem pE_LV {nd nr ns d : Nat} {c B : Int} (hd : d < nd) : ∀ (n : Nat) (t : zS), yWF t nd nr ns c B → t 52 0 d = (n : Int) → pE t nd nr → pE (yLV d n t) nd nr
  | 0, t, _, _, hE => hE
  | n + 1, t, h, hn, hE => by
    have hy := yWF_wy h hd (by omega)
    have h9 := h.1.2.2.1
    have h1 : yWF (zu t 55 0 d (t 30 0 1 + ywy t d)) nd nr ns c B := yWF_55 h (by omega)
    have hE1 : pE (zu t 55 0 d (t 30 0 1 + ywy t d)) nd nr := pE_fr hE (fun κ k hk => zu_ne (by omega))
    have hn1 : zu t 55 0 d (t 30 0 1 + ywy t d) 52 0 d = (n : Int) + 1 := by rw [zu_ne (by omega), hn]; rfl
    show pE (if _ then _ else _) nd nr
    split
    · exact pE_LV hd n _ (yWF_mt h1 hd hn1) (ymt_52 _ _ _) (pE_mt h1 hd hn1 hE1)
    · exact hE1
theorem pE_gi {t : zS} {nd nr ns d q : Nat} {c B : Int} (h : yWF t nd nr ns c B) (hE : pE t nd nr) (hd : d < nd) (hq : q < nr) (h0 : t 64 0 q = 0) (h52 : t 52 0 d = 0) (hw : t 47 0 (10 * (t 49 0 d).toNat + (t 65 0 q).toNat) < 100000) : pE (ygi t q d) nd nr :=
  pE_bf (pE_LV hd 2 _ (yWF_gm h hd hq h0 h52 hw) (ygm_at (t := t) (d := d) (q := q)).2.2.1 (pE_fr hE (fun κ k hk => ygm_fr (by omega))))
theorem pE_AR {t : zS} {nd nr ns : Nat} {c B : Int} (h : yWF t nd nr ns c B) (hE : pE t nd nr) : ∀ i : Nat, i ≤ nr → pE (yAR nd i t) nd nr
  | 0, _ => hE
  | i + 1, hi => by
    have k1 := pE_AR h hE i (by omega)
    have hw := yWF_AR h i (by omega)
    show pE (@ite zS (yaC nd i (yAR nd i t)) (Classical.propDecidable _) _ _) nd nr
    by_cases c : yaC nd i (yAR nd i t)
    · rw [if_pos c]
      obtain ⟨c1, c2, c3⟩ := c
      rcases yfM_rg (yAR nd i t) nd with e | ⟨f1, f2, f3, f4⟩
      · exact absurd e c3
      · have hq := hw.2.2.1 i (by omega)
        exact pE_gi hw k1 (by omega) (by omega) c1 f3.1 (by rw [yWF_00 hw (by rw [f4, c2]) hq.1]; decide)
    · rw [if_neg c]
      exact k1
theorem pE_wander {t : zS} {nd nr ns d : Nat} {c B b : Int} (h : yWF t nd nr ns c B) (hE : pE t nd nr) (hd : d < nd) (h52 : t 52 0 d = 0) (hb : 0 ≤ b ∧ b < 10) (hw : t 47 0 (10 * (t 49 0 d).toNat + b.toNat) < 100000) : pE (ybf (yLV d 1 (ywd t d b)) d) nd nr :=
  pE_bf (pE_LV hd 1 _ (yWF_wd h hd h52 hb hw) (by unfold ywd; rw [zu_same]; rfl) (pE_fr hE (fun κ k hk => by unfold ywd; rw [zu_ne (by omega), zu_ne (by omega), zu_ne (by omega), zu_ne (by omega)])))
theorem pE_rest {t : zS} {nd nr d : Nat} {x : Int} (hE : pE t nd nr) : pE (ymr t d x) nd nr := pE_fr hE (fun κ k hk => by
  unfold ymr
  split
  · rw [ybf_f2 (by omega), zu_ne (by omega), zu_ne (by omega)]
  · rw [zu_ne (by omega), zu_ne (by omega)])
theorem pE_cl {t : zS} {nd nr ns q o : Nat} {c B : Int} (h : yWF t nd nr ns c B) (hE : pE t nd nr) (hq : q < nr) (h1 : t 64 0 q = 1) : pE (ycl t q o) nd nr := by
  have hwq := h.2.2.1 q hq
  have hD0 := hwq.2.2.2.2.2.2.2.2.1 (by omega) (by omega)
  have hD1 := hwq.2.2.2.2.2.2.2.1
  have h8 := pWF_8 h (t 70 0 q).toNat (by omega)
  exact pE_fr hE (fun κ k hk => ycl_fr (by omega) (by omega))
theorem pE_ra {t : zS} {nd nr q D K : Nat} {x : Int} (hE : pE t nd nr) : pE (yra t q D K x) nd nr := pE_fr hE (fun κ k hk => by
  unfold yra
  split
  · rw [ybf_f2 (by omega)]
    unfold yrw yrv
    rw [zu_ne (by omega), zu_ne (by omega), zu_ne (by omega), zu_ne (by omega), zu_ne (by omega)]
  · unfold yrw yrv
    rw [zu_ne (by omega), zu_ne (by omega), zu_ne (by omega), zu_ne (by omega), zu_ne (by omega)])
theorem pE_rq {t : zS} {nd nr ns a b : Nat} {c B m x : Int} (h : yWF t nd nr ns c B) (hE : pE t nd nr) (ha : a < 10) (hb : b < 10) (hab : a ≠ b) (hl : t 47 0 (10 * a + b) < 100000) : pE (yrq t nd nr a b m x) nd (nr + 1) := by
  have F : ∀ κ k, ¬ (κ = 30 ∧ (k = 0 ∨ k = 23)) ∧ ¬ ((κ = 69 ∨ κ = 65 ∨ κ = 66 ∨ κ = 67 ∨ κ = 68 ∨ κ = 70 ∨ κ = 71 ∨ κ = 72) ∧ k = nr) → yrq t nd nr a b m x κ 0 k = t κ 0 k := fun κ k hk => yrq_fr hk
  refine ⟨fun q hq => ?_, fun d hd => by rw [F 62 d (by omega), F 61 d (by omega)]; exact hE.2 d hd⟩
  by_cases e : q = nr
  · rw [e, (yrq_at (t := t)).2.1, (yrq_at (t := t)).2.2.1, (yrq_at (t := t)).2.2.2.1]
    refine ⟨?_, by omega⟩
    have hw := yfn_180 h (a := (a : Int)) (b := (b : Int)) (by omega) (by omega) hl
    have hcap := h.1.2.2.2.1
    unfold yrp
    obtain ⟨H, hH⟩ : ∃ H, H = yht (zu t 30 0 0 0) nd nr ((a : Int) / 3) := ⟨_, rfl⟩
    rw [← hH]
    have hH1 : 100 ≤ H ∧ H ≤ 300 := by
      rw [hH]
      unfold yht
      rw [zu_ne (by omega)]
      omega
    have e47 : zu t 30 0 0 0 47 0 (10 * a + b) = t 47 0 (10 * a + b) := zu_ne (by omega)
    rw [e47]
    have hw1 : 0 ≤ t 47 0 (10 * a + b) ∧ t 47 0 (10 * a + b) ≤ 180 := hw
    have h1 : (300 + 40 * t 47 0 (10 * a + b)) * H ≤ 7500 * H := Int.mul_le_mul_of_nonneg_right (by omega) (by omega)
    have h0 : 0 ≤ (300 + 40 * t 47 0 (10 * a + b)) * H := Int.mul_nonneg (by omega) (by omega)
    omega
  · rw [F 69 q (by omega), F 65 q (by omega), F 66 q (by omega)]
    exact hE.1 q (by omega)
theorem pE_dr {t : zS} {nd nr ns : Nat} {c B x : Int} (h : yWF t nd nr ns c B) (hE : pE t nd nr) (hn : nd < 8) : pE (ybf (zu (zu (zu t 30 0 0 0) 49 0 nd x) 30 0 8 ((nd : Int) + 1)) nd) (nd + 1) nr := by
  have F : ∀ κ k, ¬ (κ = 30 ∧ (k = 0 ∨ k = 8 ∨ k = 17)) ∧ ¬ (κ = 49 ∧ k = nd) ∧ κ ≠ 56 → ybf (zu (zu (zu t 30 0 0 0) 49 0 nd x) 30 0 8 ((nd : Int) + 1)) nd κ 0 k = t κ 0 k := fun κ k hk => by
    rw [ybf_f2 (by omega), zu_ne (by omega), zu_ne (by omega), zu_ne (by omega)]
  obtain ⟨⟨n1, n2, n3, n4, n5, n7, n8, n9⟩, n6⟩ := h.2.2.2.1 nd (Nat.le_refl _) hn
  refine ⟨fun q hq => by rw [F 69 q (by omega), F 65 q (by omega), F 66 q (by omega)]; exact hE.1 q hq, fun d hd => ?_⟩
  rw [F 62 d (by omega), F 61 d (by omega)]
  by_cases e : d = nd
  · rw [e]; omega
  · exact hE.2 d (by omega)
theorem pE_shR {a : zS} {nd nr ns : Nat} {c B : Int} (h : yWF a nd nr ns c B) (hE : pE a nd nr) : ∀ (k : Nat) (u : zS) (n : Nat), k ≤ nr → yshR nd k a u n → pE u nd nr
  | 0, u, n, _, hr => by
    obtain ⟨rfl, rfl⟩ := hr
    exact hE
  | k + 1, u, n, hk, hr => by
    obtain ⟨v, m, h1, h2, h3⟩ := hr
    have h4 := pE_shR h hE k v m (by omega) h1
    rcases h2 with ⟨⟨c1, c2, c3⟩, d, n', f, s, g1, g2, g3⟩ | ⟨c1, c2⟩
    · exact pE_fr h4 (fun κ k hk => g3.2.2.2 κ 0 k (by omega))
    · exact pE_fr h4 (fun κ k hk => c2 κ 0 k (by unfold y79; omega))
theorem pE_P1 {t : zS} {nd nr ns i : Nat} {c B : Int} (h : yWF t nd nr ns c B) (hi : i < nd) (hE : pE t nd nr) : pE (yP1 i t) nd nr := by
  unfold yP1
  split
  · rename_i hc
    obtain ⟨n, hn⟩ : ∃ n, n = (t 52 0 i).toNat - 1 := ⟨_, rfl⟩
    rw [← hn]
    have hn1 : t 52 0 i = (n : Int) + 1 := by omega
    exact pE_bf (pE_LV hi n _ (yWF_mt h hi hn1) (ymt_52 _ _ _) (pE_mt h hi hn1 hE))
  · exact hE
theorem pE_P2 {t : zS} {nd nr ns : Nat} {c B : Int} (h : yWF t nd nr ns c B) (hE : pE t nd nr) : ∀ i : Nat, i ≤ nd → pE (yP2 i t) nd nr
  | 0, _ => hE
  | i + 1, hi => pE_P1 (yWF_P2 h i (by omega)) (by omega) (pE_P2 h hE i (by omega))
theorem pE_s {t : zS} {nd nr ns : Nat} {c B : Int} (h : yWF t nd nr ns c B) (hnow : t 30 0 1 < 20000) (hE : pE t nd nr) : pE (yPs t nd nr) nd nr := by
  have hw := yWF_pa h hnow
  have h1 : pE (yPa t nd) nd nr := pE_fr hE (fun κ k hk => yPa_fr (by omega))
  exact pE_fr (pE_P2 hw h1 nd (Nat.le_refl _)) (fun κ k hk => if_neg (fun q => by omega))
theorem pE_PN {t : zS} {nd nr ns : Nat} {c B : Int} (h : yWF t nd nr ns c B) (hE : pE t nd nr) : ∀ i : Nat, t 30 0 1 + i ≤ 20000 → pE (yPN nd nr i t) nd nr
  | 0, _ => hE
  | i + 1, hi => by
    obtain ⟨w1, w2⟩ := yWF_PN h i (by omega)
    exact pE_s w1 (by omega) (pE_PN h hE i (by omega))
