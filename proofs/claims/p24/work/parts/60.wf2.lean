/-! a stop is done: the store stays well formed -/
theorem ymt_64 {t : zS} {d n q : Nat} (hw : -1 ≤ t 54 0 (8 * d)) (hw2 : t 54 0 (8 * d) < 100 → t 54 0 (8 * d) < 60) (hq : q < 60) : ymt t d n 64 0 q = yst1 (t 54 0 (8 * d)) (t 64 0) q := by
  unfold ymt yst1
  split
  · by_cases e : (q : Int) = t 54 0 (8 * d) - 100
    · rw [if_pos e, zu_ne (by omega), zu_ne (by omega), zu_ne (by omega), show q = (t 54 0 (8 * d) - 100).toNat by omega, zu_same]
    · rw [if_neg e, if_neg (by omega), zu_ne (by omega), zu_ne (by omega), zu_ne (by omega), zu_ne (by omega), zu_ne (by omega), yms_fr (by omega), zu_ne (by omega)]
  · split
    · rw [if_neg (by omega)]
      by_cases e : (q : Int) = t 54 0 (8 * d)
      · rw [if_pos e, show q = (t 54 0 (8 * d)).toNat by omega, zu_same]
      · rw [if_neg e, zu_ne (by omega), zu_ne (by omega), yms_fr (by omega), zu_ne (by omega)]
    · rw [if_neg (by omega), if_neg (by omega), zu_ne (by omega), yms_fr (by omega), zu_ne (by omega)]
theorem ymt_72 {t : zS} {d n q : Nat} : ymt t d n 72 0 q = if 100 ≤ t 54 0 (8 * d) ∧ (q : Int) = t 54 0 (8 * d) - 100 then t 30 0 1 else t 72 0 q := by
  unfold ymt
  by_cases c1 : 100 ≤ t 54 0 (8 * d)
  · rw [if_pos c1]
    by_cases e : (q : Int) = t 54 0 (8 * d) - 100
    · rw [if_pos ⟨c1, e⟩, zu_ne (by omega), zu_ne (by omega), show q = (t 54 0 (8 * d) - 100).toNat by omega, zu_same]
    · rw [if_neg (fun c => e c.2), zu_ne (by omega), zu_ne (by omega), zu_ne (by omega), zu_ne (by omega), zu_ne (by omega), yms_fr (by omega), zu_ne (by omega)]
  · rw [if_neg c1, if_neg (show ¬ (100 ≤ t 54 0 (8 * d) ∧ (q : Int) = t 54 0 (8 * d) - 100) from fun c => c1 c.1)]
    by_cases c2 : 0 ≤ t 54 0 (8 * d)
    · rw [if_pos c2, zu_ne (by omega), zu_ne (by omega), yms_fr (by omega), zu_ne (by omega)]
    · rw [if_neg c2, zu_ne (by omega), yms_fr (by omega), zu_ne (by omega)]
theorem ymt_61e {t : zS} {d n : Nat} : ymt t d n 61 0 d = if 100 ≤ t 54 0 (8 * d) then t 61 0 d + 1 else t 61 0 d := by
  unfold ymt
  split
  · rw [zu_ne (by omega), zu_same]
  · split
    · rw [zu_ne (by omega), zu_ne (by omega), yms_fr (by omega), zu_ne (by omega)]
    · rw [zu_ne (by omega), yms_fr (by omega), zu_ne (by omega)]
theorem ymt_62e {t : zS} {d n : Nat} : ymt t d n 62 0 d = if 100 ≤ t 54 0 (8 * d) then t 62 0 d + t 69 0 (t 54 0 (8 * d) - 100).toNat else t 62 0 d := by
  unfold ymt
  split
  · rw [zu_same]
  · split
    · rw [zu_ne (by omega), zu_ne (by omega), yms_fr (by omega), zu_ne (by omega)]
    · rw [zu_ne (by omega), yms_fr (by omega), zu_ne (by omega)]
/-- what a row holds -/
theorem yWF_row {t : zS} {nd nr ns d : Nat} {c B : Int} (h : yWF t nd nr ns c B) (hd : d < nd) {j : Nat} (hj : (j : Int) < t 52 0 d) : t 54 0 (8 * d + j) = -1 ∨ (0 ≤ t 54 0 (8 * d + j) ∧ t 54 0 (8 * d + j) < (nr : Int) ∧ t 64 0 (t 54 0 (8 * d + j)).toNat = 1 ∧ t 70 0 (t 54 0 (8 * d + j)).toNat = (d : Int)) ∨ (100 ≤ t 54 0 (8 * d + j) ∧ t 54 0 (8 * d + j) < 100 + (nr : Int) ∧ (t 64 0 (t 54 0 (8 * d + j) - 100).toNat = 1 ∨ t 64 0 (t 54 0 (8 * d + j) - 100).toNat = 2) ∧ t 70 0 (t 54 0 (8 * d + j) - 100).toNat = (d : Int)) := by
  obtain ⟨⟨a1, a2⟩, a3, a4, a5, a6, a7, a8, a9, a10, a11⟩ := h.2.1 d hd
  rcases a11.1 j (by omega) with e | ⟨q, hq, e, h1, h2, -⟩ | ⟨q, hq, e, h1, h2⟩
  · exact Or.inl e
  · have e : t 54 0 (8 * d + j) = (q : Int) := e
    have e2 : (t 54 0 (8 * d + j)).toNat = q := by omega
    refine Or.inr (Or.inl ⟨by omega, by omega, ?_⟩)
    rw [e2]; exact ⟨h1, h2⟩
  · have e : t 54 0 (8 * d + j) = 100 + (q : Int) := e
    have e2 : (t 54 0 (8 * d + j) - 100).toNat = q := by omega
    refine Or.inr (Or.inr ⟨by omega, by omega, ?_⟩)
    rw [e2]; exact ⟨h1, h2⟩
theorem yWF_mt {t : zS} {nd nr ns d n : Nat} {c B : Int} (h : yWF t nd nr ns c B) (hd : d < nd) (hn : t 52 0 d = (n : Int) + 1) : yWF (ymt t d n) nd nr ns c B := by
  have hw0 := yWF_row h hd (j := 0) (by omega)
  obtain ⟨g, hds, hqs, hns⟩ := id h
  obtain ⟨⟨a1, a2⟩, a3, a4, a5, a6, a7, a8, a9, a10, a11⟩ := hds d hd
  obtain ⟨⟨b1, b2, b3⟩, bg⟩ := id g
  rw [Nat.add_zero] at hw0
  have hw1 : -1 ≤ t 54 0 (8 * d) ∧ (t 54 0 (8 * d) < 100 → t 54 0 (8 * d) < 60) := by omega
  have h64 : ∀ q, q < nr → ymt t d n 64 0 q = yst1 (t 54 0 (8 * d)) (t 64 0) q := fun q hq => ymt_64 hw1.1 hw1.2 (by omega)
  have hn8 : n ≤ 8 := by omega
  have EL : ∀ κ k, yel d κ k → ymt t d n κ 0 k = t κ 0 k := fun κ k hk => ymt_el hn8 hk
  have FR : ∀ κ k, κ ≠ 49 → κ ≠ 52 → κ ≠ 53 → κ ≠ 54 → κ ≠ 61 → κ ≠ 62 → κ ≠ 64 → κ ≠ 72 → ymt t d n κ 0 k = t κ 0 k := fun κ k _ _ _ _ _ _ _ _ => ymt_fr (by omega)
  have hN : yDN (ymt t d n) nr = yDN t nr + (if 100 ≤ t 54 0 (8 * d) then 1 else 0) := by
    by_cases c100 : 100 ≤ t 54 0 (8 * d)
    · rw [if_pos c100]
      rcases hw0 with e | ⟨e1, e2, e3, e4⟩ | ⟨e1, e2, e3, e4⟩
      · omega
      · omega
      · refine yDN_up (q := (t 54 0 (8 * d) - 100).toNat) (by omega) (by omega) ?_ (fun p hp hpq => ?_)
        · rw [h64 _ (by omega)]
          exact if_pos (by omega)
        · rw [h64 p hp]
          unfold yst1
          rw [if_neg (by omega), if_neg (by omega)]
    · rw [if_neg c100, Nat.add_zero]
      refine yDN_same (fun p hp => ?_)
      rw [h64 p hp]
      unfold yst1
      rw [if_neg (by omega)]
      split
      · rename_i e
        rcases hw0 with e0 | ⟨e1, e2, e3, e4⟩ | ⟨e1, e2, e3, e4⟩
        · omega
        · rw [show (t 54 0 (8 * d)).toNat = p by omega] at e3
          omega
        · omega
      · exact Iff.rfl
  have hdr : ∀ q, q < nr → (t 70 0 q ≠ (d : Int) → ymt t d n 64 0 q = t 64 0 q) := fun q hq hne => by
    rw [h64 q hq]
    unfold yst1
    rcases hw0 with e0 | ⟨e1, e2, e3, e4⟩ | ⟨e1, e2, e3, e4⟩
    · rw [if_neg (by omega), if_neg (by omega)]
    · rw [if_neg (by omega), if_neg (fun c => by rw [show (t 54 0 (8 * d)).toNat = q by omega] at e4; exact hne e4)]
    · rw [if_neg (fun c => by rw [show (t 54 0 (8 * d) - 100).toNat = q by omega] at e4; exact hne e4), if_neg (by omega)]
  refine ⟨yWg_ot g (fun κ k hk => FR κ k (by omega) (by omega) (by omega) (by omega) (by omega) (by omega) (by omega) (by omega)) (by rw [FR 30 1 (by decide) (by decide) (by decide) (by decide) (by decide) (by decide) (by decide) (by decide)]; exact bg.2.1) (by rw [FR 30 17 (by decide) (by decide) (by decide) (by decide) (by decide) (by decide) (by decide) (by decide)]; exact bg.2.2.2.1), fun d' hd9 => ?_, fun q hq => ?_, yWn_ot hns (fun κ k hk => ?_)⟩
  rotate_right
  · by_cases e : κ = 64
    · subst e
      rw [ymt_64 hw1.1 hw1.2 (by omega)]
      unfold yst1
      rw [if_neg (by omega), if_neg (by omega)]
    · exact EL κ k (by unfold yel; omega)
  · by_cases e : d' = d
    · subst e
      have h0 := a3 0 (by omega)
      rw [Nat.add_zero] at h0
      have e30 : ymt t d' n 30 0 1 = t 30 0 1 := FR 30 1 (by decide) (by decide) (by decide) (by decide) (by decide) (by decide) (by decide) (by decide)
      have e47 : ∀ k, ymt t d' n 47 0 k = t 47 0 k := fun k => FR 47 k (by decide) (by decide) (by decide) (by decide) (by decide) (by decide) (by decide) (by decide)
      refine ⟨⟨by rw [ymt_49]; exact h0, by rw [ymt_52]; omega⟩, fun j hj => ?_, fun j hj => ?_, fun hj => ?_, by rw [ymt_fr (κ := 55) (by omega)]; exact a6, ⟨by rw [EL 58 d' (by unfold yel; omega)]; exact a7.1, fun j hj => by rw [EL 59 _ (by unfold yel; omega)]; exact a7.2 j hj⟩, by rw [EL 60 d' (by unfold yel; omega), e30]; exact a8, ?_, ?_, ?_⟩
      · rw [ymt_52] at hj
        rw [ymt_st t d' n (Or.inl rfl) (by omega)]
        exact a3 (j + 1) (by omega)
      · rw [ymt_52] at hj
        rw [ymt_st t d' n (Or.inl rfl) (by omega), ymt_st t d' n (Or.inl rfl) (by omega), e47]
        exact a4 (j + 1) (by omega)
      · rw [ymt_52] at hj
        have h1 := ymt_st t d' n (κ := 53) (j := 0) (Or.inl rfl) (by omega)
        rw [Nat.add_zero] at h1
        unfold ywy
        rw [ymt_49, h1, e47]
        exact a4 0 (by omega)
      · rw [hN, ymt_61e]
        split <;> omega
      · rw [ymt_61e, ymt_62e]
        rcases hw0 with e0 | ⟨e1, e2, e3, e4⟩ | ⟨e1, e2, e3, e4⟩
        · rw [if_neg (by omega), if_neg (by omega)]; exact a10
        · rw [if_neg (by omega), if_neg (by omega)]; exact a10
        · rw [if_pos e1, if_pos e1]
          have hp := (hqs (t 54 0 (8 * d') - 100).toNat (by omega)).2.2.2.2.1
          omega
      · rw [ymt_52, show ((n : Int)).toNat = n by omega]
        rw [show (t 52 0 d').toNat = n + 1 by omega] at a11
        refine yRS_other (yRS_take (by omega) a11) (fun j hj => ymt_st t d' n (Or.inr rfl) hj) (fun q hq => ?_)
        rw [h64 q hq, FR 70 q (by decide) (by decide) (by decide) (by decide) (by decide) (by decide) (by decide) (by decide)]
        exact ⟨fun h => ⟨rfl, h⟩, fun h _ => h⟩
    · refine yWd_ot (hds d' hd9) (Int.le_refl _) (fun κ k hk => EL κ k (by unfold yel; omega)) (by rw [FR 30 1 (by decide) (by decide) (by decide) (by decide) (by decide) (by decide) (by decide) (by decide)]; exact Int.le_refl _) (by omega) (fun q hq => ?_)
      rw [FR 70 q (by decide) (by decide) (by decide) (by decide) (by decide) (by decide) (by decide) (by decide)]
      exact ⟨fun h => ⟨hdr q hq (by omega), h⟩, fun h _ => h⟩
  · obtain ⟨c1, c2, c3, c4, c5, c6, c7, c8, c9, c10, c11, c12⟩ := hqs q hq
    have f : ∀ κ k, κ ≠ 49 ∧ κ ≠ 52 ∧ κ ≠ 53 ∧ κ ≠ 54 ∧ κ ≠ 61 ∧ κ ≠ 62 ∧ κ ≠ 64 ∧ κ ≠ 72 → ymt t d n κ 0 k = t κ 0 k := fun κ k _ => ymt_fr (by omega)
    have h72 : -1 ≤ ymt t d n 72 0 q := by
      rw [ymt_72]
      split
      · have := bg.2.1; omega
      · exact c12
    have hst : yst1 (t 54 0 (8 * d)) (t 64 0) q = t 64 0 q ∨ ((yst1 (t 54 0 (8 * d)) (t 64 0) q = 2 ∨ yst1 (t 54 0 (8 * d)) (t 64 0) q = 3) ∧ t 70 0 q = (d : Int)) := by
      by_cases e : t 70 0 q = (d : Int)
      · unfold yst1
        split
        · exact Or.inr ⟨Or.inr rfl, e⟩
        · split
          · exact Or.inr ⟨Or.inl rfl, e⟩
          · exact Or.inl rfl
      · exact Or.inl ((h64 q hq).symm.trans (hdr q hq e))
    unfold yWq
    rw [f 65 _ (by omega), f 66 _ (by omega), f 67 _ (by omega), f 69 _ (by omega), f 70 _ (by omega), f 71 _ (by omega), f 73 _ (by omega), f 47 _ (by omega), f 30 _ (by omega), h64 q hq]
    exact ⟨c1, c2, c3, c4, c5, by omega, by omega, c8, by omega, c10, c11, h72⟩
theorem yWF_LV {nd nr ns d : Nat} {c B : Int} (hd : d < nd) : ∀ (n : Nat) (t : zS), yWF t nd nr ns c B → t 52 0 d = (n : Int) → yWF (yLV d n t) nd nr ns c B
  | 0, _, h, _ => h
  | n + 1, t, h, hn => by
    have hy := yWF_wy h hd (by omega)
    have hnow := h.1.2.2.1
    have h1 : yWF (zu t 55 0 d (t 30 0 1 + ywy t d)) nd nr ns c B := yWF_55 h (by omega)
    show yWF (if _ then _ else _) nd nr ns c B
    split
    · refine yWF_LV hd n _ (yWF_mt h1 hd ?_) (ymt_52 _ _ _)
      rw [zu_ne (by omega)]
      omega
    · exact h1
theorem yWF_P1 {t : zS} {nd nr ns d : Nat} {c B : Int} (h : yWF t nd nr ns c B) (hd : d < nd) : yWF (yP1 d t) nd nr ns c (B + 1) := by
  unfold yP1
  split
  · rename_i hc
    have h52 := (h.2.1 d hd).1.2
    refine yWF_bf (yWF_LV hd _ _ (yWF_mt h hd (by omega)) (ymt_52 _ _ _))
  · exact yWF_B h (Int.le_refl _) (by omega)
theorem yWF_P2 {t : zS} {nd nr ns : Nat} {c B : Int} (h : yWF t nd nr ns c B) : ∀ i : Nat, i ≤ nd → yWF (yP2 i t) nd nr ns c (B + i)
  | 0, _ => yWF_B h (Int.le_refl _) (by omega)
  | i + 1, hi => yWF_B (yWF_P1 (yWF_P2 h i (by omega)) (by omega)) (Int.le_refl _) (by omega)
/-- what a step needs -/
theorem yWF_mok {t : zS} {nd nr ns d : Nat} {c B : Int} (h : yWF t nd nr ns c B) (hd : d < nd) : yMok t d (t 52 0 d).toNat := by
  obtain ⟨⟨a1, a2⟩, a3, a4, a5, a6, a7, a8, a9, a10, a11⟩ := h.2.1 d hd
  obtain ⟨⟨b1, b2, b3⟩, bg⟩ := id h.1
  have hN := yDN_le t nr
  refine ⟨by omega, by omega, a1, fun j hj => ?_, fun a b ha hb => ?_, bg.2.1, by omega, by omega⟩
  · have hr := yWF_row h hd (j := j) (by omega)
    refine ⟨a3 j (by omega), by omega, by omega, by omega, fun h1 => ?_⟩
    exact (h.2.2.1 _ (by omega)).2.2.2.2.1
  · have := yWF_w h a b ha hb
    omega
theorem yWF_pa {t : zS} {nd nr ns : Nat} {c B : Int} (h : yWF t nd nr ns c B) (hnow : t 30 0 1 < 20000) : yWF (yPa t nd) nd nr ns c B := by
  obtain ⟨g, hd, hq, hn⟩ := id h
  have e1 : yPa t nd 30 0 1 = t 30 0 1 + 1 := by unfold yPa; rw [zu_same]
  have E : ∀ κ k, κ ≠ 60 ∧ ¬ (κ = 30 ∧ k = 1) → yPa t nd κ 0 k = t κ 0 k := fun κ k h => yPa_fr h
  have hN : yDN (yPa t nd) nr = yDN t nr := yDN_same (fun q _ => by rw [E 64 q (by omega)])
  refine ⟨yWg_ot g (fun κ k h => E κ k (by omega)) (by rw [e1]; have := g.2.2.1; omega) (by rw [E 30 17 (by omega)]; exact g.2.2.2.2.1), fun d hd9 => ?_, fun q hq9 => yWq_ot (hq q hq9) (Nat.le_refl _) (fun κ k h => E κ k (by omega)) (by omega), yWn_ot hn (fun κ k h => ?_)⟩
  · obtain ⟨a1, a3, a4, a5, a6, a7, a8, a9, a10, a11⟩ := hd d hd9
    have f64 : yPa t nd 64 0 = t 64 0 := funext fun k => E 64 k (by omega)
    have f70 : yPa t nd 70 0 = t 70 0 := funext fun k => E 70 k (by omega)
    have f60 : yPa t nd 60 0 d = t 60 0 d + zb (yhr t d (t 52 0 d).toNat) := by
      unfold yPa yPc
      rw [zu_ne (by omega), if_pos ⟨rfl, rfl, hd9⟩]
    unfold yWd ywy
    rw [hN, f64, f70, f60, E 49 _ (by omega), E 52 _ (by omega), E 55 _ (by omega), E 58 _ (by omega), E 61 _ (by omega), E 62 _ (by omega), e1]
    have hz := zb_01 (yhr t d (t 52 0 d).toNat)
    exact ⟨a1, fun j hj => by rw [E 53 _ (by omega)]; exact a3 j hj, fun j hj => by rw [E 53 _ (by omega), E 53 _ (by omega), E 47 _ (by omega)]; exact a4 j hj, fun hj => by rw [E 53 _ (by omega), E 47 _ (by omega)]; exact a5 hj, a6, ⟨a7.1, fun j hj => by rw [E 59 _ (by omega)]; exact a7.2 j hj⟩, by omega, a9, a10, yRS_other a11 (fun j _ => E 54 _ (by omega)) (fun q _ => ⟨fun h => ⟨rfl, h⟩, fun h _ => h⟩)⟩
  · by_cases e : κ = 60
    · subst e
      unfold yPa yPc
      rw [zu_ne (by omega), if_neg (by omega)]
    · exact E κ k (by omega)
theorem yWF_pass {t : zS} {nd nr ns : Nat} {c B : Int} (h : yWF t nd nr ns c B) (hnow : t 30 0 1 < 20000) : yWF (yPs t nd nr) nd nr ns c (B + 8) ∧ yPs t nd nr 30 0 1 = t 30 0 1 + 1 := by
  have h1 := yWF_pa h hnow
  have h2 := yWF_P2 h1 nd (Nat.le_refl _)
  have h8 := h.1.1.1
  have en : yP2 nd (yPa t nd) 30 0 1 = t 30 0 1 + 1 := by
    rw [yP2_fr (fun d hd => ⟨_, yWF_mok h1 hd⟩) (by omega) nd (Nat.le_refl _)]
    unfold yPa
    rw [zu_same]
  show yWF (yPe (yP2 nd (yPa t nd)) nr) nd nr ns c (B + 8) ∧ yPe (yP2 nd (yPa t nd)) nr 30 0 1 = _
  generalize yP2 nd (yPa t nd) = v at h2 en
  obtain ⟨g, hd, hq, hn⟩ := id h2
  have E : ∀ κ k, κ ≠ 64 → yPe v nr κ 0 k = v κ 0 k := fun κ k h => if_neg (fun c => h c.1)
  have S : ∀ q, q < nr → yPe v nr 64 0 q = v 64 0 q ∨ (v 64 0 q = 0 ∧ yPe v nr 64 0 q = 4) := fun q hq9 => by
    have e : yPe v nr 64 0 q = if v 64 0 q = 0 ∧ v 67 0 q ≤ v 30 0 1 then 4 else v 64 0 q := if_pos ⟨rfl, rfl, hq9⟩
    rw [e]
    split
    · rename_i hc; exact Or.inr ⟨hc.1, rfl⟩
    · exact Or.inl rfl
  have hN : yDN (yPe v nr) nr = yDN v nr := yDN_same (fun q hq9 => by have := S q hq9; omega)
  refine ⟨⟨yWg_ot g (fun κ k h => E κ k (by omega)) (by rw [E 30 1 (by omega)]; exact g.2.2.1) (by rw [E 30 17 (by omega)]; have := g.2.2.2.2.1; omega), fun d hd9 => ?_, fun q hq9 => ?_, yWn_ot hn (fun κ k h => ?_)⟩, by rw [E 30 1 (by decide)]; exact en⟩
  · refine yWd_ot (hd d hd9) (Int.le_refl _) (fun κ k h => E κ k (by omega)) (by rw [E 30 1 (by omega)]; exact Int.le_refl _) (by omega) (fun q hq9 => ?_)
    have h7 := (hq q hq9).2.2.2.2.2.2.1
    have := S q hq9
    rw [E 70 q (by decide)]
    omega
  · obtain ⟨c1, c2, c3, c4, c5, c6, c7, c8, c9, c10, c11, c12⟩ := hq q hq9
    have := S q hq9
    unfold yWq
    rw [E 65 _ (by decide), E 66 _ (by decide), E 67 _ (by decide), E 69 _ (by decide), E 70 _ (by decide), E 71 _ (by decide), E 72 _ (by decide), E 73 _ (by decide), E 47 _ (by decide), E 30 _ (by decide)]
    exact ⟨c1, c2, c3, c4, c5, by omega, by omega, c8, by omega, c10, c11, c12⟩
  · by_cases e : κ = 64
    · subst e
      exact if_neg (by omega)
    · exact E κ k e
/-- minutes pass -/
noncomputable def yPN (nd nr : Nat) : Nat → zS → zS
  | 0, t => t
  | i + 1, t => yPs (yPN nd nr i t) nd nr
theorem yWF_PN {t : zS} {nd nr ns : Nat} {c B : Int} (h : yWF t nd nr ns c B) : ∀ i : Nat, t 30 0 1 + i ≤ 20000 → yWF (yPN nd nr i t) nd nr ns c (B + 8 * i) ∧ yPN nd nr i t 30 0 1 = t 30 0 1 + i
  | 0, _ => ⟨yWF_B h (Int.le_refl _) (by omega), by show t 30 0 1 = t 30 0 1 + ((0 : Nat) : Int); omega⟩
  | i + 1, hi => by
    obtain ⟨h1, h2⟩ := yWF_PN h i (by omega)
    obtain ⟨h3, h4⟩ := yWF_pass h1 (by omega)
    exact ⟨yWF_B h3 (Int.le_refl _) (by omega), h4.trans (by omega)⟩
