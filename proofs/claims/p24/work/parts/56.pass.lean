/-! a minute passes, in the model -/
/-- what a driver does when a minute has passed -/
noncomputable def yP1 (d : Nat) (σ : zS) : zS := if 0 < σ 52 0 d ∧ σ 55 0 d ≤ σ 30 0 1 then ybf (yLV d ((σ 52 0 d).toNat - 1) (ymt σ d ((σ 52 0 d).toNat - 1))) d else σ
noncomputable def yP2 : Nat → zS → zS
  | 0, σ => σ
  | i + 1, σ => yP1 i (yP2 i σ)
/-- what the steps of the driver i leave as it was -/
def yel (i κ k : Nat) : Prop := ¬ ((κ = 49 ∨ κ = 52 ∨ κ = 55 ∨ κ = 56 ∨ κ = 61 ∨ κ = 62) ∧ k = i) ∧ ¬ ((κ = 53 ∨ κ = 54) ∧ 8 * i ≤ k ∧ k < 8 * i + 8) ∧ κ ≠ 64 ∧ κ ≠ 72 ∧ ¬ (κ = 30 ∧ k = 17)
theorem ymt_el {σ : zS} {d n κ i k : Nat} (hn : n ≤ 8) (h : yel d κ k) : ymt σ d n κ i k = σ κ i k := by
  unfold yel at h
  have e : yms (zu σ 49 0 d (σ 53 0 (8 * d))) d n κ i k = σ κ i k := by
    unfold yms
    rw [if_neg (by omega), zu_ne (by omega)]
  unfold ymt
  split
  · rw [zu_ne (by omega), zu_ne (by omega), zu_ne (by omega), zu_ne (by omega), zu_ne (by omega), e]
  · split
    · rw [zu_ne (by omega), zu_ne (by omega), e]
    · rw [zu_ne (by omega), e]
theorem yLV_el {d κ i k : Nat} (h : yel d κ k) : ∀ (n : Nat) (σ : zS), n ≤ 8 → yLV d n σ κ i k = σ κ i k
  | 0, _, _ => rfl
  | n + 1, σ, hn => by
    have e : zu σ 55 0 d (σ 30 0 1 + ywy σ d) κ i k = σ κ i k := by
      unfold yel at h
      rw [zu_ne (by omega)]
    show (if _ then _ else _ : zS) κ i k = _
    split
    · rw [yLV_el h n _ (by omega), ymt_el (by omega) h, e]
    · exact e
theorem ybf_el {σ : zS} {d κ i k : Nat} (h : yel d κ k) : ybf σ d κ i k = σ κ i k := by
  unfold yel at h
  unfold ybf
  split
  · rw [zu_ne (by omega), zu_ne (by omega)]
  · rfl
theorem yP1_el {σ : zS} {d κ i k : Nat} (hs : σ 52 0 d ≤ 8) (h : yel d κ k) : yP1 d σ κ i k = σ κ i k := by
  unfold yP1
  split
  · rw [ybf_el h, yLV_el h _ _ (by omega), ymt_el (by omega) h]
  · rfl
theorem yLV_17 {d : Nat} : ∀ (n : Nat) (σ : zS), yLV d n σ 30 0 17 = σ 30 0 17
  | 0, _ => rfl
  | n + 1, σ => by
    show (if _ then _ else _ : zS) 30 0 17 = _
    split
    · rw [yLV_17 n, ymt_fr (by omega), zu_ne (by omega)]
    · exact zu_ne (by omega)
theorem ybf_17 (σ : zS) (d : Nat) : σ 30 0 17 ≤ ybf σ d 30 0 17 ∧ ybf σ d 30 0 17 ≤ σ 30 0 17 + 1 := by
  unfold ybf
  split
  · rw [zu_ne (by omega), zu_same]; omega
  · omega
theorem yP1_17 (σ : zS) (d : Nat) : σ 30 0 17 ≤ yP1 d σ 30 0 17 ∧ yP1 d σ 30 0 17 ≤ σ 30 0 17 + 1 := by
  unfold yP1
  split
  · have h := ybf_17 (yLV d ((σ 52 0 d).toNat - 1) (ymt σ d ((σ 52 0 d).toNat - 1))) d
    rw [yLV_17, ymt_fr (by omega)] at h
    exact h
  · omega
theorem yP2_17 (σ : zS) : ∀ i, σ 30 0 17 ≤ yP2 i σ 30 0 17 ∧ yP2 i σ 30 0 17 ≤ σ 30 0 17 + i
  | 0 => ⟨Int.le_refl _, by show σ 30 0 17 ≤ σ 30 0 17 + (0 : Nat); omega⟩
  | i + 1 => by
    have h1 := yP2_17 σ i
    have h2 := yP1_17 (yP2 i σ) i
    show σ 30 0 17 ≤ yP1 i (yP2 i σ) 30 0 17 ∧ yP1 i (yP2 i σ) 30 0 17 ≤ _
    omega
/-- the row of another driver is not touched -/
theorem yMok_ot {σ : zS} {i d n : Nat} (hs : σ 52 0 i ≤ 8) (hi : i ≠ d) (h : yMok σ d n) : yMok (yP1 i σ) d n := by
  have e : ∀ κ k, yel i κ k → yP1 i σ κ 0 k = σ κ 0 k := fun κ k h => yP1_el hs h
  obtain ⟨a1, a2, a3, a4, a5, a6, a7, a8⟩ := h
  refine ⟨by rw [e 52 d (by unfold yel; omega)]; exact a1, a2, by rw [e 49 d (by unfold yel; omega)]; exact a3, fun j hj => ?_, fun a b ha hb => by rw [e 47 _ (by unfold yel; omega)]; exact a5 a b ha hb, by rw [e 30 1 (by unfold yel; omega)]; exact a6, by rw [e 61 d (by unfold yel; omega)]; exact a7, by rw [e 62 d (by unfold yel; omega)]; exact a8⟩
  rw [e 53 _ (by unfold yel; omega), e 54 _ (by unfold yel; omega), e 69 _ (by unfold yel; omega)]
  exact a4 j hj
theorem yP2_ok {σ : zS} {nd : Nat} (h : ∀ d, d < nd → ∃ n, yMok σ d n) : ∀ i, i ≤ nd → ∀ d, i ≤ d → d < nd → ∃ n, yMok (yP2 i σ) d n
  | 0, _, d, _, hd => h d hd
  | i + 1, hi, d, h1, h2 => by
    obtain ⟨n, hn⟩ := yP2_ok h i (by omega) d (by omega) h2
    obtain ⟨n', hn'⟩ := yP2_ok h i (by omega) i (Nat.le_refl _) (by omega)
    refine ⟨n, yMok_ot ?_ (by omega) hn⟩
    have := hn'.1
    have := hn'.2.1
    omega

noncomputable def yPc (σ : zS) (n : Nat) : zS := fun κ i k => if κ = 60 ∧ i = 0 ∧ k < n then σ 60 0 k + zb (yhr σ k (σ 52 0 k).toNat) else σ κ i k
noncomputable def yPa (σ : zS) (nd : Nat) : zS := zu (yPc σ nd) 30 0 1 (σ 30 0 1 + 1)
noncomputable def yPe (σ : zS) (n : Nat) : zS := fun κ i k => if κ = 64 ∧ i = 0 ∧ k < n then (if σ 64 0 k = 0 ∧ σ 67 0 k ≤ σ 30 0 1 then 4 else σ 64 0 k) else σ κ i k
noncomputable def yPs (σ : zS) (nd nr : Nat) : zS := yPe (yP2 nd (yPa σ nd)) nr
theorem yPc_fr {σ : zS} {n κ i k : Nat} (h : κ ≠ 60) : yPc σ n κ i k = σ κ i k := if_neg (fun q => h q.1)
theorem yPa_fr {σ : zS} {n κ i k : Nat} (h : κ ≠ 60 ∧ ¬ (κ = 30 ∧ k = 1)) : yPa σ n κ i k = σ κ i k := by
  unfold yPa
  rw [zu_ne (by omega), yPc_fr h.1]
theorem yPa_ok {σ : zS} {nd d n : Nat} (hnow : σ 30 0 1 < 20000) (h : yMok σ d n) : yMok (yPa σ nd) d n := by
  obtain ⟨a1, a2, a3, a4, a5, a6, a7, a8⟩ := h
  have e1 : yPa σ nd 30 0 1 = σ 30 0 1 + 1 := by unfold yPa; rw [zu_same]
  refine ⟨by rw [yPa_fr (by omega)]; exact a1, a2, by rw [yPa_fr (by omega)]; exact a3, fun j hj => ?_, fun a b ha hb => by rw [yPa_fr (by omega)]; exact a5 a b ha hb, by rw [e1]; omega, by rw [yPa_fr (by omega)]; exact a7, by rw [yPa_fr (by omega)]; exact a8⟩
  rw [yPa_fr (by omega), yPa_fr (by omega), yPa_fr (by omega)]
  exact a4 j hj
theorem yhr_fr {σ u : zS} {d n : Nat} (h : ∀ k, u 54 0 k = σ 54 0 k) : yhr u d n ↔ yhr σ d n := by
  unfold yhr
  simp only [h]

theorem yP2_fr {σ : zS} {nd : Nat} (h : ∀ d, d < nd → ∃ n, yMok σ d n) {κ k : Nat} (hk : κ ≠ 49 ∧ κ ≠ 52 ∧ κ ≠ 53 ∧ κ ≠ 54 ∧ κ ≠ 55 ∧ κ ≠ 56 ∧ κ ≠ 61 ∧ κ ≠ 62 ∧ κ ≠ 64 ∧ κ ≠ 72 ∧ ¬ (κ = 30 ∧ k = 17)) : ∀ i, i ≤ nd → yP2 i σ κ 0 k = σ κ 0 k
  | 0, _ => rfl
  | i + 1, hi => by
    obtain ⟨n', hn'⟩ := yP2_ok h i (by omega) i (Nat.le_refl _) (by omega)
    have e1 := hn'.1
    have e2 := hn'.2.1
    show yP1 i (yP2 i σ) κ 0 k = _
    rw [yP1_el (by omega) (by unfold yel; omega)]
    exact yP2_fr h hk i (by omega)

theorem yPe_st {σ : zS} {i : Nat} {x : Int} (h : x = if σ 64 0 i = 0 ∧ σ 67 0 i ≤ σ 30 0 1 then 4 else σ 64 0 i) : zu (yPe σ i) 64 0 i x = yPe σ (i + 1) := by
  funext κ i' k
  by_cases h1 : κ = 64 ∧ i' = 0 ∧ k = i
  · obtain ⟨rfl, rfl, rfl⟩ := h1
    rw [zu_same, h]
    exact (if_pos (by omega)).symm
  · rw [zu_ne h1]
    by_cases h2 : κ = 64 ∧ i' = 0 ∧ k < i
    · exact (if_pos h2 : yPe σ i κ i' k = _).trans (if_pos (show κ = 64 ∧ i' = 0 ∧ k < i + 1 by omega) : yPe σ (i + 1) κ i' k = _).symm
    · exact (if_neg h2 : yPe σ i κ i' k = _).trans (if_neg (show ¬ (κ = 64 ∧ i' = 0 ∧ k < i + 1) by omega) : yPe σ (i + 1) κ i' k = _).symm
