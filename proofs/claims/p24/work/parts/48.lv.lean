/-! the model's leaves -/
def yMok (σ : zS) (d n : Nat) : Prop :=
  σ 52 0 d = (n : Int) ∧ n ≤ 8 ∧ (0 ≤ σ 49 0 d ∧ σ 49 0 d < 10) ∧ (∀ j, j < n → (0 ≤ σ 53 0 (8 * d + j) ∧ σ 53 0 (8 * d + j) < 10) ∧ -1 ≤ σ 54 0 (8 * d + j) ∧ σ 54 0 (8 * d + j) < 160 ∧ (σ 54 0 (8 * d + j) < 100 → σ 54 0 (8 * d + j) < 60) ∧ (100 ≤ σ 54 0 (8 * d + j) → 0 ≤ σ 69 0 (σ 54 0 (8 * d + j) - 100).toNat ∧ σ 69 0 (σ 54 0 (8 * d + j) - 100).toNat ≤ 3000000)) ∧ (∀ a b, a < 10 → b < 10 → 0 ≤ σ 47 0 (10 * a + b) ∧ σ 47 0 (10 * a + b) ≤ 100000) ∧ (0 ≤ σ 30 0 1 ∧ σ 30 0 1 ≤ 20000) ∧ (0 ≤ σ 61 0 d ∧ σ 61 0 d + n ≤ 1000) ∧ (0 ≤ σ 62 0 d ∧ σ 62 0 d + 3000000 * n ≤ 1000000000)
def ywy (σ : zS) (d : Nat) : Int := σ 47 0 (10 * (σ 49 0 d).toNat + (σ 53 0 (8 * d)).toNat)
noncomputable def yLV (d : Nat) : Nat → zS → zS
  | 0, σ => σ
  | n + 1, σ => if ywy σ d = 0 then yLV d n (ymt (zu σ 55 0 d (σ 30 0 1 + ywy σ d)) d n) else zu σ 55 0 d (σ 30 0 1 + ywy σ d)
theorem yms_fr {σ : zS} {d n κ i k : Nat} (h : κ ≠ 53 ∧ κ ≠ 54) : yms σ d n κ i k = σ κ i k := by
  unfold yms
  rw [if_neg (by omega)]
theorem ymt_fr {σ : zS} {d n κ i k : Nat} (h : ¬ (κ = 49 ∧ k = d) ∧ ¬ (κ = 52 ∧ k = d) ∧ κ ≠ 53 ∧ κ ≠ 54 ∧ ¬ (κ = 61 ∧ k = d) ∧ ¬ (κ = 62 ∧ k = d) ∧ κ ≠ 64 ∧ κ ≠ 72) : ymt σ d n κ i k = σ κ i k := by
  unfold ymt
  split
  · rw [zu_ne (by omega), zu_ne (by omega), zu_ne (by omega), zu_ne (by omega), zu_ne (by omega), yms_fr (by omega), zu_ne (by omega)]
  · split
    · rw [zu_ne (by omega), zu_ne (by omega), yms_fr (by omega), zu_ne (by omega)]
    · rw [zu_ne (by omega), yms_fr (by omega), zu_ne (by omega)]
theorem ymt_49 (σ : zS) (d n : Nat) : ymt σ d n 49 0 d = σ 53 0 (8 * d) := by
  unfold ymt
  split
  · rw [zu_ne (by omega), zu_ne (by omega), zu_ne (by omega), zu_ne (by omega), zu_ne (by omega), yms_fr (by omega), zu_same]
  · split
    · rw [zu_ne (by omega), zu_ne (by omega), yms_fr (by omega), zu_same]
    · rw [zu_ne (by omega), yms_fr (by omega), zu_same]
theorem ymt_52 (σ : zS) (d n : Nat) : ymt σ d n 52 0 d = (n : Int) := by
  unfold ymt
  split
  · rw [zu_ne (by omega), zu_ne (by omega), zu_ne (by omega), zu_ne (by omega), zu_same]
  · split
    · rw [zu_ne (by omega), zu_same]
    · rw [zu_same]
theorem ymt_st (σ : zS) (d n : Nat) {κ j : Nat} (hκ : κ = 53 ∨ κ = 54) (hj : j < n) : ymt σ d n κ 0 (8 * d + j) = σ κ 0 (8 * d + (j + 1)) := by
  have h : yms (zu σ 49 0 d (σ 53 0 (8 * d))) d n κ 0 (8 * d + j) = σ κ 0 (8 * d + (j + 1)) := by
    unfold yms
    rw [if_pos (by omega), zu_ne (by omega)]
    rfl
  unfold ymt
  split
  · rw [zu_ne (by omega), zu_ne (by omega), zu_ne (by omega), zu_ne (by omega), zu_ne (by omega), h]
  · split
    · rw [zu_ne (by omega), zu_ne (by omega), h]
    · rw [zu_ne (by omega), h]
theorem ymt_61 (σ : zS) (d n : Nat) : ymt σ d n 61 0 d = σ 61 0 d ∨ ymt σ d n 61 0 d = σ 61 0 d + 1 := by
  unfold ymt
  split
  · right; rw [zu_ne (by omega), zu_same]
  · left
    split
    · rw [zu_ne (by omega), zu_ne (by omega), yms_fr (by omega), zu_ne (by omega)]
    · rw [zu_ne (by omega), yms_fr (by omega), zu_ne (by omega)]
theorem ymt_62 (σ : zS) (d n : Nat) : ymt σ d n 62 0 d = σ 62 0 d ∨ (100 ≤ σ 54 0 (8 * d) ∧ ymt σ d n 62 0 d = σ 62 0 d + σ 69 0 (σ 54 0 (8 * d) - 100).toNat) := by
  unfold ymt
  split
  · right; rw [zu_same]; exact ⟨by assumption, rfl⟩
  · left
    split
    · rw [zu_ne (by omega), zu_ne (by omega), yms_fr (by omega), zu_ne (by omega)]
    · rw [zu_ne (by omega), yms_fr (by omega), zu_ne (by omega)]
theorem yMok_r {σ : zS} {d n : Nat} (v : Int) (h : yMok σ d n) : yMok (zu σ 55 0 d v) d n := by
  have e : ∀ κ i k, κ ≠ 55 → zu σ 55 0 d v κ i k = σ κ i k := fun κ i k h => zu_ne (by omega)
  unfold yMok
  simp only [e 52 _ _ (by decide), e 49 _ _ (by decide), e 53 _ _ (by decide), e 54 _ _ (by decide), e 69 _ _ (by decide), e 47 _ _ (by decide), e 30 _ _ (by decide), e 61 _ _ (by decide), e 62 _ _ (by decide)]
  exact h
theorem yMok_nx {σ : zS} {d n : Nat} (h : yMok σ d (n + 1)) : yMok (ymt σ d n) d n := by
  obtain ⟨a1, a2, a3, a4, a5, a6, a7, a8⟩ := h
  have g61 := ymt_61 σ d n
  have g62 := ymt_62 σ d n
  have h0 := a4 0 (by omega)
  refine ⟨ymt_52 σ d n, by omega, by rw [ymt_49]; exact h0.1, fun j hj => ?_, fun a b ha hb => ?_, ?_, ⟨by omega, by omega⟩, ?_⟩
  · have h1 := a4 (j + 1) (by omega)
    rw [ymt_st σ d n (Or.inl rfl) hj, ymt_st σ d n (Or.inr rfl) hj, ymt_fr (κ := 69) (by omega)]
    exact h1
  · rw [ymt_fr (by omega)]; exact a5 a b ha hb
  · rw [ymt_fr (by omega)]; exact a6
  · rcases g62 with h | ⟨h1, h⟩
    · rw [h]; omega
    · have h2 := h0.2.2.2.2 h1
      rw [h]
      have h3 : σ 69 0 (σ 54 0 (8 * d) - 100).toNat = σ 69 0 (σ 54 0 (8 * d + 0) - 100).toNat := rfl
      omega
