/-! a minute passes, in the model -/
/-- what a driver does when a minute has passed -/
noncomputable def yP1 (d : Nat) (σ : zS) : zS := if 0 < σ 52 0 d ∧ σ 55 0 d ≤ σ 30 0 1 then ybf (yLV d ((σ 52 0 d).toNat - 1) (ymt σ d ((σ 52 0 d).toNat - 1))) d else σ
noncomputable def yP2 : Nat → zS → zS
  | 0, σ => σ
  | i + 1, σ => yP1 i (yP2 i σ)
/-- what the steps of the driver i leave as it was -/
def yel (i κ k : Nat) : Prop := ¬ ((κ = 49 ∨ κ = 52 ∨ κ = 55 ∨ κ = 56 ∨ κ = 61 ∨ κ = 62) ∧ k = i) ∧ ¬ ((κ = 53 ∨ κ = 54) ∧ 8 * i ≤ k ∧ k < 8 * i + 8) ∧ κ ≠ 64 ∧ κ ≠ 72 ∧ ¬ (κ = 30 ∧ k = 17)
theorem ymt_el {σ : zS} {d n κ i k : Nat} (hn : n ≤ 8) (h : yel d κ k) : ymt σ d n κ i k = σ κ i k := by
  unfold yel at h
  have e : yms (zu σ 49 0 d (σ 53 0 (8 * d))) d n κ i k = σ κ i k := by
    unfold yms
    rw [if_neg (by omega), zu_ne (by omega)]
  unfold ymt
  split
  · rw [zu_ne (by omega), zu_ne (by omega), zu_ne (by omega), zu_ne (by omega), zu_ne (by omega), e]
  · split
    · rw [zu_ne (by omega), zu_ne (by omega), e]
    · rw [zu_ne (by omega), e]
theorem yLV_el {d κ i k : Nat} (h : yel d κ k) : ∀ (n : Nat) (σ : zS), n ≤ 8 → yLV d n σ κ i k = σ κ i k
  | 0, _, _ => rfl
  | n + 1, σ, hn => by
    have e : zu σ 55 0 d (σ 30 0 1 + ywy σ d) κ i k = σ κ i k := by
      unfold yel at h
      rw [zu_ne (by omega)]
    show (if _ then _ else _ : zS) κ i k = _
    split
    · rw [yLV_el h n _ (by omega), ymt_el (by omega) h, e]
    · exact e
theorem ybf_el {σ : zS} {d κ i k : Nat} (h : yel d κ k) : ybf σ d κ i k = σ κ i k := by
  unfold yel at h
  unfold ybf
  split
  · rw [zu_ne (by omega), zu_ne (by omega)]
  · rfl
theorem yP1_el {σ : zS} {d κ i k : Nat} (hs : σ 52 0 d ≤ 8) (h : yel d κ k) : yP1 d σ κ i k = σ κ i k := by
  unfold yP1
  split
  · rw [ybf_el h, yLV_el h _ _ (by omega), ymt_el (by omega) h]
  · rfl
