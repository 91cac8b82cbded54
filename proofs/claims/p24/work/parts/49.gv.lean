/-! the model's give -/
def ygp (σ : zS) (d q : Nat) : Int := σ 30 0 1 + σ 47 0 (10 * (σ 49 0 d).toNat + (σ 65 0 q).toNat) + σ 47 0 (10 * (σ 65 0 q).toNat + (σ 66 0 q).toNat) * 3 / 2
def ygm (σ : zS) (d q : Nat) : zS := zu (zu (zu (zu (zu (zu (zu (zu (zu (zu σ 64 0 q 1) 70 0 q (d : Int)) 73 0 q (σ 30 0 1)) 71 0 q (ygp σ d q)) 53 0 (8 * d) (σ 65 0 q)) 54 0 (8 * d) (q : Int)) 52 0 d 1) 53 0 (8 * d + 1) (σ 66 0 q)) 54 0 (8 * d + 1) ((100 + q : Nat) : Int)) 52 0 d 2
theorem yMok_gm {σ : zS} {d q : Nat} (hq : q < 60) (hpl : 0 ≤ σ 49 0 d ∧ σ 49 0 d < 10) (hf : 0 ≤ σ 65 0 q ∧ σ 65 0 q < 10) (ht : 0 ≤ σ 66 0 q ∧ σ 66 0 q < 10) (hww : ∀ a b, a < 10 → b < 10 → 0 ≤ σ 47 0 (10 * a + b) ∧ σ 47 0 (10 * a + b) ≤ 100000) (hnow : 0 ≤ σ 30 0 1 ∧ σ 30 0 1 ≤ 20000) (hdn : 0 ≤ σ 61 0 d ∧ σ 61 0 d ≤ 900) (her : 0 ≤ σ 62 0 d ∧ σ 62 0 d ≤ 900000000) (hpr : 0 ≤ σ 69 0 q ∧ σ 69 0 q ≤ 3000000) : yMok (ygm σ d q) d 2 := by
  have e : ∀ κ i k, κ ≠ 64 → κ ≠ 70 → κ ≠ 71 → κ ≠ 73 → κ ≠ 52 → κ ≠ 53 → κ ≠ 54 → ygm σ d q κ i k = σ κ i k := fun κ i k h1 h2 h3 h4 h5 h6 h7 => by
    unfold ygm
    rw [zu_ne (by omega), zu_ne (by omega), zu_ne (by omega), zu_ne (by omega), zu_ne (by omega), zu_ne (by omega), zu_ne (by omega), zu_ne (by omega), zu_ne (by omega), zu_ne (by omega)]
  have p0 : ygm σ d q 53 0 (8 * d) = σ 65 0 q := by
    unfold ygm
    rw [zu_ne (by omega), zu_ne (by omega), zu_ne (by omega), zu_ne (by omega), zu_ne (by omega), zu_same]
  have p1 : ygm σ d q 53 0 (8 * d + 1) = σ 66 0 q := by
    unfold ygm
    rw [zu_ne (by omega), zu_ne (by omega), zu_same]
  have w0 : ygm σ d q 54 0 (8 * d) = (q : Int) := by
    unfold ygm
    rw [zu_ne (by omega), zu_ne (by omega), zu_ne (by omega), zu_ne (by omega), zu_same]
  have w1 : ygm σ d q 54 0 (8 * d + 1) = ((100 + q : Nat) : Int) := by
    unfold ygm
    rw [zu_ne (by omega), zu_same]
  have n2 : ygm σ d q 52 0 d = 2 := by
    unfold ygm
    rw [zu_same]
  have E : ∀ κ i k, κ ≠ 64 ∧ κ ≠ 70 ∧ κ ≠ 71 ∧ κ ≠ 73 ∧ κ ≠ 52 ∧ κ ≠ 53 ∧ κ ≠ 54 → ygm σ d q κ i k = σ κ i k := fun κ i k h => e κ i k h.1 h.2.1 h.2.2.1 h.2.2.2.1 h.2.2.2.2.1 h.2.2.2.2.2.1 h.2.2.2.2.2.2
  refine ⟨n2, by decide, by rw [E 49 _ _ (by decide)]; exact hpl, fun j hj => ?_, fun a b ha hb => by rw [E 47 _ _ (by decide)]; exact hww a b ha hb, by rw [E 30 _ _ (by decide)]; exact hnow, by rw [E 61 _ _ (by decide)]; omega, by rw [E 62 _ _ (by decide)]; omega⟩
  rcases show j = 0 ∨ j = 1 by omega with rfl | rfl
  · rw [Nat.add_zero, p0, w0]
    exact ⟨hf, by omega, by omega, fun _ => by omega, fun h => absurd h (by omega)⟩
  · rw [p1, w1, E 69 _ _ (by decide)]
    refine ⟨ht, by omega, by omega, fun h => absurd h (by omega), fun _ => ?_⟩
    rw [show (((100 + q : Nat) : Int) - 100).toNat = q by omega]
    exact hpr
