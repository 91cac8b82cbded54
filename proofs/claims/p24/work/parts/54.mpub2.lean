/-- a stop alone, to wander to -/
def ywd (σ : zS) (d : Nat) (b : Int) : zS := zu (zu (zu (zu σ 30 0 0 0) 53 0 (8 * d) b) 54 0 (8 * d) (-1)) 52 0 d 1
theorem yMok_wd {σ : zS} {d : Nat} {b : Int} (hb : 0 ≤ b ∧ b ≤ 9) (hpl : 0 ≤ σ 49 0 d ∧ σ 49 0 d < 10) (hww : ∀ a b, a < 10 → b < 10 → 0 ≤ σ 47 0 (10 * a + b) ∧ σ 47 0 (10 * a + b) ≤ 100000) (hnow : 0 ≤ σ 30 0 1 ∧ σ 30 0 1 ≤ 20000) (hdn : 0 ≤ σ 61 0 d ∧ σ 61 0 d ≤ 900) (her : 0 ≤ σ 62 0 d ∧ σ 62 0 d ≤ 900000000) : yMok (ywd σ d b) d 1 := by
  have E : ∀ κ i k, (κ ≠ 52 ∧ κ ≠ 53 ∧ κ ≠ 54 ∧ ¬ (κ = 30 ∧ k = 0)) → ywd σ d b κ i k = σ κ i k := fun κ i k h => by
    unfold ywd
    rw [zu_ne (by omega), zu_ne (by omega), zu_ne (by omega), zu_ne (by omega)]
  have p0 : ywd σ d b 53 0 (8 * d) = b := by
    unfold ywd
    rw [zu_ne (by omega), zu_ne (by omega), zu_same]
  have w0 : ywd σ d b 54 0 (8 * d) = -1 := by
    unfold ywd
    rw [zu_ne (by omega), zu_same]
  refine ⟨by unfold ywd; rw [zu_same]; rfl, by decide, by rw [E 49 _ _ (by omega)]; exact hpl, fun j hj => ?_, fun a b ha hb => by rw [E 47 _ _ (by omega)]; exact hww a b ha hb, by rw [E 30 _ _ (by omega)]; exact hnow, by rw [E 61 _ _ (by omega)]; omega, by rw [E 62 _ _ (by omega)]; omega⟩
  obtain rfl : j = 0 := by omega
  rw [Nat.add_zero, p0, w0]
  exact ⟨by omega, by omega, by omega, fun _ => by omega, fun h => absurd h (by omega)⟩

noncomputable def yri (σ : zS) (q : Nat) (w : Int) : Int := if w = 0 then σ 64 0 q else if w = 1 then σ 69 0 q else if w = 2 then σ 70 0 q else if w = 3 then σ 71 0 q else if w = 4 then σ 72 0 q else if w = 5 then zb (σ 71 0 q < σ 72 0 q) else σ 67 0 q

noncomputable def ydi (σ : zS) (d : Nat) (w : Int) : Int := if w = 0 then σ 49 0 d else if w = 1 then σ 52 0 d else if w = 2 then (if σ 52 0 d = 0 then -1 else σ 55 0 d) else if w = 3 then zb (ymf σ d) else if w = 4 then yrt σ d else if w = 5 then σ 60 0 d else σ 61 0 d
theorem yrt_z (σ : zS) (x : Int) (d : Nat) : yrt (zu σ 30 0 0 x) d = yrt σ d := by
  have h58 : zu σ 30 0 0 x 58 = σ 58 := funext fun a => funext fun b => zu_ne (by omega)
  have h59 : zu σ 30 0 0 x 59 = σ 59 := funext fun a => funext fun b => zu_ne (by omega)
  unfold yrt
  rw [h58, h59]
theorem ymf_z (σ : zS) (x : Int) (d : Nat) : ymf (zu σ 30 0 0 x) d = ymf σ d := by
  unfold ymf
  rw [zu_ne (by omega), zu_ne (by omega), zu_ne (by omega)]
