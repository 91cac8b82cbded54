def ymf (σ : zS) (d : Nat) : Prop := σ 52 0 d = 0 ∧ σ 50 0 d = 0 ∧ σ 51 0 d = 0
noncomputable def ybf (σ : zS) (d : Nat) : zS := @ite zS (ymf σ d) (Classical.propDecidable _) (zu (zu σ 30 0 17 (σ 30 0 17 + 1)) 56 0 d (σ 30 0 17 + 1)) σ
/-- the stops of d, n of them, one place down -/
def yms (σ : zS) (d n : Nat) : zS := fun κ i k => if (κ = 53 ∨ κ = 54) ∧ i = 0 ∧ 8 * d ≤ k ∧ k < 8 * d + n then σ κ i (k + 1) else σ κ i k
noncomputable def ymt (σ : zS) (d n : Nat) : zS :=
  if 100 ≤ σ 54 0 (8 * d) then zu (zu (zu (zu (zu (yms (zu σ 49 0 d (σ 53 0 (8 * d))) d n) 52 0 d n) 64 0 (σ 54 0 (8 * d) - 100).toNat 3) 72 0 (σ 54 0 (8 * d) - 100).toNat (σ 30 0 1)) 61 0 d (σ 61 0 d + 1)) 62 0 d (σ 62 0 d + σ 69 0 (σ 54 0 (8 * d) - 100).toNat)
  else if 0 ≤ σ 54 0 (8 * d) then zu (zu (yms (zu σ 49 0 d (σ 53 0 (8 * d))) d n) 52 0 d n) 64 0 (σ 54 0 (8 * d)).toNat 2
  else zu (yms (zu σ 49 0 d (σ 53 0 (8 * d))) d n) 52 0 d n
