/-! the public methods of the model, the short ones -/

noncomputable def ymr (σ : zS) (d : Nat) (x : Int) : zS := if σ 50 0 d ≠ 0 ∧ x = 0 then ybf (zu (zu σ 30 0 0 0) 50 0 d x) d else zu (zu σ 30 0 0 0) 50 0 d x

/-- the ways are found anew -/
def yfw (v u : zS) (ns : Nat) : Prop := (∀ a b, a < 10 → b < 10 → u 47 0 (10 * a + b) = ywf 100000 (v 44 0) (v 45 0) (v 46 0) ns 10 a b) ∧ zfr (fun κ _ _ => κ = 47) v u

theorem ybf_8 (σ : zS) (d : Nat) : ybf σ d 30 0 8 = σ 30 0 8 := by
  unfold ybf
  split
  · rw [zu_ne (by omega), zu_ne (by omega)]
  · rfl
