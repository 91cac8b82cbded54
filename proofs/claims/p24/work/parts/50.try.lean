/-! the model's tryRow -/
theorem yT_rg2 {w : Nat → Nat → Int} {t0 : Int} {Q : Nat → Int} : ∀ n, (∀ j, j < n → 0 ≤ w (Q j).toNat (Q (j + 1)).toNat ∧ w (Q j).toNat (Q (j + 1)).toNat ≤ 100000) → t0 ≤ yT w t0 Q n ∧ yT w t0 Q n ≤ t0 + 100000 * n
  | 0, _ => ⟨Int.le_refl _, by show t0 ≤ t0 + 100000 * (0 : Nat); omega⟩
  | n + 1, h => by
    have h1 := yT_rg2 (t0 := t0) n (fun j hj => h j (by omega))
    have h2 := h n (by omega)
    show t0 ≤ yT w t0 Q n + _ ∧ yT w t0 Q n + _ ≤ _
    omega
