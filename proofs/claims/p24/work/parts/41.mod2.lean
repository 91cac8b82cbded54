def yhr (σ : zS) (d i : Nat) : Prop := ∃ j, j < i ∧ σ 54 0 (8 * d + j) ≠ -1
theorem yhr_s {σ : zS} {d i : Nat} : yhr σ d (i + 1) ↔ yhr σ d i ∨ σ 54 0 (8 * d + i) ≠ -1 := by
  constructor
  · rintro ⟨j, h1, h2⟩
    rcases Nat.lt_or_ge j i with h | h
    · exact Or.inl ⟨j, h, h2⟩
    · rw [show j = i by omega] at h2
      exact Or.inr h2
  · rintro (⟨j, h1, h2⟩ | h)
    · exact ⟨j, by omega, h2⟩
    · exact ⟨i, by omega, h⟩
def yrt (σ : zS) (d : Nat) : Int := if min (σ 58 0 d) 10 = 0 then 500 else 100 * zsum (fun j => σ 59 0 (10 * d + j)) (min (σ 58 0 d) 10).toNat / min (σ 58 0 d) 10
def ywt (σ : zS) (k : Nat) : Prop := σ 64 0 k = 0 ∧ σ 65 0 k ≠ 0
noncomputable def ylc (σ : zS) : Nat → Nat
  | 0 => 0
  | n + 1 => @ite Nat (ywt σ n) (Classical.propDecidable _) (ylc σ n + 1) (ylc σ n)
theorem ylc_le (σ : zS) : ∀ n, ylc σ n ≤ n
  | 0 => Nat.le_refl _
  | n + 1 => by
    have h := ylc_le σ n
    unfold ylc
    split <;> omega
theorem ylc_t {σ : zS} {n : Nat} (h : ywt σ n) : ylc σ (n + 1) = ylc σ n + 1 := if_pos h
theorem ylc_f {σ : zS} {n : Nat} (h : ¬ ywt σ n) : ylc σ (n + 1) = ylc σ n := if_neg h
theorem ylc_mono {σ : zS} {a : Nat} : ∀ b, a ≤ b → ylc σ a ≤ ylc σ b
  | 0, h => by rw [show a = 0 by omega]; exact Nat.le_refl _
  | b + 1, h => by
    by_cases e : a = b + 1
    · rw [e]; exact Nat.le_refl _
    · have ih := ylc_mono (σ := σ) (a := a) b (by omega)
      have : ylc σ b ≤ ylc σ (b + 1) := by
        rcases Classical.em (ywt σ b) with h9 | h9
        · rw [ylc_t h9]; omega
        · rw [ylc_f h9]; exact Nat.le_refl _
      omega
noncomputable def ym1 (σ : zS) (z : Int) (j : Nat) : Int := 25 * zb (σ 64 0 j = 0 ∧ σ 65 0 j / 3 = z)
noncomputable def ym2 (σ : zS) (z : Int) (j : Nat) : Int := 25 * zb (ymf σ j ∧ σ 49 0 j / 3 = z)
theorem ym1_rg (σ : zS) (z : Int) (j : Nat) : 0 ≤ ym1 σ z j ∧ ym1 σ z j ≤ 25 := by
  unfold ym1
  rcases zb_01 (σ 64 0 j = 0 ∧ σ 65 0 j / 3 = z) with h | h <;> rw [h] <;> decide
theorem ym2_rg (σ : zS) (z : Int) (j : Nat) : 0 ≤ ym2 σ z j ∧ ym2 σ z j ≤ 25 := by
  unfold ym2
  rcases zb_01 (ymf σ j ∧ σ 49 0 j / 3 = z) with h | h <;> rw [h] <;> decide

def ycs (σ : zS) (d i : Nat) : Prop := (σ 51 0 d = 0 ∧ 0 < σ 52 0 d) ∧ ∀ j, j < i → σ 54 0 (8 * d + j) ≠ -1 ∧ σ 68 0 (σ 54 0 (8 * d + j) % 100).toNat = 1
theorem ycs_s {σ : zS} {d i : Nat} : ycs σ d (i + 1) ↔ ycs σ d i ∧ σ 54 0 (8 * d + i) ≠ -1 ∧ σ 68 0 (σ 54 0 (8 * d + i) % 100).toNat = 1 := by
  constructor
  · rintro ⟨h1, h2⟩
    exact ⟨⟨h1, fun j hj => h2 j (by omega)⟩, h2 i (by omega)⟩
  · rintro ⟨⟨h1, h2⟩, h3⟩
    refine ⟨h1, fun j hj => ?_⟩
    rcases Nat.lt_or_ge j i with h | h
    · exact h2 j h
    · rw [show j = i by omega]; exact h3
def ylo (σ : zS) (d : Nat) (j : Nat) : Int := if 100 ≤ σ 54 0 (8 * d + j) then 1 else 0
theorem ylo_rg (σ : zS) (d j : Nat) : 0 ≤ ylo σ d j ∧ ylo σ d j ≤ 1 := by
  unfold ylo
  split <;> omega
