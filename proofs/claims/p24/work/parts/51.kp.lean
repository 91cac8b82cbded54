/-! the model's keeps -/
def ykp (σ : zS) (q : Nat) : Nat → Int
  | 0 => 0
  | i + 1 => if σ 80 0 i = (q : Int) then σ 81 0 i + σ 47 0 (10 * (σ 65 0 q).toNat + (σ 66 0 q).toNat) * 3 / 2 else ykp σ q i
def yko (σ : zS) (q i : Nat) : Prop := if σ 80 0 i = (q : Int) then σ 81 0 i ≤ σ 67 0 q else (100 ≤ σ 80 0 i → σ 81 0 i ≤ if σ 80 0 i - 100 = (q : Int) then ykp σ q i else σ 71 0 (σ 80 0 i - 100).toNat)
theorem yko_1 {σ : zS} {q i : Nat} (h : σ 80 0 i = (q : Int)) : yko σ q i ↔ σ 81 0 i ≤ σ 67 0 q := by
  unfold yko
  rw [if_pos h]
theorem yko_2 {σ : zS} {q i : Nat} (h : ¬ σ 80 0 i = (q : Int)) : yko σ q i ↔ (100 ≤ σ 80 0 i → (σ 80 0 i - 100 = (q : Int) → σ 81 0 i ≤ ykp σ q i) ∧ (¬ σ 80 0 i - 100 = (q : Int) → σ 81 0 i ≤ σ 71 0 (σ 80 0 i - 100).toNat)) := by
  unfold yko
  rw [if_neg h]
  split
  · rename_i h2
    exact ⟨fun h3 h4 => ⟨fun _ => h3 h4, fun h5 => absurd h2 h5⟩, fun h3 h4 => (h3 h4).1 h2⟩
  · rename_i h2
    exact ⟨fun h3 h4 => ⟨fun h5 => absurd h5 h2, fun _ => h3 h4⟩, fun h3 h4 => (h3 h4).2 h2⟩
def yka (σ : zS) (q i : Nat) : Prop := ∀ j, j < i → yko σ q j
theorem yka_s {σ : zS} {q i : Nat} : yka σ q (i + 1) ↔ yka σ q i ∧ yko σ q i := by
  constructor
  · intro h
    exact ⟨fun j hj => h j (by omega), h i (by omega)⟩
  · rintro ⟨h1, h2⟩ j hj
    rcases Nat.lt_or_ge j i with h | h
    · exact h1 j h
    · rw [show j = i by omega]; exact h2
theorem ykp_rg {σ : zS} {q : Nat} (hw : 0 ≤ σ 47 0 (10 * (σ 65 0 q).toNat + (σ 66 0 q).toNat) ∧ σ 47 0 (10 * (σ 65 0 q).toNat + (σ 66 0 q).toNat) ≤ 100000) : ∀ n, (∀ j, j < n → 0 ≤ σ 81 0 j ∧ σ 81 0 j ≤ 2000000) → 0 ≤ ykp σ q n ∧ ykp σ q n ≤ 3000000
  | 0, _ => ⟨Int.le_refl _, by show (0 : Int) ≤ 3000000; decide⟩
  | n + 1, h => by
    have h1 := ykp_rg hw n (fun j hj => h j (by omega))
    have h2 := h n (by omega)
    unfold ykp
    split <;> omega
