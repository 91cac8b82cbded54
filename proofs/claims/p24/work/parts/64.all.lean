/-! all ways are tried -/
theorem zi_shr : ∀ d : Nat, d < 8 → ∀ t : Nat, t < 256 → zi (t : Int) >>> (zi (d : Int) &&& 31) = zi ((t >>> d : Nat) : Int) := by decide +kernel
theorem zi_tb : ∀ d : Nat, d < 8 → ∀ t : Nat, t < 256 → zi ((t >>> d : Nat) : Int) &&& zi 1 = zi (((t.testBit d).toNat : Nat) : Int) := by decide +kernel
/-- the minutes to be with q, -1 if it may not be -/
noncomputable def ymm (σ : zS) (q d : Nat) : Int := @ite Int (ymf σ d ∧ σ 47 0 (10 * (σ 49 0 d).toNat + (σ 65 0 q).toNat) < 100000 ∧ σ 30 0 1 + σ 47 0 (10 * (σ 49 0 d).toNat + (σ 65 0 q).toNat) ≤ σ 67 0 q) (Classical.propDecidable _) (σ 47 0 (10 * (σ 49 0 d).toNat + (σ 65 0 q).toNat)) (-1)
/-- the digits of a way, from behind -/
def ydg (D w m : Nat) : Nat := w / D ^ m % D
def ytk (nd w : Nat) : Nat → Nat
  | 0 => 0
  | m + 1 => if ydg (nd + 1) w m < nd then ytk nd w m ||| 2 ^ ydg (nd + 1) w m else ytk nd w m
def yvw (mn : Nat → Nat → Int) (nd n w : Nat) : Nat → Int
  | 0 => 0
  | m + 1 => if ydg (nd + 1) w m < nd then yvw mn nd n w m + (if yok mn (n - 1 - m) (ytk nd w m) (ydg (nd + 1) w m) = true then 10000 - mn (n - 1 - m) (ydg (nd + 1) w m) else -1000000) else yvw mn nd n w m
def ybb (mn : Nat → Nat → Int) (nd n : Nat) : Nat → Int × Nat
  | 0 => (-1, 0)
  | w + 1 => if (ybb mn nd n w).1 < yvw mn nd n w n then (yvw mn nd n w n, w) else ybb mn nd n w
theorem ytk_lt {nd w : Nat} (h : nd ≤ 8) : ∀ m, ytk nd w m < 256
  | 0 => by show (0 : Nat) < 256; decide
  | m + 1 => by
    have ih := ytk_lt (w := w) h m
    show (if _ then _ else _) < 256
    split
    · rename_i c
      have h2 : (2 : Nat) ^ ydg (nd + 1) w m < 2 ^ 8 := Nat.pow_lt_pow_right (by decide) (by omega)
      exact Nat.or_lt_two_pow (n := 8) ih h2
    · exact ih
theorem yvw_rg {mn : Nat → Nat → Int} {nd n w : Nat} (h : ∀ k d, k < n → d < nd → -1 ≤ mn k d ∧ mn k d ≤ 100000) : ∀ m : Nat, m ≤ n → -1000000 * (m : Int) ≤ yvw mn nd n w m ∧ yvw mn nd n w m ≤ 10001 * (m : Int)
  | 0, _ => ⟨Int.le_refl _, Int.le_refl _⟩
  | m + 1, hm => by
    have ih := yvw_rg (w := w) h m (by omega)
    by_cases c : ydg (nd + 1) w m < nd
    · have h2 := h (n - 1 - m) _ (by omega) c
      by_cases y : yok mn (n - 1 - m) (ytk nd w m) (ydg (nd + 1) w m) = true
      · have e : yvw mn nd n w (m + 1) = yvw mn nd n w m + (10000 - mn (n - 1 - m) (ydg (nd + 1) w m)) := (if_pos c).trans (by rw [if_pos y])
        omega
      · have e : yvw mn nd n w (m + 1) = yvw mn nd n w m + (-1000000) := (if_pos c).trans (by rw [if_neg y])
        omega
    · have e : yvw mn nd n w (m + 1) = yvw mn nd n w m := if_neg c
      omega
theorem ymf_fr {σ u : zS} {d : Nat} (h1 : u 52 0 d = σ 52 0 d) (h2 : u 50 0 d = σ 50 0 d) (h3 : u 51 0 d = σ 51 0 d) : ymf u d = ymf σ d := by
  unfold ymf
  rw [h1, h2, h3]
theorem ymm_rg (σ : zS) (q d : Nat) (h : 0 ≤ σ 47 0 (10 * (σ 49 0 d).toNat + (σ 65 0 q).toNat)) : -1 ≤ ymm σ q d ∧ ymm σ q d ≤ 100000 := by
  unfold ymm
  split
  · rename_i c; exact ⟨by omega, by have := c.2.1; omega⟩
  · exact ⟨by decide, by decide⟩
