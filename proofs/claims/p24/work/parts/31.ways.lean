/-! the shortest ways: as the class and the reference both find them, in any order of the same passes -/
def yw0 (F : Int) (a b : Nat) : Int := if a = b then 0 else F
def ywe (W : Nat → Nat → Int) (a b : Nat) (x : Int) : Nat → Nat → Int := fun i j => if (i = a ∧ j = b) ∨ (i = b ∧ j = a) then x else W i j
def yws (F : Int) (o p t : Nat → Int) : Nat → Nat → Nat → Int
  | 0 => yw0 F
  | s + 1 => ywe (yws F o p t s) (o s).toNat (p s).toNat (min (t s) (yws F o p t s (o s).toNat (p s).toNat))
def ywo (W : Nat → Nat → Int) (m : Nat) : Nat → Nat → Int := fun a b => min (W a b) (W a m + W m b)
def ywf (F : Int) (o p t : Nat → Int) (n : Nat) : Nat → Nat → Nat → Int
  | 0 => yws F o p t n
  | m + 1 => ywo (ywf F o p t n m) m
/-- the streets are good -/
def yst (o p t : Nat → Int) (n : Nat) : Prop := ∀ s, s < n → 0 ≤ o s ∧ o s < 10 ∧ 0 ≤ p s ∧ p s < 10 ∧ o s ≠ p s ∧ 1 ≤ t s ∧ t s ≤ 20
theorem yws_rg {F : Int} {o p t : Nat → Int} {n : Nat} (hF : 20 ≤ F) (h : yst o p t n) : ∀ s, s ≤ n → ∀ a b, 0 ≤ yws F o p t s a b ∧ yws F o p t s a b ≤ F
  | 0, _, a, b => by
    show 0 ≤ (if a = b then 0 else F) ∧ (if a = b then 0 else F) ≤ F
    split <;> omega
  | s + 1, hs, a, b => by
    have ih := yws_rg hF h s (by omega)
    have hq := h s (by omega)
    have h1 := ih a b
    have h2 := ih (o s).toNat (p s).toNat
    show 0 ≤ ywe _ _ _ _ a b ∧ ywe _ _ _ _ a b ≤ F
    unfold ywe
    split <;> omega
theorem yws_dg {F : Int} {o p t : Nat → Int} {n : Nat} (h : yst o p t n) : ∀ s, s ≤ n → ∀ a, yws F o p t s a a = 0
  | 0, _, a => if_pos rfl
  | s + 1, hs, a => by
    have ih := yws_dg (F := F) h s (by omega) a
    have hq := h s (by omega)
    show ywe _ _ _ _ a a = (0 : Int)
    unfold ywe
    rw [if_neg (by omega)]
    exact ih
theorem ywf_rg {F : Int} {o p t : Nat → Int} {n : Nat} (hF : 20 ≤ F) (h : yst o p t n) : ∀ m a b, 0 ≤ ywf F o p t n m a b ∧ ywf F o p t n m a b ≤ F
  | 0, a, b => yws_rg hF h n (Nat.le_refl _) a b
  | m + 1, a, b => by
    have h1 := ywf_rg hF h m a b
    have h2 := ywf_rg hF h m a m
    have h3 := ywf_rg hF h m m b
    show 0 ≤ min _ _ ∧ min _ _ ≤ F
    omega
theorem ywf_dg {F : Int} {o p t : Nat → Int} {n : Nat} (hF : 20 ≤ F) (h : yst o p t n) : ∀ m a, ywf F o p t n m a a = 0
  | 0, a => yws_dg h n (Nat.le_refl _) a
  | m + 1, a => by
    have h1 := ywf_dg hF h m a
    have h2 := ywf_rg hF h m a m
    have h3 := ywf_rg hF h m m a
    show min _ _ = (0 : Int)
    omega
