/-! WAYS: who can be reached, apart from how many minutes it takes -/
def ybw : Nat → Int
  | 0 => 20
  | m + 1 => 2 * ybw m
theorem ybw_le : ∀ m, m < 11 → 20 ≤ ybw m ∧ ybw m ≤ 20480 := by decide
def yR0 (o p : Nat → Int) : Nat → Nat → Nat → Prop
  | 0, a, b => a = b
  | s + 1, a, b => ((a = (o s).toNat ∧ b = (p s).toNat) ∨ (a = (p s).toNat ∧ b = (o s).toNat)) ∨ yR0 o p s a b
def yRm (o p : Nat → Int) (n : Nat) : Nat → Nat → Nat → Prop
  | 0, a, b => yR0 o p n a b
  | m + 1, a, b => yRm o p n m a b ∨ (yRm o p n m a m ∧ yRm o p n m m b)
theorem yws_R {F : Int} {o p t : Nat → Int} {n : Nat} (hF : 50000 ≤ F) (h : yst o p t n) : ∀ s, s ≤ n → ∀ a b, (yR0 o p s a b ∧ yws F o p t s a b ≤ 20) ∨ (¬ yR0 o p s a b ∧ yws F o p t s a b = F)
  | 0, _, a, b => by
    show (a = b ∧ (if a = b then (0 : Int) else F) ≤ 20) ∨ (¬ a = b ∧ (if a = b then (0 : Int) else F) = F)
    by_cases e : a = b
    · rw [if_pos e]; exact Or.inl ⟨e, by omega⟩
    · rw [if_neg e]; exact Or.inr ⟨e, rfl⟩
  | s + 1, hs, a, b => by
    have ih := yws_R hF h s (by omega)
    have hq := h s (by omega)
    have h1 := ih a b
    show (((a = (o s).toNat ∧ b = (p s).toNat) ∨ (a = (p s).toNat ∧ b = (o s).toNat)) ∨ yR0 o p s a b) ∧ (if (a = (o s).toNat ∧ b = (p s).toNat) ∨ (a = (p s).toNat ∧ b = (o s).toNat) then _ else _ : Int) ≤ 20 ∨ _ ∧ (if (a = (o s).toNat ∧ b = (p s).toNat) ∨ (a = (p s).toNat ∧ b = (o s).toNat) then _ else _ : Int) = F
    by_cases e : (a = (o s).toNat ∧ b = (p s).toNat) ∨ (a = (p s).toNat ∧ b = (o s).toNat)
    · rw [if_pos e]
      exact Or.inl ⟨Or.inl e, by omega⟩
    · rw [if_neg e]
      rcases h1 with ⟨g1, g2⟩ | ⟨g1, g2⟩
      · exact Or.inl ⟨Or.inr g1, g2⟩
      · exact Or.inr ⟨fun c => c.elim e g1, g2⟩
theorem ywf_R {F : Int} {o p t : Nat → Int} {n : Nat} (hF : 50000 ≤ F) (h : yst o p t n) : ∀ m, m ≤ 10 → ∀ a b, (yRm o p n m a b ∧ ywf F o p t n m a b ≤ ybw m) ∨ (¬ yRm o p n m a b ∧ ywf F o p t n m a b = F)
  | 0, _, a, b => yws_R hF h n (Nat.le_refl _) a b
  | m + 1, hm, a, b => by
    have h1 := ywf_R hF h m (by omega) a b
    have h2 := ywf_R hF h m (by omega) a m
    have h3 := ywf_R hF h m (by omega) m b
    have r1 := ywf_rg (F := F) (by omega) h m a b
    have r2 := ywf_rg (F := F) (by omega) h m a m
    have r3 := ywf_rg (F := F) (by omega) h m m b
    have hb := ybw_le m (by omega)
    show ((yRm o p n m a b ∨ (yRm o p n m a m ∧ yRm o p n m m b)) ∧ min _ _ ≤ 2 * ybw m) ∨ (¬ (yRm o p n m a b ∨ (yRm o p n m a m ∧ yRm o p n m m b)) ∧ min _ _ = F)
    rcases h1 with ⟨g1, k1⟩ | ⟨g1, k1⟩
    · exact Or.inl ⟨Or.inl g1, by omega⟩
    · rcases h2 with ⟨g2, k2⟩ | ⟨g2, k2⟩
      · rcases h3 with ⟨g3, k3⟩ | ⟨g3, k3⟩
        · exact Or.inl ⟨Or.inr ⟨g2, g3⟩, by omega⟩
        · exact Or.inr ⟨fun c => c.elim g1 (fun c => g3 c.2), by omega⟩
      · exact Or.inr ⟨fun c => c.elim g1 (fun c => g2 c.1), by omega⟩
theorem yws_same {F F' : Int} {o p t : Nat → Int} {n : Nat} (hF : 50000 ≤ F) (hF' : 50000 ≤ F') (h : yst o p t n) : ∀ s, s ≤ n → ∀ a b, yR0 o p s a b → yws F o p t s a b = yws F' o p t s a b
  | 0, _, a, b, g => by
    have g : a = b := g
    show (if a = b then (0 : Int) else F) = (if a = b then (0 : Int) else F')
    rw [if_pos g, if_pos g]
  | s + 1, hs, a, b, g => by
    have ih := yws_same hF hF' h s (by omega)
    have hq := h s (by omega)
    have x1 := yws_R hF h s (by omega) (o s).toNat (p s).toNat
    have x2 := yws_R hF' h s (by omega) (o s).toNat (p s).toNat
    show (if (a = (o s).toNat ∧ b = (p s).toNat) ∨ (a = (p s).toNat ∧ b = (o s).toNat) then _ else _ : Int) = (if (a = (o s).toNat ∧ b = (p s).toNat) ∨ (a = (p s).toNat ∧ b = (o s).toNat) then _ else _ : Int)
    by_cases e : (a = (o s).toNat ∧ b = (p s).toNat) ∨ (a = (p s).toNat ∧ b = (o s).toNat)
    · rw [if_pos e, if_pos e]
      rcases x1 with ⟨g1, k1⟩ | ⟨g1, k1⟩
      · rw [ih _ _ g1]
      · rcases x2 with ⟨g2, k2⟩ | ⟨g2, k2⟩
        · exact absurd g2 g1
        · omega
    · rw [if_neg e, if_neg e]
      exact ih a b (Or.resolve_left g e)
theorem ywf_same {F F' : Int} {o p t : Nat → Int} {n : Nat} (hF : 50000 ≤ F) (hF' : 50000 ≤ F') (h : yst o p t n) : ∀ m, m ≤ 10 → ∀ a b, yRm o p n m a b → ywf F o p t n m a b = ywf F' o p t n m a b
  | 0, _, a, b, g => yws_same hF hF' h n (Nat.le_refl _) a b g
  | m + 1, hm, a, b, g => by
    have i1 := ywf_same hF hF' h m (by omega) a b
    have i2 := ywf_same hF hF' h m (by omega) a m
    have i3 := ywf_same hF hF' h m (by omega) m b
    have h1 := ywf_R hF h m (by omega) a b
    have h2 := ywf_R hF h m (by omega) a m
    have h3 := ywf_R hF h m (by omega) m b
    have k1 := ywf_R hF' h m (by omega) a b
    have k2 := ywf_R hF' h m (by omega) a m
    have k3 := ywf_R hF' h m (by omega) m b
    have r1 := ywf_rg (F := F) (by omega) h m a b
    have r2 := ywf_rg (F := F) (by omega) h m a m
    have r3 := ywf_rg (F := F) (by omega) h m m b
    have s1 := ywf_rg (F := F') (by omega) h m a b
    have s2 := ywf_rg (F := F') (by omega) h m a m
    have s3 := ywf_rg (F := F') (by omega) h m m b
    have hb := ybw_le m (by omega)
    show min _ _ = min _ _
    by_cases e1 : yRm o p n m a b
    · by_cases e2 : yRm o p n m a m
      · by_cases e3 : yRm o p n m m b
        · rw [i1 e1, i2 e2, i3 e3]
        · have := i1 e1
          have a1 := h3.resolve_left (fun c => e3 c.1)
          have a2 := k3.resolve_left (fun c => e3 c.1)
          have a3 := h1.resolve_right (fun c => c.1 e1)
          have a4 := k1.resolve_right (fun c => c.1 e1)
          omega
      · have := i1 e1
        have a1 := h2.resolve_left (fun c => e2 c.1)
        have a2 := k2.resolve_left (fun c => e2 c.1)
        have a3 := h1.resolve_right (fun c => c.1 e1)
        have a4 := k1.resolve_right (fun c => c.1 e1)
        omega
    · have e2 : yRm o p n m a m ∧ yRm o p n m m b := g.resolve_left e1
      have a1 := h1.resolve_left (fun c => e1 c.1)
      have a2 := k1.resolve_left (fun c => e1 c.1)
      have a3 := h2.resolve_right (fun c => c.1 e2.1)
      have a4 := h3.resolve_right (fun c => c.1 e2.2)
      have a5 := k2.resolve_right (fun c => c.1 e2.1)
      have a6 := k3.resolve_right (fun c => c.1 e2.2)
      have := i2 e2.1
      have := i3 e2.2
      omega
/-- class and reference: the same minutes, or no way -/
theorem ywf_cm {o p t : Nat → Int} {n : Nat} (h : yst o p t n) (a b : Nat) : (ywf 100000 o p t n 10 a b ≤ 20480 ∧ ywf 1000000 o p t n 10 a b = ywf 100000 o p t n 10 a b) ∨ (ywf 100000 o p t n 10 a b = 100000 ∧ ywf 1000000 o p t n 10 a b = 1000000) := by
  rcases ywf_R (F := 100000) (by decide) h 10 (Nat.le_refl _) a b with ⟨g, k⟩ | ⟨g, k⟩
  · exact Or.inl ⟨k, ywf_same (by decide) (by decide) h 10 (Nat.le_refl _) a b g⟩
  · rcases ywf_R (F := 1000000) (by decide) h 10 (Nat.le_refl _) a b with ⟨g2, k2⟩ | ⟨g2, k2⟩
    · exact absurd g2 g
    · exact Or.inr ⟨k, k2⟩
theorem ywf_tri {F : Int} {o p t : Nat → Int} {n : Nat} (hF : 20 ≤ F) (h : yst o p t n) : ∀ m a b c, b < m → ywf F o p t n m a c ≤ ywf F o p t n m a b + ywf F o p t n m b c
  | 0, _, _, _, hb => absurd hb (Nat.not_lt_zero _)
  | m + 1, a, b, c, hb => by
    have mm := ywf_dg hF h m m
    have r1 := ywf_rg hF h m m b
    have r2 := ywf_rg hF h m b m
    have r3 := ywf_rg hF h m a m
    have r4 := ywf_rg hF h m m c
    show min (ywf F o p t n m a c) (ywf F o p t n m a m + ywf F o p t n m m c) ≤ min (ywf F o p t n m a b) (ywf F o p t n m a m + ywf F o p t n m m b) + min (ywf F o p t n m b c) (ywf F o p t n m b m + ywf F o p t n m m c)
    by_cases e : b = m
    · subst e; omega
    · have i1 := ywf_tri hF h m a b c (by omega)
      have i2 := ywf_tri hF h m m b c (by omega)
      have i3 := ywf_tri hF h m a b m (by omega)
      omega
theorem yws_pos {F : Int} {o p t : Nat → Int} {n : Nat} (hF : 20 ≤ F) (h : yst o p t n) : ∀ s, s ≤ n → ∀ a b, a ≠ b → 1 ≤ yws F o p t s a b
  | 0, _, a, b, e => by
    show 1 ≤ (if a = b then (0 : Int) else F)
    rw [if_neg e]; omega
  | s + 1, hs, a, b, e => by
    have ih := yws_pos hF h s (by omega)
    have hq := h s (by omega)
    have h1 := ih a b e
    have h2 := ih (o s).toNat (p s).toNat (by omega)
    show 1 ≤ ywe _ _ _ _ a b
    unfold ywe
    split <;> omega
theorem ywf_pos {F : Int} {o p t : Nat → Int} {n : Nat} (hF : 20 ≤ F) (h : yst o p t n) : ∀ m a b, a ≠ b → 1 ≤ ywf F o p t n m a b
  | 0, a, b, e => yws_pos hF h n (Nat.le_refl _) a b e
  | m + 1, a, b, e => by
    have h1 := ywf_pos hF h m a b e
    have r3 := ywf_rg hF h m a m
    have r4 := ywf_rg hF h m m b
    show 1 ≤ min _ _
    by_cases e2 : a = m
    · have := ywf_pos hF h m m b (by omega)
      omega
    · have := ywf_pos hF h m a m e2
      omega
theorem yR0_mono {o p o' p' : Nat → Int} {n n' : Nat} (hn : n ≤ n') (ho : ∀ k, k < n → o' k = o k ∧ p' k = p k) {a b : Nat} (h : yR0 o p n a b) : yR0 o' p' n' a b := by
  have g1 : yR0 o' p' n a b := by
    clear hn
    induction n with
    | zero => exact h
    | succ s ih =>
      obtain ⟨e1, e2⟩ := ho s (by omega)
      rcases h with h | h
      · refine Or.inl ?_
        rw [e1, e2]; exact h
      · exact Or.inr (ih (fun k hk => ho k (by omega)) h)
  induction n' with
  | zero =>
    obtain rfl : n = 0 := by omega
    exact g1
  | succ s ih =>
    by_cases e : n = s + 1
    · subst e; exact g1
    · exact Or.inr (ih (by omega))
theorem yRm_mono {o p o' p' : Nat → Int} {n n' : Nat} (hn : n ≤ n') (ho : ∀ k, k < n → o' k = o k ∧ p' k = p k) : ∀ m a b, yRm o p n m a b → yRm o' p' n' m a b
  | 0, _, _, h => yR0_mono hn ho h
  | m + 1, a, b, h => h.elim (fun h => Or.inl (yRm_mono hn ho m a b h)) (fun h => Or.inr ⟨yRm_mono hn ho m a m h.1, yRm_mono hn ho m m b h.2⟩)
/-- what can be reached stays so -/
theorem ywf_stay {o p t o' p' t' : Nat → Int} {n n' : Nat} (h : yst o p t n) (h' : yst o' p' t' n') (hn : n ≤ n') (ho : ∀ k, k < n → o' k = o k ∧ p' k = p k) {a b : Nat} (g : ywf 100000 o p t n 10 a b < 100000) : ywf 100000 o' p' t' n' 10 a b < 100000 := by
  rcases ywf_R (F := 100000) (by decide) h 10 (Nat.le_refl _) a b with ⟨g1, k⟩ | ⟨g1, k⟩
  · rcases ywf_R (F := 100000) (by decide) h' 10 (Nat.le_refl _) a b with ⟨g2, k2⟩ | ⟨g2, k2⟩
    · have := ybw_le 10 (by decide)
      omega
    · exact absurd (yRm_mono hn ho 10 a b g1) g2
  · omega
