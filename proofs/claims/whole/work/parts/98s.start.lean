/-! AT THE START -/
theorem yWF_start {o : Nat} {ad : zA} {t : zS} (h : zpMod o ad t) : yWF t 0 0 0 0 0 := by
  obtain ⟨-, -, h30, hz, hw⟩ := h
  have e : ∀ κ k, 44 ≤ κ → κ ≤ 81 → zn κ ≠ 0 → κ ≠ 47 → t κ 0 k = 0 := fun κ k h1 h2 h3 h4 => hz κ h1 h2 h3 h4 k
  have e8 : t 30 0 8 = 0 := by rw [h30]; rfl
  have e23 : t 30 0 23 = 0 := by rw [h30]; rfl
  have e3 : t 30 0 3 = 0 := by rw [h30]; rfl
  have e1 : t 30 0 1 = 0 := by rw [h30]; rfl
  have e2 : t 30 0 2 = 300 := by rw [h30]; rfl
  have e17 : t 30 0 17 = 0 := by rw [h30]; rfl
  have e44 : t 44 0 = fun _ => 0 := funext fun k => e 44 k (by decide) (by decide) (by decide) (by decide)
  have e45 : t 45 0 = fun _ => 0 := funext fun k => e 45 k (by decide) (by decide) (by decide) (by decide)
  have e46 : t 46 0 = fun _ => 0 := funext fun k => e 46 k (by decide) (by decide) (by decide) (by decide)
  refine ⟨⟨⟨by omega, by omega, by omega⟩, ⟨e8, e23, e3⟩, by omega, by omega, by omega, fun s hs => absurd hs (Nat.not_lt_zero s), fun a b ha hb => ?_⟩, fun d hd => absurd hd (Nat.not_lt_zero d), fun q hq => absurd hq (Nat.not_lt_zero q), fun d _ _ => ⟨⟨?_, ?_, ?_, ?_, ?_, ?_, ?_, ?_⟩, fun j _ => ?_⟩, fun q _ _ => ⟨?_, ?_, ?_⟩⟩
  · rw [hw a b ha hb, e44, e45, e46]
  · exact e 50 _ (by decide) (by decide) (by decide) (by decide)
  · exact e 51 _ (by decide) (by decide) (by decide) (by decide)
  · exact e 52 _ (by decide) (by decide) (by decide) (by decide)
  · exact e 58 _ (by decide) (by decide) (by decide) (by decide)
  · exact e 60 _ (by decide) (by decide) (by decide) (by decide)
  · exact e 61 _ (by decide) (by decide) (by decide) (by decide)
  · exact e 62 _ (by decide) (by decide) (by decide) (by decide)
  · rw [e 55 _ (by decide) (by decide) (by decide) (by decide)]; exact ⟨by decide, by decide⟩
  · exact e 59 _ (by decide) (by decide) (by decide) (by decide)
  · exact e 64 _ (by decide) (by decide) (by decide) (by decide)
  · exact e 73 _ (by decide) (by decide) (by decide) (by decide)
  · exact e 74 _ (by decide) (by decide) (by decide) (by decide)
theorem CP_start {o1 o2 : Nat} {ad ad' ad2 : zA} {σ u t : zS} (h : zpHail o1 ad σ ad' u) (g : zpMod o2 ad2 t) : CP u t 0 0 0 := by
  obtain ⟨-, -, -, -, h0, h1, h6, -, -⟩ := h
  obtain ⟨-, -, h30, -, hw⟩ := g
  refine ⟨⟨⟨?_, ?_, h1⟩, ⟨?_, ?_, ?_⟩, fun i hi => absurd hi (Nat.not_lt_zero i), fun i hi => absurd hi (Nat.not_lt_zero i), fun k hk => absurd hk (Nat.not_lt_zero k), fun a b ha hb => ?_⟩, fun d hd => absurd hd (Nat.not_lt_zero d), fun q hq => absurd hq (Nat.not_lt_zero q)⟩
  · rw [h0]; rfl
  · rw [h0]; rfl
  · rw [h0, h30]; rfl
  · rw [h0, h30]; rfl
  · rw [h0, h30]; rfl
  · rw [hw a b ha hb, h6 a b ha hb]
    rcases ywf_cm (o := fun _ => 0) (p := fun _ => 0) (t := fun _ => 0) (n := 0) (fun s hs => absurd hs (Nat.not_lt_zero s)) a b with ⟨q1, q2⟩ | ⟨q1, q2⟩
    · exact Or.inl ⟨by omega, q2⟩
    · exact Or.inr ⟨q1, q2⟩
