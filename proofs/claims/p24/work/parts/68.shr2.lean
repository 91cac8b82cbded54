/-! a shared request is put: well formed still -/
theorem yws_sym {F : Int} {o p t : Nat → Int} : ∀ s a b, yws F o p t s a b = yws F o p t s b a
  | 0, a, b => by
    show (if a = b then (0 : Int) else F) = (if b = a then (0 : Int) else F)
    by_cases e : a = b
    · rw [if_pos e, if_pos e.symm]
    · rw [if_neg e, if_neg (fun c => e c.symm)]
  | s + 1, a, b => by
    have ih := yws_sym (F := F) (o := o) (p := p) (t := t) s a b
    show (if (a = (o s).toNat ∧ b = (p s).toNat) ∨ (a = (p s).toNat ∧ b = (o s).toNat) then _ else _ : Int) = (if (b = (o s).toNat ∧ a = (p s).toNat) ∨ (b = (p s).toNat ∧ a = (o s).toNat) then _ else _ : Int)
    by_cases e : (a = (o s).toNat ∧ b = (p s).toNat) ∨ (a = (p s).toNat ∧ b = (o s).toNat)
    · rw [if_pos e, if_pos (by omega)]
    · rw [if_neg e, if_neg (by omega)]
      exact ih
theorem ywf_sym {F : Int} {o p t : Nat → Int} {n : Nat} : ∀ m a b, ywf F o p t n m a b = ywf F o p t n m b a
  | 0, a, b => yws_sym n a b
  | m + 1, a, b => by
    have h1 := ywf_sym (F := F) (o := o) (p := p) (t := t) (n := n) m a b
    have h2 := ywf_sym (F := F) (o := o) (p := p) (t := t) (n := n) m a m
    have h3 := ywf_sym (F := F) (o := o) (p := p) (t := t) (n := n) m m b
    show min _ _ = min _ _
    omega
/-- there is a way -/
def yfn (σ : zS) (a b : Int) : Prop := σ 47 0 (10 * a.toNat + b.toNat) < 100000
theorem yfn_s {t : zS} {nd nr ns : Nat} {c B : Int} (h : yWF t nd nr ns c B) {a b : Int} (ha : 0 ≤ a ∧ a < 10) (hb : 0 ≤ b ∧ b < 10) (g : yfn t a b) : yfn t b a := by
  obtain ⟨⟨a1, a2, a5, a6, a7, a8, a9⟩, -⟩ := h
  unfold yfn at g ⊢
  rw [a9 _ _ (by omega) (by omega)] at g ⊢
  rw [ywf_sym]
  exact g
theorem yfn_t {t : zS} {nd nr ns : Nat} {c B : Int} (h : yWF t nd nr ns c B) {a b d : Int} (ha : 0 ≤ a ∧ a < 10) (hb : 0 ≤ b ∧ b < 10) (hd : 0 ≤ d ∧ d < 10) (g1 : yfn t a b) (g2 : yfn t b d) : yfn t a d := by
  have w1 := yWF_w h a.toNat b.toNat (by omega) (by omega)
  have w2 := yWF_w h b.toNat d.toNat (by omega) (by omega)
  obtain ⟨⟨a1, a2, a5, a6, a7, a8, a9⟩, -⟩ := h
  unfold yfn at g1 g2 ⊢
  have h1 := w1.2.2.1 g1
  have h2 := w2.2.2.1 g2
  rw [a9 _ _ (by omega) (by omega)] at h1 h2 ⊢
  have h3 := ywf_tri (F := 100000) (by decide) a8 10 a.toNat b.toNat d.toNat (by omega)
  omega
theorem yfn_ch {t : zS} {nd nr ns n : Nat} {c B : Int} (h : yWF t nd nr ns c B) {P : Nat → Int} (hP : ∀ j, j < n → 0 ≤ P j ∧ P j < 10) (hc : ∀ j, j + 1 < n → yfn t (P j) (P (j + 1))) : ∀ i j, i < n → j < n → yfn t (P i) (P j) := by
  have up : ∀ k i, i + k < n → yfn t (P i) (P (i + k)) := fun k => by
    induction k with
    | zero =>
      intro i hi
      have h1 := hP i hi
      obtain ⟨⟨a1, a2, a5, a6, a7, a8, a9⟩, -⟩ := id h
      unfold yfn
      rw [Nat.add_zero, a9 _ _ (by omega) (by omega), ywf_dg (by decide) a8 10]
      decide
    | succ k ih =>
      intro i hi
      exact yfn_t h (hP i (by omega)) (hP (i + k) (by omega)) (hP (i + (k + 1)) hi) (ih i (by omega)) (hc (i + k) hi)
  intro i j hi hj
  rcases Nat.le_total i j with e | e
  · have := up (j - i) i (by omega)
    rw [show i + (j - i) = j by omega] at this
    exact this
  · have := up (i - j) j (by omega)
    rw [show j + (i - j) = i by omega] at this
    exact yfn_s h (hP j hj) (hP i hi) this
/-- the row with both stops put in: all of it can be reached -/
theorem yzf_way {σ : zS} {nd nr ns q d n f s : Nat} {c B : Int} (h : yWF σ nd nr ns c B) (hq : q < nr) (hz : yzf σ nd q d n f s) : ∀ i j, i < n + 2 → j < n + 2 → yfn σ (yQ (yPd σ d) (σ 65 0 q) (σ 66 0 q) f s i) (yQ (yPd σ d) (σ 65 0 q) (σ 66 0 q) f s j) := by
  obtain ⟨z1, z2, z3, z4, z5, z6⟩ := hz
  have h6 := ycS_6 h z1 z2 z3
  obtain ⟨⟨a1, a2⟩, a3, a4, a5, a6, a7⟩ := h.2.1 d z1
  obtain ⟨c1, c2, c3, c4, cr⟩ := h.2.2.1 q hq
  have hP : ∀ j, j < n → 0 ≤ yPd σ d j ∧ yPd σ d j < 10 := fun j hj => a3 j (by omega)
  have hch := yfn_ch (P := yPd σ d) (n := n) h hP (fun j hj => a4 j (by omega))
  have hk := z6 f (by omega)
  have e80 : yly σ q d f s 80 0 f = (q : Int) := (if_pos rfl : yly σ q d f s 80 0 f = _).trans (if_pos rfl)
  rw [yko_1 e80] at hk
  have hk : yl1 σ q d f s f ≤ σ 67 0 q := hk
  have hnow := h.1.2.2.1
  have h7 := (ymo_rg (f := f) (s := s) h hq z1 z2 h6.2 h6.1 z5.1 z4.2 z5.2).2 (f - 1) (by omega)
  have e1 : yl1 σ q d f s f = yl1 σ q d f s (f - 1) + yW σ (yPd σ d (f - 1)).toNat (σ 65 0 q).toNat := by
    have e2 : yl1 σ q d f s (f - 1 + 1) = yl1 σ q d f s (f - 1) + yW σ (yQ (yPd σ d) (σ 65 0 q) (σ 66 0 q) f s (f - 1)).toNat (yQ (yPd σ d) (σ 65 0 q) (σ 66 0 q) f s (f - 1 + 1)).toNat := rfl
    have e3 : yQ (yPd σ d) (σ 65 0 q) (σ 66 0 q) f s (f - 1) = yPd σ d (f - 1) := by
      unfold yQ yold
      rw [if_neg (by omega), if_neg (by omega), if_neg (by omega), if_neg (by omega)]
      rfl
    have e4 : yQ (yPd σ d) (σ 65 0 q) (σ 66 0 q) f s (f - 1 + 1) = σ 65 0 q := if_pos (by omega)
    rw [e3, e4, show f - 1 + 1 = f by omega] at e2
    exact e2
  have hin : yfn σ (yPd σ d (f - 1)) (σ 65 0 q) := by
    show yW σ _ _ < 100000
    omega
  have hft : yfn σ (σ 65 0 q) (σ 66 0 q) := c3
  have toF : ∀ j, j < n + 2 → yfn σ (yQ (yPd σ d) (σ 65 0 q) (σ 66 0 q) f s j) (σ 65 0 q) := fun j hj => by
    unfold yQ
    by_cases e1 : j = f
    · rw [if_pos e1]
      exact yfn_t h c1 c2 c1 hft (yfn_s h c1 c2 hft)
    · rw [if_neg e1]
      by_cases e2 : j = s
      · rw [if_pos e2]
        exact yfn_s h c1 c2 hft
      · rw [if_neg e2]
        have hl := yold_lt z5.1 z4.2 z5.2 hj e1 e2
        exact yfn_t h (hP _ hl) (hP (f - 1) (by omega)) c1 (hch _ _ hl (by omega)) hin
  have hQ : ∀ j, j < n + 2 → 0 ≤ yQ (yPd σ d) (σ 65 0 q) (σ 66 0 q) f s j ∧ yQ (yPd σ d) (σ 65 0 q) (σ 66 0 q) f s j < 10 := fun j hj => yQ_rg z5.1 z4.2 z5.2 hj hP c1 c2
  exact fun i j hi hj => yfn_t h (hQ i hi) c1 (hQ j hj) (toF i hi) (yfn_s h (hQ j hj) c1 (toF j hj))
theorem yWF_mp {σ u : zS} {nd nr ns q d n f s : Nat} {c B : Int} (h : yWF σ nd nr ns c B) (hq : q < nr) (h0 : σ 64 0 q = 0) (hz : yzf σ nd q d n f s) (hu : ymp σ u d n f s q) : yWF u nd nr ns c B := by
  have hway := yzf_way h hq hz
  obtain ⟨z1, z2, z3, z4, z5, z6⟩ := id hz
  have h6 := ycS_6 h z1 z2 z3
  obtain ⟨u1, u2, ⟨u3, u4, u5, u6⟩, u7⟩ := hu
  obtain ⟨g, hds, hqs, hns⟩ := id h
  obtain ⟨⟨b1, b2, b3⟩, bg⟩ := id g
  have F : ∀ κ k, ¬ (κ = 79 ∨ κ = 80 ∨ κ = 81 ∨ ((κ = 53 ∨ κ = 54) ∧ 8 * d ≤ k ∧ k < 8 * d + n + 2) ∨ (κ = 52 ∧ k = d) ∨ ((κ = 64 ∨ κ = 70 ∨ κ = 71 ∨ κ = 73) ∧ k = q)) → u κ 0 k = σ κ 0 k := fun κ k hk => u7 κ 0 k hk
  obtain ⟨c1, c2, c3, c4, c5, c6, c7, c8, c9, c10, c11, c12⟩ := hqs q hq
  have hN : yDN u nr = yDN σ nr := yDN_same (fun p hp => by
    by_cases e : p = q
    · subst e; omega
    · rw [F 64 p (by omega)])
  refine ⟨yWg_ot g (fun κ k hk => F κ k (by omega)) (by rw [F 30 1 (by omega)]; exact bg.2.1) (by rw [F 30 17 (by omega)]; exact bg.2.2.2.1), fun d' hd9 => ?_, fun p hp => ?_, yWn_ot hns (fun κ k hk => F κ k (by omega))⟩
  · by_cases e : d' = d
    · subst e
      obtain ⟨⟨a1, a2⟩, a3, a4, a5, a6, a7, a8, a9, a10, a11⟩ := hds d' z1
      have hP : ∀ j, j < n → 0 ≤ yPd σ d' j ∧ yPd σ d' j < 10 := fun j hj => a3 j (by omega)
      refine ⟨⟨by rw [F 49 _ (by omega)]; exact a1, by rw [u1]; omega⟩, fun j hj => ?_, fun j hj => ?_, fun hj => ?_, by rw [F 55 _ (by omega)]; exact a6, ⟨by rw [F 58 _ (by omega)]; exact a7.1, fun j hj => by rw [F 59 _ (by omega)]; exact a7.2 j hj⟩, by rw [F 60 _ (by omega), F 30 1 (by omega)]; exact a8, by rw [F 61 _ (by omega), hN]; exact a9, by rw [F 61 _ (by omega), F 62 _ (by omega)]; exact a10, ?_⟩
      · rw [u1] at hj
        rw [(u2 j (by omega)).1]
        exact yQ_rg z5.1 z4.2 z5.2 (by omega) hP c1 c2
      · rw [u1] at hj
        rw [(u2 j (by omega)).1, (u2 (j + 1) (by omega)).1, F 47 _ (by omega)]
        exact hway j (j + 1) (by omega) (by omega)
      · have e0 := (u2 0 (by omega)).1
        rw [Nat.add_zero] at e0
        have e1 : yQ (fun j => σ 53 0 (8 * d' + j)) (σ 65 0 q) (σ 66 0 q) f s 0 = σ 53 0 (8 * d') := by
          unfold yQ yold
          rw [if_neg (by omega), if_neg (by omega)]
          show σ 53 0 (8 * d' + (0 - _ - _)) = _
          rw [Nat.zero_sub, Nat.zero_sub, Nat.add_zero]
        unfold ywy
        rw [e0, e1, F 49 _ (by omega), F 47 _ (by omega)]
        exact a5 (by omega)
      · rw [u1]
        rw [show (σ 52 0 d').toNat = n by omega] at a11
        rw [show ((n : Int) + 2).toNat = n + 2 by omega]
        exact yRS_put hq b2 z5.1 z4.2 z5.2 a11 h0 (fun j hj => (u2 j hj).2) u3 u4 (fun p hp hpq => ⟨F 64 p (by omega), F 70 p (by omega)⟩)
    · refine yWd_ot (hds d' hd9) (Int.le_refl _) (fun κ k hk => F κ k (by omega)) (by rw [F 30 1 (by omega)]; exact Int.le_refl _) (Nat.le_of_eq hN.symm) (fun p hp => ?_)
      by_cases e2 : p = q
      · subst e2
        rw [u4]
        have := c7 h0
        omega
      · rw [F 64 p (by omega), F 70 p (by omega)]
        exact ⟨fun h => ⟨rfl, h⟩, fun h _ => h⟩
  · by_cases e2 : p = q
    · subst e2
      have hwb := yWF_w h (σ 65 0 p).toNat (σ 66 0 p).toNat (by omega) (by omega)
      have hT := (ymo_rg (f := f) (s := s) h hq z1 z2 h6.2 h6.1 z5.1 z4.2 z5.2).2 f (by omega)
      have hT2 : yT (fun a b => σ 47 0 (10 * a + b)) (σ 55 0 d) (yQ (fun j => σ 53 0 (8 * d + j)) (σ 65 0 p) (σ 66 0 p) f s) f = yl1 σ p d f s f := rfl
      rw [hT2] at u6
      unfold yWq
      rw [u3, u4, u5, u6, F 65 _ (by omega), F 66 _ (by omega), F 67 _ (by omega), F 69 _ (by omega), F 72 _ (by omega), F 47 _ (by omega), F 30 1 (by omega)]
      exact ⟨c1, c2, c3, c4, c5, by omega, by omega, by omega, by omega, by omega, by omega, c12⟩
    · exact yWq_ot (hqs p hp) (Nat.le_refl _) (fun κ k hk => F κ k (by omega)) (by rw [F 30 1 (by omega)]; exact Int.le_refl _)
def ymq (σ : zS) (d n f s q : Nat) : zS := fun κ i k =>
  if κ = 53 ∧ 8 * d ≤ k ∧ k < 8 * d + n + 2 then yQ (fun j => σ 53 0 (8 * d + j)) (σ 65 0 q) (σ 66 0 q) f s (k - 8 * d)
  else if κ = 54 ∧ 8 * d ≤ k ∧ k < 8 * d + n + 2 then yQ (fun j => σ 54 0 (8 * d + j)) (q : Int) (100 + (q : Int)) f s (k - 8 * d)
  else if κ = 52 ∧ k = d then (n : Int) + 2 else if κ = 64 ∧ k = q then 1 else if κ = 70 ∧ k = q then (d : Int) else if κ = 73 ∧ k = q then σ 30 0 1
  else if κ = 71 ∧ k = q then (yT (fun a b => σ 47 0 (10 * a + b)) (σ 55 0 d) (yQ (fun j => σ 53 0 (8 * d + j)) (σ 65 0 q) (σ 66 0 q) f s)) f + σ 47 0 (10 * (σ 65 0 q).toNat + (σ 66 0 q).toNat) * 3 / 2
  else σ κ i k
theorem ymp_ex (σ : zS) (d n f s q : Nat) : ymp σ (ymq σ d n f s q) d n f s q := by
  refine ⟨?_, fun j hj => ⟨?_, ?_⟩, ⟨?_, ?_, ?_, ?_⟩, fun κ i k hk => ?_⟩
  · unfold ymq
    rw [if_neg (by omega), if_neg (by omega), if_pos (by omega)]
  · unfold ymq
    rw [if_pos (by omega), show 8 * d + j - 8 * d = j by omega]
  · unfold ymq
    rw [if_neg (by omega), if_pos (by omega), show 8 * d + j - 8 * d = j by omega]
  · unfold ymq
    rw [if_neg (by omega), if_neg (by omega), if_neg (by omega), if_pos (by omega)]
  · unfold ymq
    rw [if_neg (by omega), if_neg (by omega), if_neg (by omega), if_neg (by omega), if_pos (by omega)]
  · unfold ymq
    rw [if_neg (by omega), if_neg (by omega), if_neg (by omega), if_neg (by omega), if_neg (by omega), if_pos (by omega)]
  · unfold ymq
    rw [if_neg (by omega), if_neg (by omega), if_neg (by omega), if_neg (by omega), if_neg (by omega), if_neg (by omega), if_pos (by omega)]
  · unfold ymq
    rw [if_neg (by omega), if_neg (by omega), if_neg (by omega), if_neg (by omega), if_neg (by omega), if_neg (by omega), if_neg (by omega)]
/-! share, one by one -/
def yshC (v : zS) (nd k : Nat) : Prop := v 64 0 k = 0 ∧ v 68 0 k = 1 ∧ (yzs v k nd).2.1 ≠ -1
def ystp (v u : zS) (k nd : Nat) : Prop := (yshC v nd k ∧ ∃ d n f s : Nat, (yzs v k nd).2 = ((d : Int), (f : Int), (s : Int)) ∧ yzf v nd k d n f s ∧ ymp v u d n f s k) ∨ (¬ yshC v nd k ∧ zfr y79 v u)
noncomputable def yshR (nd : Nat) : Nat → zS → zS → Nat → Prop
  | 0, a, u, n => a = u ∧ n = 0
  | k + 1, a, u, n => ∃ (v : zS) (m : Nat), yshR nd k a v m ∧ ystp v u k nd ∧ n = m + @ite Nat (yshC v nd k) (Classical.propDecidable _) 1 0
theorem yWF_79 {t u : zS} {nd nr ns : Nat} {c B : Int} (h : yWF t nd nr ns c B) (e : zfr y79 t u) : yWF u nd nr ns c B :=
  yWF_fr h (fun κ k hk => e κ 0 k (by unfold yWk at hk; unfold y79; omega)) (Int.le_refl _) (by rw [e 30 0 17 (by unfold y79; omega)]; exact h.1.2.2.2.2.1)
theorem yWF_stp {v u : zS} {nd nr ns k : Nat} {c B : Int} (h : yWF v nd nr ns c B) (hk : k < nr) (hs : ystp v u k nd) : yWF u nd nr ns c B := by
  rcases hs with ⟨⟨h1, h2, h3⟩, d, n, f, s, h4, h5, h6⟩ | ⟨h1, h2⟩
  · exact yWF_mp h hk h1 h5 h6
  · exact yWF_79 h h2
theorem yWF_shR {a : zS} {nd nr ns : Nat} {c B : Int} (h : yWF a nd nr ns c B) : ∀ (k : Nat) (u : zS) (n : Nat), k ≤ nr → yshR nd k a u n → yWF u nd nr ns c B ∧ n ≤ k
  | 0, u, n, _, hr => by
    obtain ⟨rfl, rfl⟩ := hr
    exact ⟨h, Nat.le_refl _⟩
  | k + 1, u, n, hk, hr => by
    obtain ⟨v, m, h1, h2, h3⟩ := hr
    obtain ⟨h4, h5⟩ := yWF_shR h k v m (by omega) h1
    refine ⟨yWF_stp h4 (by omega) h2, ?_⟩
    rw [h3]
    split <;> omega
theorem ystp_ex {v : zS} {nd nr ns k : Nat} {c B : Int} (h : yWF v nd nr ns c B) (hk : k < nr) : ∃ u, ystp v u k nd := by
  by_cases hc : yshC v nd k
  · rcases yzs_ok h hk nd (Nat.le_refl _) with e | ⟨h1, d, n, f, s, h2, h3⟩
    · have := hc.2.2
      rw [e] at this
      exact absurd rfl this
    · exact ⟨ymq v d n f s k, Or.inl ⟨hc, d, n, f, s, h2, h3, ymp_ex v d n f s k⟩⟩
  · exact ⟨v, Or.inr ⟨hc, fun _ _ _ _ => rfl⟩⟩
