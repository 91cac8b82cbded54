/-! the longest way is short: 180 minutes at most -/
theorem yR0_cl {o p : Nat → Int} {P : Nat → Prop} : ∀ s, (∀ k, k < s → (P (o k).toNat ↔ P (p k).toNat)) → ∀ a b, yR0 o p s a b → (P a ↔ P b)
  | 0, _, a, b, h => by
    have h : a = b := h
    rw [h]
  | s + 1, hc, a, b, h => by
    have h1 := hc s (by omega)
    rcases h with (⟨e1, e2⟩ | ⟨e1, e2⟩) | h
    · rw [e1, e2]; exact h1
    · rw [e1, e2]; exact h1.symm
    · exact yR0_cl s (fun k hk => hc k (by omega)) a b h
theorem yRm_cl {o p : Nat → Int} {n : Nat} {P : Nat → Prop} (hc : ∀ k, k < n → (P (o k).toNat ↔ P (p k).toNat)) : ∀ m a b, yRm o p n m a b → (P a ↔ P b)
  | 0, a, b, h => yR0_cl n hc a b h
  | m + 1, a, b, h => h.elim (fun h => yRm_cl hc m a b h) (fun h => (yRm_cl hc m a m h.1).trans (yRm_cl hc m m b h.2))
theorem yws_dn {F : Int} {o p t : Nat → Int} {a b : Nat} : ∀ s, yws F o p t (s + 1) a b ≤ yws F o p t s a b := fun s => by
  have hs := yws_sym (F := F) (o := o) (p := p) (t := t) s (p s).toNat (o s).toNat
  show (if (a = (o s).toNat ∧ b = (p s).toNat) ∨ (a = (p s).toNat ∧ b = (o s).toNat) then min (t s) (yws F o p t s (o s).toNat (p s).toNat) else yws F o p t s a b) ≤ _
  by_cases e : (a = (o s).toNat ∧ b = (p s).toNat) ∨ (a = (p s).toNat ∧ b = (o s).toNat)
  · rw [if_pos e]
    rcases e with ⟨e1, e2⟩ | ⟨e1, e2⟩
    · rw [e1, e2]; omega
    · rw [e1, e2, hs]; omega
  · rw [if_neg e]
    exact Int.le_refl _
theorem yws_ed {F : Int} {o p t : Nat → Int} {k : Nat} : ∀ s, k < s → yws F o p t s (o k).toNat (p k).toNat ≤ t k
  | 0, h => absurd h (Nat.not_lt_zero k)
  | s + 1, h => by
    by_cases e : k = s
    · subst e
      show (if ((o k).toNat = (o k).toNat ∧ (p k).toNat = (p k).toNat) ∨ _ then min (t k) (yws F o p t k (o k).toNat (p k).toNat) else _) ≤ _
      rw [if_pos (Or.inl ⟨rfl, rfl⟩)]
      omega
    · exact Int.le_trans (yws_dn s) (yws_ed s (by omega))
theorem ywf_dn {F : Int} {o p t : Nat → Int} {n a b : Nat} : ∀ m, ywf F o p t n m a b ≤ yws F o p t n a b
  | 0 => Int.le_refl _
  | m + 1 => by
    have ih := ywf_dn (F := F) (o := o) (p := p) (t := t) (n := n) (a := a) (b := b) m
    show min _ _ ≤ _
    omega
theorem ysm_lt {f g : Nat → Nat} {q : Nat} : ∀ {n : Nat}, q < n → f q < g q → (∀ j, j < n → f j ≤ g j) → ysm f n + 1 ≤ ysm g n
  | 0, h, _, _ => absurd h (Nat.not_lt_zero q)
  | n + 1, h, e, ot => by
    show ysm f n + f n + 1 ≤ ysm g n + g n
    by_cases c : q = n
    · subst c
      have := ysm_le (f := f) (g := g) (n := q) (fun j hj => ot j (by omega))
      omega
    · have := ysm_lt (show q < n by omega) e (fun j hj => ot j (by omega))
      have := ot n (by omega)
      omega
theorem ysm_le1 {f : Nat → Nat} (h : ∀ j, f j ≤ 1) : ∀ n, ysm f n ≤ n
  | 0 => Nat.le_refl 0
  | n + 1 => by
    have := ysm_le1 h n
    have := h n
    show ysm f n + f n ≤ n + 1
    omega
theorem ysm_all {f : Nat → Nat} (h : ∀ j, f j ≤ 1) : ∀ {n : Nat}, n ≤ ysm f n → ∀ j, j < n → f j = 1
  | 0, _, j, hj => absurd hj (Nat.not_lt_zero j)
  | n + 1, hn, j, hj => by
    have hn : n + 1 ≤ ysm f n + f n := hn
    have h1 := ysm_le1 h n
    have h2 := h n
    by_cases e : j = n
    · subst e; omega
    · exact ysm_all h (show n ≤ ysm f n by omega) j (by omega)
/-- how many places are at most 20 k minutes off -/
def yns9 (W : Nat → Nat → Int) (a k : Nat) : Nat := ysm (fun v => if W a v ≤ 20 * (k : Int) then 1 else 0) 10
theorem ywf_180 {F : Int} {o p t : Nat → Int} {n : Nat} (hF : 50000 ≤ F) (h : yst o p t n) {a b : Nat} (ha : a < 10) (hb : b < 10) (hl : ywf F o p t n 10 a b < F) : ywf F o p t n 10 a b ≤ 180 := by
  have hR : yRm o p n 10 a b := by
    rcases ywf_R hF h 10 (Nat.le_refl _) a b with ⟨g, -⟩ | ⟨-, g⟩
    · exact g
    · omega
  have h01 : ∀ k j : Nat, (if ywf F o p t n 10 a j ≤ 20 * (k : Int) then 1 else 0) ≤ 1 := fun k j => by split <;> omega
  have step : ∀ k : Nat, k ≤ 9 → ywf F o p t n 10 a b ≤ 180 ∨ k + 1 ≤ yns9 (ywf F o p t n 10) a k := fun k => by
    induction k with
    | zero =>
      intro _
      refine Or.inr ?_
      have e0 := ywf_dg (F := F) (by omega) h 10 a
      have := ysm_lt (f := fun _ => 0) (g := fun v => if ywf F o p t n 10 a v ≤ 20 * ((0 : Nat) : Int) then 1 else 0) ha (by show 0 < if _ then 1 else 0; rw [if_pos (by omega)]; decide) (fun j _ => Nat.zero_le _)
      rw [ysm_0] at this
      exact this
    | succ k ih =>
      intro hk
      rcases ih (by omega) with h1 | h1
      · exact Or.inl h1
      · by_cases hc : ∀ s, s < n → (ywf F o p t n 10 a (o s).toNat ≤ 20 * (k : Int) ↔ ywf F o p t n 10 a (p s).toNat ≤ 20 * (k : Int))
        · have h2 := (yRm_cl (P := fun v => ywf F o p t n 10 a v ≤ 20 * (k : Int)) hc 10 a b hR).1 (by
            have e0 := ywf_dg (F := F) (by omega) h 10 a
            show ywf F o p t n 10 a a ≤ _
            omega)
          have h2 : ywf F o p t n 10 a b ≤ 20 * (k : Int) := h2
          exact Or.inl (by omega)
        · obtain ⟨s, hs, hne⟩ : ∃ s, s < n ∧ ¬ (ywf F o p t n 10 a (o s).toNat ≤ 20 * (k : Int) ↔ ywf F o p t n 10 a (p s).toNat ≤ 20 * (k : Int)) := by
            by_cases q : ∃ s, s < n ∧ ¬ (ywf F o p t n 10 a (o s).toNat ≤ 20 * (k : Int) ↔ ywf F o p t n 10 a (p s).toNat ≤ 20 * (k : Int))
            · exact q
            · exact absurd (fun s hs => Classical.byContradiction fun c => q ⟨s, hs, c⟩) hc
          have hq := h s hs
          have hed : ywf F o p t n 10 (o s).toNat (p s).toNat ≤ 20 := by
            have x1 := ywf_dn (F := F) (o := o) (p := p) (t := t) (n := n) (a := (o s).toNat) (b := (p s).toNat) 10
            have x2 := yws_ed (F := F) (o := o) (p := p) (t := t) n hs
            omega
          have hed2 : ywf F o p t n 10 (p s).toNat (o s).toNat ≤ 20 := by rw [ywf_sym]; exact hed
          have new : ∃ v, v < 10 ∧ ¬ ywf F o p t n 10 a v ≤ 20 * (k : Int) ∧ ywf F o p t n 10 a v ≤ 20 * ((k + 1 : Nat) : Int) := by
            by_cases c1 : ywf F o p t n 10 a (o s).toNat ≤ 20 * (k : Int)
            · refine ⟨(p s).toNat, by omega, fun c2 => hne ⟨fun _ => c2, fun _ => c1⟩, ?_⟩
              have := ywf_tri (F := F) (by omega) h 10 a (o s).toNat (p s).toNat (by omega)
              omega
            · have c2 : ywf F o p t n 10 a (p s).toNat ≤ 20 * (k : Int) := Classical.byContradiction fun c2 => hne ⟨fun q => absurd q c1, fun q => absurd q c2⟩
              refine ⟨(o s).toNat, by omega, c1, ?_⟩
              have := ywf_tri (F := F) (by omega) h 10 a (p s).toNat (o s).toNat (by omega)
              omega
          obtain ⟨v, v1, v2, v3⟩ := new
          have := ysm_lt (f := fun v => if ywf F o p t n 10 a v ≤ 20 * (k : Int) then 1 else 0) (g := fun v => if ywf F o p t n 10 a v ≤ 20 * ((k + 1 : Nat) : Int) then 1 else 0) v1 (by
            show (if _ then 1 else 0) < if _ then 1 else 0
            rw [if_neg v2, if_pos v3]; decide) (fun j _ => by
            by_cases c : ywf F o p t n 10 a j ≤ 20 * (k : Int)
            · rw [if_pos c, if_pos (by omega)]; exact Nat.le_refl _
            · rw [if_neg c]; exact Nat.zero_le _)
          refine Or.inr ?_
          unfold yns9 at h1 ⊢
          omega
  rcases step 9 (Nat.le_refl _) with h1 | h1
  · exact h1
  · have h2 := ysm_all (f := fun v => if ywf F o p t n 10 a v ≤ 20 * ((9 : Nat) : Int) then 1 else 0) (fun j => h01 9 j) (n := 10) h1 b hb
    have h2 : (if ywf F o p t n 10 a b ≤ 20 * ((9 : Nat) : Int) then 1 else 0) = 1 := h2
    split at h2
    · omega
    · cases h2
theorem yfn_180 {t : zS} {nd nr ns : Nat} {c B : Int} (h : yWF t nd nr ns c B) {a b : Int} (ha : 0 ≤ a ∧ a < 10) (hb : 0 ≤ b ∧ b < 10) (g : yfn t a b) : 0 ≤ t 47 0 (10 * a.toNat + b.toNat) ∧ t 47 0 (10 * a.toNat + b.toNat) ≤ 180 := by
  have hw := yWF_w h a.toNat b.toNat (by omega) (by omega)
  obtain ⟨⟨a1, a2, a5, a6, a7, a8, a9⟩, -⟩ := h
  unfold yfn at g
  refine ⟨hw.1, ?_⟩
  rw [a9 _ _ (by omega) (by omega)] at g ⊢
  exact ywf_180 (by decide) a8 (by omega) (by omega) g
/-! the search for the least more: the same in both -/
theorem yT_180 {w : Nat → Nat → Int} {t0 : Int} {Q : Nat → Int} : ∀ n : Nat, (∀ j, j < n → 0 ≤ w (Q j).toNat (Q (j + 1)).toNat ∧ w (Q j).toNat (Q (j + 1)).toNat ≤ 180) → t0 ≤ yT w t0 Q n ∧ yT w t0 Q n ≤ t0 + 180 * n
  | 0, _ => ⟨Int.le_refl _, by show t0 ≤ t0 + 180 * ((0 : Nat) : Int); omega⟩
  | n + 1, h => by
    have h1 := yT_180 (t0 := t0) n (fun j hj => h j (by omega))
    have h2 := h n (by omega)
    show t0 ≤ yT w t0 Q n + w (Q n).toNat (Q (n + 1)).toNat ∧ yT w t0 Q n + w (Q n).toNat (Q (n + 1)).toNat ≤ _
    omega
theorem ykp_at {v : zS} {q f s : Nat} (hf : v 80 0 f = (q : Int)) (ho : ∀ j, j < s → j ≠ f → v 80 0 j ≠ (q : Int)) : ∀ i, f < i → i ≤ s → ykp v q i = v 81 0 f + v 47 0 (10 * (v 65 0 q).toNat + (v 66 0 q).toNat) * 3 / 2
  | 0, h, _ => absurd h (Nat.not_lt_zero f)
  | i + 1, h, hs => by
    show (if v 80 0 i = (q : Int) then _ else ykp v q i) = _
    by_cases e : i = f
    · subst e
      rw [if_pos hf]
    · rw [if_neg (ho i (by omega) e)]
      exact ykp_at hf ho i (by omega) (by omega)
theorem CP_keep {σ t : zS} {nd nr ns q d n f s : Nat} {c B : Int} (h : CP σ t nd nr ns) (hw : yWF t nd nr ns c B) (hq : q < nr) (h0 : t 64 0 q = 0) (hd : d < nd) (hn : t 52 0 d = (n : Int)) (hS : ycS t d n) (hfs : f < s) (hf1 : 1 ≤ f) (hf : f ≤ n) (hs : s ≤ n + 1) (hway : ∀ j, j < n + 1 → yfn t (yQ (yPd t d) (t 65 0 q) (t 66 0 q) f s j) (yQ (yPd t d) (t 65 0 q) (t 66 0 q) f s (j + 1))) : ((∀ j, j < n + 2 → yok1 σ d q f s j) ↔ yka (yly t q d f s) q (n + 2)) ∧ yT (σ 6) (σ 17 d 9) (yQ (σ 20 d) (σ 23 q 1) (σ 23 q 2) f s) (n + 1) = yl1 t q d f s (n + 1) ∧ ymo t q d n f s < 100000 := by
  have h6 := ycS_6 hw hd hn hS
  have hnr := hw.1.1.2.1
  have hTe : ∀ m, m ≤ n + 1 → yT (σ 6) (σ 17 d 9) (yQ (σ 20 d) (σ 23 q 1) (σ 23 q 2) f s) m = yl1 t q d f s m := fun m hm => CP_yT h hw hq hd hn h6.1 hfs hf hs hm (fun j hj => hway j (by omega))
  obtain ⟨g, hds, hqs⟩ := id h
  obtain ⟨⟨⟨a1, a2, a3, a4, a5, a6, a7, a8, a9⟩, a10, a11, a12⟩, a13⟩ := hds d hd
  obtain ⟨b1, b2, b3, b4, b5, b6, b7, b8, b9, b10, b11⟩ := hqs q hq
  obtain ⟨k1, k2, k3, k4⟩ := hw.2.2.1 q hq
  have hwd := hw.2.1 d hd
  have hP : ∀ j, j < n → 0 ≤ yPd t d j ∧ yPd t d j < 10 := fun j hj => hwd.2.1 j (by omega)
  have hQ : ∀ j, j < n + 2 → 0 ≤ yQ (yPd t d) (t 65 0 q) (t 66 0 q) f s j ∧ yQ (yPd t d) (t 65 0 q) (t 66 0 q) f s j < 10 := fun j hj => yQ_rg hfs hf hs hj hP k1 k2
  have eQ : ∀ j, j < n + 2 → yQ (σ 20 d) (σ 23 q 1) (σ 23 q 2) f s j = yQ (yPd t d) (t 65 0 q) (t 66 0 q) f s j := fun j hj => by
    unfold yQ
    rw [b1, b2]
    by_cases e1 : j = f
    · rw [if_pos e1, if_pos e1]
    · rw [if_neg e1, if_neg e1]
      by_cases e2 : j = s
      · rw [if_pos e2, if_pos e2]
      · rw [if_neg e2, if_neg e2]
        exact (a12 _ (by have := yold_lt hfs hf hs hj e1 e2; omega)).1
  have hleg : ∀ j, j < n + 1 → 0 ≤ yW t (yQ (yPd t d) (t 65 0 q) (t 66 0 q) f s j).toNat (yQ (yPd t d) (t 65 0 q) (t 66 0 q) f s (j + 1)).toNat ∧ yW t (yQ (yPd t d) (t 65 0 q) (t 66 0 q) f s j).toNat (yQ (yPd t d) (t 65 0 q) (t 66 0 q) f s (j + 1)).toNat ≤ 180 := fun j hj => yfn_180 hw (hQ j (by omega)) (hQ (j + 1) (by omega)) (hway j hj)
  have hT180 : ∀ m : Nat, m ≤ n + 1 → t 55 0 d ≤ yl1 t q d f s m ∧ yl1 t q d f s m ≤ t 55 0 d + 180 * m := fun m hm => yT_180 m (fun j hj => hleg j (by omega))
  have h55 := hwd.2.2.2.2.1
  have e2 : σ 6 (σ 23 q 1).toNat (σ 23 q 2).toNat = t 47 0 (10 * (t 65 0 q).toNat + (t 66 0 q).toNat) := by
    rw [b1, b2]; exact CP_way g (by omega) (by omega) k3
  have e80 : ∀ j, yly t q d f s 80 0 j = yQ (yUd t d) (q : Int) (100 + (q : Int)) f s j := fun j => if_pos rfl
  have e81 : ∀ j, yly t q d f s 81 0 j = yl1 t q d f s j := fun j => (if_neg (by decide) : yly t q d f s 81 0 j = _).trans (if_pos rfl)
  have eo : ∀ κ k, κ ≠ 80 ∧ κ ≠ 81 → yly t q d f s κ 0 k = t κ 0 k := fun κ k hk => (if_neg hk.1 : yly t q d f s κ 0 k = _).trans (if_neg hk.2)
  have wold : ∀ j, j < n → yUd t d j ≠ (q : Int) ∧ yUd t d j ≠ 100 + (q : Int) ∧ 0 ≤ yUd t d j ∧ ((0 ≤ yUd t d j ∧ yUd t d j < 60) ∨ (100 ≤ yUd t d j ∧ yUd t d j < 100 + (nr : Int))) := fun j hj => by
    have hr := yWF_row hw hd (j := j) (by omega)
    have hm := (hS.1.2 j hj).1
    unfold yUd
    rcases hr with e | ⟨e1, e2, e3, e4⟩ | ⟨e1, e2, e3, e4⟩
    · exact absurd e hm
    · refine ⟨fun c => ?_, by omega, e1, Or.inl ⟨e1, by omega⟩⟩
      rw [show (t 54 0 (8 * d + j)).toNat = q by omega] at e3
      omega
    · refine ⟨by omega, fun c => ?_, by omega, Or.inr ⟨e1, e2⟩⟩
      rw [show (t 54 0 (8 * d + j) - 100).toNat = q by omega] at e3
      omega
  have hqf : yly t q d f s 80 0 f = (q : Int) := (e80 f).trans (if_pos rfl)
  have hkp : ykp (yly t q d f s) q s = yl1 t q d f s f + t 47 0 (10 * (t 65 0 q).toNat + (t 66 0 q).toNat) * 3 / 2 := by
    rw [ykp_at (s := s) hqf (fun j hj hjf => by
      rw [e80]
      unfold yQ
      rw [if_neg hjf, if_neg (by omega)]
      exact (wold _ (yold_lt hfs hf hs (by omega) hjf (by omega))).1) s hfs (Nat.le_refl _), e81, eo 47 _ (by decide), eo 65 _ (by decide), eo 66 _ (by decide)]
  have one : ∀ j, j < n + 2 → (yok1 σ d q f s j ↔ yko (yly t q d f s) q j) := fun j hj => by
    have hT := hTe j (by omega)
    have hTf := hTe f (by omega)
    have hT1 := hT180 j (by omega)
    unfold yok1
    rw [hT, hTf, e2]
    have hleg1 : (0 < j → σ 6 (yQ (σ 20 d) (σ 23 q 1) (σ 23 q 2) f s (j - 1)).toNat (yQ (σ 20 d) (σ 23 q 1) (σ 23 q 2) f s j).toNat < 1000000) := fun hj0 => by
      rw [eQ (j - 1) (by omega), eQ j hj]
      have h1 := hQ (j - 1) (by omega)
      have h2 := hQ j hj
      have h3 := hway (j - 1) (by omega)
      rw [show j - 1 + 1 = j by omega] at h3
      rw [CP_way g (by omega) (by omega) h3]
      unfold yfn at h3
      omega
    constructor
    · rintro ⟨-, hl⟩
      unfold yla at hl
      by_cases ef : j = f
      · subst ef
        rw [if_pos rfl, b4] at hl
        rw [yko_1 hqf, e81, eo 67 _ (by decide)]
        exact hl
      · rw [if_neg ef] at hl
        by_cases es : j = s
        · subst es
          rw [if_pos rfl] at hl
          have hs8 : yly t q d f j 80 0 j = 100 + (q : Int) := by
            rw [e80]; unfold yQ; rw [if_neg ef, if_pos rfl]
          rw [yko_2 (by omega), e81, hs8, hkp]
          exact fun _ => ⟨fun _ => hl, fun hc => absurd (by omega) hc⟩
        · rw [if_neg es] at hl
          have hlt := yold_lt hfs hf hs hj ef es
          obtain ⟨x1, x2, x3, x4⟩ := wold _ hlt
          have hs8 : yly t q d f s 80 0 j = yUd t d (yold f s j) := by
            rw [e80]; unfold yQ; rw [if_neg ef, if_neg es]
          rw [yko_2 (by omega), e81, hs8]
          refine fun hge => ⟨fun hc => absurd (show yUd t d (yold f s j) = 100 + (q : Int) by omega) x2, fun _ => ?_⟩
          obtain ⟨w1, w2, w3⟩ := a12 (yold f s j) (by omega)
          have w2 : σ 21 d (yold f s j) = yUd t d (yold f s j) - 100 := w2.trans (if_neg (show ¬ yUd t d (yold f s j) < 100 by omega))
          have w3 : σ 22 d (yold f s j) = 1 := w3.trans (if_neg (show ¬ yUd t d (yold f s j) < 100 by omega))
          unfold yL at hl
          rw [if_pos ⟨by omega, w3⟩, w2, (hqs _ (by omega)).2.2.2.2.2.2.2.2.1] at hl
          rw [eo 71 _ (by decide)]
          exact hl
    · intro hk
      refine ⟨hleg1, ?_⟩
      unfold yla
      by_cases ef : j = f
      · subst ef
        rw [if_pos rfl, b4]
        rw [yko_1 hqf, e81, eo 67 _ (by decide)] at hk
        exact hk
      · rw [if_neg ef]
        by_cases es : j = s
        · subst es
          rw [if_pos rfl]
          have hs8 : yly t q d f j 80 0 j = 100 + (q : Int) := by
            rw [e80]; unfold yQ; rw [if_neg ef, if_pos rfl]
          rw [yko_2 (by omega), e81, hs8, hkp] at hk
          exact (hk (by omega)).1 (by omega)
        · rw [if_neg es]
          have hlt := yold_lt hfs hf hs hj ef es
          obtain ⟨x1, x2, x3, x4⟩ := wold _ hlt
          have hs8 : yly t q d f s 80 0 j = yUd t d (yold f s j) := by
            rw [e80]; unfold yQ; rw [if_neg ef, if_neg es]
          rw [yko_2 (by omega), e81, hs8] at hk
          obtain ⟨w1, w2, w3⟩ := a12 (yold f s j) (by omega)
          unfold yL
          by_cases c : yUd t d (yold f s j) < 100
          · have w3 : σ 22 d (yold f s j) = 0 := w3.trans (if_pos c)
            rw [if_neg (by omega)]
            omega
          · have w2 : σ 21 d (yold f s j) = yUd t d (yold f s j) - 100 := w2.trans (if_neg c)
            have w3 : σ 22 d (yold f s j) = 1 := w3.trans (if_neg c)
            have h9 := (hk (by omega)).2 (fun hc => x2 (by omega))
            rw [eo 71 _ (by decide)] at h9
            rw [if_pos ⟨by omega, w3⟩, w2, (hqs _ (by omega)).2.2.2.2.2.2.2.2.1]
            exact h9
  refine ⟨⟨fun hk j hj => (one j hj).1 (hk j hj), fun hk j hj => (one j hj).2 (hk j hj)⟩, hTe (n + 1) (Nat.le_refl _), ?_⟩
  have h1 := hT180 (n + 1) (Nat.le_refl _)
  have h2 := (ymo_rg (f := f) (s := s) hw hq hd hn h6.2 h6.1 hfs hf hs).1
  have h3 : t 55 0 d ≤ yl0 t d n := by
    refine (yT_rg2 (w := yW t) (t0 := t 55 0 d) (Q := yPd t d) (n - 1) (fun j hj => ?_)).1
    have p1 := hP j (by omega)
    have p2 := hP (j + 1) (by omega)
    have := yWF_w hw (yPd t d j).toNat (yPd t d (j + 1)).toNat (by omega) (by omega)
    exact ⟨this.1, this.2.1⟩
  unfold ymo
  omega
