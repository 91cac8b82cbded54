/-! MATCHES: by sets, by trying all ways, by drivers: the same most, and the same first way -/
theorem ymx_0 {m0 : Int} {P : Nat → Bool} {g : Nat → Int} : ∀ n, m0 ≤ ymx m0 P g n
  | 0 => Int.le_refl _
  | n + 1 => by
    have ih := ymx_0 (m0 := m0) (P := P) (g := g) n
    by_cases c : P n = true
    · rw [show ymx m0 P g (n + 1) = max (ymx m0 P g n) (g n) from if_pos c]
      omega
    · rw [show ymx m0 P g (n + 1) = ymx m0 P g n from if_neg c]
      exact ih
theorem ymx_ge {m0 : Int} {P : Nat → Bool} {g : Nat → Int} : ∀ {n d : Nat}, d < n → P d = true → g d ≤ ymx m0 P g n
  | 0, d, h, _ => absurd h (Nat.not_lt_zero d)
  | n + 1, d, h, hp => by
    by_cases e : d = n
    · subst e
      rw [show ymx m0 P g (d + 1) = max (ymx m0 P g d) (g d) from if_pos hp]
      omega
    · have ih := ymx_ge (m0 := m0) (g := g) (show d < n by omega) hp
      by_cases c : P n = true
      · rw [show ymx m0 P g (n + 1) = max (ymx m0 P g n) (g n) from if_pos c]
        omega
      · rw [show ymx m0 P g (n + 1) = ymx m0 P g n from if_neg c]
        exact ih
theorem ymx_ex {m0 : Int} {P : Nat → Bool} {g : Nat → Int} : ∀ n, ymx m0 P g n = m0 ∨ ∃ d, d < n ∧ P d = true ∧ ymx m0 P g n = g d
  | 0 => Or.inl rfl
  | n + 1 => by
    by_cases c : P n = true
    · have e : ymx m0 P g (n + 1) = max (ymx m0 P g n) (g n) := if_pos c
      rw [e]
      rcases Int.le_total (ymx m0 P g n) (g n) with h | h
      · exact Or.inr ⟨n, by omega, c, by omega⟩
      · rw [show max (ymx m0 P g n) (g n) = ymx m0 P g n by omega]
        rcases ymx_ex (m0 := m0) (P := P) (g := g) n with h2 | ⟨d, h2, h3, h4⟩
        · exact Or.inl h2
        · exact Or.inr ⟨d, by omega, h3, h4⟩
    · have e : ymx m0 P g (n + 1) = ymx m0 P g n := if_neg c
      rw [e]
      rcases ymx_ex (m0 := m0) (P := P) (g := g) n with h2 | ⟨d, h2, h3, h4⟩
      · exact Or.inl h2
      · exact Or.inr ⟨d, by omega, h3, h4⟩
theorem yfi_sp {P : Nat → Bool} : ∀ n, (yfi P n = -1 ∧ ∀ i, i < n → P i = false) ∨ (0 ≤ yfi P n ∧ yfi P n < n ∧ P (yfi P n).toNat = true ∧ ∀ i, i < (yfi P n).toNat → P i = false)
  | 0 => Or.inl ⟨rfl, fun i hi => absurd hi (Nat.not_lt_zero i)⟩
  | n + 1 => by
    rcases yfi_sp (P := P) n with ⟨h1, h2⟩ | ⟨h1, h2, h3⟩
    · have e := yfi_s h1
      by_cases c : P n = true
      · rw [if_pos c] at e
        rw [e]
        exact Or.inr ⟨by omega, by omega, by rw [show ((n : Int)).toNat = n by omega]; exact c, fun i hi => h2 i (by omega)⟩
      · rw [if_neg c] at e
        refine Or.inl ⟨e, fun i hi => ?_⟩
        by_cases ei : i = n
        · subst ei
          exact Bool.not_eq_true _ ▸ c
        · exact h2 i (by omega)
    · have e : yfi P (n + 1) = yfi P n := yfi_up (by omega) (n + 1) (by omega)
      rw [e]
      exact Or.inr ⟨h1, by omega, h3⟩
/-- the lowest driver by whom a row comes to the most, nd for none; k rows are left behind it -/
def ych (mn : Nat → Nat → Int) (nd n k t : Nat) : Nat := if yfi (fun i => yok mn (n - (k + 1)) t i && decide (ygv mn (yB mn nd n k) (n - (k + 1)) t i = yB mn nd n (k + 1) t)) nd = -1 then nd else (yfi (fun i => yok mn (n - (k + 1)) t i && decide (ygv mn (yB mn nd n k) (n - (k + 1)) t i = yB mn nd n (k + 1) t)) nd).toNat
theorem ych_sp (mn : Nat → Nat → Int) (nd n k t : Nat) : ych mn nd n k t ≤ nd ∧ (ych mn nd n k t < nd → yok mn (n - (k + 1)) t (ych mn nd n k t) = true ∧ ygv mn (yB mn nd n k) (n - (k + 1)) t (ych mn nd n k t) = yB mn nd n (k + 1) t) ∧ (ych mn nd n k t = nd → yB mn nd n (k + 1) t = yB mn nd n k t) ∧ ∀ i, i < nd → yok mn (n - (k + 1)) t i = true → ygv mn (yB mn nd n k) (n - (k + 1)) t i = yB mn nd n (k + 1) t → ych mn nd n k t ≤ i := by
  unfold ych
  generalize hP : (fun i => yok mn (n - (k + 1)) t i && decide (ygv mn (yB mn nd n k) (n - (k + 1)) t i = yB mn nd n (k + 1) t)) = P
  have hP2 : ∀ i, P i = true ↔ (yok mn (n - (k + 1)) t i = true ∧ ygv mn (yB mn nd n k) (n - (k + 1)) t i = yB mn nd n (k + 1) t) := fun i => by
    rw [← hP]
    simp only [Bool.and_eq_true, decide_eq_true_iff]
  rcases yfi_sp (P := P) nd with ⟨h1, h2⟩ | ⟨h1, h2, h3, h4⟩
  · rw [if_pos h1]
    refine ⟨Nat.le_refl _, fun h => absurd h (Nat.lt_irrefl _), fun _ => ?_, fun i hi a b => ?_⟩
    · rcases ymx_ex (m0 := yB mn nd n k t) (P := yok mn (n - (k + 1)) t) (g := ygv mn (yB mn nd n k) (n - (k + 1)) t) nd with h | ⟨d, hd, h5, h6⟩
      · exact h
      · have h7 := h2 d hd
        rw [(hP2 d).2 ⟨h5, h6.symm⟩] at h7
        cases h7
    · have h7 := h2 i hi
      rw [(hP2 i).2 ⟨a, b⟩] at h7
      cases h7
  · rw [if_neg (by omega)]
    refine ⟨by omega, fun _ => (hP2 _).1 h3, fun h => by omega, fun i hi a b => ?_⟩
    rcases Nat.lt_or_ge i (yfi P nd).toNat with h | h
    · have h7 := h4 i h
      rw [(hP2 i).2 ⟨a, b⟩] at h7
      cases h7
    · exact h
def ytn (nd t c : Nat) : Nat := if c < nd then t ||| 2 ^ c else t
theorem ytn_bit {nd t c x : Nat} : (ytn nd t c).testBit x = true ↔ t.testBit x = true ∨ (c < nd ∧ c = x) := by
  unfold ytn
  split
  · rw [Nat.testBit_or, Nat.testBit_two_pow, Bool.or_eq_true, decide_eq_true_iff]
    constructor
    · rintro (h | h)
      · exact Or.inl h
      · exact Or.inr ⟨by assumption, h⟩
    · rintro (h | h)
      · exact Or.inl h
      · exact Or.inr h.2
  · constructor
    · exact Or.inl
    · rintro (h | h)
      · exact h
      · exact absurd h.1 (by assumption)
def yG (mn : Nat → Nat → Int) (nd n : Nat) : Nat → Nat → Nat
  | 0, _ => 0
  | k + 1, t => ych mn nd n k t * (nd + 1) ^ k + yG mn nd n k (ytn nd t (ych mn nd n k t))
def ycb (mn : Nat → Nat → Int) (nd r c : Nat) : Int := if c < nd then 10000 - mn r c else 0
def yTo (mn : Nat → Nat → Int) (nd n : Nat) (a : Nat → Nat) : Nat → Int
  | 0 => 0
  | k + 1 => yTo mn nd n a k + ycb mn nd (n - (k + 1)) (a (n - (k + 1)))
def yVA (mn : Nat → Nat → Int) (nd n : Nat) (a : Nat → Nat) : Prop := ∀ k, k < n → a k < nd → mn k (a k) ≠ -1 ∧ ∀ j, j < n → j ≠ k → a j ≠ a k
theorem yTo_congr {mn : Nat → Nat → Int} {nd n : Nat} {a b : Nat → Nat} : ∀ k, k ≤ n → (∀ j, n - k ≤ j → j < n → a j = b j) → yTo mn nd n a k = yTo mn nd n b k
  | 0, _, _ => rfl
  | k + 1, hk, h => by
    show yTo mn nd n a k + ycb _ _ _ _ = yTo mn nd n b k + ycb _ _ _ _
    rw [yTo_congr k (by omega) (fun j h1 h2 => h j (by omega) h2), h (n - (k + 1)) (by omega) (by omega)]
theorem yTo_upd {mn : Nat → Nat → Int} {nd n r : Nat} {a b : Nat → Nat} (h1 : ¬ a r < nd) (h2 : b r < nd) (h3 : ∀ j, j ≠ r → b j = a j) : ∀ k, k ≤ n → n - k ≤ r → r < n → yTo mn nd n b k = yTo mn nd n a k + (10000 - mn r (b r))
  | 0, _, h4, h5 => by omega
  | k + 1, hk, h4, h5 => by
    show yTo mn nd n b k + ycb _ _ _ _ = yTo mn nd n a k + ycb _ _ _ _ + _
    by_cases e : r = n - (k + 1)
    · rw [yTo_congr (a := b) (b := a) k (by omega) (fun j h6 h7 => h3 j (by omega)), ← e]
      unfold ycb
      rw [if_pos h2, if_neg h1]
      omega
    · rw [yTo_upd h1 h2 h3 k (by omega) (by omega) h5, h3 (n - (k + 1)) (by omega)]
      omega
theorem yok_of {mn : Nat → Nat → Int} {r t d : Nat} (h1 : t.testBit d = false) (h2 : mn r d ≠ -1) : yok mn r t d = true := by
  unfold yok
  rw [h1, Bool.and_eq_true, decide_eq_true_iff]
  exact ⟨rfl, h2⟩
theorem yok_is {mn : Nat → Nat → Int} {r t d : Nat} (h : yok mn r t d = true) : t.testBit d = false ∧ mn r d ≠ -1 := by
  unfold yok at h
  rw [Bool.and_eq_true, decide_eq_true_iff, Bool.not_eq_true'] at h
  exact h
theorem yTo_le {mn : Nat → Nat → Int} {nd n : Nat} {a : Nat → Nat} (hv : yVA mn nd n a) : ∀ k, k ≤ n → ∀ t, (∀ j, n - k ≤ j → j < n → a j < nd → t.testBit (a j) = false) → yTo mn nd n a k ≤ yB mn nd n k t
  | 0, _, _, _ => Int.le_refl _
  | k + 1, hk, t, ht => by
    show yTo mn nd n a k + ycb mn nd (n - (k + 1)) (a (n - (k + 1))) ≤ ymx (yB mn nd n k t) (yok mn (n - (k + 1)) t) (ygv mn (yB mn nd n k) (n - (k + 1)) t) nd
    unfold ycb
    by_cases c : a (n - (k + 1)) < nd
    · rw [if_pos c]
      obtain ⟨h1, h2⟩ := hv (n - (k + 1)) (by omega) c
      have h3 := ht (n - (k + 1)) (Nat.le_refl _) (by omega) c
      have h4 := ymx_ge (m0 := yB mn nd n k t) (g := ygv mn (yB mn nd n k) (n - (k + 1)) t) c (yok_of h3 h1)
      have h5 := yTo_le hv k (by omega) (t ||| 2 ^ a (n - (k + 1))) (fun j h6 h7 h8 => by
        rw [Nat.testBit_or, ht j (by omega) h7 h8, Nat.testBit_two_pow_of_ne (fun e => h2 j h7 (by omega) e.symm)]
        rfl)
      unfold ygv at h4
      unfold ygv
      omega
    · rw [if_neg c]
      have h5 := yTo_le hv k (by omega) t (fun j h6 h7 h8 => ht j (by omega) h7 h8)
      have h6 := ymx_0 (m0 := yB mn nd n k t) (P := yok mn (n - (k + 1)) t) (g := ygv mn (yB mn nd n k) (n - (k + 1)) t) nd
      omega
theorem yG_lt (mn : Nat → Nat → Int) (nd n : Nat) : ∀ k t, yG mn nd n k t < (nd + 1) ^ k
  | 0, _ => Nat.one_pos
  | k + 1, t => by
    have ih := yG_lt mn nd n k (ytn nd t (ych mn nd n k t))
    have h1 := (ych_sp mn nd n k t).1
    show ych mn nd n k t * (nd + 1) ^ k + yG mn nd n k _ < (nd + 1) ^ (k + 1)
    have h2 : ych mn nd n k t * (nd + 1) ^ k ≤ nd * (nd + 1) ^ k := Nat.mul_le_mul_right _ h1
    rw [Nat.pow_succ, Nat.mul_comm ((nd + 1) ^ k), Nat.add_mul, Nat.one_mul]
    omega
theorem ydg_lo {D c k x i : Nat} (hi : i < k) : ydg D (c * D ^ k + x) i = ydg D x i := by
  unfold ydg
  have e1 : D ^ k = D ^ i * (D * D ^ (k - i - 1)) := by
    rw [show D * D ^ (k - i - 1) = D ^ (k - i - 1 + 1) by rw [Nat.pow_succ, Nat.mul_comm], ← Nat.pow_add]
    congr 1
    omega
  rcases Nat.eq_zero_or_pos D with rfl | hD
  · rw [Nat.mod_zero, Nat.mod_zero]
    rw [show c * 0 ^ k + x = x by rw [Nat.zero_pow (by omega), Nat.mul_zero, Nat.zero_add]]
  · rw [e1, show c * (D ^ i * (D * D ^ (k - i - 1))) + x = x + D ^ i * (D * (c * D ^ (k - i - 1))) by rw [Nat.add_comm, Nat.mul_left_comm c, Nat.mul_left_comm c], Nat.add_mul_div_left _ _ (Nat.pow_pos hD), Nat.add_mul_mod_self_left]
theorem ydg_hi {D c k x : Nat} (hx : x < D ^ k) (hc : c < D) : ydg D (c * D ^ k + x) k = c := by
  unfold ydg
  rw [Nat.add_comm, Nat.mul_comm, Nat.add_mul_div_left _ _ (by omega), Nat.div_eq_of_lt hx, Nat.zero_add, Nat.mod_eq_of_lt hc]
theorem yG_ok {mn : Nat → Nat → Int} {nd n : Nat} : ∀ k, k ≤ n → ∀ t, (∀ j, n - k ≤ j → j < n → ydg (nd + 1) (yG mn nd n k t) (n - 1 - j) < nd → mn j (ydg (nd + 1) (yG mn nd n k t) (n - 1 - j)) ≠ -1 ∧ t.testBit (ydg (nd + 1) (yG mn nd n k t) (n - 1 - j)) = false ∧ ∀ i, n - k ≤ i → i < n → i ≠ j → ydg (nd + 1) (yG mn nd n k t) (n - 1 - i) ≠ ydg (nd + 1) (yG mn nd n k t) (n - 1 - j)) ∧ yTo mn nd n (fun j => ydg (nd + 1) (yG mn nd n k t) (n - 1 - j)) k = yB mn nd n k t
  | 0, _, _ => ⟨fun j h1 h2 => by omega, rfl⟩
  | k + 1, hk, t => by
    obtain ⟨hc1, hc2, hc3, -⟩ := ych_sp mn nd n k t
    obtain ⟨c, hc⟩ : ∃ c, c = ych mn nd n k t := ⟨_, rfl⟩
    rw [← hc] at hc1 hc2 hc3
    obtain ⟨ih1, ih2⟩ := yG_ok (mn := mn) (nd := nd) (n := n) k (by omega) (ytn nd t c)
    obtain ⟨x, hx⟩ : ∃ x, x = yG mn nd n k (ytn nd t c) := ⟨_, rfl⟩
    have hxl := yG_lt mn nd n k (ytn nd t c)
    rw [← hx] at ih1 ih2 hxl
    have eG : yG mn nd n (k + 1) t = c * (nd + 1) ^ k + x := by
      rw [hx, hc]; rfl
    rw [eG]
    have elo : ∀ j, n - k ≤ j → j < n → ydg (nd + 1) (c * (nd + 1) ^ k + x) (n - 1 - j) = ydg (nd + 1) x (n - 1 - j) := fun j h1 h2 => ydg_lo (by omega)
    have ehi : ydg (nd + 1) (c * (nd + 1) ^ k + x) (n - 1 - (n - (k + 1))) = c := by
      rw [show n - 1 - (n - (k + 1)) = k by omega]
      exact ydg_hi hxl (by omega)
    refine ⟨fun j h1 h2 h3 => ?_, ?_⟩
    · by_cases e : j = n - (k + 1)
      · subst e
        rw [ehi] at h3 ⊢
        obtain ⟨h4, h5⟩ := yok_is (hc2 h3).1
        refine ⟨h5, h4, fun i h6 h7 h8 => ?_⟩
        rw [elo i (by omega) h7]
        intro h9
        have h10 := (ih1 i (by omega) h7 (by omega)).2.1
        rw [h9, ytn_bit.2 (Or.inr ⟨h3, rfl⟩)] at h10
        cases h10
      · rw [elo j (by omega) h2] at h3 ⊢
        obtain ⟨h4, h5, h6⟩ := ih1 j (by omega) h2 h3
        refine ⟨h4, ?_, fun i h7 h8 h9 => ?_⟩
        · cases hb : t.testBit (ydg (nd + 1) x (n - 1 - j)) with
          | false => rfl
          | true => rw [ytn_bit.2 (Or.inl hb)] at h5; cases h5
        · by_cases e2 : i = n - (k + 1)
          · subst e2
            rw [ehi]
            intro h10
            rw [← h10] at h5 h3
            rw [ytn_bit.2 (Or.inr ⟨h3, rfl⟩)] at h5
            cases h5
          · rw [elo i (by omega) h8]
            exact h6 i (by omega) h8 h9
    · show yTo mn nd n _ k + ycb mn nd (n - (k + 1)) (ydg (nd + 1) (c * (nd + 1) ^ k + x) (n - 1 - (n - (k + 1)))) = _
      rw [ehi, yTo_congr (b := fun j => ydg (nd + 1) x (n - 1 - j)) k (by omega) elo, ih2]
      unfold ycb ytn
      by_cases e : c < nd
      · rw [if_pos e, if_pos e, ← (hc2 e).2]
        unfold ygv
        omega
      · rw [if_neg e, if_neg e, hc3 (by omega)]
        omega
/-- the first way that comes to the most: no other is below it -/
theorem yG_le {mn : Nat → Nat → Int} {nd n w : Nat} (hv : yVA mn nd n (fun j => ydg (nd + 1) w (n - 1 - j))) : ∀ k, k ≤ n → ∀ t, (∀ j, n - k ≤ j → j < n → ydg (nd + 1) w (n - 1 - j) < nd → t.testBit (ydg (nd + 1) w (n - 1 - j)) = false) → yTo mn nd n (fun j => ydg (nd + 1) w (n - 1 - j)) k = yB mn nd n k t → yG mn nd n k t ≤ w % (nd + 1) ^ k
  | 0, _, _, _, _ => Nat.zero_le _
  | k + 1, hk, t, ht, he => by
    obtain ⟨hc1, hc2, hc3, hc4⟩ := ych_sp mn nd n k t
    have ew : w % (nd + 1) ^ (k + 1) = ydg (nd + 1) w k * (nd + 1) ^ k + w % (nd + 1) ^ k := by
      unfold ydg
      rw [Nat.pow_succ, Nat.mod_mul, Nat.mul_comm ((nd + 1) ^ k)]
      omega
    have hkr : n - 1 - (n - (k + 1)) = k := by omega
    have hd : ydg (nd + 1) w k ≤ nd := Nat.le_of_lt_succ (Nat.mod_lt _ (Nat.succ_pos _))
    have he2 : yTo mn nd n (fun j => ydg (nd + 1) w (n - 1 - j)) k + ycb mn nd (n - (k + 1)) (ydg (nd + 1) w (n - 1 - (n - (k + 1)))) = yB mn nd n (k + 1) t := he
    rw [hkr] at he2
    have ht2 := ht (n - (k + 1)) (Nat.le_refl _) (by omega)
    rw [hkr] at ht2
    have hv2 := hv (n - (k + 1)) (by omega)
    rw [show (fun j => ydg (nd + 1) w (n - 1 - j)) (n - (k + 1)) = ydg (nd + 1) w k by show ydg (nd + 1) w (n - 1 - (n - (k + 1))) = _; rw [hkr]] at hv2
    have hty : ∀ j, n - k ≤ j → j < n → ydg (nd + 1) w (n - 1 - j) < nd → (ytn nd t (ydg (nd + 1) w k)).testBit (ydg (nd + 1) w (n - 1 - j)) = false := fun j h1 h2 h3 => by
      cases hb : (ytn nd t (ydg (nd + 1) w k)).testBit (ydg (nd + 1) w (n - 1 - j)) with
      | false => rfl
      | true =>
        rcases ytn_bit.1 hb with h4 | ⟨h4, h5⟩
        · rw [ht j (by omega) h2 h3] at h4; cases h4
        · exact absurd h5.symm ((hv2 h4).2 j h2 (by omega))
    have hle := yTo_le hv k (by omega) (ytn nd t (ydg (nd + 1) w k)) hty
    have hxl := yG_lt mn nd n k (ytn nd t (ych mn nd n k t))
    show ych mn nd n k t * (nd + 1) ^ k + yG mn nd n k (ytn nd t (ych mn nd n k t)) ≤ _
    rw [ew]
    have fin : ych mn nd n k t < ydg (nd + 1) w k → ych mn nd n k t * (nd + 1) ^ k + yG mn nd n k (ytn nd t (ych mn nd n k t)) ≤ ydg (nd + 1) w k * (nd + 1) ^ k + w % (nd + 1) ^ k := fun h => by
      have h2 : (ych mn nd n k t + 1) * (nd + 1) ^ k ≤ ydg (nd + 1) w k * (nd + 1) ^ k := Nat.mul_le_mul_right _ h
      rw [Nat.add_mul, Nat.one_mul] at h2
      exact Nat.le_trans (show _ ≤ ydg (nd + 1) w k * (nd + 1) ^ k by omega) (Nat.le_add_right _ _)
    by_cases e : ydg (nd + 1) w k < nd
    · unfold ycb at he2
      rw [if_pos e] at he2
      have hok := yok_of (ht2 e) (hv2 e).1
      have hge := ymx_ge (m0 := yB mn nd n k t) (g := ygv mn (yB mn nd n k) (n - (k + 1)) t) e hok
      have hge2 : ygv mn (yB mn nd n k) (n - (k + 1)) t (ydg (nd + 1) w k) ≤ yB mn nd n (k + 1) t := hge
      have hgv : ygv mn (yB mn nd n k) (n - (k + 1)) t (ydg (nd + 1) w k) = 10000 - mn (n - (k + 1)) (ydg (nd + 1) w k) + yB mn nd n k (ytn nd t (ydg (nd + 1) w k)) := by
        unfold ygv ytn
        rw [if_pos e]
      have h5 := hc4 _ e hok (by omega)
      rcases Nat.lt_or_ge (ych mn nd n k t) (ydg (nd + 1) w k) with h6 | h6
      · exact fin h6
      · have h7 : ych mn nd n k t = ydg (nd + 1) w k := by omega
        rw [h7]
        exact Nat.add_le_add_left (yG_le hv k (by omega) (ytn nd t (ydg (nd + 1) w k)) hty (by omega)) _
    · unfold ycb at he2
      rw [if_neg e] at he2
      rcases Nat.lt_or_ge (ych mn nd n k t) (ydg (nd + 1) w k) with h6 | h6
      · exact fin h6
      · have h7 : ych mn nd n k t = ydg (nd + 1) w k := by omega
        rw [h7]
        have h8 := hc3 (by omega)
        have h9 : ytn nd t (ydg (nd + 1) w k) = t := if_neg e
        rw [h9] at hty ⊢
        exact Nat.add_le_add_left (yG_le hv k (by omega) t hty (by omega)) _
theorem ytk_bit {nd w d : Nat} : ∀ m, (ytk nd w m).testBit d = true ↔ ∃ i, i < m ∧ ydg (nd + 1) w i = d ∧ d < nd
  | 0 => by
    show (0 : Nat).testBit d = true ↔ _
    rw [Nat.zero_testBit]
    exact ⟨fun h => absurd h (by decide), fun ⟨i, h, _⟩ => absurd h (Nat.not_lt_zero i)⟩
  | m + 1 => by
    have ih := ytk_bit (nd := nd) (w := w) (d := d) m
    have e : ytk nd w (m + 1) = ytn nd (ytk nd w m) (ydg (nd + 1) w m) := rfl
    rw [e, ytn_bit, ih]
    constructor
    · rintro (⟨i, h1, h2⟩ | ⟨h1, h2⟩)
      · exact ⟨i, by omega, h2⟩
      · exact ⟨m, by omega, h2, by omega⟩
    · rintro ⟨i, h1, h2, h3⟩
      by_cases e : i = m
      · subst e
        exact Or.inr ⟨by omega, h2⟩
      · exact Or.inl ⟨i, by omega, h2, h3⟩
theorem yvw_To {mn : Nat → Nat → Int} {nd n w : Nat} (hv : yVA mn nd n (fun j => ydg (nd + 1) w (n - 1 - j))) : ∀ m, m ≤ n → yvw mn nd n w m = yTo mn nd n (fun j => ydg (nd + 1) w (n - 1 - j)) m
  | 0, _ => rfl
  | m + 1, hm => by
    have ih := yvw_To hv m (by omega)
    have hr : n - 1 - m = n - (m + 1) := by omega
    have hkr : n - 1 - (n - (m + 1)) = m := by omega
    have hv2 := hv (n - (m + 1)) (by omega)
    rw [show (fun j => ydg (nd + 1) w (n - 1 - j)) (n - (m + 1)) = ydg (nd + 1) w m by show ydg (nd + 1) w (n - 1 - (n - (m + 1))) = _; rw [hkr]] at hv2
    show yvw mn nd n w (m + 1) = yTo mn nd n _ m + ycb mn nd (n - (m + 1)) (ydg (nd + 1) w (n - 1 - (n - (m + 1))))
    rw [hkr, ← ih]
    unfold ycb
    by_cases c : ydg (nd + 1) w m < nd
    · have hk : yok mn (n - 1 - m) (ytk nd w m) (ydg (nd + 1) w m) = true := by
        rw [hr]
        refine yok_of ?_ (hv2 c).1
        cases hb : (ytk nd w m).testBit (ydg (nd + 1) w m) with
        | false => rfl
        | true =>
          obtain ⟨i, h1, h2, h3⟩ := (ytk_bit m).1 hb
          have h4 : ydg (nd + 1) w (n - 1 - (n - 1 - i)) ≠ ydg (nd + 1) w m := (hv2 c).2 (n - 1 - i) (by omega) (by omega)
          rw [show n - 1 - (n - 1 - i) = i by omega] at h4
          exact absurd h2 h4
      rw [if_pos c, show yvw mn nd n w (m + 1) = _ from if_pos c, if_pos hk, hr]
    · rw [if_neg c, show yvw mn nd n w (m + 1) = _ from if_neg c]
      omega
theorem yvw_ok {mn : Nat → Nat → Int} {nd n w : Nat} (h : ∀ k d, k < n → d < nd → -1 ≤ mn k d ∧ mn k d ≤ 100000) (hn : n ≤ 5) : ∀ m : Nat, m ≤ n → (∀ i, i < m → ydg (nd + 1) w i < nd → yok mn (n - 1 - i) (ytk nd w i) (ydg (nd + 1) w i) = true) ∨ yvw mn nd n w m ≤ -1000000 + 10001 * (m : Int)
  | 0, _ => Or.inl fun i hi => absurd hi (Nat.not_lt_zero i)
  | m + 1, hm => by
    have ih := yvw_ok (w := w) h hn m (by omega)
    have hr := yvw_rg (w := w) h m (by omega)
    by_cases c : ydg (nd + 1) w m < nd
    · have h2 := h (n - 1 - m) _ (by omega) c
      by_cases y : yok mn (n - 1 - m) (ytk nd w m) (ydg (nd + 1) w m) = true
      · rcases ih with ih | ih
        · refine Or.inl fun i hi hl => ?_
          by_cases e : i = m
          · subst e; exact y
          · exact ih i (by omega) hl
        · have e : yvw mn nd n w (m + 1) = yvw mn nd n w m + (10000 - mn (n - 1 - m) (ydg (nd + 1) w m)) := (if_pos c).trans (by rw [if_pos y])
          exact Or.inr (by omega)
      · have e : yvw mn nd n w (m + 1) = yvw mn nd n w m + (-1000000) := (if_pos c).trans (by rw [if_neg y])
        exact Or.inr (by omega)
    · have e : yvw mn nd n w (m + 1) = yvw mn nd n w m := if_neg c
      rcases ih with ih | ih
      · refine Or.inl fun i hi hl => ?_
        by_cases e2 : i = m
        · subst e2; exact absurd hl c
        · exact ih i (by omega) hl
      · exact Or.inr (by omega)
theorem yvw_VA {mn : Nat → Nat → Int} {nd n w : Nat} (h : ∀ k d, k < n → d < nd → -1 ≤ mn k d ∧ mn k d ≤ 100000) (hn : n ≤ 5) (h0 : 0 ≤ yvw mn nd n w n) : yVA mn nd n (fun j => ydg (nd + 1) w (n - 1 - j)) := by
  have hk := (yvw_ok (w := w) h hn n (Nat.le_refl _)).resolve_right (by omega)
  intro k hkn hl
  have h1 := yok_is (hk (n - 1 - k) (by omega) hl)
  rw [show n - 1 - (n - 1 - k) = k by omega] at h1
  refine ⟨h1.2, fun j hj hjk he => ?_⟩
  have he : ydg (nd + 1) w (n - 1 - j) = ydg (nd + 1) w (n - 1 - k) := he
  rcases Nat.lt_or_ge j k with hlt | hge
  · have h2 := (yok_is (hk (n - 1 - j) (by omega) (by rw [he]; exact hl))).1
    rw [he, (ytk_bit _).2 ⟨n - 1 - k, by omega, rfl, hl⟩] at h2
    cases h2
  · rw [(ytk_bit _).2 ⟨n - 1 - j, by omega, he, hl⟩] at h1
    cases h1.1
theorem ybb_sp (mn : Nat → Nat → Int) (nd n : Nat) : ∀ W, ((ybb mn nd n W).1 = -1 ∧ ∀ w, w < W → yvw mn nd n w n ≤ -1) ∨ ((ybb mn nd n W).2 < W ∧ (ybb mn nd n W).1 = yvw mn nd n (ybb mn nd n W).2 n ∧ -1 < (ybb mn nd n W).1 ∧ (∀ w, w < W → yvw mn nd n w n ≤ (ybb mn nd n W).1) ∧ ∀ w, w < (ybb mn nd n W).2 → yvw mn nd n w n < (ybb mn nd n W).1)
  | 0 => Or.inl ⟨rfl, fun w hw => absurd hw (Nat.not_lt_zero w)⟩
  | W + 1 => by
    have ih := ybb_sp mn nd n W
    by_cases c : (ybb mn nd n W).1 < yvw mn nd n W n
    · have e : ybb mn nd n (W + 1) = (yvw mn nd n W n, W) := if_pos c
      rw [e]
      refine Or.inr ⟨Nat.lt_succ_self W, rfl, ?_, fun w hw => ?_, fun w hw => ?_⟩
      · show -1 < yvw mn nd n W n
        rcases ih with ⟨h1, h2⟩ | ⟨h1, h2, h3, h4, h5⟩ <;> omega
      · show yvw mn nd n w n ≤ yvw mn nd n W n
        by_cases e2 : w = W
        · subst e2; exact Int.le_refl _
        · rcases ih with ⟨h1, h2⟩ | ⟨h1, h2, h3, h4, h5⟩
          · have := h2 w (by omega); omega
          · have := h4 w (by omega); omega
      · have hw : w < W := hw
        show yvw mn nd n w n < yvw mn nd n W n
        rcases ih with ⟨h1, h2⟩ | ⟨h1, h2, h3, h4, h5⟩
        · have := h2 w (by omega); omega
        · have := h4 w (by omega); omega
    · have e : ybb mn nd n (W + 1) = ybb mn nd n W := if_neg c
      rw [e]
      rcases ih with ⟨h1, h2⟩ | ⟨h1, h2, h3, h4, h5⟩
      · refine Or.inl ⟨h1, fun w hw => ?_⟩
        by_cases e2 : w = W
        · subst e2; omega
        · exact h2 w (by omega)
      · refine Or.inr ⟨by omega, h2, h3, fun w hw => ?_, h5⟩
        by_cases e2 : w = W
        · subst e2; omega
        · exact h4 w (by omega)
/-- trying all ways finds the most, and the way that goes by the lowest drivers -/
theorem ybb_G {mn : Nat → Nat → Int} {nd n : Nat} (h : ∀ k d, k < n → d < nd → -1 ≤ mn k d ∧ mn k d ≤ 100000) (hn : n ≤ 5) : ybb mn nd n ((nd + 1) ^ n) = (yB mn nd n n 0, yG mn nd n n 0) ∧ yVA mn nd n (fun j => ydg (nd + 1) (yG mn nd n n 0) (n - 1 - j)) := by
  obtain ⟨g1, g2⟩ := yG_ok (mn := mn) (nd := nd) (n := n) n (Nat.le_refl _) 0
  have gl := yG_lt mn nd n n 0
  have hB := (yB_rg (mn := mn) (nd := nd) (n := n) (fun r d hr hd => (h r d hr hd).1) n (Nat.le_refl _) 0).1
  have gv : yVA mn nd n (fun j => ydg (nd + 1) (yG mn nd n n 0) (n - 1 - j)) := fun j hj hl => by
    obtain ⟨h1, h2, h3⟩ := g1 j (by omega) hj hl
    exact ⟨h1, fun i hi hij => h3 i (by omega) hi hij⟩
  have ge := (yvw_To gv n (Nat.le_refl _)).trans g2
  refine ⟨?_, gv⟩
  rcases ybb_sp mn nd n ((nd + 1) ^ n) with ⟨h1, h2⟩ | ⟨h1, h2, h3, h4, h5⟩
  · have := h2 _ gl
    omega
  · have hbv := yvw_VA (w := (ybb mn nd n ((nd + 1) ^ n)).2) h hn (by omega)
    have hz : ∀ j, n - n ≤ j → j < n → ydg (nd + 1) (ybb mn nd n ((nd + 1) ^ n)).2 (n - 1 - j) < nd → (0 : Nat).testBit (ydg (nd + 1) (ybb mn nd n ((nd + 1) ^ n)).2 (n - 1 - j)) = false := fun j _ _ _ => Nat.zero_testBit _
    have hle := yTo_le hbv n (Nat.le_refl _) 0 hz
    have hbe := yvw_To hbv n (Nat.le_refl _)
    have h6 := h4 _ gl
    have e1 : (ybb mn nd n ((nd + 1) ^ n)).1 = yB mn nd n n 0 := by omega
    have h7 := yG_le hbv n (Nat.le_refl _) 0 hz (by omega)
    rw [Nat.mod_eq_of_lt h1] at h7
    have h8 : ¬ yG mn nd n n 0 < (ybb mn nd n ((nd + 1) ^ n)).2 := fun c => by
      have := h5 _ c
      omega
    have e2 : (ybb mn nd n ((nd + 1) ^ n)).2 = yG mn nd n n 0 := by omega
    exact Prod.ext e1 e2
/-- the drivers taken ahead of row k, by the lowest -/
def ytg (mn : Nat → Nat → Int) (nd n : Nat) : Nat → Nat
  | 0 => 0
  | k + 1 => ytn nd (ytg mn nd n k) (ych mn nd n (n - (k + 1)) (ytg mn nd n k))
theorem yG_dg {mn : Nat → Nat → Int} {nd n : Nat} : ∀ k, k ≤ n → ∀ i, i < n - k → ydg (nd + 1) (yG mn nd n n 0) i = ydg (nd + 1) (yG mn nd n (n - k) (ytg mn nd n k)) i
  | 0, _, _, _ => rfl
  | k + 1, hk, i, hi => by
    rw [yG_dg k (by omega) i (by omega), show n - k = n - (k + 1) + 1 by omega]
    show ydg (nd + 1) (_ * (nd + 1) ^ (n - (k + 1)) + yG mn nd n (n - (k + 1)) _) i = _
    rw [ydg_lo hi]
    rfl
theorem yG_ch {mn : Nat → Nat → Int} {nd n k : Nat} (hk : k < n) : ydg (nd + 1) (yG mn nd n n 0) (n - 1 - k) = ych mn nd n (n - (k + 1)) (ytg mn nd n k) := by
  rw [yG_dg k (by omega) (n - 1 - k) (by omega), show n - k = n - (k + 1) + 1 by omega, show n - 1 - k = n - (k + 1) by omega]
  exact ydg_hi (yG_lt _ _ _ _ _) (Nat.lt_succ_of_le (ych_sp _ _ _ _ _).1)
/-! the same by drivers -/
theorem yrm_bit : ∀ r : Nat, r < 5 → ∀ g : Nat, g < 32 → ∀ j : Nat, j < 5 → (yrm g r).testBit j = (g.testBit j && decide (j ≠ r)) := by decide +kernel
theorem yrm_ne : ∀ r : Nat, r < 5 → ∀ g : Nat, g < 32 → (yrm g r ≠ g ↔ g.testBit r = true) := by decide +kernel
theorem ybit_eq : ∀ x : Nat, x < 32 → ∀ y : Nat, y < 32 → (∀ j : Nat, j < 5 → x.testBit j = y.testBit j) → x = y := by decide +kernel
def yset (nd : Nat) (a : Nat → Nat) : Nat → Nat
  | 0 => 0
  | k + 1 => if a k < nd then yset nd a k ||| 2 ^ k else yset nd a k
theorem yset_lt (nd : Nat) (a : Nat → Nat) : ∀ n, yset nd a n < 2 ^ n
  | 0 => Nat.one_pos
  | n + 1 => by
    have ih := yset_lt nd a n
    have h2 : 2 ^ n < 2 ^ (n + 1) := Nat.pow_lt_pow_right (by decide) (by omega)
    show (if _ then _ else _) < _
    split
    · exact Nat.or_lt_two_pow (by omega) h2
    · omega
theorem yset_bit {nd : Nat} {a : Nat → Nat} {j : Nat} : ∀ n, (yset nd a n).testBit j = true ↔ j < n ∧ a j < nd
  | 0 => by
    show (0 : Nat).testBit j = true ↔ _
    rw [Nat.zero_testBit]
    exact ⟨fun h => absurd h (by decide), fun h => absurd h.1 (Nat.not_lt_zero j)⟩
  | n + 1 => by
    have ih := yset_bit (nd := nd) (a := a) (j := j) n
    by_cases c : a n < nd
    · rw [show yset nd a (n + 1) = yset nd a n ||| 2 ^ n from if_pos c, Nat.testBit_or, Nat.testBit_two_pow, Bool.or_eq_true, decide_eq_true_iff, ih]
      constructor
      · rintro (h | h)
        · exact ⟨by omega, h.2⟩
        · subst h; exact ⟨by omega, c⟩
      · rintro ⟨h1, h2⟩
        by_cases e : n = j
        · exact Or.inr e
        · exact Or.inl ⟨by omega, h2⟩
    · rw [show yset nd a (n + 1) = yset nd a n from if_neg c, ih]
      constructor
      · rintro ⟨h1, h2⟩; exact ⟨by omega, h2⟩
      · rintro ⟨h1, h2⟩
        refine ⟨?_, h2⟩
        have : j ≠ n := fun e => by subst e; exact c h2
        omega
/-- an assignment, by the drivers below d alone -/
def ybe (nd : Nat) (a : Nat → Nat) (d k : Nat) : Nat := if a k < d then a k else nd
theorem ypw5 {n : Nat} (hn : n ≤ 5) : 2 ^ n ≤ 32 := Nat.pow_le_pow_right (by decide) hn
theorem yD_ge {mn : Nat → Nat → Int} {nd n : Nat} {a : Nat → Nat} (hn : n ≤ 5) (hm : ∀ r d, r < n → d < nd → -1 ≤ mn r d ∧ mn r d ≤ 100) (hv : yVA mn nd n a) : ∀ d, d ≤ nd → yTo mn nd n (ybe nd a d) n ≤ yD mn n d (yset nd (ybe nd a d) n) ∧ 0 ≤ yTo mn nd n (ybe nd a d) n
  | 0, _ => by
    have h0 : ∀ k, k ≤ n → yTo mn nd n (ybe nd a 0) k = 0 := fun k hk => by
      induction k with
      | zero => rfl
      | succ k ih =>
        show yTo mn nd n (ybe nd a 0) k + ycb mn nd _ (ybe nd a 0 _) = 0
        rw [ih (by omega)]
        unfold ycb ybe
        rw [if_neg (Nat.not_lt_zero _), if_neg (Nat.lt_irrefl _)]
        rfl
    have hs : yset nd (ybe nd a 0) n = 0 := by
      refine Nat.eq_of_testBit_eq (fun j => ?_)
      rw [Nat.zero_testBit]
      cases hb : (yset nd (ybe nd a 0) n).testBit j with
      | false => rfl
      | true =>
        have h1 := ((yset_bit n).1 hb).2
        unfold ybe at h1
        rw [if_neg (Nat.not_lt_zero _)] at h1
        exact absurd h1 (Nat.lt_irrefl _)
    rw [h0 n (Nat.le_refl _), hs]
    exact ⟨Int.le_refl _, Int.le_refl _⟩
  | d + 1, hd => by
    obtain ⟨ih1, ih2⟩ := yD_ge hn hm hv d (by omega)
    have hg := yset_lt nd (ybe nd a (d + 1)) n
    have hg0 := yset_lt nd (ybe nd a d) n
    have h32 := ypw5 hn
    have step : yD mn n (d + 1) (yset nd (ybe nd a (d + 1)) n) = if yset nd (ybe nd a (d + 1)) n = 0 then yD mn n d 0 else yoD n d mn (yD mn n d) (yset nd (ybe nd a (d + 1)) n) := rfl
    by_cases hk : ∃ k, k < n ∧ a k = d
    · obtain ⟨k, hk, e⟩ := hk
      have hb1 : ybe nd a (d + 1) k = d := by
        unfold ybe
        rw [if_pos (by omega)]; exact e
      have hb0 : ¬ ybe nd a d k < nd := by
        unfold ybe
        rw [if_neg (by omega)]
        exact Nat.lt_irrefl _
      have hot : ∀ j, j < n → j ≠ k → ybe nd a (d + 1) j = ybe nd a d j := fun j hj hjk => by
        have h1 := (hv k hk (by omega)).2 j hj hjk
        unfold ybe
        by_cases c : a j < d
        · rw [if_pos c, if_pos (by omega)]
        · rw [if_neg c, if_neg (by omega)]
      have hT : yTo mn nd n (ybe nd a (d + 1)) n = yTo mn nd n (ybe nd a d) n + (10000 - mn k d) := by
        have h1 := yTo_upd (mn := mn) (n := n) (r := k) (a := ybe nd a d) (b := fun j => if j = k then d else ybe nd a d j) hb0 (by show (if k = k then d else _) < nd; rw [if_pos rfl]; omega) (fun j hj => if_neg hj) n (Nat.le_refl _) (by omega) hk
        rw [show (if k = k then d else ybe nd a d k) = d from if_pos rfl] at h1
        rw [← h1]
        refine yTo_congr n (Nat.le_refl _) (fun j _ hj => ?_)
        by_cases ej : j = k
        · subst ej; rw [if_pos rfl]; exact hb1
        · rw [if_neg ej]; exact hot j hj ej
      have hbit : (yset nd (ybe nd a (d + 1)) n).testBit k = true := (yset_bit n).2 ⟨hk, by omega⟩
      have hrm : yrm (yset nd (ybe nd a (d + 1)) n) k = yset nd (ybe nd a d) n := by
        refine ybit_eq _ (Nat.lt_of_le_of_lt (yrm_lt _ _) (by omega)) _ (by omega) (fun j hj => ?_)
        rw [yrm_bit k (by omega) _ (by omega) j hj]
        by_cases ej : j = k
        · subst ej
          rw [decide_eq_false (by simp), Bool.and_false]
          cases hb : (yset nd (ybe nd a d) n).testBit j with
          | false => rfl
          | true => exact absurd ((yset_bit n).1 hb).2 hb0
        · rw [decide_eq_true ej, Bool.and_true]
          refine Bool.eq_iff_iff.2 ?_
          rw [yset_bit, yset_bit]
          constructor
          · rintro ⟨h1, h2⟩; rw [hot j h1 ej] at h2; exact ⟨h1, h2⟩
          · rintro ⟨h1, h2⟩; rw [← hot j h1 ej] at h2; exact ⟨h1, h2⟩
      have hne0 : yset nd (ybe nd a (d + 1)) n ≠ 0 := fun c => by
        rw [c, Nat.zero_testBit] at hbit
        cases hbit
      have hmk := hm k d hk (by omega)
      rw [step, if_neg hne0]
      have hge := ymx_ge (m0 := yD mn n d (yset nd (ybe nd a (d + 1)) n)) (P := fun r => decide (yrm (yset nd (ybe nd a (d + 1)) n) r ≠ yset nd (ybe nd a (d + 1)) n) && decide (yD mn n d (yrm (yset nd (ybe nd a (d + 1)) n) r) ≠ -1) && decide (mn r d ≠ -1)) (g := fun r => yD mn n d (yrm (yset nd (ybe nd a (d + 1)) n) r) + 10000 - mn r d) hk (by
        rw [Bool.and_eq_true, Bool.and_eq_true, decide_eq_true_iff, decide_eq_true_iff, decide_eq_true_iff, hrm]
        refine ⟨⟨?_, by omega⟩, ?_⟩
        · rw [← hrm]; exact (yrm_ne k (by omega) _ (by omega)).2 hbit
        · rw [← e]; exact (hv k hk (by omega)).1)
      rw [hrm] at hge
      rw [hT]
      refine ⟨Int.le_trans ?_ hge, by omega⟩
      omega
    · have hot : ∀ j, j < n → ybe nd a (d + 1) j = ybe nd a d j := fun j hj => by
        have h1 : a j ≠ d := fun e => hk ⟨j, hj, e⟩
        unfold ybe
        by_cases c : a j < d
        · rw [if_pos c, if_pos (by omega)]
        · rw [if_neg c, if_neg (by omega)]
      have hT : yTo mn nd n (ybe nd a (d + 1)) n = yTo mn nd n (ybe nd a d) n := yTo_congr n (Nat.le_refl _) (fun j _ hj => hot j hj)
      have hS : yset nd (ybe nd a (d + 1)) n = yset nd (ybe nd a d) n := by
        refine ybit_eq _ (by omega) _ (by omega) (fun j hj => Bool.eq_iff_iff.2 ?_)
        rw [yset_bit, yset_bit]
        constructor
        · rintro ⟨h1, h2⟩; rw [hot j h1] at h2; exact ⟨h1, h2⟩
        · rintro ⟨h1, h2⟩; rw [← hot j h1] at h2; exact ⟨h1, h2⟩
      rw [step, hT, hS]
      refine ⟨?_, ih2⟩
      split
      · rename_i c
        rw [c] at ih1
        exact ih1
      · exact Int.le_trans ih1 (ymx_0 n)
theorem yD_ex {mn : Nat → Nat → Int} {nd n : Nat} (hn : n ≤ 5) : ∀ d, d ≤ nd → ∀ g, g < 2 ^ n → yD mn n d g ≠ -1 → ∃ a : Nat → Nat, (∀ k, a k < d ∨ a k = nd) ∧ yVA mn nd n a ∧ (∀ k, k < n → (g.testBit k = true ↔ a k < nd)) ∧ yTo mn nd n a n = yD mn n d g
  | 0, _, g, hg, h => by
    have e : yD mn n 0 g = if g = 0 then 0 else -1 := rfl
    by_cases c : g = 0
    · subst c
      have h0 : ∀ k, k ≤ n → yTo mn nd n (fun _ => nd) k = 0 := fun k hk => by
        induction k with
        | zero => rfl
        | succ k ih =>
          show yTo mn nd n (fun _ => nd) k + ycb mn nd _ nd = 0
          rw [ih (by omega)]
          unfold ycb
          rw [if_neg (Nat.lt_irrefl _)]
          rfl
      refine ⟨fun _ => nd, fun _ => Or.inr rfl, fun k _ h => absurd h (Nat.lt_irrefl _), fun k _ => ?_, (h0 n (Nat.le_refl _)).trans (if_pos rfl).symm⟩
      rw [Nat.zero_testBit]
      exact ⟨fun h => absurd h (by decide), fun h => absurd h (Nat.lt_irrefl _)⟩
    · rw [e, if_neg c] at h
      exact absurd rfl h
  | d + 1, hd, g, hg, h => by
    have h32 := ypw5 hn
    have up : (∃ a : Nat → Nat, (∀ k, a k < d ∨ a k = nd) ∧ yVA mn nd n a ∧ (∀ k, k < n → (g.testBit k = true ↔ a k < nd)) ∧ yTo mn nd n a n = yD mn n d g) → yD mn n (d + 1) g = yD mn n d g → ∃ a : Nat → Nat, (∀ k, a k < d + 1 ∨ a k = nd) ∧ yVA mn nd n a ∧ (∀ k, k < n → (g.testBit k = true ↔ a k < nd)) ∧ yTo mn nd n a n = yD mn n (d + 1) g := by
      rintro ⟨a, h1, h2, h3, h4⟩ e
      exact ⟨a, fun k => by have := h1 k; omega, h2, h3, by rw [e]; exact h4⟩
    by_cases c : g = 0
    · have e : yD mn n (d + 1) g = yD mn n d g := by
        rw [show yD mn n (d + 1) g = _ from if_pos c, c]
      rw [e] at h
      exact up (yD_ex hn d (by omega) g hg h) e
    · have e : yD mn n (d + 1) g = yoD n d mn (yD mn n d) g := if_neg c
      rcases ymx_ex (m0 := yD mn n d g) (P := fun r => decide (yrm g r ≠ g) && decide (yD mn n d (yrm g r) ≠ -1) && decide (mn r d ≠ -1)) (g := fun r => yD mn n d (yrm g r) + 10000 - mn r d) n with h1 | ⟨r, hr, h1, h2⟩
      · have e2 : yD mn n (d + 1) g = yD mn n d g := e.trans h1
        rw [e2] at h
        exact up (yD_ex hn d (by omega) g hg h) e2
      · rw [Bool.and_eq_true, Bool.and_eq_true, decide_eq_true_iff, decide_eq_true_iff, decide_eq_true_iff] at h1
        have hgr := (yrm_ne r (by omega) g (by omega)).1 h1.1.1
        obtain ⟨a, a1, a2, a3, a4⟩ := yD_ex (mn := mn) (nd := nd) hn d (by omega) (yrm g r) (Nat.lt_of_le_of_lt (yrm_lt _ _) hg) h1.1.2
        have har : ¬ a r < nd := fun h5 => by
          have h6 := (a3 r hr).2 h5
          rw [yrm_bit r (by omega) g (by omega) r (by omega), decide_eq_false (by simp), Bool.and_false] at h6
          cases h6
        refine ⟨fun j => if j = r then d else a j, fun k => ?_, fun k hk hl => ?_, fun k hk => ?_, ?_⟩
        · show (if k = r then d else a k) < d + 1 ∨ (if k = r then d else a k) = nd
          have := a1 k
          split <;> omega
        · by_cases ek : k = r
          · subst ek
            rw [show (fun j => if j = k then d else a j) k = d from if_pos rfl]
            refine ⟨h1.2, fun j hj hjk => ?_⟩
            show (if j = k then d else a j) ≠ d
            rw [if_neg hjk]
            have := a1 j
            omega
          · have hl : (if k = r then d else a k) < nd := hl
            rw [if_neg ek] at hl
            rw [show (fun j => if j = r then d else a j) k = a k from if_neg ek]
            obtain ⟨b1, b2⟩ := a2 k hk hl
            refine ⟨b1, fun j hj hjk => ?_⟩
            show (if j = r then d else a j) ≠ a k
            by_cases ej : j = r
            · rw [if_pos ej]
              have := a1 k
              omega
            · rw [if_neg ej]
              exact b2 j hj hjk
        · show _ ↔ (if k = r then d else a k) < nd
          by_cases ek : k = r
          · subst ek
            rw [if_pos rfl]
            exact ⟨fun _ => by omega, fun _ => hgr⟩
          · rw [if_neg ek, ← a3 k hk, yrm_bit r (by omega) g (by omega) k (by omega), decide_eq_true ek, Bool.and_true]
        · rw [yTo_upd (a := a) (b := fun j => if j = r then d else a j) har (by show (if r = r then d else _) < nd; rw [if_pos rfl]; omega) (fun j hj => if_neg hj) n (Nat.le_refl _) (by omega) hr, a4, e]
          rw [show (if r = r then d else a r) = d from if_pos rfl]
          show _ = yoD n d mn (yD mn n d) g
          unfold yoD
          rw [h2]
          show _ = yD mn n d (yrm g r) + 10000 - mn r d
          omega
theorem yD_B {mn : Nat → Nat → Int} {nd n : Nat} (hn : n ≤ 5) (hm : ∀ r d, r < n → d < nd → -1 ≤ mn r d ∧ mn r d ≤ 100) : ymx 0 (fun _ => true) (yD mn n nd) (2 ^ n) = yB mn nd n n 0 := by
  have hB := (yB_rg (mn := mn) (nd := nd) (n := n) (fun r d hr hd => (hm r d hr hd).1) n (Nat.le_refl _) 0).1
  obtain ⟨g1, g2⟩ := yG_ok (mn := mn) (nd := nd) (n := n) n (Nat.le_refl _) 0
  have gv : yVA mn nd n (fun j => ydg (nd + 1) (yG mn nd n n 0) (n - 1 - j)) := fun j hj hl => by
    obtain ⟨h1, h2, h3⟩ := g1 j (by omega) hj hl
    exact ⟨h1, fun i hi hij => h3 i (by omega) hi hij⟩
  have hge := (yD_ge hn hm gv nd (Nat.le_refl _)).1
  rw [yTo_congr (b := fun j => ydg (nd + 1) (yG mn nd n n 0) (n - 1 - j)) n (Nat.le_refl _) (fun j _ _ => by
    have h9 : ydg (nd + 1) (yG mn nd n n 0) (n - 1 - j) ≤ nd := Nat.le_of_lt_succ (Nat.mod_lt _ (Nat.succ_pos _))
    show (if ydg (nd + 1) (yG mn nd n n 0) (n - 1 - j) < nd then ydg (nd + 1) (yG mn nd n n 0) (n - 1 - j) else nd) = _
    split <;> omega), g2] at hge
  have h1 := ymx_ge (m0 := 0) (P := fun _ => true) (g := yD mn n nd) (yset_lt nd (ybe nd (fun j => ydg (nd + 1) (yG mn nd n n 0) (n - 1 - j)) nd) n) rfl
  rcases ymx_ex (m0 := 0) (P := fun _ => true) (g := yD mn n nd) (2 ^ n) with h2 | ⟨g, hg, -, h2⟩
  · omega
  · obtain ⟨a, a1, a2, a3, a4⟩ := yD_ex (mn := mn) (nd := nd) hn nd (Nat.le_refl _) g hg (by omega)
    have h3 := yTo_le a2 n (Nat.le_refl _) 0 (fun j _ _ _ => Nat.zero_testBit _)
    omega
