/-! P24: for the law's own methods -/
theorem pC_r8 {ad : zA} {σ t : zS} {nd nr ns : Nat} {c : Int} (h : pC ad σ t nd nr ns c) : pC (zr8 ad) σ t nd nr ns c :=
  ⟨fun κ i hl => by rw [zr8_lo (by have := zlive_lo hl; omega)]; exact h.1 κ i hl, fun κ i q1 q2 q3 => by rw [zr8_lo (by omega)]; exact h.2.1 κ i q1 q2 q3, h.2.2⟩
theorem CP_g8 {σ u t : zS} {nd nr ns : Nat} (h : CP u t nd nr ns) : CP (zg8 σ u) t nd nr ns := h
theorem pC_g8 {ad ad' : zA} {σ u t : zS} {nd nr ns : Nat} {c : Int} (h : pC ad' u t nd nr ns c) : pC (za8 ad ad') (zg8 σ u) t nd nr ns c :=
  ⟨fun κ i hl => by rw [za8_lo (by have := zlive_lo hl; omega)]; exact h.1 κ i hl, fun κ i q1 q2 q3 => by rw [za8_lo (by omega)]; exact h.2.1 κ i q1 q2 q3, CP_g8 h.2.2.1, h.2.2.2⟩
theorem pC_g {ad : zA} {σ u t : zS} {nd nr ns : Nat} {c : Int} (h : pC (zr8 ad) u t nd nr ns c) : pC ad (zg8 σ u) t nd nr ns c := by
  have := pC_g8 (ad := ad) (σ := σ) h
  rw [za8_self] at this
  exact this
theorem pDI_at {t : zS} {nd d : Nat} {w : Int} (hd : d < nd) (hw : 0 ≤ w ∧ w ≤ 6) : pDI t nd ((d : Nat) : Int) w = ydi t d w := (if_pos ⟨by omega, by omega⟩).trans (if_pos hw)
theorem pRI_at {t : zS} {nr q : Nat} {w : Int} (hq : q < nr) (hw : 0 ≤ w ∧ w ≤ 6) : pRI t nr ((q : Nat) : Int) w = yri t q w := (if_pos ⟨by omega, by omega⟩).trans (if_pos hw)
theorem pST_at {t : zS} {nd d k : Nat} (hd : d < nd) (hk : (k : Int) < t 52 0 d) : pST t nd ((d : Nat) : Int) ((k : Nat) : Int) 1 = t 54 0 (8 * d + k) := by
  unfold pST
  rw [if_pos ⟨⟨by omega, by omega⟩, by omega⟩]
  exact (if_pos hk).trans (if_neg (by decide))
theorem ydi_1 {t : zS} {d : Nat} : ydi t d 1 = t 52 0 d := (if_neg (by decide)).trans (if_pos rfl)
theorem ydi_2 {t : zS} {d : Nat} : ydi t d 2 = if t 52 0 d = 0 then -1 else t 55 0 d := (if_neg (by decide)).trans ((if_neg (by decide)).trans (if_pos rfl))
theorem ydi_3 {t : zS} {d : Nat} : ydi t d 3 = zb (ymf t d) := (if_neg (by decide)).trans ((if_neg (by decide)).trans ((if_neg (by decide)).trans (if_pos rfl)))
theorem ydi_4 {t : zS} {d : Nat} : ydi t d 4 = yrt t d := (if_neg (by decide)).trans ((if_neg (by decide)).trans ((if_neg (by decide)).trans ((if_neg (by decide)).trans (if_pos rfl))))
theorem ydi_5 {t : zS} {d : Nat} : ydi t d 5 = t 60 0 d := (if_neg (by decide)).trans ((if_neg (by decide)).trans ((if_neg (by decide)).trans ((if_neg (by decide)).trans ((if_neg (by decide)).trans (if_pos rfl)))))
theorem yri_0 {t : zS} {q : Nat} : yri t q 0 = t 64 0 q := if_pos rfl
theorem yri_1 {t : zS} {q : Nat} : yri t q 1 = t 69 0 q := (if_neg (by decide)).trans (if_pos rfl)
theorem yri_2 {t : zS} {q : Nat} : yri t q 2 = t 70 0 q := (if_neg (by decide)).trans ((if_neg (by decide)).trans (if_pos rfl))
theorem yri_3 {t : zS} {q : Nat} : yri t q 3 = t 71 0 q := (if_neg (by decide)).trans ((if_neg (by decide)).trans ((if_neg (by decide)).trans (if_pos rfl)))
theorem yri_4 {t : zS} {q : Nat} : yri t q 4 = t 72 0 q := (if_neg (by decide)).trans ((if_neg (by decide)).trans ((if_neg (by decide)).trans ((if_neg (by decide)).trans (if_pos rfl))))
theorem yri_5 {t : zS} {q : Nat} : yri t q 5 = zb (t 71 0 q < t 72 0 q) := (if_neg (by decide)).trans ((if_neg (by decide)).trans ((if_neg (by decide)).trans ((if_neg (by decide)).trans ((if_neg (by decide)).trans (if_pos rfl)))))
theorem yri_6 {t : zS} {q : Nat} : yri t q 6 = t 67 0 q := (if_neg (by decide)).trans ((if_neg (by decide)).trans ((if_neg (by decide)).trans ((if_neg (by decide)).trans ((if_neg (by decide)).trans (if_neg (by decide))))))
theorem zi_31 : ∀ r : Nat, r < 32 → zi (r : Int) &&& 31 = zi (r : Int) := by decide +kernel
theorem zi_shr0 : ∀ r : Nat, r < 12 → ∀ a : Nat, a < 64 → ∀ b : Nat, b < 64 → zi ((64 * a + b : Nat) : Int) >>> (zi (r : Int) &&& 31) = zi (((64 * a + b) >>> r : Nat) : Int) := by decide +kernel
theorem zi_shr12 {z r : Nat} (hz : z < 4096) (hr : r < 12) : zi (z : Int) >>> (zi (r : Int) &&& 31) = zi ((z >>> r : Nat) : Int) := by
  have h := zi_shr0 r hr (z / 64) (by omega) (z % 64) (by omega)
  rw [show 64 * (z / 64) + z % 64 = z by omega] at h
  exact h
theorem zi_shl12 : ∀ d : Nat, d < 12 → zi 1 <<< (zi (d : Int) &&& 31) = zi ((2 ^ d : Nat) : Int) := by decide +kernel
theorem zi_bit12 {z r : Nat} (hz : z < 4096) (hr : r < 12) : zi ((z >>> r : Nat) : Int) &&& zi 1 = zi (((z.testBit r).toNat : Nat) : Int) := by
  have hle : z >>> r ≤ z := by rw [Nat.shiftRight_eq_div_pow]; exact Nat.div_le_self _ _
  rw [show (1 : Int) = ((1 : Nat) : Int) from rfl, zi_and _ _ (by omega) (by decide), Nat.testBit_eq_decide_div_mod_eq, Nat.shiftRight_eq_div_pow, Nat.and_one_is_mod]
  rcases Nat.mod_two_eq_zero_or_one (z / 2 ^ r) with e | e <;> rw [e] <;> rfl
theorem zi_or12 {z y : Nat} (hz : z < 4096) (hy : y < 4096) : zi (z : Int) ||| zi (y : Int) = zi ((z ||| y : Nat) : Int) := zi_or _ _ (by omega) (by omega)
theorem por_lt {z r : Nat} (hz : z < 4096) (hr : r < 12) : z ||| 2 ^ r < 4096 := Nat.or_lt_two_pow (n := 12) hz (Nat.pow_lt_pow_right (by decide) hr)
theorem ycO_s {w : Nat → Int} {n : Nat} : ycO w (n + 1) = ycO w n + (if 100 ≤ w n then 1 else 0) := rfl
theorem zg8_eq {σ u : zS} (e : ∀ κ i k, κ < 86 → u κ i k = σ κ i k) : zg8 u σ = u := funext fun κ => funext fun i => funext fun k => by
  unfold zg8
  split
  · exact (e κ i k (by assumption)).symm
  · rfl
/-- the law's arrays change, the class's world not -/
theorem pC_hi {ad : zA} {σ u t : zS} {nd nr ns : Nat} {c : Int} (h : pC ad σ t nd nr ns c) (e : ∀ κ i k, κ < 86 → u κ i k = σ κ i k) : pC ad u t nd nr ns c := by
  have h1 : CP (zg8 u σ) t nd nr ns := h.2.2.1
  rw [zg8_eq e] at h1
  exact ⟨h.1, h.2.1, h1, h.2.2.2⟩
/-- what was told of the requests, and what must hold of it now -/
def pH1 (σ t : zS) (q : Nat) : Prop := σ 87 0 (4 * q) ≤ t 64 0 q ∧ (3 ≤ σ 87 0 (4 * q) → t 64 0 q = σ 87 0 (4 * q)) ∧ σ 87 0 (4 * q + 1) = t 69 0 q ∧ σ 87 0 (4 * q + 3) = t 67 0 q ∧ (σ 87 0 (4 * q + 2) ≠ -1 → t 71 0 q = σ 87 0 (4 * q + 2))
def pH2 (σ t : zS) (q : Nat) : Prop := σ 87 0 (4 * q) = t 64 0 q ∧ σ 87 0 (4 * q + 1) = t 69 0 q ∧ σ 87 0 (4 * q + 2) = t 71 0 q ∧ σ 87 0 (4 * q + 3) = t 67 0 q
def pHm (σ t : zS) (nr : Nat) : Prop := ∀ q, q < nr → pH1 σ t q
def pHe (σ t : zS) (nr : Nat) : Prop := ∀ q, q < nr → pH2 σ t q
theorem pH1_cg {σ u t : zS} {q : Nat} (h : pH1 σ t q) (e : ∀ j, j < 4 → u 87 0 (4 * q + j) = σ 87 0 (4 * q + j)) : pH1 u t q := by
  have e0 : u 87 0 (4 * q) = σ 87 0 (4 * q) := e 0 (by decide)
  unfold pH1
  rw [e0, e 1 (by decide), e 2 (by decide), e 3 (by decide)]
  exact h
theorem pH2_cg {σ u t : zS} {q : Nat} (h : pH2 σ t q) (e : ∀ j, j < 4 → u 87 0 (4 * q + j) = σ 87 0 (4 * q + j)) : pH2 u t q := by
  have e0 : u 87 0 (4 * q) = σ 87 0 (4 * q) := e 0 (by decide)
  unfold pH2
  rw [e0, e 1 (by decide), e 2 (by decide), e 3 (by decide)]
  exact h
theorem pH2_M {σ t u : zS} {nd nr q : Nat} (h : pH2 σ t q) (hM : pM t u nd nr) (hq : q < nr) : pH1 σ u q := by
  obtain ⟨a1, a2, a3, a4⟩ := h
  obtain ⟨b1, b2, b3, b4, b5⟩ := hM.1 q hq
  exact ⟨by omega, fun k => by rw [a1] at k ⊢; exact b2 k, by rw [a2]; exact b3.symm, by rw [a4]; exact b4.symm, fun k => by rw [a3] at k ⊢; exact b5 k⟩
/-- the sum of all that is asked -/
noncomputable def pSM (t : zS) (nd nr : Nat) : Nat → Int
  | 0 => pBE t nd nr
  | k + 1 => 31 * pSM t nd nr k + pRI t nr (((k : Nat) : Int) / 6) (((k : Nat) : Int) % 7) + 3 * pDI t nd (((k : Nat) : Int) / 7 % 4) (((k : Nat) : Int) % 7) + 5 * pST t nd (((k : Nat) : Int) / 16) (((k : Nat) : Int) / 2 % 8) (if k % 2 = 0 then 1 else 0) + 7 * pWY t (((k : Nat) : Int) / 8) (((k : Nat) : Int) % 8) + 11 * pHT t nd nr (((k : Nat) : Int) % 4) + 13 * pPA t nd (((k : Nat) : Int) % 4)
