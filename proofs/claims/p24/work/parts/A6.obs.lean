/-! P24: WHAT IS ASKED -/
theorem yDV {x y : Int} (hx : zg x) (h0 : 0 ≤ x) (hy : zg y) (h1 : 0 < y) : ydv x y = x / y := by
  unfold ydv
  rw [zi_div hx hy h0 h1]
  have h2 : x / y ≤ x := Int.ediv_le_self y h0
  have h3 : 0 ≤ x / y := Int.ediv_nonneg h0 (by omega)
  exact zi_toInt ⟨by omega, by have := hx.2; omega⟩
/-- pay, plainly -/
theorem pPY {t : zS} {nd nr ns d : Nat} {c B : Int} (h : yWF t nd nr ns c B) (hE : pE t nd nr) (hd : d < nd) : ypy t d = max (t 62 0 d * 75 / 100) (t 60 0 d * 30) ∧ 0 ≤ t 62 0 d * 75 ∧ t 62 0 d * 75 ≤ 101250000 ∧ 0 ≤ t 60 0 d ∧ t 60 0 d ≤ 20000 := by
  have h1 := h.2.1 d hd
  have h2 := hE.2 d hd
  have h3 := yDN_le t nr
  have h4 := h.1.1.2.1
  have h5 := h.1.2.2.1
  have h6 := h1.2.2.2.2.2.2.1
  have h7 := h1.2.2.2.2.2.2.2.1
  have h8 := h1.2.2.2.2.2.2.2.2.1
  unfold ypy
  rw [yDV ⟨by omega, by omega⟩ (by omega) ⟨by decide, by decide⟩ (by decide)]
  exact ⟨rfl, by omega, by omega, by omega, by omega⟩
theorem pPY_up {t u : zS} {nd nr nr' ns ns' d : Nat} {c B c' B' : Int} (h : yWF t nd nr ns c B) (hE : pE t nd nr) (h' : yWF u nd nr' ns' c' B') (hE' : pE u nd nr') (hd : d < nd) (h62 : t 62 0 d ≤ u 62 0 d) (h60 : t 60 0 d ≤ u 60 0 d) : ypy t d ≤ ypy u d := by
  obtain ⟨a1, a2, a3, a4, a5⟩ := pPY h hE hd
  obtain ⟨b1, b2, b3, b4, b5⟩ := pPY h' hE' hd
  rw [a1, b1]
  omega
/-- ratings -/
theorem zsum_lo {f : Nat → Int} : ∀ n : Nat, (∀ j, j < n → 1 ≤ f j ∧ f j ≤ 5) → (n : Int) ≤ zsum f n ∧ zsum f n ≤ 5 * n
  | 0, _ => ⟨Int.le_refl _, Int.le_refl _⟩
  | n + 1, h => by
    have h1 := zsum_lo n (fun j hj => h j (by omega))
    have h2 := h n (by omega)
    show ((n + 1 : Nat) : Int) ≤ zsum f n + f n ∧ zsum f n + f n ≤ _
    omega
theorem pRT {t : zS} {sl : Prop} {nd nr ns d : Nat} {c B : Int} (h : yWF t nd nr ns c B) (hv : pV t sl nd nr) (hd : d < nd) : 100 ≤ yrt t d ∧ yrt t d ≤ 500 := by
  obtain ⟨⟨s1, s2⟩, s3⟩ := (h.2.1 d hd).2.2.2.2.2.1
  have hg := (hv.1.2 d hd).2.2
  unfold yrt
  split
  · exact ⟨by decide, by decide⟩
  · rename_i hk
    obtain ⟨m, hm⟩ : ∃ m : Nat, min (t 58 0 d) 10 = (m : Int) := ⟨(min (t 58 0 d) 10).toNat, by omega⟩
    have h1 := zsum_lo (f := fun j => t 59 0 (10 * d + j)) m (fun j hj => ⟨hg j (by omega) (by omega), (s3 j (by omega)).2⟩)
    rw [hm] at hk ⊢
    rw [show ((m : Int)).toNat = m by omega]
    have hm0 : (0 : Int) < (m : Int) := by omega
    constructor
    · rw [Int.le_ediv_iff_mul_le hm0]; omega
    · rw [Int.ediv_le_iff_le_mul hm0]
      omega
/-- ways -/
def pWY (t : zS) (a b : Int) : Int := if (0 ≤ a ∧ a ≤ 9) ∧ (0 ≤ b ∧ b ≤ 9) then (if t 47 0 (10 * a.toNat + b.toNat) < 100000 then t 47 0 (10 * a.toNat + b.toNat) else -1) else -2000000001
theorem pWY_in {t : zS} {a b : Int} (ha : 0 ≤ a ∧ a ≤ 9) (hb : 0 ≤ b ∧ b ≤ 9) : pWY t a b = if t 47 0 (10 * a.toNat + b.toNat) < 100000 then t 47 0 (10 * a.toNat + b.toNat) else -1 := if_pos ⟨ha, hb⟩
theorem pWY_rg {t : zS} {nd nr ns : Nat} {c B : Int} (h : yWF t nd nr ns c B) (a b : Int) : -2000000001 ≤ pWY t a b ∧ pWY t a b ≤ 20480 := by
  unfold pWY
  split
  · rename_i hc
    have h1 := yWF_w h a.toNat b.toNat (by omega) (by omega)
    split
    · rename_i h2
      have := h1.2.2.1 h2
      omega
    · omega
  · omega
theorem pWY_sym {t : zS} {nd nr ns : Nat} {c B : Int} (h : yWF t nd nr ns c B) {a b : Int} (ha : 0 ≤ a ∧ a ≤ 9) (hb : 0 ≤ b ∧ b ≤ 9) : pWY t a b = pWY t b a := by
  rw [pWY_in ha hb, pWY_in hb ha]
  obtain ⟨⟨a1, a2, a5, a6, a7, a8, a9⟩, -⟩ := h
  rw [a9 _ _ (by omega) (by omega), a9 _ _ (by omega) (by omega), ywf_sym]
theorem pWY_self {t : zS} {nd nr ns : Nat} {c B : Int} (h : yWF t nd nr ns c B) {a : Int} (ha : 0 ≤ a ∧ a ≤ 9) : pWY t a a = 0 := by
  rw [pWY_in ha ha]
  obtain ⟨⟨a1, a2, a5, a6, a7, a8, a9⟩, -⟩ := h
  rw [a9 _ _ (by omega) (by omega), ywf_dg (by decide) a8 10]
  rfl
theorem pWY_tri {t : zS} {nd nr ns : Nat} {c B : Int} (h : yWF t nd nr ns c B) {a b e : Int} (ha : 0 ≤ a ∧ a ≤ 9) (hb : 0 ≤ b ∧ b ≤ 9) (he : 0 ≤ e ∧ e ≤ 9) (h1 : 0 ≤ pWY t a b) (h2 : 0 ≤ pWY t b e) : 0 ≤ pWY t a e ∧ pWY t a e ≤ pWY t a b + pWY t b e := by
  have w1 := yWF_w h a.toNat b.toNat (by omega) (by omega)
  have w2 := yWF_w h b.toNat e.toNat (by omega) (by omega)
  have w3 := yWF_w h a.toNat e.toNat (by omega) (by omega)
  have ht := pW_tri h (a := a.toNat) (b := b.toNat) (e := e.toNat) (by omega) (by omega) (by omega)
  rw [pWY_in ha hb] at h1 ⊢
  rw [pWY_in hb he] at h2 ⊢
  rw [pWY_in ha he]
  split at h1
  · rename_i k1
    split at h2
    · rename_i k2
      have := w1.2.2.1 k1
      have := w2.2.2.1 k2
      rw [if_pos (by omega), if_pos k1, if_pos k2]
      omega
    · omega
  · omega
theorem pHT_rg {t : zS} {nd nr ns : Nat} {c B : Int} (h : yWF t nd nr ns c B) (z : Int) : 100 ≤ yht t nd nr z ∧ yht t nd nr z ≤ t 30 0 2 := by
  have := h.1.2.2.2.1
  unfold yht
  omega
