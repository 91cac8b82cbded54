/-! a request is cancelled -/
/-- the row of D without its stop o, q's stop to let in for nobody; so far L stops are laid -/
def ymk (v : zS) (D q o L : Nat) : zS := fun κ i k => if κ = 53 ∧ i = 0 ∧ 8 * D ≤ k ∧ k < 8 * D + L then (if k < 8 * D + o then v 53 0 k else v 53 0 (k + 1)) else if κ = 54 ∧ i = 0 ∧ 8 * D ≤ k ∧ k < 8 * D + L then (if (if k < 8 * D + o then v 54 0 k else v 54 0 (k + 1)) = (q : Int) then -1 else if k < 8 * D + o then v 54 0 k else v 54 0 (k + 1)) else v κ i k
theorem ymk_fr {v : zS} {D q o L κ i k : Nat} (h : ¬ ((κ = 53 ∨ κ = 54) ∧ 8 * D ≤ k ∧ k < 8 * D + L)) : ymk v D q o L κ i k = v κ i k := by
  unfold ymk
  rw [if_neg (by omega), if_neg (by omega)]
theorem ymk_0 {v : zS} {D q o : Nat} : ymk v D q o 0 = v := funext fun κ => funext fun i => funext fun k => ymk_fr (by omega)
theorem ymk_53 {v : zS} {D q o L j : Nat} (h : j < L) : ymk v D q o L 53 0 (8 * D + j) = if j < o then v 53 0 (8 * D + j) else v 53 0 (8 * D + (j + 1)) := by
  unfold ymk
  rw [if_pos (by omega)]
  by_cases c : j < o
  · rw [if_pos c, if_pos (by omega)]
  · rw [if_neg c, if_neg (by omega)]
    rfl
theorem ymk_54 {v : zS} {D q o L j : Nat} (h : j < L) : ymk v D q o L 54 0 (8 * D + j) = ycx (fun j => v 54 0 (8 * D + j)) (q : Int) o j := by
  unfold ymk ycx
  rw [if_neg (by omega), if_pos (by omega)]
  by_cases c : j < o
  · rw [if_pos c, if_pos (show 8 * D + j < 8 * D + o by omega)]
  · rw [if_neg c, if_neg (show ¬ 8 * D + j < 8 * D + o by omega)]
    rfl
theorem ymk_st {v : zS} {D q o L j : Nat} {x y : Int} (hj : j = if L < o then L else L + 1) (hx : x = v 53 0 (8 * D + j)) (hy : y = if v 54 0 (8 * D + j) = (q : Int) then -1 else v 54 0 (8 * D + j)) : zu (zu (ymk v D q o L) 53 0 (8 * D + L) x) 54 0 (8 * D + L) y = ymk v D q o (L + 1) := by
  have e53 := ymk_53 (v := v) (D := D) (q := q) (o := o) (L := L + 1) (j := L) (by omega)
  have e54 := ymk_54 (v := v) (D := D) (q := q) (o := o) (L := L + 1) (j := L) (by omega)
  have x2 : x = ymk v D q o (L + 1) 53 0 (8 * D + L) := by
    rw [e53, hx, hj]
    by_cases c : L < o
    · rw [if_pos c, if_pos c]
    · rw [if_neg c, if_neg c]
  have y2 : y = ymk v D q o (L + 1) 54 0 (8 * D + L) := by
    rw [e54, hy, hj]
    unfold ycx
    by_cases c : L < o
    · rw [if_pos c, if_pos c]
    · rw [if_neg c, if_neg c]
  funext κ i k
  by_cases h1 : κ = 54 ∧ i = 0 ∧ k = 8 * D + L
  · obtain ⟨rfl, rfl, rfl⟩ := h1
    rw [zu_same, y2]
  · rw [zu_ne h1]
    by_cases h2 : κ = 53 ∧ i = 0 ∧ k = 8 * D + L
    · obtain ⟨rfl, rfl, rfl⟩ := h2
      rw [zu_same, x2]
    · rw [zu_ne h2]
      by_cases h3 : κ = 53 ∧ i = 0 ∧ 8 * D ≤ k ∧ k < 8 * D + L
      · obtain ⟨rfl, rfl, h4, h5⟩ := h3
        rw [show k = 8 * D + (k - 8 * D) by omega, ymk_53 (by omega), ymk_53 (by omega)]
      · by_cases h4 : κ = 54 ∧ i = 0 ∧ 8 * D ≤ k ∧ k < 8 * D + L
        · obtain ⟨rfl, rfl, h4, h5⟩ := h4
          rw [show k = 8 * D + (k - 8 * D) by omega, ymk_54 (by omega), ymk_54 (by omega)]
        · unfold ymk
          rw [if_neg h3, if_neg h4, if_neg (by omega), if_neg (by omega)]
/-- where the rider of q is let out -/
def yco (σ : zS) (q o : Nat) : Prop := (o : Int) < σ 52 0 (σ 70 0 q).toNat ∧ σ 54 0 (8 * (σ 70 0 q).toNat + o) = 100 + (q : Int) ∧ ∀ j : Nat, (j : Int) < σ 52 0 (σ 70 0 q).toNat → σ 54 0 (8 * (σ 70 0 q).toNat + j) = 100 + (q : Int) → j = o
theorem yco_ex {σ : zS} {nd nr ns q : Nat} {c B : Int} (h : yWF σ nd nr ns c B) (hq : q < nr) (hs : σ 64 0 q = 1) : ∃ o, yco σ q o := by
  have hwq := h.2.2.1 q hq
  have h709 := hwq.2.2.2.2.2.2.2.2.1 (by omega) (by omega)
  have h70 := hwq.2.2.2.2.2.2.2.1
  have hrs := (h.2.1 (σ 70 0 q).toNat (by omega)).2.2.2.2.2.2.2.2.2
  obtain ⟨o, ho, e⟩ := hrs.2.2 q hq hs (by omega)
  refine ⟨o, by omega, e, fun j hj e2 => hrs.2.1 j o (by omega) ho (e2.trans e.symm) ?_⟩
  show σ 54 0 (8 * (σ 70 0 q).toNat + j) ≠ -1
  omega
noncomputable def ycl (σ : zS) (q o : Nat) : zS := zu (zu (ymk (zu σ 30 0 0 0) (σ 70 0 q).toNat q o ((σ 52 0 (σ 70 0 q).toNat).toNat - 1)) 52 0 (σ 70 0 q).toNat (σ 52 0 (σ 70 0 q).toNat - 1)) 64 0 q 4
noncomputable def ycf (σ : zS) (q : Nat) : Int := if 2 < σ 30 0 1 - σ 73 0 q then 500 else 0
