/-! THE REFERENCE'S STORE IS WELL FORMED -/
/-- how many requests are DONE -/
def yDN (t : zS) (nr : Nat) : Nat := ysm (fun q => if t 64 0 q = 3 then 1 else 0) nr
def yWg (t : zS) (nd nr ns : Nat) (B : Int) : Prop :=
  (nd ≤ 8 ∧ nr ≤ 60 ∧ ns ≤ 20) ∧ (t 30 0 8 = (nd : Int) ∧ t 30 0 23 = (nr : Int) ∧ t 30 0 3 = (ns : Int)) ∧ (0 ≤ t 30 0 1 ∧ t 30 0 1 ≤ 20000) ∧ (100 ≤ t 30 0 2 ∧ t 30 0 2 ≤ 300) ∧ (0 ≤ t 30 0 17 ∧ t 30 0 17 ≤ B) ∧ yst (t 44 0) (t 45 0) (t 46 0) ns ∧ ∀ a b, a < 10 → b < 10 → t 47 0 (10 * a + b) = ywf 100000 (t 44 0) (t 45 0) (t 46 0) ns 10 a b
def yWd (t : zS) (nr : Nat) (c : Int) (d : Nat) : Prop :=
  ((0 ≤ t 49 0 d ∧ t 49 0 d < 10) ∧ (0 ≤ t 52 0 d ∧ t 52 0 d ≤ 8)) ∧
  (∀ j : Nat, (j : Int) < t 52 0 d → 0 ≤ t 53 0 (8 * d + j) ∧ t 53 0 (8 * d + j) < 10) ∧
  (∀ j : Nat, (j : Int) + 1 < t 52 0 d → t 47 0 (10 * (t 53 0 (8 * d + j)).toNat + (t 53 0 (8 * d + (j + 1))).toNat) < 100000) ∧
  (0 < t 52 0 d → ywy t d < 100000) ∧ (0 ≤ t 55 0 d ∧ t 55 0 d ≤ 50000) ∧
  ((0 ≤ t 58 0 d ∧ t 58 0 d ≤ c) ∧ ∀ j, j < 10 → 0 ≤ t 59 0 (10 * d + j) ∧ t 59 0 (10 * d + j) ≤ 5) ∧
  (0 ≤ t 60 0 d ∧ t 60 0 d ≤ t 30 0 1) ∧ (0 ≤ t 61 0 d ∧ t 61 0 d ≤ (yDN t nr : Int)) ∧ (0 ≤ t 62 0 d ∧ t 62 0 d ≤ 3000000 * t 61 0 d) ∧
  yRS nr d (t 52 0 d).toNat (fun j => t 54 0 (8 * d + j)) (t 64 0) (t 70 0)
def yWq (t : zS) (nd q : Nat) : Prop :=
  (0 ≤ t 65 0 q ∧ t 65 0 q < 10) ∧ (0 ≤ t 66 0 q ∧ t 66 0 q < 10) ∧ t 47 0 (10 * (t 65 0 q).toNat + (t 66 0 q).toNat) < 100000 ∧ (0 ≤ t 67 0 q ∧ t 67 0 q ≤ t 30 0 1 + 60) ∧ (0 ≤ t 69 0 q ∧ t 69 0 q ≤ 3000000) ∧ (0 ≤ t 64 0 q ∧ t 64 0 q ≤ 4) ∧ (t 64 0 q = 0 → t 70 0 q = -1) ∧ (-1 ≤ t 70 0 q ∧ t 70 0 q < (nd : Int)) ∧ (t 64 0 q ≠ 0 → t 64 0 q ≠ 4 → 0 ≤ t 70 0 q) ∧ (0 ≤ t 73 0 q ∧ t 73 0 q ≤ 20000) ∧ -1 ≤ t 71 0 q ∧ -1 ≤ t 72 0 q
/-- what isn't told yet is as it was made -/
def yWn (t : zS) (nd nr : Nat) : Prop := (∀ d, nd ≤ d → d < 8 → (t 50 0 d = 0 ∧ t 51 0 d = 0 ∧ t 52 0 d = 0 ∧ t 58 0 d = 0 ∧ t 60 0 d = 0 ∧ t 61 0 d = 0 ∧ t 62 0 d = 0 ∧ 0 ≤ t 55 0 d ∧ t 55 0 d ≤ 50000) ∧ ∀ j, j < 10 → t 59 0 (10 * d + j) = 0) ∧ ∀ q, nr ≤ q → q < 60 → t 64 0 q = 0 ∧ t 73 0 q = 0 ∧ t 74 0 q = 0
def yWF (t : zS) (nd nr ns : Nat) (c B : Int) : Prop := yWg t nd nr ns B ∧ (∀ d, d < nd → yWd t nr c d) ∧ (∀ q, q < nr → yWq t nd q) ∧ yWn t nd nr
theorem yWn_ot {t u : zS} {nd nr : Nat} (h : yWn t nd nr) (e : ∀ κ k, ((κ = 50 ∨ κ = 51 ∨ κ = 52 ∨ κ = 55 ∨ κ = 58 ∨ κ = 60 ∨ κ = 61 ∨ κ = 62) ∧ nd ≤ k) ∨ (κ = 59 ∧ 10 * nd ≤ k) ∨ ((κ = 64 ∨ κ = 73 ∨ κ = 74) ∧ nr ≤ k ∧ k < 60) → u κ 0 k = t κ 0 k) : yWn u nd nr := by
  refine ⟨fun d h1 h2 => ?_, fun q h1 h2 => ?_⟩
  · have h3 := h.1 d h1 h2
    rw [e 50 d (by omega), e 51 d (by omega), e 52 d (by omega), e 55 d (by omega), e 58 d (by omega), e 60 d (by omega), e 61 d (by omega), e 62 d (by omega)]
    exact ⟨h3.1, fun j hj => by rw [e 59 _ (by omega)]; exact h3.2 j hj⟩
  · rw [e 64 q (by omega), e 73 q (by omega), e 74 q (by omega)]
    exact h.2 q h1 h2
theorem yDN_le (t : zS) : ∀ nr, yDN t nr ≤ nr
  | 0 => Nat.le_refl 0
  | n + 1 => by
    have h := yDN_le t n
    show yDN t n + (if t 64 0 n = 3 then 1 else 0) ≤ n + 1
    split <;> omega
theorem yDN_same {t u : zS} {nr : Nat} (h : ∀ q, q < nr → (u 64 0 q = 3 ↔ t 64 0 q = 3)) : yDN u nr = yDN t nr := by
  refine ysm_congr (fun q hq => ?_)
  by_cases e : t 64 0 q = 3
  · rw [if_pos e, if_pos ((h q hq).2 e)]
  · rw [if_neg e, if_neg (fun c => e ((h q hq).1 c))]
theorem yDN_up {t u : zS} {nr q : Nat} (hq : q < nr) (h1 : t 64 0 q ≠ 3) (h2 : u 64 0 q = 3) (h : ∀ p, p < nr → p ≠ q → (u 64 0 p = 3 ↔ t 64 0 p = 3)) : yDN u nr = yDN t nr + 1 := by
  refine ysm_up hq ?_ (fun p hp hpq => ?_)
  · rw [if_pos h2, if_neg h1]
  · by_cases e : t 64 0 p = 3
    · rw [if_pos e, if_pos ((h p hp hpq).2 e)]
    · rw [if_neg e, if_neg (fun c => e ((h p hp hpq).1 c))]
theorem yWg_ot {t u : zS} {nd nr ns : Nat} {B B' : Int} (h : yWg t nd nr ns B) (e : ∀ κ k, (κ = 30 ∧ (k = 2 ∨ k = 3 ∨ k = 8 ∨ k = 23)) ∨ κ = 44 ∨ κ = 45 ∨ κ = 46 ∨ κ = 47 → u κ 0 k = t κ 0 k) (h1 : 0 ≤ u 30 0 1 ∧ u 30 0 1 ≤ 20000) (hB : 0 ≤ u 30 0 17 ∧ u 30 0 17 ≤ B') : yWg u nd nr ns B' := by
  obtain ⟨a1, ⟨a2, a3, a4⟩, a5, a6, a7, a8, a9⟩ := h
  have f44 : u 44 0 = t 44 0 := funext fun k => e 44 k (by omega)
  have f45 : u 45 0 = t 45 0 := funext fun k => e 45 k (by omega)
  have f46 : u 46 0 = t 46 0 := funext fun k => e 46 k (by omega)
  refine ⟨a1, ⟨by rw [e 30 8 (by omega)]; exact a2, by rw [e 30 23 (by omega)]; exact a3, by rw [e 30 3 (by omega)]; exact a4⟩, h1, by rw [e 30 2 (by omega)]; exact a6, hB, by rw [f44, f45, f46]; exact a8, fun a b ha hb => ?_⟩
  rw [f44, f45, f46, e 47 _ (by omega)]
  exact a9 a b ha hb
theorem yWd_ot {t u : zS} {nr d : Nat} {c c' : Int} (h : yWd t nr c d) (hc : c ≤ c') (e : ∀ κ k, ((κ = 49 ∨ κ = 52 ∨ κ = 55 ∨ κ = 58 ∨ κ = 60 ∨ κ = 61 ∨ κ = 62) ∧ k = d) ∨ ((κ = 53 ∨ κ = 54) ∧ 8 * d ≤ k ∧ k < 8 * d + 8) ∨ (κ = 59 ∧ 10 * d ≤ k ∧ k < 10 * d + 10) ∨ κ = 47 → u κ 0 k = t κ 0 k) (h1 : t 30 0 1 ≤ u 30 0 1) (hN : yDN t nr ≤ yDN u nr) (hs : ∀ q, q < nr → (t 70 0 q = (d : Int) → u 64 0 q = t 64 0 q ∧ u 70 0 q = (d : Int)) ∧ (u 70 0 q = (d : Int) → u 64 0 q = 1 → t 70 0 q = (d : Int))) : yWd u nr c' d := by
  obtain ⟨⟨a1, a2⟩, a3, a4, a5, a6, a7, a8, a9, a10, a11⟩ := h
  have e49 := e 49 d (by omega)
  have e52 := e 52 d (by omega)
  have e53 : ∀ j : Nat, (j : Int) < t 52 0 d → u 53 0 (8 * d + j) = t 53 0 (8 * d + j) := fun j hj => e 53 _ (by omega)
  refine ⟨⟨by rw [e49]; exact a1, by rw [e52]; exact a2⟩, fun j hj => ?_, fun j hj => ?_, fun hj => ?_, by rw [e 55 d (by omega)]; exact a6, ⟨by rw [e 58 d (by omega)]; omega, fun j hj => by rw [e 59 _ (by omega)]; exact a7.2 j hj⟩, by rw [e 60 d (by omega)]; omega, by rw [e 61 d (by omega)]; omega, by rw [e 62 d (by omega), e 61 d (by omega)]; exact a10, ?_⟩
  · rw [e52] at hj
    rw [e53 j hj]; exact a3 j hj
  · rw [e52] at hj
    rw [e53 j (by omega), e53 (j + 1) (by omega), e 47 _ (by omega)]
    exact a4 j hj
  · rw [e52] at hj
    unfold ywy
    rw [e49, e 53 _ (by omega), e 47 _ (by omega)]
    exact a5 hj
  · rw [e52]
    exact yRS_other a11 (fun j hj => e 54 _ (by omega)) hs
theorem yWq_ot {t u : zS} {nd nd' q : Nat} (h : yWq t nd q) (hnd : nd ≤ nd') (e : ∀ κ k, κ = 47 ∨ (64 ≤ κ ∧ κ ≤ 73 ∧ κ ≠ 68 ∧ k = q) → u κ 0 k = t κ 0 k) (h1 : t 30 0 1 ≤ u 30 0 1) : yWq u nd' q := by
  obtain ⟨a1, a2, a3, a4, a5, a6, a7, a8, a9, a10, a11, a12⟩ := h
  have e64 := e 64 q (by omega)
  have e65 := e 65 q (by omega)
  have e66 := e 66 q (by omega)
  have e67 := e 67 q (by omega)
  have e69 := e 69 q (by omega)
  have e70 := e 70 q (by omega)
  have e71 := e 71 q (by omega)
  have e72 := e 72 q (by omega)
  have e73 := e 73 q (by omega)
  unfold yWq
  rw [e64, e65, e66, e67, e69, e70, e71, e72, e73, e 47 _ (by omega)]
  exact ⟨a1, a2, a3, by omega, a5, a6, a7, by omega, a9, a10, a11, a12⟩
/-- nothing that counts has changed -/
def yWk (nd nr κ k : Nat) : Prop := (κ = 30 ∧ (k = 1 ∨ k = 2 ∨ k = 3 ∨ k = 8 ∨ k = 23)) ∨ (44 ≤ κ ∧ κ ≤ 55 ∧ κ ≠ 50 ∧ κ ≠ 51) ∨ (58 ≤ κ ∧ κ ≤ 73 ∧ κ ≠ 68) ∨ ((κ = 50 ∨ κ = 51) ∧ nd ≤ k) ∨ (κ = 74 ∧ nr ≤ k)
theorem yWF_fr {t u : zS} {nd nr ns : Nat} {c c' B B' : Int} (h : yWF t nd nr ns c B) (e : ∀ κ k, yWk nd nr κ k → u κ 0 k = t κ 0 k) (hc : c ≤ c') (hB : 0 ≤ u 30 0 17 ∧ u 30 0 17 ≤ B') : yWF u nd nr ns c' B' := by
  obtain ⟨g, hd, hq, hn⟩ := h
  have e1 := e 30 1 (by unfold yWk; omega)
  refine ⟨yWg_ot g (fun κ k h => e κ k (by unfold yWk; omega)) (by rw [e1]; exact g.2.2.1) hB, fun d hd9 => ?_, fun q hq9 => ?_, yWn_ot hn (fun κ k h => e κ k (by unfold yWk; omega))⟩
  · refine yWd_ot (hd d hd9) hc (fun κ k h => e κ k (by unfold yWk; omega)) (by omega) ?_ (fun q hq9 => ?_)
    · exact Nat.le_of_eq (yDN_same (t := t) (u := u) (fun q hq9 => by rw [e 64 q (by unfold yWk; omega)])).symm
    · rw [e 64 q (by unfold yWk; omega), e 70 q (by unfold yWk; omega)]
      exact ⟨fun h => ⟨rfl, h⟩, fun h _ => h⟩
  · exact yWq_ot (hq q hq9) (Nat.le_refl _) (fun κ k h => e κ k (by unfold yWk; omega)) (by omega)
theorem yWF_bf {t : zS} {nd nr ns d : Nat} {c B : Int} (h : yWF t nd nr ns c B) : yWF (ybf t d) nd nr ns c (B + 1) := by
  have hb := ybf_17 t d
  have hg := h.1.2.2.2.2.1
  refine yWF_fr h (fun κ k hk => ?_) (Int.le_refl _) (by omega)
  unfold ybf
  unfold yWk at hk
  split
  · rw [zu_ne (by omega), zu_ne (by omega)]
  · rfl
theorem yWF_B {t : zS} {nd nr ns : Nat} {c c' B B' : Int} (h : yWF t nd nr ns c B) (hc : c ≤ c') (hB : B ≤ B') : yWF t nd nr ns c' B' := yWF_fr h (fun _ _ _ => rfl) hc (by have := h.1.2.2.2.2.1; omega)
/-- the ways' bounds -/
theorem yWF_w {t : zS} {nd nr ns : Nat} {c B : Int} (h : yWF t nd nr ns c B) : ∀ a b, a < 10 → b < 10 → 0 ≤ t 47 0 (10 * a + b) ∧ t 47 0 (10 * a + b) ≤ 100000 ∧ (t 47 0 (10 * a + b) < 100000 → t 47 0 (10 * a + b) ≤ 20480) ∧ (a ≠ b → 1 ≤ t 47 0 (10 * a + b)) := fun a b ha hb => by
  obtain ⟨⟨a1, a2, a5, a6, a7, a8, a9⟩, -⟩ := h
  rw [a9 a b ha hb]
  have r := ywf_rg (F := 100000) (by decide) a8 10 a b
  refine ⟨r.1, r.2, fun hl => ?_, fun hab => ywf_pos (by decide) a8 10 a b hab⟩
  rcases ywf_cm a8 a b with ⟨g, -⟩ | ⟨g, -⟩ <;> omega
theorem yWF_wy {t : zS} {nd nr ns d : Nat} {c B : Int} (h : yWF t nd nr ns c B) (hd : d < nd) (h0 : 0 < t 52 0 d) : 0 ≤ ywy t d ∧ ywy t d ≤ 20480 := by
  obtain ⟨⟨a1, a2⟩, a3, a4, a5, -⟩ := h.2.1 d hd
  have h3 := a3 0 h0
  rw [Nat.add_zero] at h3
  have h4 := yWF_w h (t 49 0 d).toNat (t 53 0 (8 * d)).toNat (by omega) (by omega)
  have h5 := a5 h0
  unfold ywy at h5 ⊢
  exact ⟨h4.1, h4.2.2.1 h5⟩
theorem yWF_55 {t : zS} {nd nr ns d : Nat} {c B : Int} {v : Int} (h : yWF t nd nr ns c B) (hv : 0 ≤ v ∧ v ≤ 50000) : yWF (zu t 55 0 d v) nd nr ns c B := by
  obtain ⟨g, hd, hq, hn⟩ := h
  have E : ∀ κ k, κ ≠ 55 → zu t 55 0 d v κ 0 k = t κ 0 k := fun κ k h => zu_ne (by omega)
  have hN : yDN (zu t 55 0 d v) nr = yDN t nr := yDN_same (fun q _ => by rw [E 64 q (by decide)])
  refine ⟨yWg_ot g (fun κ k h => E κ k (by omega)) (by rw [E _ _ (by decide)]; exact g.2.2.1) (by rw [E _ _ (by decide)]; exact g.2.2.2.2.1), fun d' hd9 => ?_, fun q hq9 => yWq_ot (hq q hq9) (Nat.le_refl _) (fun κ k h => E κ k (by omega)) (by rw [E _ _ (by decide)]; exact Int.le_refl _), fun d' h1 h2 => ?_, fun q h1 h2 => by rw [E 64 _ (by decide), E 73 _ (by decide), E 74 _ (by decide)]; exact hn.2 q h1 h2⟩
  rotate_left
  · have h3 := hn.1 d' h1 h2
    rw [E 50 _ (by decide), E 51 _ (by decide), E 52 _ (by decide), E 58 _ (by decide), E 60 _ (by decide), E 61 _ (by decide), E 62 _ (by decide)]
    refine ⟨?_, fun j hj => by rw [E 59 _ (by decide)]; exact h3.2 j hj⟩
    by_cases e : d' = d
    · subst e; rw [zu_same]
      exact ⟨h3.1.1, h3.1.2.1, h3.1.2.2.1, h3.1.2.2.2.1, h3.1.2.2.2.2.1, h3.1.2.2.2.2.2.1, h3.1.2.2.2.2.2.2.1, hv⟩
    · rw [zu_ne (by omega)]; exact h3.1
  obtain ⟨a1, a3, a4, a5, a6, a7, a8, a9, a10, a11⟩ := hd d' hd9
  have f64 : zu t 55 0 d v 64 0 = t 64 0 := funext fun k => E 64 k (by decide)
  have f70 : zu t 55 0 d v 70 0 = t 70 0 := funext fun k => E 70 k (by decide)
  unfold yWd ywy
  rw [hN, f64, f70, E 49 _ (by decide), E 52 _ (by decide), E 58 _ (by decide), E 60 _ (by decide), E 61 _ (by decide), E 62 _ (by decide), E 30 _ (by decide)]
  refine ⟨a1, fun j hj => by rw [E 53 _ (by decide)]; exact a3 j hj, fun j hj => by rw [E 53 _ (by decide), E 53 _ (by decide), E 47 _ (by decide)]; exact a4 j hj, fun hj => by rw [E 53 _ (by decide), E 47 _ (by decide)]; exact a5 hj, ?_, ⟨a7.1, fun j hj => by rw [E 59 _ (by decide)]; exact a7.2 j hj⟩, a8, a9, a10, yRS_other a11 (fun j _ => E 54 _ (by decide)) (fun q _ => ⟨fun h => ⟨rfl, h⟩, fun h _ => h⟩)⟩
  by_cases e : d' = d
  · subst e; rw [zu_same]; exact hv
  · rw [zu_ne (by omega)]; exact a6
theorem yWF_z {t : zS} {nd nr ns : Nat} {c B x : Int} (h : yWF t nd nr ns c B) : yWF (zu t 30 0 0 x) nd nr ns c B := yWF_fr h (fun κ k hk => zu_ne (by unfold yWk at hk; omega)) (Int.le_refl _) (by rw [zu_ne (by omega)]; exact h.1.2.2.2.2.1)
