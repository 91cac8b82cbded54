/-! CLASS AND REFERENCE HOLD THE SAME -/
def yw1 (w : Int) : Int := if w < 100 then w else w - 100
def yw2 (w : Int) : Int := if w < 100 then 0 else 1
def CPg (σ t : zS) (nd nr ns : Nat) : Prop :=
  (σ 0 0 5 = (nd : Int) ∧ σ 0 0 6 = (nr : Int) ∧ σ 1 0 4 = (ns : Int)) ∧ (σ 0 0 7 = t 30 0 2 ∧ σ 0 0 8 = t 30 0 1 ∧ σ 0 0 9 = t 30 0 17) ∧ (∀ i, i < nd → σ 15 0 i = (i : Int)) ∧ (∀ i, i < nr → σ 16 0 i = (i : Int)) ∧ (∀ k, k < ns → σ 2 0 k = t 44 0 k ∧ σ 3 0 k = t 45 0 k ∧ σ 4 0 k = t 46 0 k) ∧ ∀ a b, a < 10 → b < 10 → (t 47 0 (10 * a + b) < 100000 ∧ σ 6 a b = t 47 0 (10 * a + b)) ∨ (t 47 0 (10 * a + b) = 100000 ∧ σ 6 a b = 1000000)
def CPd0 (σ t : zS) (d : Nat) : Prop :=
  (σ 17 d 3 = t 58 0 d ∧ σ 17 d 4 = yrt t d ∧ σ 17 d 5 = t 51 0 d ∧ σ 17 d 6 = t 49 0 d ∧ σ 17 d 7 = t 50 0 d ∧ σ 17 d 8 = t 56 0 d - 1 ∧ σ 17 d 10 = t 60 0 d ∧ σ 17 d 11 = t 61 0 d ∧ σ 17 d 12 = t 62 0 d) ∧ σ 18 d 3 = t 52 0 d ∧ (∀ j, j < 10 → σ 19 d j = t 59 0 (10 * d + j)) ∧ ∀ j : Nat, (j : Int) < t 52 0 d → σ 20 d j = t 53 0 (8 * d + j) ∧ σ 21 d j = yw1 (t 54 0 (8 * d + j)) ∧ σ 22 d j = yw2 (t 54 0 (8 * d + j))
def CPd (σ t : zS) (d : Nat) : Prop := CPd0 σ t d ∧ (0 < t 52 0 d → σ 17 d 9 = t 55 0 d)
def CPq (σ t : zS) (q : Nat) : Prop := σ 23 q 1 = t 65 0 q ∧ σ 23 q 2 = t 66 0 q ∧ σ 23 q 3 = t 68 0 q ∧ σ 23 q 4 = t 67 0 q ∧ σ 23 q 5 = t 69 0 q ∧ σ 23 q 6 = t 64 0 q ∧ σ 23 q 7 = t 70 0 q ∧ σ 23 q 8 = t 73 0 q ∧ σ 23 q 9 = t 71 0 q ∧ σ 23 q 10 = t 72 0 q ∧ σ 23 q 11 = t 74 0 q
def CP (σ t : zS) (nd nr ns : Nat) : Prop := CPg σ t nd nr ns ∧ (∀ d, d < nd → CPd σ t d) ∧ ∀ q, q < nr → CPq σ t q
theorem yrt_f2 {t v : zS} {d : Nat} (h1 : v 58 0 d = t 58 0 d) (h2 : ∀ k, 10 * d ≤ k → k < 10 * d + 10 → v 59 0 k = t 59 0 k) : yrt v d = yrt t d := by
  have e : ∀ n : Nat, n ≤ 10 → zsum (fun j => v 59 0 (10 * d + j)) n = zsum (fun j => t 59 0 (10 * d + j)) n := fun n => by
    induction n with
    | zero => intro _; rfl
    | succ n ih =>
      intro hn
      show zsum _ n + v 59 0 (10 * d + n) = zsum _ n + t 59 0 (10 * d + n)
      rw [ih (by omega), h2 _ (by omega) (by omega)]
  unfold yrt
  rw [h1, e _ (by omega)]
theorem CPg_ot {σ u t v : zS} {nd nr ns : Nat} (h : CPg σ t nd nr ns) (es : ∀ κ i k, ((κ = 0 ∧ i = 0 ∧ 5 ≤ k ∧ k ≤ 7) ∨ (κ = 1 ∧ i = 0 ∧ k = 4) ∨ κ = 2 ∨ κ = 3 ∨ κ = 4 ∨ κ = 6 ∨ κ = 15 ∨ κ = 16) → u κ i k = σ κ i k) (et : ∀ κ k, ((κ = 30 ∧ k = 2) ∨ (44 ≤ κ ∧ κ ≤ 47)) → v κ 0 k = t κ 0 k) (hn : u 0 0 8 = v 30 0 1) (ho : u 0 0 9 = v 30 0 17) : CPg u v nd nr ns := by
  obtain ⟨⟨a1, a2, a3⟩, ⟨a4, a5, a6⟩, a7, a8, a9, a10⟩ := h
  refine ⟨⟨by rw [es 0 0 5 (by omega)]; exact a1, by rw [es 0 0 6 (by omega)]; exact a2, by rw [es 1 0 4 (by omega)]; exact a3⟩, ⟨by rw [es 0 0 7 (by omega), et 30 2 (by omega)]; exact a4, hn, ho⟩, fun i hi => by rw [es 15 0 i (by omega)]; exact a7 i hi, fun i hi => by rw [es 16 0 i (by omega)]; exact a8 i hi, fun k hk => ?_, fun a b ha hb => ?_⟩
  · rw [es 2 0 k (by omega), es 3 0 k (by omega), es 4 0 k (by omega), et 44 k (by omega), et 45 k (by omega), et 46 k (by omega)]
    exact a9 k hk
  · rw [es 6 a b (by omega), et 47 _ (by omega)]
    exact a10 a b ha hb
/-- where a driver's cells lie -/
def yDs (d κ i k : Nat) : Prop := i = d ∧ ((κ = 17 ∧ 3 ≤ k) ∨ (κ = 18 ∧ k = 3) ∨ κ = 19 ∨ κ = 20 ∨ κ = 21 ∨ κ = 22)
def yDt (d κ k : Nat) : Prop := ((κ = 49 ∨ κ = 50 ∨ κ = 51 ∨ κ = 52 ∨ κ = 55 ∨ κ = 56 ∨ κ = 58 ∨ κ = 60 ∨ κ = 61 ∨ κ = 62) ∧ k = d) ∨ ((κ = 53 ∨ κ = 54) ∧ 8 * d ≤ k ∧ k < 8 * d + 8) ∨ (κ = 59 ∧ 10 * d ≤ k ∧ k < 10 * d + 10)
theorem CPd_ot {σ u t v : zS} {d : Nat} (h : CPd σ t d) (h8 : t 52 0 d ≤ 8) (es : ∀ κ i k, yDs d κ i k → u κ i k = σ κ i k) (et : ∀ κ k, yDt d κ k → v κ 0 k = t κ 0 k) : CPd u v d := by
  obtain ⟨⟨⟨a1, a2, a3, a4, a5, a6, a7, a8, a9⟩, a10, a11, a12⟩, a13⟩ := h
  have e52 := et 52 d (by unfold yDt; omega)
  have er : yrt v d = yrt t d := yrt_f2 (et 58 d (by unfold yDt; omega)) (fun k h1 h2 => et 59 k (by unfold yDt; omega))
  unfold CPd CPd0
  rw [e52, er, es 17 d 3 (by unfold yDs; omega), es 17 d 4 (by unfold yDs; omega), es 17 d 5 (by unfold yDs; omega), es 17 d 6 (by unfold yDs; omega), es 17 d 7 (by unfold yDs; omega), es 17 d 8 (by unfold yDs; omega), es 17 d 9 (by unfold yDs; omega), es 17 d 10 (by unfold yDs; omega), es 17 d 11 (by unfold yDs; omega), es 17 d 12 (by unfold yDs; omega), es 18 d 3 (by unfold yDs; omega), et 58 d (by unfold yDt; omega), et 51 d (by unfold yDt; omega), et 49 d (by unfold yDt; omega), et 50 d (by unfold yDt; omega), et 56 d (by unfold yDt; omega), et 60 d (by unfold yDt; omega), et 61 d (by unfold yDt; omega), et 62 d (by unfold yDt; omega), et 55 d (by unfold yDt; omega)]
  refine ⟨⟨⟨a1, a2, a3, a4, a5, a6, a7, a8, a9⟩, a10, fun j hj => ?_, fun j hj => ?_⟩, a13⟩
  · rw [es 19 d j (by unfold yDs; omega), et 59 _ (by unfold yDt; omega)]
    exact a11 j hj
  · rw [es 20 d j (by unfold yDs; omega), es 21 d j (by unfold yDs; omega), es 22 d j (by unfold yDs; omega), et 53 _ (by unfold yDt; omega), et 54 _ (by unfold yDt; omega)]
    exact a12 j hj
theorem CPq_ot {σ u t v : zS} {q : Nat} (h : CPq σ t q) (es : ∀ k, 1 ≤ k → u 23 q k = σ 23 q k) (et : ∀ κ, 64 ≤ κ → κ ≤ 74 → v κ 0 q = t κ 0 q) : CPq u v q := by
  unfold CPq
  rw [es 1 (by omega), es 2 (by omega), es 3 (by omega), es 4 (by omega), es 5 (by omega), es 6 (by omega), es 7 (by omega), es 8 (by omega), es 9 (by omega), es 10 (by omega), es 11 (by omega), et 64 (by omega) (by omega), et 65 (by omega) (by omega), et 66 (by omega) (by omega), et 67 (by omega) (by omega), et 68 (by omega) (by omega), et 69 (by omega) (by omega), et 70 (by omega) (by omega), et 71 (by omega) (by omega), et 72 (by omega) (by omega), et 73 (by omega) (by omega), et 74 (by omega) (by omega)]
  exact h
/-- nothing of the pair has changed -/
theorem CP_fr {σ u t v : zS} {nd nr ns : Nat} {c B : Int} (h : CP σ t nd nr ns) (hw : yWF t nd nr ns c B) (es : ∀ κ i k, (κ ≠ 7 ∧ κ ≠ 8 ∧ κ ≠ 10 ∧ κ ≠ 12 ∧ κ ≠ 13 ∧ κ ≠ 14 ∧ (κ < 24 ∨ 27 < κ)) → u κ i k = σ κ i k) (et : ∀ κ k, ¬ ysr κ 0 k ∧ ¬ y79 κ 0 k → v κ 0 k = t κ 0 k) : CP u v nd nr ns := by
  obtain ⟨g, hd, hq⟩ := h
  refine ⟨CPg_ot g (fun κ i k hk => es κ i k (by omega)) (fun κ k hk => et κ k (by unfold ysr y79; omega)) ?_ ?_, fun d h1 => CPd_ot (hd d h1) (hw.2.1 d h1).1.2.2 (fun κ i k hk => es κ i k (by unfold yDs at hk; omega)) (fun κ k hk => et κ k (by unfold yDt at hk; unfold ysr y79; omega)), fun q h1 => CPq_ot (hq q h1) (fun k _ => es 23 q k (by omega)) (fun κ h2 h3 => et κ q (by unfold ysr y79; omega))⟩
  · rw [es 0 0 8 (by omega), et 30 1 (by unfold ysr y79; omega)]
    exact g.2.1.2.1
  · rw [es 0 0 9 (by omega), et 30 17 (by unfold ysr y79; omega)]
    exact g.2.1.2.2
/-- FREE is FREE -/
theorem CP_free {σ t : zS} {nd nr ns d : Nat} (h : CP σ t nd nr ns) (hd : d < nd) : yfr σ d ↔ ymf t d := by
  obtain ⟨⟨⟨a1, a2, a3, a4, a5, a6, a7⟩, a10, a11⟩, a13⟩ := h.2.1 d hd
  unfold yfr ymf
  rw [a10, a5, a3]
theorem CP_bf {σ t : zS} {nd nr ns d : Nat} {c B : Int} (h : CP σ t nd nr ns) (hw : yWF t nd nr ns c B) (hd : d < nd) : CP (yqf σ d 0) (ybf t d) nd nr ns := by
  have hf := CP_free h hd
  unfold yqf ybf
  by_cases c1 : ymf t d
  · rw [if_pos ⟨rfl, hf.2 c1⟩, if_pos c1]
    obtain ⟨g, hds, hqs⟩ := h
    have ho := g.2.1.2.2
    have hn := g.2.1.2.1
    refine ⟨CPg_ot g (fun κ i k hk => by rw [zu_ne (by omega), zu_ne (by omega)]) (fun κ k hk => by rw [zu_ne (by omega), zu_ne (by omega)]) (by rw [zu_ne (by omega), zu_ne (by omega), zu_ne (by omega), zu_ne (by omega)]; exact hn) (by rw [zu_same, zu_ne (by omega), zu_same]; omega), fun d' h1 => ?_, fun q h1 => CPq_ot (hqs q h1) (fun k _ => by rw [zu_ne (by omega), zu_ne (by omega)]) (fun κ h2 h3 => by rw [zu_ne (by omega), zu_ne (by omega)])⟩
    by_cases e : d' = d
    · subst e
      obtain ⟨⟨⟨a1, a2, a3, a4, a5, a6, a7, a8, a9⟩, a10, a11, a12⟩, a13⟩ := hds d' h1
      have er : yrt (zu (zu t 30 0 17 (t 30 0 17 + 1)) 56 0 d' (t 30 0 17 + 1)) d' = yrt t d' := yrt_f2 (by rw [zu_ne (by omega), zu_ne (by omega)]) (fun k _ _ => by rw [zu_ne (by omega), zu_ne (by omega)])
      have E1 : ∀ κ k, ¬ (κ = 17 ∧ k = 8) ∧ κ ≠ 0 → zu (zu σ 17 d' 8 (σ 0 0 9)) 0 0 9 (σ 0 0 9 + 1) κ d' k = σ κ d' k := fun κ k hk => by rw [zu_ne (by omega), zu_ne (by omega)]
      have E2 : ∀ κ k, κ ≠ 30 ∧ κ ≠ 56 → zu (zu t 30 0 17 (t 30 0 17 + 1)) 56 0 d' (t 30 0 17 + 1) κ 0 k = t κ 0 k := fun κ k hk => by rw [zu_ne (by omega), zu_ne (by omega)]
      have e8 : zu (zu σ 17 d' 8 (σ 0 0 9)) 0 0 9 (σ 0 0 9 + 1) 17 d' 8 = zu (zu t 30 0 17 (t 30 0 17 + 1)) 56 0 d' (t 30 0 17 + 1) 56 0 d' - 1 := by
        rw [zu_ne (by omega), zu_same, zu_same]; omega
      unfold CPd CPd0
      rw [er, e8, E1 17 3 (by omega), E1 17 4 (by omega), E1 17 5 (by omega), E1 17 6 (by omega), E1 17 7 (by omega), E1 17 9 (by omega), E1 17 10 (by omega), E1 17 11 (by omega), E1 17 12 (by omega), E1 18 3 (by omega), E2 58 _ (by omega), E2 51 _ (by omega), E2 49 _ (by omega), E2 50 _ (by omega), E2 60 _ (by omega), E2 61 _ (by omega), E2 62 _ (by omega), E2 52 _ (by omega), E2 55 _ (by omega)]
      exact ⟨⟨⟨a1, a2, a3, a4, a5, rfl, a7, a8, a9⟩, a10, fun j hj => by rw [E1 19 _ (by omega), E2 59 _ (by omega)]; exact a11 j hj, fun j hj => by rw [E1 20 _ (by omega), E1 21 _ (by omega), E1 22 _ (by omega), E2 53 _ (by omega), E2 54 _ (by omega)]; exact a12 j hj⟩, a13⟩
    · exact CPd_ot (hds d' h1) (hw.2.1 d' h1).1.2.2 (fun κ i k hk => by unfold yDs at hk; rw [zu_ne (by omega), zu_ne (by omega)]) (fun κ k hk => by unfold yDt at hk; rw [zu_ne (by omega), zu_ne (by omega)])
  · rw [if_neg (fun c2 => c1 (hf.1 c2.2)), if_neg c1]
    exact h
