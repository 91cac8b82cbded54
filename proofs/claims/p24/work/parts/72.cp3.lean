/-! a minute, in both -/
theorem yRok_of {σ t : zS} {nd nr ns d : Nat} {c B : Int} (h : CP σ t nd nr ns) (hw : yWF t nd nr ns c B) (hB : B ≤ 1900000000) (hd : d < nd) : yRok σ d (t 52 0 d).toNat := by
  obtain ⟨⟨a1, a2⟩, a3, a4, a5, a6, a7, a8, a9, a10, a11⟩ := hw.2.1 d hd
  obtain ⟨⟨⟨b1, b2, b3, b4, b5, b6, b7, b8, b9⟩, b10, b11, b12⟩, b13⟩ := h.2.1 d hd
  have g := h.1
  have hN := yDN_le t nr
  have hnr := hw.1.1.2.1
  have ho := hw.1.2.2.2.2.1
  have hnow := hw.1.2.2.1
  refine ⟨by rw [b10]; omega, by omega, fun j hj => ?_, fun j hj => ?_, fun j hj h0 => ?_, by rw [g.2.1.2.2]; omega, by rw [g.2.1.2.1]; exact hnow, by rw [b8]; omega, by rw [b9]; omega⟩
  · rw [(b12 j (by omega)).1]; exact a3 j (by omega)
  · have h1 := a3 j (by omega)
    have h2 := a3 (j + 1) (by omega)
    rw [(b12 j (by omega)).1, (b12 (j + 1) (by omega)).1, CP_way g (by omega) (by omega) (a4 j (by omega))]
    have := yWF_w hw (t 53 0 (8 * d + j)).toNat (t 53 0 (8 * d + (j + 1))).toNat (by omega) (by omega)
    exact ⟨this.1, this.2.2.1 (a4 j (by omega))⟩
  · have h1 := (b12 j (by omega)).2.1
    have h2 := yWF_row hw hd (j := j) (by omega)
    have h3 : (σ 21 d j).toNat < nr := by
      rw [h1] at h0 ⊢
      unfold yw1 at h0 ⊢
      split <;> split at h0 <;> omega
    rw [(h.2.2 _ h3).2.2.2.2.1]
    exact (hw.2.2.1 _ h3).2.2.2.2.1
theorem CP_rc {σ t : zS} {d : Nat} (h : CPd0 σ t d) (h0 : 0 ≤ t 52 0 d) : zcnt (σ 22 d) (σ 18 d 3).toNat = (ycO (fun j => t 54 0 (8 * d + j)) (t 52 0 d).toNat : Int) := by
  rw [h.2.1]
  exact zcnt_O (fun j hj => (h.2.2.2 j (by omega)).2.2)
theorem ycO_le {w : Nat → Int} : ∀ n, ycO w n ≤ n
  | 0 => Nat.le_refl 0
  | n + 1 => by
    have ih := ycO_le (w := w) n
    show ycO w n + (if _ then 1 else 0) ≤ n + 1
    split <;> omega
theorem yPc_s {t : zS} {i : Nat} : yPc t (i + 1) = zu (yPc t i) 60 0 i (yPc t i 60 0 i + zb (yhr t i (t 52 0 i).toNat)) := by
  funext κ i' k
  by_cases h : κ = 60 ∧ i' = 0 ∧ k = i
  · obtain ⟨rfl, rfl, rfl⟩ := h
    rw [zu_same, show yPc t k 60 0 k = t 60 0 k from if_neg (by omega)]
    exact if_pos (by omega)
  · rw [zu_ne h]
    unfold yPc
    by_cases h2 : κ = 60 ∧ i' = 0 ∧ k < i
    · rw [if_pos h2, if_pos (by omega)]
    · rw [if_neg h2, if_neg (by omega)]
/-- both change one number of a driver -/
theorem CP_cnt {σ v : zS} {nd nr ns d : Nat} {x y : Int} (h : CP σ v nd nr ns) (h8 : ∀ d, d < nd → v 52 0 d ≤ 8) (hx : x = y) : CP (zu σ 17 d 10 x) (zu v 60 0 d y) nd nr ns := by
  obtain ⟨g, hds, hqs⟩ := h
  refine ⟨CPg_ot g (fun κ i k hk => zu_ne (by omega)) (fun κ k hk => zu_ne (by omega)) (by rw [zu_ne (by omega), zu_ne (by omega)]; exact g.2.1.2.1) (by rw [zu_ne (by omega), zu_ne (by omega)]; exact g.2.1.2.2), fun d' h1 => ?_, fun q h1 => CPq_ot (hqs q h1) (fun k _ => zu_ne (by omega)) (fun κ h2 h3 => zu_ne (by omega))⟩
  by_cases e : d' = d
  · subst e
    have F1 : ∀ κ k, ¬ (κ = 17 ∧ k = 10) → zu σ 17 d' 10 x κ d' k = σ κ d' k := fun κ k hk => zu_ne (by omega)
    have F2 : ∀ κ k, κ ≠ 60 → zu v 60 0 d' y κ 0 k = v κ 0 k := fun κ k hk => zu_ne (by omega)
    have er : yrt (zu v 60 0 d' y) d' = yrt v d' := yrt_f2 (F2 58 _ (by decide)) (fun k _ _ => F2 59 _ (by decide))
    obtain ⟨⟨⟨b1, b2, b3, b4, b5, b6, b7, b8, b9⟩, b10, b11, b12⟩, b13⟩ := hds d' h1
    unfold CPd CPd0
    rw [er, zu_same, zu_same, F1 17 3 (by omega), F1 17 4 (by omega), F1 17 5 (by omega), F1 17 6 (by omega), F1 17 7 (by omega), F1 17 8 (by omega), F1 17 9 (by omega), F1 17 11 (by omega), F1 17 12 (by omega), F1 18 3 (by omega), F2 58 _ (by omega), F2 51 _ (by omega), F2 49 _ (by omega), F2 50 _ (by omega), F2 56 _ (by omega), F2 55 _ (by omega), F2 61 _ (by omega), F2 62 _ (by omega), F2 52 _ (by omega)]
    exact ⟨⟨⟨b1, b2, b3, b4, b5, b6, hx, b8, b9⟩, b10, fun j hj => by rw [F1 19 _ (by omega), F2 59 _ (by omega)]; exact b11 j hj, fun j hj => by rw [F1 20 _ (by omega), F1 21 _ (by omega), F1 22 _ (by omega), F2 53 _ (by omega), F2 54 _ (by omega)]; exact b12 j hj⟩, b13⟩
  · exact CPd_ot (hds d' h1) (h8 d' h1) (fun κ i k hk => by unfold yDs at hk; exact zu_ne (by omega)) (fun κ k hk => by unfold yDt at hk; exact zu_ne (by omega))
theorem yPc_0 {t : zS} : yPc t 0 = t := funext fun κ => funext fun i => funext fun k => if_neg (by omega)
theorem CP_pc {σ t : zS} {nd nr ns i : Nat} {c B x : Int} (h : CP σ (yPc t i) nd nr ns) (hw : yWF t nd nr ns c B) (hi : i < nd) (hx : x = zb (yhr t i (t 52 0 i).toNat)) : CP (zu σ 17 i 10 (σ 17 i 10 + x)) (yPc t (i + 1)) nd nr ns := by
  rw [yPc_s]
  refine CP_cnt h (fun d hd => ?_) ?_
  · rw [yPc_fr (by decide)]
    exact (hw.2.1 d hd).1.2.2
  · rw [hx, (h.2.1 i hi).1.1.2.2.2.2.2.2.1]
theorem zu_id {σ : zS} {κ i k : Nat} {x : Int} (h : x = σ κ i k) : zu σ κ i k x = σ := by
  funext a b c
  by_cases e : a = κ ∧ b = i ∧ c = k
  · obtain ⟨rfl, rfl, rfl⟩ := e
    rw [zu_same, h]
  · exact zu_ne e
theorem CP_pc0 {σ t : zS} {nd nr ns i : Nat} {c B : Int} (h : CP σ (yPc t i) nd nr ns) (hw : yWF t nd nr ns c B) (hi : i < nd) (hx : 0 = zb (yhr t i (t 52 0 i).toNat)) : CP σ (yPc t (i + 1)) nd nr ns := by
  have h1 := CP_pc h hw hi hx
  rw [Int.add_zero, zu_id rfl] at h1
  exact h1
theorem CP_hr {t : zS} {nd nr ns i : Nat} {c B : Int} (hw : yWF t nd nr ns c B) (hi : i < nd) : yhr t i (t 52 0 i).toNat ↔ 1 ≤ ycO (fun j => t 54 0 (8 * i + j)) (t 52 0 i).toNat :=
  yRS_rid (hw.2.1 i hi).2.2.2.2.2.2.2.2.2
theorem CP_now {σ t : zS} {nd nr ns : Nat} {c B : Int} (h : CP σ (yPc t nd) nd nr ns) (hw : yWF t nd nr ns c B) : CP (zu σ 0 0 8 (σ 0 0 8 + 1)) (yPa t nd) nd nr ns := by
  obtain ⟨g, hds, hqs⟩ := h
  have hn := g.2.1.2.1
  rw [yPc_fr (by decide)] at hn
  unfold yPa
  refine ⟨CPg_ot g (fun κ i k hk => zu_ne (by omega)) (fun κ k hk => zu_ne (by omega)) (by rw [zu_same, zu_same, hn]) (by rw [zu_ne (by omega), zu_ne (by omega)]; exact g.2.1.2.2), fun d h1 => CPd_ot (hds d h1) (by rw [yPc_fr (by decide)]; exact (hw.2.1 d h1).1.2.2) (fun κ i k hk => by unfold yDs at hk; exact zu_ne (by omega)) (fun κ k hk => by unfold yDt at hk; exact zu_ne (by omega)), fun q h1 => CPq_ot (hqs q h1) (fun k _ => zu_ne (by omega)) (fun κ h2 h3 => zu_ne (by omega))⟩
/-- both change how a request is -/
theorem CP_64 {σ v : zS} {nd nr ns q : Nat} {x : Int} (h : CP σ v nd nr ns) (h8 : ∀ d, d < nd → v 52 0 d ≤ 8) : CP (zu σ 23 q 6 x) (zu v 64 0 q x) nd nr ns := by
  obtain ⟨g, hds, hqs⟩ := h
  refine ⟨CPg_ot g (fun κ i k hk => zu_ne (by omega)) (fun κ k hk => zu_ne (by omega)) (by rw [zu_ne (by omega), zu_ne (by omega)]; exact g.2.1.2.1) (by rw [zu_ne (by omega), zu_ne (by omega)]; exact g.2.1.2.2), fun d h1 => CPd_ot (hds d h1) (h8 d h1) (fun κ i k hk => by unfold yDs at hk; exact zu_ne (by omega)) (fun κ k hk => by unfold yDt at hk; exact zu_ne (by omega)), fun p h1 => ?_⟩
  by_cases e : p = q
  · subst e
    obtain ⟨c1, c2, c3, c4, c5, c6, c7⟩ := hqs p h1
    have F1 : ∀ k, k ≠ 6 → zu σ 23 p 6 x 23 p k = σ 23 p k := fun k hk => zu_ne (by omega)
    have F2 : ∀ κ, κ ≠ 64 → zu v 64 0 p x κ 0 p = v κ 0 p := fun κ hk => zu_ne (by omega)
    unfold CPq
    rw [zu_same, zu_same, F1 1 (by decide), F1 2 (by decide), F1 3 (by decide), F1 4 (by decide), F1 5 (by decide), F1 7 (by decide), F1 8 (by decide), F1 9 (by decide), F1 10 (by decide), F1 11 (by decide), F2 65 (by decide), F2 66 (by decide), F2 67 (by decide), F2 68 (by decide), F2 69 (by decide), F2 70 (by decide), F2 71 (by decide), F2 72 (by decide), F2 73 (by decide), F2 74 (by decide)]
    exact ⟨c1, c2, c3, c4, c5, rfl, c7⟩
  · exact CPq_ot (hqs p h1) (fun k _ => zu_ne (by omega)) (fun κ h2 h3 => zu_ne (by omega))
theorem CP_pe {σ v : zS} {nd nr ns i : Nat} {c B : Int} (h : CP σ (yPe v i) nd nr ns) (hw : yWF v nd nr ns c B) (hc : v 64 0 i = 0 ∧ v 67 0 i ≤ v 30 0 1) : CP (zu σ 23 i 6 4) (yPe v (i + 1)) nd nr ns := by
  rw [← yPe_st (x := 4) (by rw [if_pos hc])]
  exact CP_64 h (fun d hd => by rw [show yPe v i 52 0 d = v 52 0 d from if_neg (by omega)]; exact (hw.2.1 d hd).1.2.2)
theorem CP_pe0 {σ v : zS} {nd nr ns i : Nat} (h : CP σ (yPe v i) nd nr ns) (hc : ¬ (v 64 0 i = 0 ∧ v 67 0 i ≤ v 30 0 1)) : CP σ (yPe v (i + 1)) nd nr ns := by
  have e : yPe v (i + 1) = yPe v i := by
    rw [← yPe_st (x := v 64 0 i) (by rw [if_neg hc])]
    exact zu_id (show v 64 0 i = yPe v i 64 0 i from (if_neg (by omega) : yPe v i 64 0 i = _).symm)
  rw [e]
  exact h
theorem yPe_0 {t : zS} : yPe t 0 = t := funext fun κ => funext fun i => funext fun k => if_neg (by omega)
