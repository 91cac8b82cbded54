/-! a stop is done, in both -/
theorem yns_at {σ t : zS} {nd nr ns d n : Nat} {c B : Int} (h : CP σ t nd nr ns) (hw : yWF t nd nr ns c B) (hd : d < nd) (hn : t 52 0 d = (n : Int) + 1) : yns σ d 17 d 6 = t 53 0 (8 * d) ∧ yns σ d 17 d 11 = ymt t d n 61 0 d ∧ yns σ d 17 d 12 = ymt t d n 62 0 d ∧ (∀ q, q < nr → yns σ d 23 q 6 = ymt t d n 64 0 q ∧ yns σ d 23 q 10 = ymt t d n 72 0 q) ∧ ∀ κ i k, ¬ (κ = 17 ∧ i = d ∧ (k = 6 ∨ k = 11 ∨ k = 12)) → ¬ (κ = 23 ∧ (k = 6 ∨ k = 10)) → yns σ d κ i k = σ κ i k := by
  have hnr := hw.1.1.2.1
  have hr := yWF_row hw hd (j := 0) (by omega)
  rw [Nat.add_zero] at hr
  obtain ⟨⟨⟨a1, a2, a3, a4, a5, a6, a7, a8, a9⟩, a10, a11, a12⟩, a13⟩ := h.2.1 d hd
  have h0 := a12 0 (by omega)
  rw [Nat.add_zero] at h0
  obtain ⟨p0, r0, l0⟩ := h0
  have hnow := h.1.2.1.2.1
  have h64 : ∀ q, q < nr → ymt t d n 64 0 q = yst1 (t 54 0 (8 * d)) (t 64 0) q := fun q hq => ymt_64 (by omega) (by omega) (by omega)
  rcases hr with e | ⟨e1, e2, e3, e4⟩ | ⟨e1, e2, e3, e4⟩
  · have r1 : σ 21 d 0 = -1 := by rw [r0, e]; rfl
    have S : yns σ d = zu σ 17 d 6 (σ 20 d 0) := by
      unfold yns
      rw [if_neg (by omega), if_neg (by omega)]
    rw [S]
    refine ⟨by rw [zu_same]; exact p0, ?_, ?_, fun q hq => ⟨?_, ?_⟩, fun κ i k k1 k2 => zu_ne (by omega)⟩
    · rw [zu_ne (by omega), ymt_61e, if_neg (by omega)]; exact a8
    · rw [zu_ne (by omega), ymt_62e, if_neg (by omega)]; exact a9
    · rw [zu_ne (by omega), h64 q hq]
      unfold yst1
      rw [if_neg (by omega), if_neg (by omega)]
      exact (h.2.2 q hq).2.2.2.2.2.1
    · rw [zu_ne (by omega), ymt_72, if_neg (by omega)]
      exact (h.2.2 q hq).2.2.2.2.2.2.2.2.2.1
  · have r1 : σ 21 d 0 = t 54 0 (8 * d) := by rw [r0]; exact if_pos (by omega)
    have l1 : σ 22 d 0 = 0 := by rw [l0]; exact if_pos (by omega)
    have S : yns σ d = zu (zu σ 23 (σ 21 d 0).toNat 6 2) 17 d 6 (σ 20 d 0) := by
      unfold yns
      rw [if_neg (by omega), if_pos (by omega)]
    rw [S]
    refine ⟨by rw [zu_same]; exact p0, ?_, ?_, fun q hq => ⟨?_, ?_⟩, fun κ i k k1 k2 => by rw [zu_ne (by omega), zu_ne (by omega)]⟩
    · rw [zu_ne (by omega), zu_ne (by omega), ymt_61e, if_neg (by omega)]; exact a8
    · rw [zu_ne (by omega), zu_ne (by omega), ymt_62e, if_neg (by omega)]; exact a9
    · rw [zu_ne (by omega), h64 q hq]
      unfold yst1
      rw [if_neg (by omega)]
      by_cases eq : (q : Int) = t 54 0 (8 * d)
      · rw [if_pos eq, show q = (σ 21 d 0).toNat by omega, zu_same]
      · rw [if_neg eq, zu_ne (by omega)]
        exact (h.2.2 q hq).2.2.2.2.2.1
    · rw [zu_ne (by omega), zu_ne (by omega), ymt_72, if_neg (by omega)]
      exact (h.2.2 q hq).2.2.2.2.2.2.2.2.2.1
  · have r1 : σ 21 d 0 = t 54 0 (8 * d) - 100 := by rw [r0]; exact if_neg (by omega)
    have l1 : σ 22 d 0 = 1 := by rw [l0]; exact if_neg (by omega)
    have S : yns σ d = zu (zu (zu (zu (zu σ 23 (σ 21 d 0).toNat 6 3) 23 (σ 21 d 0).toNat 10 (σ 0 0 8)) 17 d 11 (σ 17 d 11 + 1)) 17 d 12 (σ 17 d 12 + σ 23 (σ 21 d 0).toNat 5)) 17 d 6 (σ 20 d 0) := by
      unfold yns
      rw [if_pos (by omega)]
    have hp := (h.2.2 (σ 21 d 0).toNat (by omega)).2.2.2.2.1
    rw [S]
    refine ⟨by rw [zu_same]; exact p0, ?_, ?_, fun q hq => ⟨?_, ?_⟩, fun κ i k k1 k2 => by rw [zu_ne (by omega), zu_ne (by omega), zu_ne (by omega), zu_ne (by omega), zu_ne (by omega)]⟩
    · rw [zu_ne (by omega), zu_ne (by omega), zu_same, ymt_61e, if_pos e1, a8]
    · rw [zu_ne (by omega), zu_same, ymt_62e, if_pos e1, a9, hp, r1]
    · rw [zu_ne (by omega), zu_ne (by omega), zu_ne (by omega), zu_ne (by omega), h64 q hq]
      unfold yst1
      by_cases eq : (q : Int) = t 54 0 (8 * d) - 100
      · rw [if_pos eq, show q = (σ 21 d 0).toNat by omega, zu_same]
      · rw [if_neg eq, if_neg (by omega), zu_ne (by omega)]
        exact (h.2.2 q hq).2.2.2.2.2.1
    · rw [zu_ne (by omega), zu_ne (by omega), zu_ne (by omega), ymt_72]
      by_cases eq : (q : Int) = t 54 0 (8 * d) - 100
      · rw [if_pos ⟨e1, eq⟩, show q = (σ 21 d 0).toNat by omega, zu_same]
        exact hnow
      · rw [if_neg (fun c => eq c.2), zu_ne (by omega), zu_ne (by omega)]
        exact (h.2.2 q hq).2.2.2.2.2.2.2.2.2.1
theorem CP_rd {σ t u1 : zS} {nd nr ns d n : Nat} {c B : Int} (h : CP σ t nd nr ns) (hw : yWF t nd nr ns c B) (hd : d < nd) (hn : t 52 0 d = (n : Int) + 1) (hr : yrd (yns σ d) u1 d) : CPg u1 (ymt t d n) nd nr ns ∧ (∀ d', d' < nd → d' ≠ d → CPd u1 (ymt t d n) d') ∧ CPd0 u1 (ymt t d n) d ∧ ∀ q, q < nr → CPq u1 (ymt t d n) q := by
  obtain ⟨n6, n11, n12, nq, nf⟩ := yns_at h hw hd hn
  obtain ⟨u18, urow, uf⟩ := hr
  obtain ⟨g, hds, hqs⟩ := h
  have h8 := (hw.2.1 d hd).1.2
  have hn8 : n ≤ 8 := by omega
  have U : ∀ κ i k, ¬ (i = d ∧ (κ = 20 ∨ κ = 21 ∨ κ = 22 ∨ (κ = 18 ∧ k = 3))) → ¬ (κ = 17 ∧ i = d ∧ (k = 6 ∨ k = 11 ∨ k = 12)) → ¬ (κ = 23 ∧ (k = 6 ∨ k = 10)) → u1 κ i k = σ κ i k := fun κ i k k0 k1 k2 => (uf κ i k k0).trans (nf κ i k k1 k2)
  obtain ⟨⟨⟨a1, a2, a3, a4, a5, a6, a7, a8, a9⟩, a10, a11, a12⟩, a13⟩ := hds d hd
  have EL : ∀ κ k, yel d κ k → ymt t d n κ 0 k = t κ 0 k := fun κ k hk => ymt_el hn8 hk
  have FR : ∀ κ k, κ ≠ 49 ∧ κ ≠ 52 ∧ κ ≠ 53 ∧ κ ≠ 54 ∧ κ ≠ 61 ∧ κ ≠ 62 ∧ κ ≠ 64 ∧ κ ≠ 72 → ymt t d n κ 0 k = t κ 0 k := fun κ k _ => ymt_fr (by omega)
  have s18 : yns σ d 18 d 3 = (n : Int) + 1 := by
    rw [nf 18 d 3 (by omega) (by omega), a10]; exact hn
  refine ⟨CPg_ot g (fun κ i k hk => U κ i k (by omega) (by omega) (by omega)) (fun κ k hk => FR κ k (by omega)) (by rw [U 0 0 8 (by omega) (by omega) (by omega), FR 30 1 (by omega)]; exact g.2.1.2.1) (by rw [U 0 0 9 (by omega) (by omega) (by omega), FR 30 17 (by omega)]; exact g.2.1.2.2), fun d' h1 h2 => CPd_ot (hds d' h1) (hw.2.1 d' h1).1.2.2 (fun κ i k hk => by unfold yDs at hk; exact U κ i k (by omega) (by omega) (by omega)) (fun κ k hk => by unfold yDt at hk; exact EL κ k (by unfold yel; omega)), ?_, fun q hq => ?_⟩
  · have er : yrt (ymt t d n) d = yrt t d := yrt_f2 (FR 58 _ (by omega)) (fun k _ _ => FR 59 _ (by omega))
    unfold CPd0
    rw [er, U 17 d 3 (by omega) (by omega) (by omega), U 17 d 4 (by omega) (by omega) (by omega), U 17 d 5 (by omega) (by omega) (by omega), uf 17 d 6 (by omega), n6, U 17 d 7 (by omega) (by omega) (by omega), U 17 d 8 (by omega) (by omega) (by omega), U 17 d 10 (by omega) (by omega) (by omega), uf 17 d 11 (by omega), n11, uf 17 d 12 (by omega), n12, u18, s18, FR 58 _ (by omega), FR 51 _ (by omega), FR 50 _ (by omega), FR 56 _ (by omega), FR 60 _ (by omega), ymt_49, ymt_52]
    refine ⟨⟨a1, a2, a3, rfl, a5, a6, a7, rfl, rfl⟩, by omega, fun j hj => by rw [U 19 d j (by omega) (by omega) (by omega), FR 59 _ (by omega)]; exact a11 j hj, fun j hj => ?_⟩
    obtain ⟨v1, v2, v3⟩ := urow j (by omega)
    obtain ⟨w1, w2, w3⟩ := a12 (j + 1) (by omega)
    rw [v1, v2, v3, nf 20 d _ (by omega) (by omega), nf 21 d _ (by omega) (by omega), nf 22 d _ (by omega) (by omega), ymt_st t d n (Or.inl rfl) (by omega), ymt_st t d n (Or.inr rfl) (by omega)]
    exact ⟨w1, w2, w3⟩
  · obtain ⟨c1, c2, c3, c4, c5, c6, c7, c8, c9, c10, c11⟩ := hqs q hq
    obtain ⟨q6, q10⟩ := nq q hq
    unfold CPq
    rw [U 23 q 1 (by omega) (by omega) (by omega), U 23 q 2 (by omega) (by omega) (by omega), U 23 q 3 (by omega) (by omega) (by omega), U 23 q 4 (by omega) (by omega) (by omega), U 23 q 5 (by omega) (by omega) (by omega), uf 23 q 6 (by omega), q6, U 23 q 7 (by omega) (by omega) (by omega), U 23 q 8 (by omega) (by omega) (by omega), U 23 q 9 (by omega) (by omega) (by omega), uf 23 q 10 (by omega), q10, U 23 q 11 (by omega) (by omega) (by omega), FR 65 _ (by omega), FR 66 _ (by omega), FR 67 _ (by omega), FR 68 _ (by omega), FR 69 _ (by omega), FR 70 _ (by omega), FR 71 _ (by omega), FR 73 _ (by omega), FR 74 _ (by omega)]
    exact ⟨c1, c2, c3, c4, c5, rfl, c7, c8, c9, rfl, c11⟩
theorem CP_way {σ t : zS} {nd nr ns a b : Nat} (h : CPg σ t nd nr ns) (ha : a < 10) (hb : b < 10) (hl : t 47 0 (10 * a + b) < 100000) : σ 6 a b = t 47 0 (10 * a + b) := by
  rcases h.2.2.2.2.2 a b ha hb with h1 | h1
  · exact h1.2
  · omega
/-- the next stop is done, and it goes on to the one behind it -/
theorem CP_nx {σ t v : zS} {nd nr ns d n : Nat} {c B : Int} (h : CP σ t nd nr ns) (hw : yWF t nd nr ns c B) (hd : d < nd) (hn : t 52 0 d = (n : Int) + 1) (hv : yNX σ v d) : (n = 0 → CP v (ybf (ymt t d n) d) nd nr ns) ∧ (0 < n → CP v (zu (ymt t d n) 55 0 d (ymt t d n 30 0 1 + ywy (ymt t d n) d)) nd nr ns) := by
  obtain ⟨u1, hr, hx⟩ := hv
  have hw2 := yWF_mt hw hd hn
  obtain ⟨g, ho, h0, hq⟩ := CP_rd h hw hd hn hr
  have e52 : ymt t d n 52 0 d = (n : Int) := ymt_52 t d n
  refine ⟨fun e => ?_, fun e => ?_⟩
  · subst e
    have hcp : CP u1 (ymt t d 0) nd nr ns := ⟨g, fun d' h1 => by
      by_cases e : d' = d
      · subst e
        exact ⟨h0, fun c => by rw [e52] at c; omega⟩
      · exact ho d' h1 e, hq⟩
    have hb := CP_bf hcp hw2 hd
    have e2 : v = yqf u1 d 0 := by
      rw [← hx]
      unfold ynx
      rw [if_neg (by rw [h0.2.1, e52]; omega)]
    rw [e2]
    exact hb
  · have e2 : v = zu u1 17 d 9 (u1 0 0 8 + u1 6 (u1 17 d 6).toNat (u1 20 d 0).toNat) := by
      rw [← hx]
      unfold ynx
      rw [if_pos (by rw [h0.2.1, e52]; omega)]
    have hwd := hw2.2.1 d hd
    have h53 := hwd.2.1 0 (by rw [e52]; omega)
    have h20 := (h0.2.2.2 0 (by rw [e52]; omega)).1
    rw [Nat.add_zero] at h53 h20
    have hy := hwd.2.2.2.1 (by rw [e52]; omega)
    have e3 : u1 0 0 8 + u1 6 (u1 17 d 6).toNat (u1 20 d 0).toNat = ymt t d n 30 0 1 + ywy (ymt t d n) d := by
      rw [h0.1.2.2.2.1, h20, CP_way g (by have := hwd.1.1; omega) (by omega) hy, g.2.1.2.1]
      rfl
    rw [e2, e3]
    refine ⟨CPg_ot g (fun κ i k hk => zu_ne (by omega)) (fun κ k hk => zu_ne (by omega)) (by rw [zu_ne (by omega), zu_ne (by omega)]; exact g.2.1.2.1) (by rw [zu_ne (by omega), zu_ne (by omega)]; exact g.2.1.2.2), fun d' h1 => ?_, fun q h1 => CPq_ot (hq q h1) (fun k _ => zu_ne (by omega)) (fun κ h2 h3 => zu_ne (by omega))⟩
    by_cases e : d' = d
    · subst e
      have F1 : ∀ κ k, ¬ (κ = 17 ∧ k = 9) → zu u1 17 d' 9 (ymt t d' n 30 0 1 + ywy (ymt t d' n) d') κ d' k = u1 κ d' k := fun κ k hk => zu_ne (by omega)
      have F2 : ∀ κ k, κ ≠ 55 → zu (ymt t d' n) 55 0 d' (ymt t d' n 30 0 1 + ywy (ymt t d' n) d') κ 0 k = ymt t d' n κ 0 k := fun κ k hk => zu_ne (by omega)
      have er : yrt (zu (ymt t d' n) 55 0 d' (ymt t d' n 30 0 1 + ywy (ymt t d' n) d')) d' = yrt (ymt t d' n) d' := yrt_f2 (F2 58 _ (by decide)) (fun k _ _ => F2 59 _ (by decide))
      obtain ⟨⟨b1, b2, b3, b4, b5, b6, b7, b8, b9⟩, b10, b11, b12⟩ := h0
      unfold CPd CPd0
      rw [er, zu_same, zu_same, F1 17 3 (by omega), F1 17 4 (by omega), F1 17 5 (by omega), F1 17 6 (by omega), F1 17 7 (by omega), F1 17 8 (by omega), F1 17 10 (by omega), F1 17 11 (by omega), F1 17 12 (by omega), F1 18 3 (by omega), F2 58 _ (by omega), F2 51 _ (by omega), F2 49 _ (by omega), F2 50 _ (by omega), F2 56 _ (by omega), F2 60 _ (by omega), F2 61 _ (by omega), F2 62 _ (by omega), F2 52 _ (by omega)]
      exact ⟨⟨⟨b1, b2, b3, b4, b5, b6, b7, b8, b9⟩, b10, fun j hj => by rw [F1 19 _ (by omega), F2 59 _ (by omega)]; exact b11 j hj, fun j hj => by rw [F1 20 _ (by omega), F1 21 _ (by omega), F1 22 _ (by omega), F2 53 _ (by omega), F2 54 _ (by omega)]; exact b12 j hj⟩, fun _ => rfl⟩
    · exact CPd_ot (ho d' h1 e) (hw2.2.1 d' h1).1.2.2 (fun κ i k hk => by unfold yDs at hk; exact zu_ne (by omega)) (fun κ k hk => by unfold yDt at hk; exact zu_ne (by omega))
theorem yDR_stop {d : Nat} {σ u : zS} (h9 : ¬ σ 17 d 9 ≤ σ 0 0 8) : ∀ n, yDR d n σ u → σ = u
  | 0, h => h
  | n + 1, h => by
    rcases h with ⟨h1, -⟩ | ⟨-, h1⟩
    · exact absurd h1 h9
    · exact h1
theorem ymt_301 {t : zS} {d n : Nat} : ymt t d n 30 0 1 = t 30 0 1 := ymt_fr (by omega)
/-- from a state in which it is sent on: what is reached is done -/
theorem CP_LV {nd nr ns d : Nat} {c B : Int} (hd : d < nd) : ∀ (n : Nat) (σ t1 u : zS), 0 < n → t1 52 0 d = (n : Int) → yWF t1 nd nr ns c B → CP σ (zu t1 55 0 d (t1 30 0 1 + ywy t1 d)) nd nr ns → yDR d n σ u → CP u (ybf (yLV d n t1) d) nd nr ns
  | 0, _, _, _, h, _, _, _, _ => absurd h (Nat.lt_irrefl 0)
  | n + 1, σ, t1, u, _, hn, hw, hcp, hr => by
    have hy := yWF_wy hw hd (by omega)
    have hnow := hw.1.2.2.1
    have hw2 : yWF (zu t1 55 0 d (t1 30 0 1 + ywy t1 d)) nd nr ns c B := yWF_55 hw (by omega)
    have e52 : zu t1 55 0 d (t1 30 0 1 + ywy t1 d) 52 0 d = (n : Int) + 1 := by rw [zu_ne (by omega)]; omega
    have e9 := (hcp.2.1 d hd).2 (by rw [e52]; omega)
    rw [zu_same] at e9
    have e8 := hcp.1.2.1.2.1
    rw [zu_ne (by omega)] at e8
    show CP u (ybf (if ywy t1 d = 0 then yLV d n (ymt (zu t1 55 0 d (t1 30 0 1 + ywy t1 d)) d n) else zu t1 55 0 d (t1 30 0 1 + ywy t1 d)) d) nd nr ns
    by_cases c0 : ywy t1 d = 0
    · rw [if_pos c0]
      obtain ⟨v, hv, hr2⟩ : ∃ v, yNX σ v d ∧ yDR d n v u := by
        rcases hr with ⟨-, h1⟩ | ⟨h1, -⟩
        · exact h1
        · exact absurd (by omega) h1
      obtain ⟨x1, x2⟩ := CP_nx hcp hw2 hd e52 hv
      by_cases en : n = 0
      · subst en
        obtain rfl : v = u := hr2
        exact x1 rfl
      · exact CP_LV hd n v _ u (by omega) (ymt_52 _ _ _) (yWF_mt hw2 hd e52) (x2 (by omega)) hr2
    · rw [if_neg c0]
      obtain rfl := yDR_stop (by omega) (n + 1) hr
      have : ybf (zu t1 55 0 d (t1 30 0 1 + ywy t1 d)) d = zu t1 55 0 d (t1 30 0 1 + ywy t1 d) := by
        unfold ybf
        exact if_neg (fun q => by have := q.1; omega)
      rw [this]
      exact hcp
/-- a driver, as a minute is over -/
theorem CP_P1 {σ t u : zS} {nd nr ns d : Nat} {c B : Int} (h : CP σ t nd nr ns) (hw : yWF t nd nr ns c B) (hd : d < nd) (hr : yDR d (t 52 0 d).toNat σ u) : CP u (yP1 d t) nd nr ns := by
  have h52 := (hw.2.1 d hd).1.2
  unfold yP1
  by_cases c0 : 0 < t 52 0 d ∧ t 55 0 d ≤ t 30 0 1
  · rw [if_pos c0]
    obtain ⟨n, hn⟩ : ∃ n : Nat, t 52 0 d = (n : Int) + 1 := ⟨(t 52 0 d).toNat - 1, by omega⟩
    rw [show (t 52 0 d).toNat = n + 1 by omega] at hr ⊢
    rw [show n + 1 - 1 = n from rfl]
    have e9 := (h.2.1 d hd).2 c0.1
    have e8 := h.1.2.1.2.1
    obtain ⟨v, hv, hr2⟩ : ∃ v, yNX σ v d ∧ yDR d n v u := by
      rcases hr with ⟨-, h1⟩ | ⟨h1, -⟩
      · exact h1
      · exact absurd (by omega) h1
    obtain ⟨x1, x2⟩ := CP_nx h hw hd hn hv
    by_cases en : n = 0
    · subst en
      obtain rfl : v = u := hr2
      exact x1 rfl
    · exact CP_LV hd n v _ u (by omega) (ymt_52 _ _ _) (yWF_mt hw hd hn) (x2 (by omega)) hr2
  · rw [if_neg c0]
    by_cases e : t 52 0 d = 0
    · rw [e] at hr
      obtain rfl : σ = u := hr
      exact h
    · have e9 := (h.2.1 d hd).2 (by omega)
      have e8 := h.1.2.1.2.1
      obtain rfl := yDR_stop (by omega) _ hr
      exact h
/-- a driver is sent -/
theorem CP_gi {σ t v u : zS} {nd nr ns d q : Nat} {c B : Int} (h : CP σ t nd nr ns) (hw : yWF t nd nr ns c B) (hd : d < nd) (hq : q < nr) (h0 : t 64 0 q = 0) (h52 : t 52 0 d = 0) (hway : t 47 0 (10 * (t 49 0 d).toNat + (t 65 0 q).toNat) < 100000) (hs : ysd σ v d q) (hr : yDR d 2 v u) : CP u (ygi t q d) nd nr ns := by
  obtain ⟨⟨p0, p1⟩, ⟨w0, w1⟩, n2, s1, d1, t1, r1⟩ := ygm_at (t := t) (d := d) (q := q)
  obtain ⟨⟨v18, ⟨v20, v20'⟩, ⟨v21, v21'⟩, ⟨v22, v22'⟩⟩, v9, ⟨v6, v7, v8, vp⟩, vf⟩ := hs
  have hw1 := yWF_gm hw hd hq h0 h52 hway
  have hnr := hw.1.1.2.1
  obtain ⟨g, hds, hqs⟩ := id h
  obtain ⟨⟨a1, a2, a3, a4, a5, a6, a7, a8, a9⟩, a10, a11, a12⟩ := (hds d hd).1
  obtain ⟨c1, c2, c3, c4, c5, c6, c7, c8, c9, c10, c11⟩ := hqs q hq
  have hwd := (hw.2.1 d hd).1.1
  obtain ⟨k1, k2, k3, k4⟩ := hw.2.2.1 q hq
  have e1 : σ 6 (σ 17 d 6).toNat (σ 23 q 1).toNat = t 47 0 (10 * (t 49 0 d).toNat + (t 65 0 q).toNat) := by
    rw [a4, c1]; exact CP_way g (by omega) (by omega) hway
  have e2 : σ 6 (σ 23 q 1).toNat (σ 23 q 2).toNat = t 47 0 (10 * (t 65 0 q).toNat + (t 66 0 q).toNat) := by
    rw [c1, c2]; exact CP_way g (by omega) (by omega) k3
  have hnow := g.2.1.2.1
  have ew : ywy (ygm t d q) d = t 47 0 (10 * (t 49 0 d).toNat + (t 65 0 q).toNat) := by
    unfold ywy
    rw [p0, ygm_fr (κ := 49) (by omega), ygm_fr (κ := 47) (by omega)]
  have e3 : ygm t d q 30 0 1 = t 30 0 1 := ygm_fr (by omega)
  obtain ⟨X, hX⟩ : ∃ X, X = ygm t d q 30 0 1 + ywy (ygm t d q) d := ⟨_, rfl⟩
  have V : ∀ κ i k, ¬ ((i = d ∧ (κ = 20 ∨ κ = 21 ∨ κ = 22 ∨ (κ = 18 ∧ k = 3))) ∨ (κ = 17 ∧ i = d ∧ k = 9) ∨ (κ = 23 ∧ i = q ∧ (k = 6 ∨ k = 7 ∨ k = 8 ∨ k = 9))) → v κ i k = σ κ i k := fun κ i k hk => vf κ i k hk
  have T : ∀ κ k, ¬ ((κ = 64 ∨ κ = 70 ∨ κ = 71 ∨ κ = 73) ∧ k = q) ∧ ¬ ((κ = 53 ∨ κ = 54) ∧ (k = 8 * d ∨ k = 8 * d + 1)) ∧ ¬ (κ = 52 ∧ k = d) ∧ ¬ (κ = 55 ∧ k = d) → zu (ygm t d q) 55 0 d X κ 0 k = t κ 0 k := fun κ k hk => by rw [zu_ne (by omega), ygm_fr (by omega)]
  refine CP_LV hd 2 v (ygm t d q) u (by decide) n2 hw1 ?_ hr
  rw [← hX]
  refine ⟨CPg_ot g (fun κ i k hk => V κ i k (by omega)) (fun κ k hk => T κ k (by omega)) (by rw [V 0 0 8 (by omega), T 30 1 (by omega)]; exact hnow) (by rw [V 0 0 9 (by omega), T 30 17 (by omega)]; exact g.2.1.2.2), fun d' h1 => ?_, fun p h1 => ?_⟩
  · by_cases e : d' = d
    · subst e
      have er : yrt (zu (ygm t d' q) 55 0 d' X) d' = yrt t d' := yrt_f2 (T 58 _ (by omega)) (fun k _ _ => T 59 _ (by omega))
      have e52 : zu (ygm t d' q) 55 0 d' X 52 0 d' = 2 := by rw [zu_ne (by omega)]; exact n2
      unfold CPd CPd0
      rw [er, e52, zu_same, v9, v18, V 17 d' 3 (by omega), V 17 d' 4 (by omega), V 17 d' 5 (by omega), V 17 d' 6 (by omega), V 17 d' 7 (by omega), V 17 d' 8 (by omega), V 17 d' 10 (by omega), V 17 d' 11 (by omega), V 17 d' 12 (by omega), T 58 _ (by omega), T 51 _ (by omega), T 49 _ (by omega), T 50 _ (by omega), T 56 _ (by omega), T 60 _ (by omega), T 61 _ (by omega), T 62 _ (by omega)]
      refine ⟨⟨⟨a1, a2, a3, a4, a5, a6, a7, a8, a9⟩, rfl, fun j hj => by rw [V 19 _ _ (by omega), T 59 _ (by omega)]; exact a11 j hj, fun j hj => ?_⟩, fun _ => by rw [hX, hnow, e1, e3, ew]⟩
      rcases (show j = 0 ∨ j = 1 by omega) with rfl | rfl
      · rw [Nat.add_zero, zu_ne (by omega), zu_ne (by omega), p0, w0, v20, v21, v22, c1]
        exact ⟨rfl, (if_pos (by omega)).symm, (if_pos (by omega)).symm⟩
      · rw [zu_ne (by omega), zu_ne (by omega), p1, w1, v20', v21', v22', c2]
        refine ⟨rfl, ?_, (if_neg (by omega)).symm⟩
        unfold yw1
        rw [if_neg (by omega)]
        omega
    · exact CPd_ot (hds d' h1) (hw.2.1 d' h1).1.2.2 (fun κ i k hk => by unfold yDs at hk; exact V κ i k (by omega)) (fun κ k hk => by unfold yDt at hk; exact T κ k (by omega))
  · by_cases e : p = q
    · subst e
      have x64 : zu (ygm t d p) 55 0 d X 64 0 p = 1 := by rw [zu_ne (by omega)]; exact s1
      have x70 : zu (ygm t d p) 55 0 d X 70 0 p = (d : Int) := by rw [zu_ne (by omega)]; exact d1
      have x73 : zu (ygm t d p) 55 0 d X 73 0 p = t 30 0 1 := by rw [zu_ne (by omega)]; exact t1
      have x71 : zu (ygm t d p) 55 0 d X 71 0 p = ygp t d p := by rw [zu_ne (by omega)]; exact r1
      unfold CPq
      rw [x64, x70, x73, x71, v6, v7, v8, vp, V 23 p 1 (by omega), V 23 p 2 (by omega), V 23 p 3 (by omega), V 23 p 4 (by omega), V 23 p 5 (by omega), V 23 p 10 (by omega), V 23 p 11 (by omega), T 65 _ (by omega), T 66 _ (by omega), T 67 _ (by omega), T 68 _ (by omega), T 69 _ (by omega), T 72 _ (by omega), T 74 _ (by omega)]
      exact ⟨c1, c2, c3, c4, c5, rfl, rfl, hnow, by rw [e1, e2, hnow]; rfl, c10, c11⟩
    · exact CPq_ot (hqs p h1) (fun k _ => V 23 p k (by omega)) (fun κ h2 h3 => T κ p (by omega))
