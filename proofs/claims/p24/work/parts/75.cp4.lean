/-! the calls, in both -/
theorem CP_0 {σ t : zS} {nd nr ns : Nat} {c B x : Int} (h : CP σ t nd nr ns) (hw : yWF t nd nr ns c B) : CP σ (zu t 30 0 0 x) nd nr ns :=
  CP_fr h hw (fun _ _ _ _ => rfl) (fun κ k hk => zu_ne (by unfold ysr at hk; omega))
theorem CP_cap {σ t : zS} {nd nr ns : Nat} {c B a : Int} (h : CP σ t nd nr ns) (hw : yWF t nd nr ns c B) : CP (zu σ 0 0 7 a) (zu t 30 0 2 a) nd nr ns := by
  obtain ⟨⟨⟨a1, a2, a3⟩, ⟨a4, a5, a6⟩, a7, a8, a9, a10⟩, hd, hq⟩ := h
  refine ⟨⟨⟨by rw [zu_ne (by omega)]; exact a1, by rw [zu_ne (by omega)]; exact a2, by rw [zu_ne (by omega)]; exact a3⟩, ⟨by rw [zu_same, zu_same], by rw [zu_ne (by omega), zu_ne (by omega)]; exact a5, by rw [zu_ne (by omega), zu_ne (by omega)]; exact a6⟩, fun i hi => by rw [zu_ne (by omega)]; exact a7 i hi, fun i hi => by rw [zu_ne (by omega)]; exact a8 i hi, fun k hk => ?_, fun x y hx hy => ?_⟩, fun d h1 => CPd_ot (hd d h1) (hw.2.1 d h1).1.2.2 (fun κ i k hk => by unfold yDs at hk; exact zu_ne (by omega)) (fun κ k hk => by unfold yDt at hk; exact zu_ne (by omega)), fun q h1 => CPq_ot (hq q h1) (fun k _ => zu_ne (by omega)) (fun κ h2 h3 => zu_ne (by omega))⟩
  · rw [zu_ne (by omega), zu_ne (by omega), zu_ne (by omega), zu_ne (by omega), zu_ne (by omega), zu_ne (by omega)]
    exact a9 k hk
  · rw [zu_ne (by omega), zu_ne (by omega)]
    exact a10 x y hx hy
/-- one number of a driver that isn't in the rows -/
theorem CP_1 {σ v : zS} {nd nr ns d : Nat} {k1 κ2 : Nat} {x : Int} (h : CP σ v nd nr ns) (h8 : ∀ d, d < nd → v 52 0 d ≤ 8) (hk : (k1 = 5 ∧ κ2 = 51) ∨ (k1 = 7 ∧ κ2 = 50)) : CP (zu σ 17 d k1 x) (zu v κ2 0 d x) nd nr ns := by
  obtain ⟨g, hds, hqs⟩ := h
  refine ⟨CPg_ot g (fun κ i k hk => zu_ne (by omega)) (fun κ k hk => zu_ne (by omega)) (by rw [zu_ne (by omega), zu_ne (by omega)]; exact g.2.1.2.1) (by rw [zu_ne (by omega), zu_ne (by omega)]; exact g.2.1.2.2), fun d' h1 => ?_, fun q h1 => CPq_ot (hqs q h1) (fun k _ => zu_ne (by omega)) (fun κ h2 h3 => zu_ne (by omega))⟩
  by_cases e : d' = d
  · subst e
    have F1 : ∀ κ k, ¬ (κ = 17 ∧ k = k1) → zu σ 17 d' k1 x κ d' k = σ κ d' k := fun κ k hk => zu_ne (by omega)
    have F2 : ∀ κ k, κ ≠ κ2 → zu v κ2 0 d' x κ 0 k = v κ 0 k := fun κ k hk => zu_ne (by omega)
    have er : yrt (zu v κ2 0 d' x) d' = yrt v d' := yrt_f2 (F2 58 _ (by omega)) (fun k _ _ => F2 59 _ (by omega))
    obtain ⟨⟨⟨b1, b2, b3, b4, b5, b6, b7, b8, b9⟩, b10, b11, b12⟩, b13⟩ := hds d' h1
    have r5 : zu σ 17 d' k1 x 17 d' 5 = zu v κ2 0 d' x 51 0 d' := by
      rcases hk with ⟨rfl, rfl⟩ | ⟨rfl, rfl⟩
      · rw [zu_same, zu_same]
      · rw [zu_ne (by omega), zu_ne (by omega)]; exact b3
    have r7 : zu σ 17 d' k1 x 17 d' 7 = zu v κ2 0 d' x 50 0 d' := by
      rcases hk with ⟨rfl, rfl⟩ | ⟨rfl, rfl⟩
      · rw [zu_ne (by omega), zu_ne (by omega)]; exact b5
      · rw [zu_same, zu_same]
    unfold CPd CPd0
    rw [er, r5, r7, F1 17 3 (by omega), F1 17 4 (by omega), F1 17 6 (by omega), F1 17 8 (by omega), F1 17 9 (by omega), F1 17 10 (by omega), F1 17 11 (by omega), F1 17 12 (by omega), F1 18 3 (by omega), F2 58 _ (by omega), F2 49 _ (by omega), F2 56 _ (by omega), F2 55 _ (by omega), F2 60 _ (by omega), F2 61 _ (by omega), F2 62 _ (by omega), F2 52 _ (by omega)]
    exact ⟨⟨⟨b1, b2, rfl, b4, rfl, b6, b7, b8, b9⟩, b10, fun j hj => by rw [F1 19 _ (by omega), F2 59 _ (by omega)]; exact b11 j hj, fun j hj => by rw [F1 20 _ (by omega), F1 21 _ (by omega), F1 22 _ (by omega), F2 53 _ (by omega), F2 54 _ (by omega)]; exact b12 j hj⟩, b13⟩
  · exact CPd_ot (hds d' h1) (h8 d' h1) (fun κ i k hk => by unfold yDs at hk; exact zu_ne (by omega)) (fun κ k hk => by unfold yDt at hk; exact zu_ne (by omega))
theorem yqf_1 {σ : zS} {d : Nat} {w : Int} (h : ¬ (w = 0 ∧ yfr σ d)) : yqf σ d w = σ := if_neg h
/-- a break begins, or ends -/
theorem CP_rest {σ t : zS} {nd nr ns d : Nat} {c B x w : Int} (h : CP σ t nd nr ns) (hw : yWF t nd nr ns c B) (hd : d < nd) (h50 : t 50 0 d = 0 ∨ t 50 0 d = 1) (hx : x = 0 ∨ x = 1) (hW : w = zb (yfr σ d)) : CP (yqf (zu σ 17 d 7 x) d w) (ymr t d x) nd nr ns := by
  have hw0 := yWF_z (x := 0) hw
  have h1 : CP (zu σ 17 d 7 x) (zu (zu t 30 0 0 0) 50 0 d x) nd nr ns := CP_1 (CP_0 h hw) (fun d hd => (hw0.2.1 d hd).1.2.2) (Or.inr ⟨rfl, rfl⟩)
  have hw1 : yWF (zu (zu t 30 0 0 0) 50 0 d x) nd nr ns c B := yWF_5x hw0 hd (Or.inl rfl)
  have hf := CP_free h1 hd
  have hf0 := CP_free h hd
  unfold ymr
  by_cases c1 : t 50 0 d ≠ 0 ∧ x = 0
  · rw [if_pos c1]
    have e : w = 0 := by
      rw [hW]
      exact zb_f (fun q => c1.1 (hf0.1 q).2.1)
    rw [e]
    exact CP_bf h1 hw1 hd
  · rw [if_neg c1]
    have e : yqf (zu σ 17 d 7 x) d w = zu σ 17 d 7 x := yqf_1 (fun q => by
      obtain ⟨q1, q2⟩ := q
      have q3 := hf.1 q2
      have f52 : zu (zu t 30 0 0 0) 50 0 d x 52 0 d = t 52 0 d := by rw [zu_ne (by omega), zu_ne (by omega)]
      have f51 : zu (zu t 30 0 0 0) 50 0 d x 51 0 d = t 51 0 d := by rw [zu_ne (by omega), zu_ne (by omega)]
      have f50 : zu (zu t 30 0 0 0) 50 0 d x 50 0 d = x := zu_same
      unfold ymf at q3
      rw [f52, f51, f50] at q3
      have q4 : yfr σ d := hf0.2 ⟨q3.1, by
        rcases h50 with h50 | h50
        · exact h50
        · exact absurd ⟨by omega, q3.2.1⟩ c1, q3.2.2⟩
      rw [hW, zb_t q4] at q1
      omega)
    rw [e]
    exact h1
theorem zins0 {x : Int} {f : Nat → Int} : zins 0 x f 0 = x := by
  unfold zins
  rw [if_neg (by omega), if_pos rfl]
/-- a driver wanders -/
theorem CP_wander {σ t u1 : zS} {nd nr ns d : Nat} {c B b : Int} (h : CP σ t nd nr ns) (hw : yWF t nd nr ns c B) (hd : d < nd) (h52 : t 52 0 d = 0) (hb : 0 ≤ b ∧ b < 10) (hne : b ≠ t 49 0 d) (hway : t 47 0 (10 * (t 49 0 d).toNat + b.toNat) < 100000) (hu : u1 18 d 3 = 1 ∧ (u1 20 d 0 = b ∧ u1 21 d 0 = -1 ∧ u1 22 d 0 = 0) ∧ zfr (fun κ i k => i = d ∧ (κ = 20 ∨ κ = 21 ∨ κ = 22 ∨ (κ = 18 ∧ k = 3))) σ u1) {X : Int} (hX : X = t 30 0 1 + t 47 0 (10 * (t 49 0 d).toNat + b.toNat)) : CP (zu u1 17 d 9 X) (ybf (yLV d 1 (ywd t d b)) d) nd nr ns ∧ ybf (yLV d 1 (ywd t d b)) d 55 0 d = X := by
  obtain ⟨n1, p0, w0⟩ := ywd_at (t := t) (d := d) (b := b)
  obtain ⟨u18, ⟨u20, u21, u22⟩, uf⟩ := hu
  obtain ⟨g, hds, hqs⟩ := id h
  obtain ⟨⟨a1, a2, a3, a4, a5, a6, a7, a8, a9⟩, a10, a11, a12⟩ := (hds d hd).1
  have hwd := (hw.2.1 d hd).1.1
  have hpos := (yWF_w hw (t 49 0 d).toNat b.toNat (by omega) (by omega)).2.2.2 (by omega)
  have ey : ywy (ywd t d b) d = t 47 0 (10 * (t 49 0 d).toNat + b.toNat) := by
    unfold ywy
    rw [p0, ywd_fr (κ := 49) (by omega), ywd_fr (κ := 47) (by omega)]
  have e1 : ywd t d b 30 0 1 = t 30 0 1 := ywd_fr (by omega)
  have eL : yLV d 1 (ywd t d b) = zu (ywd t d b) 55 0 d X := by
    show (if ywy (ywd t d b) d = 0 then _ else zu (ywd t d b) 55 0 d (ywd t d b 30 0 1 + ywy (ywd t d b) d)) = _
    rw [if_neg (by omega), e1, ey, hX]
  have eb : ybf (zu (ywd t d b) 55 0 d X) d = zu (ywd t d b) 55 0 d X := if_neg (fun q => by
    have q1 := q.1
    rw [zu_ne (by omega), n1] at q1
    omega)
  rw [eL, eb]
  refine ⟨?_, zu_same⟩
  have V : ∀ κ i k, ¬ (i = d ∧ (κ = 20 ∨ κ = 21 ∨ κ = 22 ∨ (κ = 18 ∧ k = 3) ∨ (κ = 17 ∧ k = 9))) → zu u1 17 d 9 X κ i k = σ κ i k := fun κ i k hk => by
    rw [zu_ne (by omega)]
    exact uf κ i k (by omega)
  have T : ∀ κ k, ¬ (κ = 30 ∧ k = 0) ∧ ¬ ((κ = 53 ∨ κ = 54) ∧ k = 8 * d) ∧ ¬ (κ = 52 ∧ k = d) ∧ ¬ (κ = 55 ∧ k = d) → zu (ywd t d b) 55 0 d X κ 0 k = t κ 0 k := fun κ k hk => by rw [zu_ne (by omega), ywd_fr (by omega)]
  refine ⟨CPg_ot g (fun κ i k hk => V κ i k (by omega)) (fun κ k hk => T κ k (by omega)) (by rw [V 0 0 8 (by omega), T 30 1 (by omega)]; exact g.2.1.2.1) (by rw [V 0 0 9 (by omega), T 30 17 (by omega)]; exact g.2.1.2.2), fun d' h1 => ?_, fun q h1 => CPq_ot (hqs q h1) (fun k _ => V 23 q k (by omega)) (fun κ h2 h3 => T κ q (by omega))⟩
  by_cases e : d' = d
  · subst e
    have er : yrt (zu (ywd t d' b) 55 0 d' X) d' = yrt t d' := yrt_f2 (T 58 _ (by omega)) (fun k _ _ => T 59 _ (by omega))
    have f52 : zu (ywd t d' b) 55 0 d' X 52 0 d' = 1 := by rw [zu_ne (by omega)]; exact n1
    have f18 : zu u1 17 d' 9 X 18 d' 3 = 1 := by rw [zu_ne (by omega)]; exact u18
    unfold CPd CPd0
    rw [er, f52, f18, zu_same, zu_same, V 17 d' 3 (by omega), V 17 d' 4 (by omega), V 17 d' 5 (by omega), V 17 d' 6 (by omega), V 17 d' 7 (by omega), V 17 d' 8 (by omega), V 17 d' 10 (by omega), V 17 d' 11 (by omega), V 17 d' 12 (by omega), T 58 _ (by omega), T 51 _ (by omega), T 49 _ (by omega), T 50 _ (by omega), T 56 _ (by omega), T 60 _ (by omega), T 61 _ (by omega), T 62 _ (by omega)]
    refine ⟨⟨⟨a1, a2, a3, a4, a5, a6, a7, a8, a9⟩, rfl, fun j hj => by rw [V 19 _ _ (by omega), T 59 _ (by omega)]; exact a11 j hj, fun j hj => ?_⟩, fun _ => rfl⟩
    obtain rfl : j = 0 := by omega
    rw [Nat.add_zero, zu_ne (by omega), zu_ne (by omega), zu_ne (by omega), zu_ne (by omega), zu_ne (by omega), u20, u21, u22, p0, w0]
    exact ⟨rfl, rfl, rfl⟩
  · exact CPd_ot (hds d' h1) (hw.2.1 d' h1).1.2.2 (fun κ i k hk => by unfold yDs at hk; exact V κ i k (by omega)) (fun κ k hk => by unfold yDt at hk; exact T κ k (by omega))
/-- a request that was sent is cancelled -/
theorem CP_cl {σ t u : zS} {nd nr ns q o : Nat} {c B : Int} (h : CP σ t nd nr ns) (hw : yWF t nd nr ns c B) (hq : q < nr) (h1 : t 64 0 q = 1) (ho : yco t q o) (hu : u 18 (t 70 0 q).toNat 3 = σ 18 (t 70 0 q).toNat 3 - 1 ∧ (∀ j : Nat, (j : Int) < σ 18 (t 70 0 q).toNat 3 - 1 → u 20 (t 70 0 q).toNat j = zdel o (σ 20 (t 70 0 q).toNat) j ∧ u 21 (t 70 0 q).toNat j = (if zdel o (σ 21 (t 70 0 q).toNat) j = (q : Int) then -1 else zdel o (σ 21 (t 70 0 q).toNat) j) ∧ u 22 (t 70 0 q).toNat j = zdel o (σ 22 (t 70 0 q).toNat) j) ∧ zfr (fun κ i k => i = (t 70 0 q).toNat ∧ (κ = 20 ∨ κ = 21 ∨ κ = 22 ∨ (κ = 18 ∧ k = 3))) (zu σ 23 q 6 4) u) : CP u (ycl t q o) nd nr ns := by
  obtain ⟨g, hds, hqs⟩ := id h
  obtain ⟨c1, c2, c3, c4, c5, c6, c7, c8, c9, c10, c11, c12⟩ := hw.2.2.1 q hq
  have hD0 := c9 (by omega) (by omega)
  have hnr := hw.1.1.2.1
  obtain ⟨D, hD⟩ : ∃ z, z = (t 70 0 q).toNat := ⟨_, rfl⟩
  rw [← hD] at hu
  obtain ⟨u18, urow, uf⟩ := hu
  have hDn : D < nd := by omega
  obtain ⟨o1, o2, o3⟩ := ho
  rw [← hD] at o1 o2 o3
  have h8 := (hw.2.1 D hDn).1.2
  obtain ⟨n, hn⟩ : ∃ n : Nat, t 52 0 D = (n : Int) + 1 := ⟨(t 52 0 D).toNat - 1, by omega⟩
  obtain ⟨⟨⟨a1, a2, a3, a4, a5, a6, a7, a8, a9⟩, a10, a11, a12⟩, a13⟩ := hds D hDn
  have F : ∀ κ k, ¬ (κ = 30 ∧ k = 0) ∧ ¬ ((κ = 53 ∨ κ = 54) ∧ 8 * D ≤ k ∧ k < 8 * D + 8) ∧ ¬ (κ = 52 ∧ k = D) ∧ ¬ (κ = 64 ∧ k = q) → ycl t q o κ 0 k = t κ 0 k := fun κ k hk => ycl_fr (by rw [← hD]; omega) (by rw [← hD]; exact hk)
  have e52 : ycl t q o 52 0 D = (n : Int) := by
    unfold ycl
    rw [← hD, zu_ne (by omega), zu_same]; omega
  have e64 : ycl t q o 64 0 q = 4 := by unfold ycl; rw [zu_same]
  have e53 : ∀ j, j < n → ycl t q o 53 0 (8 * D + j) = if j < o then t 53 0 (8 * D + j) else t 53 0 (8 * D + (j + 1)) := fun j hj => by
    unfold ycl
    rw [← hD, zu_ne (by omega), zu_ne (by omega), ymk_53 (by omega), zu_ne (by omega), zu_ne (by omega)]
  have e54 : ∀ j, j < n → ycl t q o 54 0 (8 * D + j) = ycx (fun j => t 54 0 (8 * D + j)) (q : Int) o j := fun j hj => by
    unfold ycl
    rw [← hD, zu_ne (by omega), zu_ne (by omega), ymk_54 (by omega)]
    rw [show (fun j => zu t 30 0 0 0 54 0 (8 * D + j)) = fun j => t 54 0 (8 * D + j) from funext fun j => zu_ne (by omega)]
  have U : ∀ κ i k, ¬ (i = D ∧ (κ = 20 ∨ κ = 21 ∨ κ = 22 ∨ (κ = 18 ∧ k = 3))) → ¬ (κ = 23 ∧ i = q ∧ k = 6) → u κ i k = σ κ i k := fun κ i k k0 k1 => (uf κ i k k0).trans (zu_ne (by omega))
  refine ⟨CPg_ot g (fun κ i k hk => U κ i k (by omega) (by omega)) (fun κ k hk => F κ k (by omega)) (by rw [U 0 0 8 (by omega) (by omega), F 30 1 (by omega)]; exact g.2.1.2.1) (by rw [U 0 0 9 (by omega) (by omega), F 30 17 (by omega)]; exact g.2.1.2.2), fun d' h2 => ?_, fun p h2 => ?_⟩
  · by_cases e : d' = D
    · subst e
      have er : yrt (ycl t q o) d' = yrt t d' := yrt_f2 (F 58 _ (by omega)) (fun k _ _ => F 59 _ (by omega))
      unfold CPd CPd0
      rw [er, e52, u18, U 17 d' 3 (by omega) (by omega), U 17 d' 4 (by omega) (by omega), U 17 d' 5 (by omega) (by omega), U 17 d' 6 (by omega) (by omega), U 17 d' 7 (by omega) (by omega), U 17 d' 8 (by omega) (by omega), U 17 d' 9 (by omega) (by omega), U 17 d' 10 (by omega) (by omega), U 17 d' 11 (by omega) (by omega), U 17 d' 12 (by omega) (by omega), F 58 _ (by omega), F 51 _ (by omega), F 49 _ (by omega), F 50 _ (by omega), F 56 _ (by omega), F 55 _ (by omega), F 60 _ (by omega), F 61 _ (by omega), F 62 _ (by omega)]
      refine ⟨⟨⟨a1, a2, a3, a4, a5, a6, a7, a8, a9⟩, by omega, fun j hj => by rw [U 19 _ _ (by omega) (by omega), F 59 _ (by omega)]; exact a11 j hj, fun j hj => ?_⟩, fun hp => a13 (by omega)⟩
      obtain ⟨v1, v2, v3⟩ := urow j (by omega)
      rw [v1, v2, v3, e53 j (by omega), e54 j (by omega)]
      have key : ∀ i : Nat, (i : Int) < t 52 0 d' → i ≠ o → (σ 21 d' i = (q : Int) ↔ t 54 0 (8 * d' + i) = (q : Int)) := fun i hi hio => by
        have hr := yWF_row hw hDn hi
        have hx : t 54 0 (8 * d' + i) ≠ 100 + (q : Int) := fun e => hio (o3 i hi e)
        rw [(a12 i hi).2.1]
        unfold yw1
        split <;> omega
      unfold zdel ycx
      by_cases x1 : j < o
      · rw [if_pos x1, if_pos x1, if_pos x1, if_pos x1, if_pos x1]
        obtain ⟨w1, w2, w3⟩ := a12 j (by omega)
        have k1 := key j (by omega) (by omega)
        by_cases x2 : t 54 0 (8 * d' + j) = (q : Int)
        · rw [if_pos (k1.2 x2), if_pos x2, w3, x2]
          refine ⟨w1, rfl, ?_⟩
          show yw2 (q : Int) = yw2 (-1)
          unfold yw2
          rw [if_pos (by omega), if_pos (by decide)]
        · rw [if_neg (fun c => x2 (k1.1 c)), if_neg x2]
          exact ⟨w1, w2, w3⟩
      · rw [if_neg x1, if_neg x1, if_neg x1, if_neg x1, if_neg x1]
        obtain ⟨w1, w2, w3⟩ := a12 (j + 1) (by omega)
        have k1 := key (j + 1) (by omega) (by omega)
        by_cases x2 : t 54 0 (8 * d' + (j + 1)) = (q : Int)
        · rw [if_pos (k1.2 x2), if_pos x2, w3, x2]
          refine ⟨w1, rfl, ?_⟩
          show yw2 (q : Int) = yw2 (-1)
          unfold yw2
          rw [if_pos (by omega), if_pos (by decide)]
        · rw [if_neg (fun c => x2 (k1.1 c)), if_neg x2]
          exact ⟨w1, w2, w3⟩
    · exact CPd_ot (hds d' h2) (hw.2.1 d' h2).1.2.2 (fun κ i k hk => by unfold yDs at hk; exact U κ i k (by omega) (by omega)) (fun κ k hk => by unfold yDt at hk; exact F κ k (by omega))
  · by_cases e : p = q
    · subst e
      obtain ⟨b1, b2, b3, b4, b5, b6, b7⟩ := hqs p h2
      have x6 : u 23 p 6 = 4 := (uf 23 p 6 (by omega)).trans zu_same
      unfold CPq
      rw [x6, e64, U 23 p 1 (by omega) (by omega), U 23 p 2 (by omega) (by omega), U 23 p 3 (by omega) (by omega), U 23 p 4 (by omega) (by omega), U 23 p 5 (by omega) (by omega), U 23 p 7 (by omega) (by omega), U 23 p 8 (by omega) (by omega), U 23 p 9 (by omega) (by omega), U 23 p 10 (by omega) (by omega), U 23 p 11 (by omega) (by omega), F 65 _ (by omega), F 66 _ (by omega), F 67 _ (by omega), F 68 _ (by omega), F 69 _ (by omega), F 70 _ (by omega), F 71 _ (by omega), F 72 _ (by omega), F 73 _ (by omega), F 74 _ (by omega)]
      exact ⟨b1, b2, b3, b4, b5, rfl, b7⟩
    · exact CPq_ot (hqs p h2) (fun k _ => U 23 p k (by omega) (by omega)) (fun κ h3 h4 => F κ p (by omega))
