/-! THE LAW'S CASES, without the machine: the class's answer beside the model's -/
theorem CP_90 {σ t : zS} {nd nr ns : Nat} {c B x : Int} (h : CP σ t nd nr ns) (hw : yWF t nd nr ns c B) : CP (zu σ 90 0 0 x) t nd nr ns := by
  obtain ⟨g, hd, hq⟩ := h
  exact ⟨CPg_ot g (fun κ i k hk => zu_ne (by omega)) (fun κ k hk => rfl) (by rw [zu_ne (by omega)]; exact g.2.1.2.1) (by rw [zu_ne (by omega)]; exact g.2.1.2.2), fun d h1 => CPd_ot (hd d h1) (hw.2.1 d h1).1.2.2 (fun κ i k hk => zu_ne (by unfold yDs at hk; omega)) (fun κ k hk => rfl), fun q h1 => CPq_ot (hq q h1) (fun k _ => zu_ne (by omega)) (fun κ h2 h3 => rfl)⟩
/-- both answers are one, and the two worlds go on together -/
def zLR (nd nr : Nat) (v w : zS) (k b : Int) (c : Int) : Prop := w 30 0 0 = k ∧ (k = 0 → v 90 0 0 = (zi b).toInt) ∧ ∃ ns, CP v w nd nr ns ∧ yWF w nd nr ns (c + 1) (1000 * (c + 1))
theorem zLR.th {σ t : zS} {nd nr ns : Nat} {c k b : Int} (hCP : CP σ t nd nr ns) (hWF : yWF t nd nr ns c (1000 * c)) (hk : k ≠ 0) : zLR nd nr σ (zu t 30 0 0 k) k b c :=
  ⟨zu_same, fun h => absurd h hk, ns, CP_0 hCP hWF, yWF_B (yWF_z hWF) (by omega) (by omega)⟩
theorem zLR.same {σ t : zS} {nd nr ns : Nat} {c b : Int} (hCP : CP σ t nd nr ns) (hWF : yWF t nd nr ns c (1000 * c)) : zLR nd nr (zu σ 90 0 0 (zi b).toInt) (zu t 30 0 0 0) 0 b c :=
  ⟨zu_same, fun _ => zu_same, ns, CP_90 (CP_0 hCP hWF) (yWF_z hWF), yWF_B (yWF_z hWF) (by omega) (by omega)⟩
theorem zLR.ok {u w : zS} {nd nr ns : Nat} {c c' B b : Int} (hCP : CP u w nd nr ns) (hWF : yWF w nd nr ns c' B) (h0 : w 30 0 0 = 0) (hc : c' ≤ c + 1) (hB : B ≤ 1000 * (c + 1)) : zLR nd nr (zu u 90 0 0 (zi b).toInt) w 0 b c :=
  ⟨h0, fun _ => zu_same, ns, CP_90 hCP hWF, yWF_B hWF hc hB⟩

theorem L_way {σ t v w : zS} {nd nr ns : Nat} {c k b9 : Int} (hCP : CP σ t nd nr ns) (hWF : yWF t nd nr ns c (1000 * c)) (hc : 0 ≤ c) {a b : Int} (h1 : (0 = k ∧ ∃ r u, (fun r u => σ = u ∧ ((0 ≤ a ∧ a ≤ 9) ∧ (0 ≤ b ∧ b ≤ 9)) ∧ (if t 47 0 (10 * a.toNat + b.toNat) < 100000 then t 47 0 (10 * a.toNat + b.toNat) else -1) = r) r u ∧ v = zu u 90 0 0 (zi r).toInt) ∨ ∃ E, (fun E u => σ = u ∧ E = "java/lang/IndexOutOfBoundsException" ∧ ¬ ((0 ≤ a ∧ a ≤ 9) ∧ (0 ≤ b ∧ b ≤ 9))) E v ∧ ((E = "java/lang/IndexOutOfBoundsException" ∧ 1 = k))) (h2 : (fun r u => (((0 ≤ a ∧ a ≤ 9) ∧ (0 ≤ b ∧ b ≤ 9)) ∧ (if t 47 0 (10 * a.toNat + b.toNat) < 100000 then t 47 0 (10 * a.toNat + b.toNat) else -1) = r ∧ u = zu t 30 0 0 0) ∨ (¬ ((0 ≤ a ∧ a ≤ 9) ∧ (0 ≤ b ∧ b ≤ 9)) ∧ 0 = r ∧ u = zu t 30 0 0 1)) b9 w) : zLR nd nr v w k b9 c := by
  have h8 := hWF.1.2.1.1
  have h23 := hWF.1.2.1.2.1
  rcases h1 with ⟨rfl, r, u, hp, rfl⟩ | ⟨E, hx, ⟨hE, rfl⟩⟩
  · obtain ⟨rfl, hg, rfl⟩ := hp
    rcases h2 with ⟨-, rfl, rfl⟩ | ⟨q, -⟩
    · exact zLR.same hCP hWF
    · exact absurd hg q
  · obtain ⟨rfl, -, hg⟩ := hx
    rcases h2 with ⟨q, -⟩ | ⟨-, -, rfl⟩
    · exact absurd q hg
    · exact zLR.th hCP hWF (by decide)

theorem L_pay {σ t v w : zS} {nd nr ns : Nat} {c k b9 : Int} (hCP : CP σ t nd nr ns) (hWF : yWF t nd nr ns c (1000 * c)) (hc : 0 ≤ c) {a : Int} (h1 : (0 = k ∧ ∃ r u, (fun r u => σ = u ∧ (0 ≤ a ∧ a ≤ (nd : Int) - 1) ∧ ypy t a.toNat = r) r u ∧ v = zu u 90 0 0 (zi r).toInt) ∨ ∃ E, (fun E u => σ = u ∧ E = "java/lang/IndexOutOfBoundsException" ∧ ¬ (0 ≤ a ∧ a ≤ (nd : Int) - 1)) E v ∧ ((E = "java/lang/IndexOutOfBoundsException" ∧ 1 = k))) (h2 : (fun r u => (¬ (0 ≤ a ∧ a ≤ t 30 0 8 - 1) ∧ 0 = r ∧ u = zu t 30 0 0 1) ∨ ((0 ≤ a ∧ a ≤ t 30 0 8 - 1) ∧ ypy t a.toNat = r ∧ u = zu t 30 0 0 0)) b9 w) : zLR nd nr v w k b9 c := by
  have h8 := hWF.1.2.1.1
  have h23 := hWF.1.2.1.2.1
  rcases h1 with ⟨rfl, r, u, hp, rfl⟩ | ⟨E, hx, ⟨hE, rfl⟩⟩
  · obtain ⟨rfl, hg, rfl⟩ := hp
    rcases h2 with ⟨q, -⟩ | ⟨-, rfl, rfl⟩
    · exact absurd (by omega) q
    · exact zLR.same hCP hWF
  · obtain ⟨rfl, -, hg⟩ := hx
    rcases h2 with ⟨-, -, rfl⟩ | ⟨q, -⟩
    · exact zLR.th hCP hWF (by decide)
    · exact absurd (by omega) hg

theorem L_stop {σ t v w : zS} {nd nr ns : Nat} {c k b9 : Int} (hCP : CP σ t nd nr ns) (hWF : yWF t nd nr ns c (1000 * c)) (hc : 0 ≤ c) {a b x : Int} (h1 : (0 = k ∧ ∃ r u, (fun r u => σ = u ∧ ((0 ≤ a ∧ a ≤ (nd : Int) - 1) ∧ 0 ≤ b) ∧ (if b < t 52 0 a.toNat then (if x = 0 then t 53 0 (8 * a.toNat + b.toNat) else t 54 0 (8 * a.toNat + b.toNat)) else -1) = r) r u ∧ v = zu u 90 0 0 (zi r).toInt) ∨ ∃ E, (fun E u => σ = u ∧ E = "java/lang/IndexOutOfBoundsException" ∧ ¬ ((0 ≤ a ∧ a ≤ (nd : Int) - 1) ∧ 0 ≤ b)) E v ∧ ((E = "java/lang/IndexOutOfBoundsException" ∧ 1 = k))) (h2 : (fun r u => (¬ ((0 ≤ a ∧ a ≤ t 30 0 8 - 1) ∧ 0 ≤ b) ∧ 0 = r ∧ u = zu t 30 0 0 1) ∨ (((0 ≤ a ∧ a ≤ t 30 0 8 - 1) ∧ 0 ≤ b) ∧ (if b < t 52 0 a.toNat then (if x = 0 then t 53 0 (8 * a.toNat + b.toNat) else t 54 0 (8 * a.toNat + b.toNat)) else -1) = r ∧ u = zu t 30 0 0 0)) b9 w) : zLR nd nr v w k b9 c := by
  have h8 := hWF.1.2.1.1
  have h23 := hWF.1.2.1.2.1
  rcases h1 with ⟨rfl, r, u, hp, rfl⟩ | ⟨E, hx, ⟨hE, rfl⟩⟩
  · obtain ⟨rfl, hg, rfl⟩ := hp
    rcases h2 with ⟨q, -⟩ | ⟨-, rfl, rfl⟩
    · exact absurd (by omega) q
    · exact zLR.same hCP hWF
  · obtain ⟨rfl, -, hg⟩ := hx
    rcases h2 with ⟨-, -, rfl⟩ | ⟨q, -⟩
    · exact zLR.th hCP hWF (by decide)
    · exact absurd (by omega) hg

theorem L_cap {σ t v w : zS} {nd nr ns : Nat} {c k b9 : Int} (hCP : CP σ t nd nr ns) (hWF : yWF t nd nr ns c (1000 * c)) (hc : 0 ≤ c) {a : Int} (h1 : (0 = k ∧ ∃ r u, (fun r u => (100 ≤ a ∧ a ≤ 300) ∧ t 30 0 2 = r ∧ CP u (zu (zu t 30 0 0 0) 30 0 2 a) nd nr ns) r u ∧ v = zu u 90 0 0 (zi r).toInt) ∨ ∃ E, (fun E u => σ = u ∧ E = "java/lang/IllegalArgumentException" ∧ ¬ (100 ≤ a ∧ a ≤ 300)) E v ∧ ((E = "java/lang/IllegalArgumentException" ∧ 1 = k))) (h2 : (fun r u => ((100 ≤ a ∧ a ≤ 300) ∧ t 30 0 2 = r ∧ u = zu (zu t 30 0 0 0) 30 0 2 a) ∨ (¬ (100 ≤ a ∧ a ≤ 300) ∧ 0 = r ∧ u = zu t 30 0 0 1)) b9 w) : zLR nd nr v w k b9 c := by
  have h8 := hWF.1.2.1.1
  have h23 := hWF.1.2.1.2.1
  rcases h1 with ⟨rfl, r, u, hp, rfl⟩ | ⟨E, hx, ⟨hE, rfl⟩⟩
  · obtain ⟨hg, rfl, hp⟩ := hp
    rcases h2 with ⟨-, rfl, rfl⟩ | ⟨q, -⟩
    · exact zLR.ok hp (yWF_cap (yWF_z hWF) hg) (by rw [zu_ne (by omega), zu_same]) (by omega) (by omega)
    · exact absurd hg q
  · obtain ⟨rfl, -, hg⟩ := hx
    rcases h2 with ⟨q, -⟩ | ⟨-, -, rfl⟩
    · exact absurd q hg
    · exact zLR.th hCP hWF (by decide)

theorem L_height {σ t v w : zS} {nd nr ns : Nat} {c k b9 : Int} (hCP : CP σ t nd nr ns) (hWF : yWF t nd nr ns c (1000 * c)) (hc : 0 ≤ c) {a : Int} (h1 : (0 = k ∧ ∃ r u, (fun r u => σ = u ∧ (0 ≤ a ∧ a ≤ 3) ∧ yht t nd nr a = r) r u ∧ v = zu u 90 0 0 (zi r).toInt) ∨ ∃ E, (fun E u => σ = u ∧ E = "java/lang/IndexOutOfBoundsException" ∧ ¬ (0 ≤ a ∧ a ≤ 3)) E v ∧ ((E = "java/lang/IndexOutOfBoundsException" ∧ 1 = k))) (h2 : (fun r u => ((0 ≤ a ∧ a ≤ 3) ∧ min (max (100 + yhs (ym1 (zu t 30 0 0 0) a) nr - yhs (ym2 (zu t 30 0 0 0) a) nd) 100) (t 30 0 2) = r ∧ u = zu t 30 0 0 0) ∨ (¬ (0 ≤ a ∧ a ≤ 3) ∧ 0 = r ∧ u = zu t 30 0 0 1)) b9 w) : zLR nd nr v w k b9 c := by
  have h8 := hWF.1.2.1.1
  have h23 := hWF.1.2.1.2.1
  rcases h1 with ⟨rfl, r, u, hp, rfl⟩ | ⟨E, hx, ⟨hE, rfl⟩⟩
  · obtain ⟨rfl, hg, rfl⟩ := hp
    rcases h2 with ⟨-, e9, rfl⟩ | ⟨q, -⟩
    · have e8 : yht t nd nr a = b9 := by
        rw [← e9, ← yht_0 (x := 0)]
        unfold yht
        rw [zu_ne (by omega)]
      rw [e8]
      exact zLR.same hCP hWF
    · exact absurd hg q
  · obtain ⟨rfl, -, hg⟩ := hx
    rcases h2 with ⟨q, -⟩ | ⟨-, -, rfl⟩
    · exact absurd q hg
    · exact zLR.th hCP hWF (by decide)

theorem L_requestIs {σ t v w : zS} {nd nr ns : Nat} {c k b9 : Int} (hCP : CP σ t nd nr ns) (hWF : yWF t nd nr ns c (1000 * c)) (hc : 0 ≤ c) {a w9 : Int} (h1 : (0 = k ∧ ∃ r u, (fun r u => σ = u ∧ (0 ≤ a ∧ a ≤ (nr : Int) - 1) ∧ (0 ≤ w9 ∧ w9 ≤ 6) ∧ yri t a.toNat w9 = r) r u ∧ v = zu u 90 0 0 (zi r).toInt) ∨ ∃ E, (fun E u => σ = u ∧ ((E = "java/lang/IndexOutOfBoundsException" ∧ ¬ (0 ≤ a ∧ a ≤ (nr : Int) - 1)) ∨ (E = "java/lang/IllegalArgumentException" ∧ (0 ≤ a ∧ a ≤ (nr : Int) - 1) ∧ ¬ (0 ≤ w9 ∧ w9 ≤ 6)))) E v ∧ ((E = "java/lang/IndexOutOfBoundsException" ∧ 1 = k) ∨ (E = "java/lang/IllegalArgumentException" ∧ 2 = k))) (h2 : (fun r u => (¬ (0 ≤ a ∧ a ≤ t 30 0 23 - 1) ∧ 0 = r ∧ u = zu t 30 0 0 1) ∨ ((0 ≤ a ∧ a ≤ t 30 0 23 - 1) ∧ ¬ (0 ≤ w9 ∧ w9 ≤ 6) ∧ 0 = r ∧ u = zu t 30 0 0 2) ∨ ((0 ≤ a ∧ a ≤ t 30 0 23 - 1) ∧ (0 ≤ w9 ∧ w9 ≤ 6) ∧ yri t a.toNat w9 = r ∧ u = zu t 30 0 0 0)) b9 w) : zLR nd nr v w k b9 c := by
  have h8 := hWF.1.2.1.1
  have h23 := hWF.1.2.1.2.1
  rcases h1 with ⟨rfl, r, u, hp, rfl⟩ | ⟨E, hx, hE⟩
  · obtain ⟨rfl, hg, hf, rfl⟩ := hp
    rcases h2 with ⟨q, -⟩ | ⟨-, q, -⟩ | ⟨-, -, rfl, rfl⟩
    · exact absurd (by omega) q
    · exact absurd hf q
    · exact zLR.same hCP hWF
  · obtain ⟨rfl, hx⟩ := hx
    rcases hx with ⟨rfl, hg⟩ | ⟨rfl, hg, hf⟩ <;> rcases hE with ⟨e1, rfl⟩ | ⟨e1, rfl⟩ <;> first | (exact absurd e1 (by decide)) | skip
    · rcases h2 with ⟨-, -, rfl⟩ | ⟨q, -⟩ | ⟨q, -⟩
      · exact zLR.th hCP hWF (by decide)
      · exact absurd (by omega) hg
      · exact absurd (by omega) hg
    · rcases h2 with ⟨q, -⟩ | ⟨-, -, -, rfl⟩ | ⟨-, q, -⟩
      · exact absurd (by omega) q
      · exact zLR.th hCP hWF (by decide)
      · exact absurd q hf

theorem L_driverIs {σ t v w : zS} {nd nr ns : Nat} {c k b9 : Int} (hCP : CP σ t nd nr ns) (hWF : yWF t nd nr ns c (1000 * c)) (hc : 0 ≤ c) {a w9 : Int} (h1 : (0 = k ∧ ∃ r u, (fun r u => σ = u ∧ (0 ≤ a ∧ a ≤ (nd : Int) - 1) ∧ (0 ≤ w9 ∧ w9 ≤ 6) ∧ ydi t a.toNat w9 = r) r u ∧ v = zu u 90 0 0 (zi r).toInt) ∨ ∃ E, (fun E u => σ = u ∧ ((E = "java/lang/IndexOutOfBoundsException" ∧ ¬ (0 ≤ a ∧ a ≤ (nd : Int) - 1)) ∨ (E = "java/lang/IllegalArgumentException" ∧ (0 ≤ a ∧ a ≤ (nd : Int) - 1) ∧ ¬ (0 ≤ w9 ∧ w9 ≤ 6)))) E v ∧ ((E = "java/lang/IndexOutOfBoundsException" ∧ 1 = k) ∨ (E = "java/lang/IllegalArgumentException" ∧ 2 = k))) (h2 : (fun r u => (¬ (0 ≤ a ∧ a ≤ t 30 0 8 - 1) ∧ 0 = r ∧ u = zu t 30 0 0 1) ∨ ((0 ≤ a ∧ a ≤ t 30 0 8 - 1) ∧ ¬ (0 ≤ w9 ∧ w9 ≤ 6) ∧ 0 = r ∧ u = zu t 30 0 0 2) ∨ ((0 ≤ a ∧ a ≤ t 30 0 8 - 1) ∧ (0 ≤ w9 ∧ w9 ≤ 6) ∧ ydi t a.toNat w9 = r ∧ u = zu t 30 0 0 0)) b9 w) : zLR nd nr v w k b9 c := by
  have h8 := hWF.1.2.1.1
  have h23 := hWF.1.2.1.2.1
  rcases h1 with ⟨rfl, r, u, hp, rfl⟩ | ⟨E, hx, hE⟩
  · obtain ⟨rfl, hg, hf, rfl⟩ := hp
    rcases h2 with ⟨q, -⟩ | ⟨-, q, -⟩ | ⟨-, -, rfl, rfl⟩
    · exact absurd (by omega) q
    · exact absurd hf q
    · exact zLR.same hCP hWF
  · obtain ⟨rfl, hx⟩ := hx
    rcases hx with ⟨rfl, hg⟩ | ⟨rfl, hg, hf⟩ <;> rcases hE with ⟨e1, rfl⟩ | ⟨e1, rfl⟩ <;> first | (exact absurd e1 (by decide)) | skip
    · rcases h2 with ⟨-, -, rfl⟩ | ⟨q, -⟩ | ⟨q, -⟩
      · exact zLR.th hCP hWF (by decide)
      · exact absurd (by omega) hg
      · exact absurd (by omega) hg
    · rcases h2 with ⟨q, -⟩ | ⟨-, -, -, rfl⟩ | ⟨-, q, -⟩
      · exact absurd (by omega) q
      · exact zLR.th hCP hWF (by decide)
      · exact absurd q hf

theorem y0bf {u : zS} {d : Nat} : ybf u d 30 0 0 = u 30 0 0 := by
  unfold ybf
  by_cases h : ymf u d
  · rw [if_pos h, zu_ne (by omega), zu_ne (by omega)]
  · rw [if_neg h]
theorem y0mt {u : zS} {d n : Nat} : ymt u d n 30 0 0 = u 30 0 0 := by
  unfold ymt
  split
  · rw [zu_ne (by omega), zu_ne (by omega), zu_ne (by omega), zu_ne (by omega), zu_ne (by omega), yms_fr (by omega), zu_ne (by omega)]
  · repeat' split
    all_goals ((repeat rw [zu_ne (by omega)]); rw [yms_fr (by omega)]; (repeat rw [zu_ne (by omega)]))
theorem y0LV {d : Nat} : ∀ (n : Nat) (u : zS), yLV d n u 30 0 0 = u 30 0 0
  | 0, _ => rfl
  | n + 1, u => by
    show (if ywy u d = 0 then yLV d n (ymt (zu u 55 0 d (u 30 0 1 + ywy u d)) d n) else zu u 55 0 d (u 30 0 1 + ywy u d)) 30 0 0 = _
    by_cases h : ywy u d = 0
    · rw [if_pos h, y0LV n, y0mt, zu_ne (by omega)]
    · rw [if_neg h, zu_ne (by omega)]
theorem y0mr {u : zS} {d : Nat} {x : Int} : ymr u d x 30 0 0 = 0 := by
  unfold ymr
  split
  · rw [y0bf, zu_ne (by omega), zu_same]
  · rw [zu_ne (by omega), zu_same]
theorem y0ra {u : zS} {q D K : Nat} {x : Int} : yra u q D K x 30 0 0 = 0 := by
  have h : yrw u q D K x 30 0 0 = 0 := by
    unfold yrw yrv
    (repeat' split) <;> ((repeat rw [zu_ne (by omega)]); first | rw [zu_same] | rfl)
  unfold yra
  split
  · rw [y0bf, h]
  · exact h
theorem y0wd {u : zS} {d : Nat} {b : Int} : ywd u d b 30 0 0 = 0 := by
  unfold ywd
  rw [zu_ne (by omega), zu_ne (by omega), zu_ne (by omega), zu_same]

theorem L_slow {σ t v w : zS} {nd nr ns : Nat} {c k b9 : Int} (hCP : CP σ t nd nr ns) (hWF : yWF t nd nr ns c (1000 * c)) (hc : 0 ≤ c) {a m9 : Int} (h1 : (0 = k ∧ ∃ r u, (fun r u => (0 ≤ a ∧ a ≤ (ns : Int) - 1) ∧ (1 ≤ m9 ∧ m9 ≤ 20) ∧ t 46 0 a.toNat = r ∧ ∀ v, yfw (zu (zu t 30 0 0 0) 46 0 a.toNat m9) v ns → CP u v nd nr ns) r u ∧ v = zu u 90 0 0 (zi r).toInt) ∨ ∃ E, (fun E u => σ = u ∧ ((E = "java/lang/IndexOutOfBoundsException" ∧ ¬ (0 ≤ a ∧ a ≤ (ns : Int) - 1)) ∨ (E = "java/lang/IllegalArgumentException" ∧ (0 ≤ a ∧ a ≤ (ns : Int) - 1) ∧ ¬ (1 ≤ m9 ∧ m9 ≤ 20)))) E v ∧ ((E = "java/lang/IndexOutOfBoundsException" ∧ 1 = k) ∨ (E = "java/lang/IllegalArgumentException" ∧ 2 = k))) (h2 : (fun r u => (¬ (0 ≤ a ∧ a ≤ (ns : Int) - 1) ∧ 0 = r ∧ u = zu t 30 0 0 1) ∨ ((0 ≤ a ∧ a ≤ (ns : Int) - 1) ∧ ¬ (1 ≤ m9 ∧ m9 ≤ 20) ∧ 0 = r ∧ u = zu t 30 0 0 2) ∨ ((0 ≤ a ∧ a ≤ (ns : Int) - 1) ∧ (1 ≤ m9 ∧ m9 ≤ 20) ∧ t 46 0 a.toNat = r ∧ yfw (zu (zu t 30 0 0 0) 46 0 a.toNat m9) u ns)) b9 w) : zLR nd nr v w k b9 c := by
  have h8 := hWF.1.2.1.1
  have h23 := hWF.1.2.1.2.1
  rcases h1 with ⟨rfl, r, u, hp, rfl⟩ | ⟨E, hx, hE⟩
  · obtain ⟨hg, hf, rfl, hcp⟩ := hp
    rcases h2 with ⟨q, -⟩ | ⟨-, q, -⟩ | ⟨-, -, rfl, hw⟩
    · exact absurd hg q
    · exact absurd hf q
    · exact zLR.ok (hcp w hw) (yWF_slow (s := a.toNat) hWF (by omega) hf hw) (by rw [hw.2 _ _ _ (by omega), zu_ne (by omega), zu_same]) (by omega) (by omega)
  · obtain ⟨rfl, hx⟩ := hx
    rcases hx with ⟨rfl, hg⟩ | ⟨rfl, hg, hf⟩ <;> rcases hE with ⟨e1, rfl⟩ | ⟨e1, rfl⟩ <;> first | (exact absurd e1 (by decide)) | skip
    · rcases h2 with ⟨-, -, rfl⟩ | ⟨q, -⟩ | ⟨q, -⟩
      · exact zLR.th hCP hWF (by decide)
      · exact absurd (by first | exact q | omega) hg
      · exact absurd (by first | exact q | omega) hg
    · rcases h2 with ⟨q, -⟩ | ⟨-, -, -, rfl⟩ | ⟨-, q, -⟩
      · exact absurd (by first | exact hg | omega) q
      · exact zLR.th hCP hWF (by decide)
      · first | exact absurd q hf | exact absurd hf q

theorem L_rest {σ t v w : zS} {nd nr ns : Nat} {c k b9 : Int} (hCP : CP σ t nd nr ns) (hWF : yWF t nd nr ns c (1000 * c)) (hc : 0 ≤ c) (h01 : ∀ d, t 50 0 d = 0 ∨ t 50 0 d = 1) {a x : Int} (h1 : (0 = k ∧ ∃ r u, (fun r u => (0 ≤ a ∧ a ≤ (nd : Int) - 1) ∧ ¬ 0 < t 52 0 a.toNat ∧ t 50 0 a.toNat = r ∧ CP u (ymr t a.toNat x) nd nr ns) r u ∧ v = zu u 90 0 0 (if (zi r).toInt = 0 then 0 else 1)) ∨ ∃ E, (fun E u => σ = u ∧ ((E = "java/lang/IndexOutOfBoundsException" ∧ ¬ (0 ≤ a ∧ a ≤ (nd : Int) - 1)) ∨ (E = "java/lang/IllegalStateException" ∧ (0 ≤ a ∧ a ≤ (nd : Int) - 1) ∧ 0 < t 52 0 a.toNat))) E v ∧ ((E = "java/lang/IndexOutOfBoundsException" ∧ 1 = k) ∨ (E = "java/lang/IllegalStateException" ∧ 2 = k))) (h2 : (fun r u => (¬ (0 ≤ a ∧ a ≤ t 30 0 8 - 1) ∧ 0 = r ∧ u = zu t 30 0 0 1) ∨ ((0 ≤ a ∧ a ≤ t 30 0 8 - 1) ∧ 0 < t 52 0 a.toNat ∧ 0 = r ∧ u = zu t 30 0 0 2) ∨ ((0 ≤ a ∧ a ≤ t 30 0 8 - 1) ∧ ¬ 0 < t 52 0 a.toNat ∧ t 50 0 a.toNat = r ∧ u = ymr t a.toNat x)) b9 w) : zLR nd nr v w k b9 c := by
  have h8 := hWF.1.2.1.1
  have h23 := hWF.1.2.1.2.1
  rcases h1 with ⟨rfl, r, u, hp, rfl⟩ | ⟨E, hx, hE⟩
  · obtain ⟨hg, hf, rfl, hcp⟩ := hp
    rcases h2 with ⟨q, -⟩ | ⟨-, q, -⟩ | ⟨-, -, rfl, rfl⟩
    · exact absurd (by omega) q
    · exact absurd q hf
    · have h50 : (if (zi (t 50 0 a.toNat)).toInt = 0 then (0 : Int) else 1) = (zi (t 50 0 a.toNat)).toInt := by
        rcases h01 a.toNat with h | h <;> rw [h] <;> decide
      rw [h50]
      exact zLR.ok hcp (yWF_rest (x := x) hWF (by omega)) y0mr (by omega) (by omega)
  · obtain ⟨rfl, hx⟩ := hx
    rcases hx with ⟨rfl, hg⟩ | ⟨rfl, hg, hf⟩ <;> rcases hE with ⟨e1, rfl⟩ | ⟨e1, rfl⟩ <;> first | (exact absurd e1 (by decide)) | skip
    · rcases h2 with ⟨-, -, rfl⟩ | ⟨q, -⟩ | ⟨q, -⟩
      · exact zLR.th hCP hWF (by decide)
      · exact absurd (by first | exact q | omega) hg
      · exact absurd (by first | exact q | omega) hg
    · rcases h2 with ⟨q, -⟩ | ⟨-, -, -, rfl⟩ | ⟨-, q, -⟩
      · exact absurd (by first | exact hg | omega) q
      · exact zLR.th hCP hWF (by decide)
      · first | exact absurd q hf | exact absurd hf q

theorem L_wander {σ t v w : zS} {nd nr ns : Nat} {c k b9 : Int} (hCP : CP σ t nd nr ns) (hWF : yWF t nd nr ns c (1000 * c)) (hc : 0 ≤ c) {a b : Int} (h1 : (0 = k ∧ ∃ r u, (fun r u => ((0 ≤ a ∧ a ≤ (nd : Int) - 1) ∧ (0 ≤ b ∧ b ≤ 9)) ∧ (ymf t a.toNat ∧ b ≠ t 49 0 a.toNat ∧ t 47 0 (10 * (t 49 0 a.toNat).toNat + b.toNat) < 100000) ∧ ybf (yLV a.toNat 1 (ywd t a.toNat b)) a.toNat 55 0 a.toNat = r ∧ CP u (ybf (yLV a.toNat 1 (ywd t a.toNat b)) a.toNat) nd nr ns) r u ∧ v = zu u 90 0 0 (zi r).toInt) ∨ ∃ E, (fun E u => σ = u ∧ ((E = "java/lang/IndexOutOfBoundsException" ∧ ¬ ((0 ≤ a ∧ a ≤ (nd : Int) - 1) ∧ (0 ≤ b ∧ b ≤ 9))) ∨ (E = "java/lang/IllegalStateException" ∧ ((0 ≤ a ∧ a ≤ (nd : Int) - 1) ∧ (0 ≤ b ∧ b ≤ 9)) ∧ ¬ (ymf t a.toNat ∧ b ≠ t 49 0 a.toNat ∧ t 47 0 (10 * (t 49 0 a.toNat).toNat + b.toNat) < 100000)))) E v ∧ ((E = "java/lang/IndexOutOfBoundsException" ∧ 1 = k) ∨ (E = "java/lang/IllegalStateException" ∧ 2 = k))) (h2 : (fun r u => (¬ ((0 ≤ a ∧ a ≤ t 30 0 8 - 1) ∧ (0 ≤ b ∧ b ≤ 9)) ∧ 0 = r ∧ u = zu t 30 0 0 1) ∨ (((0 ≤ a ∧ a ≤ t 30 0 8 - 1) ∧ (0 ≤ b ∧ b ≤ 9)) ∧ ¬ (ymf t a.toNat ∧ b ≠ t 49 0 a.toNat ∧ t 47 0 (10 * (t 49 0 a.toNat).toNat + b.toNat) < 100000) ∧ 0 = r ∧ u = zu t 30 0 0 2) ∨ (((0 ≤ a ∧ a ≤ t 30 0 8 - 1) ∧ (0 ≤ b ∧ b ≤ 9)) ∧ (ymf t a.toNat ∧ b ≠ t 49 0 a.toNat ∧ t 47 0 (10 * (t 49 0 a.toNat).toNat + b.toNat) < 100000) ∧ u 55 0 a.toNat = r ∧ ybf (yLV a.toNat 1 (ywd t a.toNat b)) a.toNat = u)) b9 w) : zLR nd nr v w k b9 c := by
  have h8 := hWF.1.2.1.1
  have h23 := hWF.1.2.1.2.1
  rcases h1 with ⟨rfl, r, u, hp, rfl⟩ | ⟨E, hx, hE⟩
  · obtain ⟨hg, hf, rfl, hcp⟩ := hp
    rcases h2 with ⟨q, -⟩ | ⟨-, q, -⟩ | ⟨-, -, rfl, rfl⟩
    · exact absurd (by omega) q
    · exact absurd hf q
    · exact zLR.ok hcp (yWF_wander hWF (by omega) hf.1.1 (by omega) hf.2.2) (by rw [y0bf, y0LV, y0wd]) (by omega) (by omega)
  · obtain ⟨rfl, hx⟩ := hx
    rcases hx with ⟨rfl, hg⟩ | ⟨rfl, hg, hf⟩ <;> rcases hE with ⟨e1, rfl⟩ | ⟨e1, rfl⟩ <;> first | (exact absurd e1 (by decide)) | skip
    · rcases h2 with ⟨-, -, rfl⟩ | ⟨q, -⟩ | ⟨q, -⟩
      · exact zLR.th hCP hWF (by decide)
      · exact absurd (by first | exact q | omega) hg
      · exact absurd (by first | exact q | omega) hg
    · rcases h2 with ⟨q, -⟩ | ⟨-, -, -, rfl⟩ | ⟨-, q, -⟩
      · exact absurd (by first | exact hg | omega) q
      · exact zLR.th hCP hWF (by decide)
      · first | exact absurd q hf | exact absurd hf q

theorem L_street {σ t v w : zS} {nd nr ns : Nat} {c k b9 : Int} (hCP : CP σ t nd nr ns) (hWF : yWF t nd nr ns c (1000 * c)) (hc : 0 ≤ c) {a b m9 : Int} (h1 : (0 = k ∧ ∃ r u, (fun r u => ((0 ≤ a ∧ a ≤ 9) ∧ (0 ≤ b ∧ b ≤ 9)) ∧ (a ≠ b ∧ (1 ≤ m9 ∧ m9 ≤ 20)) ∧ ns < 20 ∧ (ns : Int) = r ∧ ∀ v, yfw (zu (zu (zu (zu (zu t 30 0 0 0) 44 0 ns a) 45 0 ns b) 46 0 ns m9) 30 0 3 ((ns : Int) + 1)) v (ns + 1) → CP u v nd nr (ns + 1)) r u ∧ v = zu u 90 0 0 (zi r).toInt) ∨ ∃ E, (fun E u => σ = u ∧ ((E = "java/lang/IndexOutOfBoundsException" ∧ ¬ ((0 ≤ a ∧ a ≤ 9) ∧ (0 ≤ b ∧ b ≤ 9))) ∨ (E = "java/lang/IllegalArgumentException" ∧ ((0 ≤ a ∧ a ≤ 9) ∧ (0 ≤ b ∧ b ≤ 9)) ∧ ¬ (a ≠ b ∧ (1 ≤ m9 ∧ m9 ≤ 20))) ∨ (E = "java/lang/IllegalStateException" ∧ ((0 ≤ a ∧ a ≤ 9) ∧ (0 ≤ b ∧ b ≤ 9)) ∧ (a ≠ b ∧ (1 ≤ m9 ∧ m9 ≤ 20)) ∧ ns = 20))) E v ∧ ((E = "java/lang/IndexOutOfBoundsException" ∧ 1 = k) ∨ (E = "java/lang/IllegalArgumentException" ∧ 2 = k) ∨ (E = "java/lang/IllegalStateException" ∧ 3 = k))) (h2 : (fun r u => (¬ ((0 ≤ a ∧ a ≤ 9) ∧ (0 ≤ b ∧ b ≤ 9)) ∧ 0 = r ∧ u = zu t 30 0 0 1) ∨ (((0 ≤ a ∧ a ≤ 9) ∧ (0 ≤ b ∧ b ≤ 9)) ∧ ¬ (a ≠ b ∧ (1 ≤ m9 ∧ m9 ≤ 20)) ∧ 0 = r ∧ u = zu t 30 0 0 2) ∨ (((0 ≤ a ∧ a ≤ 9) ∧ (0 ≤ b ∧ b ≤ 9)) ∧ (a ≠ b ∧ (1 ≤ m9 ∧ m9 ≤ 20)) ∧ ns = 20 ∧ 0 = r ∧ u = zu t 30 0 0 3) ∨ (((0 ≤ a ∧ a ≤ 9) ∧ (0 ≤ b ∧ b ≤ 9)) ∧ (a ≠ b ∧ (1 ≤ m9 ∧ m9 ≤ 20)) ∧ ns < 20 ∧ (ns : Int) = r ∧ yfw (zu (zu (zu (zu (zu t 30 0 0 0) 44 0 ns a) 45 0 ns b) 46 0 ns m9) 30 0 3 ((ns : Int) + 1)) u (ns + 1))) b9 w) : zLR nd nr v w k b9 c := by
  have h8 := hWF.1.2.1.1
  have h23 := hWF.1.2.1.2.1
  rcases h1 with ⟨rfl, r, u, hp, rfl⟩ | ⟨E, hx, hE⟩
  · obtain ⟨hg, hf, hn, rfl, hcp⟩ := hp
    rcases h2 with ⟨q, -⟩ | ⟨-, q, -⟩ | ⟨-, -, q, -⟩ | ⟨-, -, -, rfl, hw⟩
    · exact absurd hg q
    · exact absurd hf q
    · omega
    · exact zLR.ok (hcp w hw) (yWF_street hWF hn hg.1 hg.2 hf.1 hf.2 hw) (by rw [hw.2 _ _ _ (by omega), zu_ne (by omega), zu_ne (by omega), zu_ne (by omega), zu_ne (by omega), zu_same]) (by omega) (by omega)
  · obtain ⟨rfl, hx⟩ := hx
    rcases hx with ⟨rfl, hg⟩ | ⟨rfl, hg, hf⟩ | ⟨rfl, hg, hf, hh⟩ <;> rcases hE with ⟨e1, rfl⟩ | ⟨e1, rfl⟩ | ⟨e1, rfl⟩ <;> first | (exact absurd e1 (by decide)) | skip
    · rcases h2 with ⟨-, -, rfl⟩ | ⟨q, -⟩ | ⟨q, -⟩ | ⟨q, -⟩
      · exact zLR.th hCP hWF (by decide)
      · exact absurd (by first | exact q | omega) hg
      · exact absurd (by first | exact q | omega) hg
      · exact absurd (by first | exact q | omega) hg
    · rcases h2 with ⟨q, -⟩ | ⟨-, -, -, rfl⟩ | ⟨-, q, -⟩ | ⟨-, q, -⟩
      · exact absurd (by first | exact hg | omega) q
      · exact zLR.th hCP hWF (by decide)
      · exact absurd q hf
      · exact absurd q hf
    · rcases h2 with ⟨q, -⟩ | ⟨-, q, -⟩ | ⟨-, -, -, -, rfl⟩ | ⟨-, -, q, -⟩
      · exact absurd (by first | exact hg | omega) q
      · exact absurd hf q
      · exact zLR.th hCP hWF (by decide)
      · first | omega | exact absurd q hh

theorem L_rate {σ t v w : zS} {nd nr ns : Nat} {c k b9 : Int} (hCP : CP σ t nd nr ns) (hWF : yWF t nd nr ns c (1000 * c)) (hc : 0 ≤ c) {a b : Int} (h1 : (0 = k ∧ ∃ r u, (fun r u => (0 ≤ a ∧ a ≤ (nr : Int) - 1) ∧ (1 ≤ b ∧ b ≤ 5) ∧ (t 64 0 a.toNat = 3 ∧ t 74 0 a.toNat = 0) ∧ yrt (yra t a.toNat (t 70 0 a.toNat).toNat ((t 58 0 (t 70 0 a.toNat).toNat).toNat % 10) b) (t 70 0 a.toNat).toNat = r ∧ CP u (yra t a.toNat (t 70 0 a.toNat).toNat ((t 58 0 (t 70 0 a.toNat).toNat).toNat % 10) b) nd nr ns) r u ∧ v = zu u 90 0 0 (zi r).toInt) ∨ ∃ E, (fun E u => σ = u ∧ ((E = "java/lang/IndexOutOfBoundsException" ∧ ¬ (0 ≤ a ∧ a ≤ (nr : Int) - 1)) ∨ (E = "java/lang/IllegalArgumentException" ∧ (0 ≤ a ∧ a ≤ (nr : Int) - 1) ∧ ¬ (1 ≤ b ∧ b ≤ 5)) ∨ (E = "java/lang/IllegalStateException" ∧ (0 ≤ a ∧ a ≤ (nr : Int) - 1) ∧ (1 ≤ b ∧ b ≤ 5) ∧ ¬ (t 64 0 a.toNat = 3 ∧ t 74 0 a.toNat = 0)))) E v ∧ ((E = "java/lang/IndexOutOfBoundsException" ∧ 1 = k) ∨ (E = "java/lang/IllegalArgumentException" ∧ 2 = k) ∨ (E = "java/lang/IllegalStateException" ∧ 3 = k))) (h2 : (fun r u => (¬ (0 ≤ a ∧ a ≤ t 30 0 23 - 1) ∧ 0 = r ∧ u = zu t 30 0 0 1) ∨ ((0 ≤ a ∧ a ≤ t 30 0 23 - 1) ∧ ¬ (1 ≤ b ∧ b ≤ 5) ∧ 0 = r ∧ u = zu t 30 0 0 2) ∨ ((0 ≤ a ∧ a ≤ t 30 0 23 - 1) ∧ (1 ≤ b ∧ b ≤ 5) ∧ ¬ (t 64 0 a.toNat = 3 ∧ t 74 0 a.toNat = 0) ∧ 0 = r ∧ u = zu t 30 0 0 3) ∨ ((0 ≤ a ∧ a ≤ t 30 0 23 - 1) ∧ (1 ≤ b ∧ b ≤ 5) ∧ (t 64 0 a.toNat = 3 ∧ t 74 0 a.toNat = 0) ∧ yrt u (t 70 0 a.toNat).toNat = r ∧ u = yra t a.toNat (t 70 0 a.toNat).toNat ((t 58 0 (t 70 0 a.toNat).toNat).toNat % 10) b)) b9 w) : zLR nd nr v w k b9 c := by
  have h8 := hWF.1.2.1.1
  have h23 := hWF.1.2.1.2.1
  rcases h1 with ⟨rfl, r, u, hp, rfl⟩ | ⟨E, hx, hE⟩
  · obtain ⟨hg, hf, hh, rfl, hcp⟩ := hp
    rcases h2 with ⟨q, -⟩ | ⟨-, q, -⟩ | ⟨-, -, q, -⟩ | ⟨-, -, -, rfl, rfl⟩
    · exact absurd (by omega) q
    · exact absurd hf q
    · exact absurd hh q
    · have hq := hWF.2.2.1 a.toNat (by omega)
      have hd := hq.2.2.2.2.2.2.2.1
      have hd0 := hq.2.2.2.2.2.2.2.2.1 (by omega) (by omega)
      exact zLR.ok hcp (yWF_ra hWF (by omega) (by omega) (Nat.mod_lt _ (by decide)) (by omega)) y0ra (by omega) (by omega)
  · obtain ⟨rfl, hx⟩ := hx
    rcases hx with ⟨rfl, hg⟩ | ⟨rfl, hg, hf⟩ | ⟨rfl, hg, hf, hh⟩ <;> rcases hE with ⟨e1, rfl⟩ | ⟨e1, rfl⟩ | ⟨e1, rfl⟩ <;> first | (exact absurd e1 (by decide)) | skip
    · rcases h2 with ⟨-, -, rfl⟩ | ⟨q, -⟩ | ⟨q, -⟩ | ⟨q, -⟩
      · exact zLR.th hCP hWF (by decide)
      · exact absurd (by first | exact q | omega) hg
      · exact absurd (by first | exact q | omega) hg
      · exact absurd (by first | exact q | omega) hg
    · rcases h2 with ⟨q, -⟩ | ⟨-, -, -, rfl⟩ | ⟨-, q, -⟩ | ⟨-, q, -⟩
      · exact absurd (by first | exact hg | omega) q
      · exact zLR.th hCP hWF (by decide)
      · exact absurd q hf
      · exact absurd q hf
    · rcases h2 with ⟨q, -⟩ | ⟨-, q, -⟩ | ⟨-, -, -, -, rfl⟩ | ⟨-, -, q, -⟩
      · exact absurd (by first | exact hg | omega) q
      · exact absurd hf q
      · exact zLR.th hCP hWF (by decide)
      · first | omega | exact absurd q hh

theorem y0P1 {u : zS} {d : Nat} : yP1 d u 30 0 0 = u 30 0 0 := by
  unfold yP1
  split
  · rw [y0bf, y0LV, y0mt]
  · rfl
theorem y0P2 {u : zS} : ∀ n : Nat, yP2 n u 30 0 0 = u 30 0 0
  | 0 => rfl
  | n + 1 => by
    show yP1 n (yP2 n u) 30 0 0 = _
    rw [y0P1, y0P2 n]
theorem y0Ps {u : zS} {nd nr : Nat} : yPs u nd nr 30 0 0 = u 30 0 0 := by
  unfold yPs yPe
  rw [if_neg (by omega), y0P2, yPa_fr (by omega)]
theorem y0PN {u : zS} {nd nr : Nat} : ∀ n : Nat, yPN nd nr n u 30 0 0 = u 30 0 0
  | 0 => rfl
  | n + 1 => by
    show yPs (yPN nd nr n u) nd nr 30 0 0 = _
    rw [y0Ps, y0PN n]

theorem L_pass {σ t v w : zS} {nd nr ns : Nat} {c k b9 : Int} (hCP : CP σ t nd nr ns) (hWF : yWF t nd nr ns c (1000 * c)) (hc : 0 ≤ c) {a : Int} (h1 : (0 = k ∧ ∃ r u, (fun r u => (1 ≤ a ∧ a ≤ 120) ∧ t 30 0 1 + a ≤ 20000 ∧ yPN nd nr a.toNat (zu t 30 0 0 0) 30 0 1 = r ∧ CP u (yPN nd nr a.toNat (zu t 30 0 0 0)) nd nr ns) r u ∧ v = zu u 90 0 0 (zi r).toInt) ∨ ∃ E, (fun E u => σ = u ∧ ((E = "java/lang/IllegalArgumentException" ∧ ¬ (1 ≤ a ∧ a ≤ 120)) ∨ (E = "java/lang/IllegalStateException" ∧ (1 ≤ a ∧ a ≤ 120) ∧ ¬ (t 30 0 1 + a ≤ 20000)))) E v ∧ ((E = "java/lang/IllegalArgumentException" ∧ 1 = k) ∨ (E = "java/lang/IllegalStateException" ∧ 2 = k))) (h2 : (fun r u => (¬ (1 ≤ a ∧ a ≤ 120) ∧ 0 = r ∧ u = zu t 30 0 0 1) ∨ ((1 ≤ a ∧ a ≤ 120) ∧ ¬ (t 30 0 1 + a ≤ 20000) ∧ 0 = r ∧ u = zu t 30 0 0 2) ∨ ((1 ≤ a ∧ a ≤ 120) ∧ t 30 0 1 + a ≤ 20000 ∧ u 30 0 1 = r ∧ u = yPN nd nr a.toNat (zu t 30 0 0 0))) b9 w) : zLR nd nr v w k b9 c := by
  have h8 := hWF.1.2.1.1
  have h23 := hWF.1.2.1.2.1
  rcases h1 with ⟨rfl, r, u, hp, rfl⟩ | ⟨E, hx, hE⟩
  · obtain ⟨hg, hf, rfl, hcp⟩ := hp
    rcases h2 with ⟨q, -⟩ | ⟨-, q, -⟩ | ⟨-, -, rfl, rfl⟩
    · exact absurd hg q
    · exact absurd hf q
    · exact zLR.ok hcp (yWF_PN (yWF_z (x := 0) hWF) a.toNat (by rw [zu_ne (by omega)]; omega)).1 (by rw [y0PN, zu_same]) (by omega) (by omega)
  · obtain ⟨rfl, hx⟩ := hx
    rcases hx with ⟨rfl, hg⟩ | ⟨rfl, hg, hf⟩ <;> rcases hE with ⟨e1, rfl⟩ | ⟨e1, rfl⟩ <;> first | (exact absurd e1 (by decide)) | skip
    · rcases h2 with ⟨-, -, rfl⟩ | ⟨q, -⟩ | ⟨q, -⟩
      · exact zLR.th hCP hWF (by decide)
      · exact absurd (by first | exact q | omega) hg
      · exact absurd (by first | exact q | omega) hg
    · rcases h2 with ⟨q, -⟩ | ⟨-, -, -, rfl⟩ | ⟨-, q, -⟩
      · exact absurd (by first | exact hg | omega) q
      · exact zLR.th hCP hWF (by decide)
      · first | exact absurd q hf | exact absurd hf q

theorem L_cancel {σ t v w : zS} {nd nr ns : Nat} {c k b9 : Int} (hCP : CP σ t nd nr ns) (hWF : yWF t nd nr ns c (1000 * c)) (hc : 0 ≤ c) {a : Int} (h1 : (0 = k ∧ ∃ r u, (fun r u => (0 ≤ a ∧ a ≤ (nr : Int) - 1) ∧ ((t 64 0 a.toNat = 0 ∧ 0 = r ∧ CP u (zu (zu t 30 0 0 0) 64 0 a.toNat 4) nd nr ns) ∨ (t 64 0 a.toNat = 1 ∧ ycf t a.toNat = r ∧ ∀ o, yco t a.toNat o → CP u (ycl t a.toNat o) nd nr ns))) r u ∧ v = zu u 90 0 0 (zi r).toInt) ∨ ∃ E, (fun E u => σ = u ∧ ((E = "java/lang/IndexOutOfBoundsException" ∧ ¬ (0 ≤ a ∧ a ≤ (nr : Int) - 1)) ∨ (E = "java/lang/IllegalStateException" ∧ (0 ≤ a ∧ a ≤ (nr : Int) - 1) ∧ ¬ (0 ≤ t 64 0 a.toNat ∧ t 64 0 a.toNat ≤ 1)))) E v ∧ ((E = "java/lang/IndexOutOfBoundsException" ∧ 1 = k) ∨ (E = "java/lang/IllegalStateException" ∧ 2 = k))) (h2 : (fun r u => (¬ (0 ≤ a ∧ a ≤ t 30 0 23 - 1) ∧ 0 = r ∧ u = zu t 30 0 0 1) ∨ ((0 ≤ a ∧ a ≤ t 30 0 23 - 1) ∧ ¬ (0 ≤ t 64 0 a.toNat ∧ t 64 0 a.toNat ≤ 1) ∧ 0 = r ∧ u = zu t 30 0 0 2) ∨ ((0 ≤ a ∧ a ≤ t 30 0 23 - 1) ∧ t 64 0 a.toNat = 0 ∧ 0 = r ∧ u = zu (zu t 30 0 0 0) 64 0 a.toNat 4) ∨ ((0 ≤ a ∧ a ≤ t 30 0 23 - 1) ∧ t 64 0 a.toNat = 1 ∧ ycf t a.toNat = r ∧ ∃ o, yco t a.toNat o ∧ u = ycl t a.toNat o)) b9 w) : zLR nd nr v w k b9 c := by
  have h8 := hWF.1.2.1.1
  have h23 := hWF.1.2.1.2.1
  rcases h1 with ⟨rfl, r, u, hp, rfl⟩ | ⟨E, hx, hE⟩
  · obtain ⟨hg, hp⟩ := hp
    have h52 := fun (h : t 64 0 a.toNat = 1) => (hWF.2.1 (t 70 0 a.toNat).toNat (by have := (hWF.2.2.1 a.toNat (by omega)).2.2.2.2.2.2.2.1; have := (hWF.2.2.1 a.toNat (by omega)).2.2.2.2.2.2.2.2.1 (by omega) (by omega); omega)).1.2.2
    rcases hp with ⟨h0, rfl, hcp⟩ | ⟨h9, rfl, hcp⟩
    · rcases h2 with ⟨q, -⟩ | ⟨-, q, -⟩ | ⟨-, -, rfl, rfl⟩ | ⟨-, q, -⟩
      · exact absurd (by omega) q
      · exact absurd (by omega) q
      · exact zLR.ok hcp (yWF_c0 hWF (by omega) h0) (by rw [zu_ne (by omega), zu_same]) (by omega) (by omega)
      · omega
    · rcases h2 with ⟨q, -⟩ | ⟨-, q, -⟩ | ⟨-, q, -⟩ | ⟨-, -, rfl, o, ho, rfl⟩
      · exact absurd (by omega) q
      · exact absurd (by omega) q
      · omega
      · exact zLR.ok (hcp o ho) (yWF_cl hWF (by omega) h9 ho) (by unfold ycl; rw [zu_ne (by omega), zu_ne (by omega), ymk_fr (by omega), zu_same]) (by omega) (by omega)
  · obtain ⟨rfl, hx⟩ := hx
    rcases hx with ⟨rfl, hg⟩ | ⟨rfl, hg, hf⟩ <;> rcases hE with ⟨e1, rfl⟩ | ⟨e1, rfl⟩ <;> first | (exact absurd e1 (by decide)) | skip
    · rcases h2 with ⟨-, -, rfl⟩ | ⟨q, -⟩ | ⟨q, -⟩ | ⟨q, -⟩
      · exact zLR.th hCP hWF (by decide)
      · exact absurd (by omega) hg
      · exact absurd (by omega) hg
      · exact absurd (by omega) hg
    · rcases h2 with ⟨q, -⟩ | ⟨-, -, -, rfl⟩ | ⟨-, q, -⟩ | ⟨-, q, -⟩
      · exact absurd (by omega) q
      · exact zLR.th hCP hWF (by decide)
      · exact absurd ⟨by omega, by omega⟩ hf
      · exact absurd ⟨by omega, by omega⟩ hf

theorem L_best {σ t v w : zS} {nd nr ns : Nat} {c k b9 : Int} (hCP : CP σ t nd nr ns) (hWF : yWF t nd nr ns c (1000 * c)) (hc : 0 ≤ c) (h1 : (0 = k ∧ ∃ r u, (fun r u => ∃ v, ypm σ v nd nr ∧ yB (v 10) nd (ywn σ nr) (ywn σ nr) 0 = r ∧ zfr ysc σ u) r u ∧ v = zu u 90 0 0 (zi r).toInt) ∨ ∃ E, (fun E u => E = "java/lang/IllegalStateException" ∧ zfr ysc σ u ∧ 5 < ywn σ nr) E v ∧ ((E = "java/lang/IllegalStateException" ∧ 1 = k))) (h2 : (fun r u => (5 < ylc t nr ∧ 0 = r ∧ u 30 0 0 = 1 ∧ zfr ysr t u) ∨ (ylc t nr ≤ 5 ∧ u 30 0 0 = 0 ∧ zfr ysr t u ∧ ∃ as, yasOK t nr as ∧ yB (fun k d => ymm t (as k) d) nd (ylc t nr) (ylc t nr) 0 = r)) b9 w) : zLR nd nr v w k b9 c := by
  have h8 := hWF.1.2.1.1
  have h23 := hWF.1.2.1.2.1
  have hwl := CP_ywn hCP nr (Nat.le_refl _)
  rcases h1 with ⟨rfl, r, u, hp, rfl⟩ | ⟨E, hx, ⟨hE, rfl⟩⟩
  · obtain ⟨v9, hv, hr, hu⟩ := hp
    rcases h2 with ⟨q, -⟩ | ⟨-, hw0, hwz, as, has, hb⟩
    · have := hv.2.2.1
      omega
    · obtain ⟨-, e9, hcp⟩ := CP_best hCP hWF hv hr hu has
      have e8 : r = b9 := e9.trans hb
      rw [e8]
      exact zLR.ok (CP_fr hcp hWF (fun _ _ _ _ => rfl) (fun κ k hk => hwz κ 0 k hk.1)) (yWF_sr hWF (fun κ k hk => hwz κ 0 k hk)) hw0 (by omega) (by omega)
  · obtain ⟨-, hz, h5⟩ := hx
    rcases h2 with ⟨-, -, hw1, hwz⟩ | ⟨q, -⟩
    · exact ⟨hw1, fun h => absurd h (by decide), ns, CP_fr (CP_sc hCP hWF hz) hWF (fun _ _ _ _ => rfl) (fun κ k hk => hwz κ 0 k hk.1), yWF_B (yWF_sr hWF (fun κ k hk => hwz κ 0 k hk)) (by omega) (by omega)⟩
    · omega

theorem L_bestAnew {σ t v w : zS} {nd nr ns : Nat} {c k b9 : Int} (hCP : CP σ t nd nr ns) (hWF : yWF t nd nr ns c (1000 * c)) (hc : 0 ≤ c) (h1 : (0 = k ∧ ∃ r u, (fun r u => ∃ v, ypm σ v nd nr ∧ ymx 0 (fun _ => true) (yD (v 10) (ywn σ nr) nd) (2 ^ ywn σ nr) = r ∧ zfr ysc σ u) r u ∧ v = zu u 90 0 0 (zi r).toInt) ∨ ∃ E, (fun E u => E = "java/lang/IllegalStateException" ∧ zfr ysc σ u ∧ 5 < ywn σ nr) E v ∧ ((E = "java/lang/IllegalStateException" ∧ 1 = k))) (h2 : (fun r u => (5 < ylc t nr ∧ 0 = r ∧ u 30 0 0 = 1 ∧ zfr ysr t u) ∨ (ylc t nr ≤ 5 ∧ u 30 0 0 = 0 ∧ zfr ysr t u ∧ ∃ as, yasOK t nr as ∧ yB (fun k d => ymm t (as k) d) nd (ylc t nr) (ylc t nr) 0 = r)) b9 w) : zLR nd nr v w k b9 c := by
  have h8 := hWF.1.2.1.1
  have h23 := hWF.1.2.1.2.1
  have hwl := CP_ywn hCP nr (Nat.le_refl _)
  rcases h1 with ⟨rfl, r, u, hp, rfl⟩ | ⟨E, hx, ⟨hE, rfl⟩⟩
  · obtain ⟨v9, hv, hr, hu⟩ := hp
    rcases h2 with ⟨q, -⟩ | ⟨-, hw0, hwz, as, has, hb⟩
    · have := hv.2.2.1
      omega
    · obtain ⟨-, e9, hcp⟩ := CP_anew hCP hWF hv hr hu has
      have e8 : r = b9 := e9.trans hb
      rw [e8]
      exact zLR.ok (CP_fr hcp hWF (fun _ _ _ _ => rfl) (fun κ k hk => hwz κ 0 k hk.1)) (yWF_sr hWF (fun κ k hk => hwz κ 0 k hk)) hw0 (by omega) (by omega)
  · obtain ⟨-, hz, h5⟩ := hx
    rcases h2 with ⟨-, -, hw1, hwz⟩ | ⟨q, -⟩
    · exact ⟨hw1, fun h => absurd h (by decide), ns, CP_fr (CP_sc hCP hWF hz) hWF (fun _ _ _ _ => rfl) (fun κ k hk => hwz κ 0 k hk.1), yWF_B (yWF_sr hWF (fun κ k hk => hwz κ 0 k hk)) (by omega) (by omega)⟩
    · omega

/-- the same, where the class's world grows -/
def zLD (ad ad9 : zA) (v w : zS) (k b : Int) (c : Int) : Prop := w 30 0 0 = k ∧ (k = 0 → v 90 0 0 = (zi b).toInt) ∧ ∃ nd nr ns, zX ad9 nd nr ∧ (∀ κ i, 17 ≤ κ → κ ≤ 23 → zlive κ i nd nr = false → ad9 κ i = none) ∧ (∀ κ i, 24 ≤ κ → ad9 κ i = ad κ i) ∧ CP v w nd nr ns ∧ yWF w nd nr ns (c + 1) (1000 * (c + 1))

theorem L_driver {ad ad8 : zA} {σ t v w : zS} {nd nr ns : Nat} {c k b9 : Int} (hX : zX ad nd nr) (hun : ∀ κ i, 17 ≤ κ → κ ≤ 23 → zlive κ i nd nr = false → ad κ i = none) (hCP : CP σ t nd nr ns) (hWF : yWF t nd nr ns c (1000 * c)) (hc : 0 ≤ c) {a : Int} (h1 : (0 = k ∧ ∃ r u, (fun ad9 r u => (0 ≤ a ∧ a ≤ 9) ∧ nd < 8 ∧ ((nd : Nat) : Int) = r ∧ zX ad9 (nd + 1) nr ∧ (∀ κ i, ¬ (17 ≤ κ ∧ κ ≤ 22 ∧ i = nd) → ad9 κ i = ad κ i) ∧ CP u (ybf (zu (zu (zu t 30 0 0 0) 49 0 nd a) 30 0 8 ((nd : Int) + 1)) nd) (nd + 1) nr ns) ad8 r u ∧ v = zu u 90 0 0 (zi r).toInt) ∨ (ad8 = ad ∧ ∃ E, (fun E u => σ = u ∧ ((E = "java/lang/IndexOutOfBoundsException" ∧ ¬ (0 ≤ a ∧ a ≤ 9)) ∨ (E = "java/lang/IllegalStateException" ∧ (0 ≤ a ∧ a ≤ 9) ∧ nd = 8))) E v ∧ ((E = "java/lang/IndexOutOfBoundsException" ∧ 1 = k) ∨ (E = "java/lang/IllegalStateException" ∧ 2 = k)))) (h2 : (fun r u => (¬ (0 ≤ a ∧ a ≤ 9) ∧ 0 = r ∧ u = zu t 30 0 0 1) ∨ ((0 ≤ a ∧ a ≤ 9) ∧ nd = 8 ∧ 0 = r ∧ u = zu t 30 0 0 2) ∨ ((0 ≤ a ∧ a ≤ 9) ∧ nd < 8 ∧ (nd : Int) = r ∧ u = ybf (zu (zu (zu t 30 0 0 0) 49 0 nd a) 30 0 8 ((nd : Int) + 1)) nd)) b9 w) : zLD ad ad8 v w k b9 c := by
  have h8 := hWF.1.2.1.1
  have h23 := hWF.1.2.1.2.1
  have hsame : ∀ v w, zLR nd nr v w k b9 c → (∃ nd9 nr9 ns9, nd9 = nd ∧ nr9 = nr ∧ ns9 = ns ∧ CP v w nd9 nr9 ns9 ∧ yWF w nd9 nr9 ns9 (c + 1) (1000 * (c + 1))) → zLD ad ad v w k b9 c := fun v w h ⟨_, _, _, e1, e2, e3, g1, g2⟩ => by
    subst e1 e2 e3
    exact ⟨h.1, h.2.1, _, _, _, hX, hun, fun _ _ _ => rfl, g1, g2⟩
  have hth : ∀ k9 : Int, k9 ≠ 0 → k = k9 → zLD ad ad σ (zu t 30 0 0 k9) k b9 c := fun k9 h0 hk => by
    subst hk
    exact hsame _ _ (zLR.th hCP hWF h0) ⟨nd, nr, ns, rfl, rfl, rfl, CP_0 hCP hWF, yWF_B (yWF_z hWF) (by omega) (by omega)⟩
  rcases h1 with ⟨rfl, r, u, hp, rfl⟩ | ⟨rfl, E, hx, hE⟩
  · obtain ⟨hg, hn, rfl, hX9, ho9, hcp⟩ := hp
    rcases h2 with ⟨q, -⟩ | ⟨-, q, -⟩ | ⟨-, -, rfl, rfl⟩
    · exact absurd hg q
    · omega
    · have hwf := yWF_dr (a := a) hWF hc hn hg
      refine ⟨by rw [y0bf, zu_ne (by omega), zu_ne (by omega), zu_same], fun _ => zu_same, nd + 1, nr, ns, hX9, fun κ i g1 g2 g3 => ?_, fun κ i g1 => ho9 κ i (by omega), CP_90 hcp hwf, yWF_B hwf (by omega) (by omega)⟩
      have hne : ¬ (17 ≤ κ ∧ κ ≤ 22 ∧ i = nd) := by
        rintro ⟨q1, q2, rfl⟩
        rcases (by omega : κ = 17 ∨ κ = 18 ∨ κ = 19 ∨ κ = 20 ∨ κ = 21 ∨ κ = 22) with rfl | rfl | rfl | rfl | rfl | rfl <;> simp [zlive] at g3
      rw [ho9 κ i hne]
      refine hun κ i g1 g2 ?_
      rcases (by omega : κ = 17 ∨ κ = 18 ∨ κ = 19 ∨ κ = 20 ∨ κ = 21 ∨ κ = 22 ∨ κ = 23) with rfl | rfl | rfl | rfl | rfl | rfl | rfl <;> simp [zlive] at g3 ⊢ <;> omega
  · obtain ⟨rfl, hx⟩ := hx
    rcases hx with ⟨rfl, hg⟩ | ⟨rfl, hg, hf⟩ <;> rcases hE with ⟨e1, e2⟩ | ⟨e1, e2⟩ <;> first | (exact absurd e1 (by decide)) | skip
    · rcases h2 with ⟨-, -, rfl⟩ | ⟨q, -⟩ | ⟨q, -⟩
      · exact hth 1 (by decide) e2.symm
      · exact absurd q hg
      · exact absurd q hg
    · rcases h2 with ⟨q, -⟩ | ⟨-, -, -, rfl⟩ | ⟨-, q, -⟩
      · exact absurd hg q
      · exact hth 2 (by decide) e2.symm
      · omega

theorem L_request {ad ad8 : zA} {σ t v w : zS} {nd nr ns : Nat} {c k b9 : Int} (hX : zX ad nd nr) (hun : ∀ κ i, 17 ≤ κ → κ ≤ 23 → zlive κ i nd nr = false → ad κ i = none) (hCP : CP σ t nd nr ns) (hWF : yWF t nd nr ns c (1000 * c)) (hc : 0 ≤ c) {a b m9 x : Int} (h1 : (0 = k ∧ ∃ r u, (fun ad9 r u => ((0 ≤ a ∧ a ≤ 9) ∧ (0 ≤ b ∧ b ≤ 9)) ∧ (a ≠ b ∧ (1 ≤ m9 ∧ m9 ≤ 60)) ∧ (nr < 60 ∧ t 47 0 (10 * a.toNat + b.toNat) < 100000) ∧ ((nr : Nat) : Int) = r ∧ zX ad9 nd (nr + 1) ∧ (∀ κ i, ¬ (κ = 23 ∧ i = nr) → ad9 κ i = ad κ i) ∧ CP u (yrq t nd nr a.toNat b.toNat m9 x) nd (nr + 1) ns) ad8 r u ∧ v = zu u 90 0 0 (zi r).toInt) ∨ (ad8 = ad ∧ ∃ E, (fun E u => σ = u ∧ ((E = "java/lang/IndexOutOfBoundsException" ∧ ¬ ((0 ≤ a ∧ a ≤ 9) ∧ (0 ≤ b ∧ b ≤ 9))) ∨ (E = "java/lang/IllegalArgumentException" ∧ ((0 ≤ a ∧ a ≤ 9) ∧ (0 ≤ b ∧ b ≤ 9)) ∧ ¬ (a ≠ b ∧ (1 ≤ m9 ∧ m9 ≤ 60))) ∨ (E = "java/lang/IllegalStateException" ∧ ((0 ≤ a ∧ a ≤ 9) ∧ (0 ≤ b ∧ b ≤ 9)) ∧ (a ≠ b ∧ (1 ≤ m9 ∧ m9 ≤ 60)) ∧ (nr = 60 ∨ 100000 ≤ t 47 0 (10 * a.toNat + b.toNat))))) E v ∧ ((E = "java/lang/IndexOutOfBoundsException" ∧ 1 = k) ∨ (E = "java/lang/IllegalArgumentException" ∧ 2 = k) ∨ (E = "java/lang/IllegalStateException" ∧ 3 = k)))) (h2 : (fun r u => (¬ ((0 ≤ a ∧ a ≤ 9) ∧ (0 ≤ b ∧ b ≤ 9)) ∧ 0 = r ∧ u = zu t 30 0 0 1) ∨ (((0 ≤ a ∧ a ≤ 9) ∧ (0 ≤ b ∧ b ≤ 9)) ∧ ¬ (a ≠ b ∧ (1 ≤ m9 ∧ m9 ≤ 60)) ∧ 0 = r ∧ u = zu t 30 0 0 2) ∨ (((0 ≤ a ∧ a ≤ 9) ∧ (0 ≤ b ∧ b ≤ 9)) ∧ (a ≠ b ∧ (1 ≤ m9 ∧ m9 ≤ 60)) ∧ (nr = 60 ∨ 100000 ≤ t 47 0 (10 * a.toNat + b.toNat)) ∧ 0 = r ∧ u = zu t 30 0 0 3) ∨ (((0 ≤ a ∧ a ≤ 9) ∧ (0 ≤ b ∧ b ≤ 9)) ∧ (a ≠ b ∧ (1 ≤ m9 ∧ m9 ≤ 60)) ∧ (nr < 60 ∧ t 47 0 (10 * a.toNat + b.toNat) < 100000) ∧ (nr : Int) = r ∧ u = yrq t nd nr a.toNat b.toNat m9 x)) b9 w) : zLD ad ad8 v w k b9 c := by
  have h8 := hWF.1.2.1.1
  have h23 := hWF.1.2.1.2.1
  have hsame : ∀ v w, zLR nd nr v w k b9 c → (∃ nd9 nr9 ns9, nd9 = nd ∧ nr9 = nr ∧ ns9 = ns ∧ CP v w nd9 nr9 ns9 ∧ yWF w nd9 nr9 ns9 (c + 1) (1000 * (c + 1))) → zLD ad ad v w k b9 c := fun v w h ⟨_, _, _, e1, e2, e3, g1, g2⟩ => by
    subst e1 e2 e3
    exact ⟨h.1, h.2.1, _, _, _, hX, hun, fun _ _ _ => rfl, g1, g2⟩
  have hth : ∀ k9 : Int, k9 ≠ 0 → k = k9 → zLD ad ad σ (zu t 30 0 0 k9) k b9 c := fun k9 h0 hk => by
    subst hk
    exact hsame _ _ (zLR.th hCP hWF h0) ⟨nd, nr, ns, rfl, rfl, rfl, CP_0 hCP hWF, yWF_B (yWF_z hWF) (by omega) (by omega)⟩
  rcases h1 with ⟨rfl, r, u, hp, rfl⟩ | ⟨rfl, E, hx, hE⟩
  · obtain ⟨hg, hf, hh, rfl, hX9, ho9, hcp⟩ := hp
    rcases h2 with ⟨q, -⟩ | ⟨-, q, -⟩ | ⟨-, -, q, -⟩ | ⟨-, -, -, rfl, rfl⟩
    · exact absurd hg q
    · exact absurd hf q
    · omega
    · have hwf := yWF_rq (m := m9) (x := x) hWF hh.1 (by omega) (by omega) hf.2 hh.2
      refine ⟨by unfold yrq; rw [zu_ne (by omega), zu_ne (by omega), zu_ne (by omega), zu_ne (by omega), zu_ne (by omega), zu_ne (by omega), zu_ne (by omega), zu_ne (by omega), zu_ne (by omega), zu_same], fun _ => zu_same, nd, nr + 1, ns, hX9, fun κ i g1 g2 g3 => ?_, fun κ i g1 => ho9 κ i (by omega), CP_90 hcp hwf, yWF_B hwf (by omega) (by omega)⟩
      have hne : ¬ (κ = 23 ∧ i = nr) := by
        rintro ⟨rfl, rfl⟩
        simp [zlive] at g3
      rw [ho9 κ i hne]
      refine hun κ i g1 g2 ?_
      rcases (by omega : κ = 17 ∨ κ = 18 ∨ κ = 19 ∨ κ = 20 ∨ κ = 21 ∨ κ = 22 ∨ κ = 23) with rfl | rfl | rfl | rfl | rfl | rfl | rfl <;> simp [zlive] at g3 ⊢ <;> omega
  · obtain ⟨rfl, hx⟩ := hx
    rcases hx with ⟨rfl, hg⟩ | ⟨rfl, hg, hf⟩ | ⟨rfl, hg, hf, hh⟩ <;> rcases hE with ⟨e1, e2⟩ | ⟨e1, e2⟩ | ⟨e1, e2⟩ <;> first | (exact absurd e1 (by decide)) | skip
    · rcases h2 with ⟨-, -, rfl⟩ | ⟨q, -⟩ | ⟨q, -⟩ | ⟨q, -⟩
      · exact hth 1 (by decide) e2.symm
      · exact absurd q hg
      · exact absurd q hg
      · exact absurd q hg
    · rcases h2 with ⟨q, -⟩ | ⟨-, -, -, rfl⟩ | ⟨-, q, -⟩ | ⟨-, q, -⟩
      · exact absurd hg q
      · exact hth 2 (by decide) e2.symm
      · exact absurd q hf
      · exact absurd q hf
    · rcases h2 with ⟨q, -⟩ | ⟨-, q, -⟩ | ⟨-, -, -, -, rfl⟩ | ⟨-, -, q, -⟩
      · exact absurd hg q
      · exact absurd hf q
      · exact hth 3 (by decide) e2.symm
      · omega

theorem L_airport {t u w : zS} {nd nr ns : Nat} {c r b9 : Int} (hWF : yWF t nd nr ns c (1000 * c)) (h1 : (fun r u => (yAN nd (zu t 30 0 0 0) nr : Int) = r ∧ CP u (yAR nd nr (zu t 30 0 0 0)) nd nr ns) r u) (h2 : (fun r u => (yAN nd (zu t 30 0 0 0) nr : Int) = r ∧ u = yAR nd nr (zu t 30 0 0 0)) b9 w) : r = b9 ∧ CP u w nd nr ns ∧ yWF w nd nr ns (c + 1) (1000 * (c + 1)) := by
  obtain ⟨e1, hcp⟩ := h1
  obtain ⟨e2, rfl⟩ := h2
  have hnr := hWF.1.1.2.1
  exact ⟨e1.symm.trans e2, hcp, yWF_B (yWF_AR (yWF_z (x := 0) hWF) nr (Nat.le_refl _)) (by omega) (by omega)⟩

theorem L_share {t u w : zS} {nd nr ns : Nat} {c r b9 : Int} (hWF : yWF t nd nr ns c (1000 * c)) (h1 : (fun r u => ∀ v m, yshR nd nr (zu t 30 0 0 0) v m → CP u v nd nr ns ∧ (m : Int) = r) r u) (h2 : (fun r u => ∃ n : Nat, (n : Int) = r ∧ yshR nd nr (zu t 30 0 0 0) u n) b9 w) : r = b9 ∧ CP u w nd nr ns ∧ yWF w nd nr ns (c + 1) (1000 * (c + 1)) := by
  obtain ⟨n, e2, hs⟩ := h2
  obtain ⟨hcp, e1⟩ := h1 w n hs
  exact ⟨e1.symm.trans e2, hcp, yWF_B (yWF_shR (yWF_z (x := 0) hWF) nr w n (Nat.le_refl _) hs).1 (by omega) (by omega)⟩

theorem L_match {σ t v w : zS} {nd nr ns : Nat} {c k b9 : Int} (hCP : CP σ t nd nr ns) (hWF : yWF t nd nr ns c (1000 * c)) (hc : 0 ≤ c) (h1 : (0 = k ∧ ∃ r u, (fun r u => ylc t nr ≤ 5 ∧ ∃ as, yasOK t nr as ∧ (yGN (ybs (fun k d => ymm t (as k) d) nd (ylc t nr)) nd (ylc t nr) : Int) = r ∧ ∀ v, zfr ysr t v → CP u (yGV as (ybs (fun k d => ymm t (as k) d) nd (ylc t nr)) nd (ylc t nr) v) nd nr ns) r u ∧ v = zu u 90 0 0 (zi r).toInt) ∨ ∃ E, (fun E u => E = "java/lang/IllegalStateException" ∧ 5 < ylc t nr ∧ CP u t nd nr ns) E v ∧ ((E = "java/lang/IllegalStateException" ∧ 1 = k))) (h2 : (fun r u => (5 < ylc t nr ∧ 0 = r ∧ u 30 0 0 = 1 ∧ zfr ysr t u) ∨ (ylc t nr ≤ 5 ∧ ∃ (as : Nat → Nat) (v : zS), yasOK t nr as ∧ zfr ysr t v ∧ v 30 0 0 = 0 ∧ (yGN (ybs (fun k d => ymm t (as k) d) nd (ylc t nr)) nd (ylc t nr) : Int) = r ∧ u = yGV as (ybs (fun k d => ymm t (as k) d) nd (ylc t nr)) nd (ylc t nr) v)) b9 w) : zLR nd nr v w k b9 c := by
  have h8 := hWF.1.2.1.1
  have h23 := hWF.1.2.1.2.1
  rcases h1 with ⟨rfl, r, u, hp, rfl⟩ | ⟨E, hx, ⟨hE, rfl⟩⟩
  · obtain ⟨h5, as, has, hr, hcp⟩ := hp
    rcases h2 with ⟨q, -⟩ | ⟨-, as2, v2, has2, hz, hv0, hb, rfl⟩
    · omega
    · have e := yas_eq has has2
      have eb : ∀ k, ybs (fun k d => ymm t (as k) d) nd (ylc t nr) k = ybs (fun k d => ymm t (as2 k) d) nd (ylc t nr) k := fun k => ybs_cg (fun r d hr hd => by show ymm t (as r) d = ymm t (as2 r) d; rw [e r hr]) k
      have hgn := yGN_cg (nd := nd) (ylc t nr) (fun k _ => eb k)
      have hgv := yGV_cg (nd := nd) (v := v2) (ylc t nr) (fun k hk => ⟨e k hk, eb k⟩)
      have hcp2 := hcp v2 hz
      rw [hgv] at hcp2
      rw [hgn] at hr
      have e8 : r = b9 := hr.symm.trans hb
      have hg := yGV_ok (yWF_sr hWF (fun κ k hk => hz κ 0 k hk)) (yGok_of hWF has2 h5 (fun κ k hk => hz κ 0 k hk)) (ylc t nr) (Nat.le_refl _)
      rw [e8]
      exact zLR.ok hcp2 hg.1 (by rw [hg.2.1 30 0 (by omega)]; exact hv0) (by omega) (by omega)
  · obtain ⟨-, h5, hcp⟩ := hx
    rcases h2 with ⟨-, -, hw1, hwz⟩ | ⟨q, -⟩
    · exact ⟨hw1, fun h => absurd h (by decide), ns, CP_fr hcp hWF (fun _ _ _ _ => rfl) (fun κ k hk => hwz κ 0 k hk.1), yWF_B (yWF_sr hWF (fun κ k hk => hwz κ 0 k hk)) (by omega) (by omega)⟩
    · omega
