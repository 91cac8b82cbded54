/-! what both read off their stores -/
theorem CP_mb {σ t : zS} {nd nr ns : Nat} {a b : Int} (g : CPg σ t nd nr ns) (ha : 0 ≤ a ∧ a < 10) (hb : 0 ≤ b ∧ b < 10) : (if (0 ≤ a ∧ a < 10) ∧ (0 ≤ b ∧ b < 10) ∧ σ 6 a.toNat b.toNat < 1000000 then σ 6 a.toNat b.toNat else -1) = if t 47 0 (10 * a.toNat + b.toNat) < 100000 then t 47 0 (10 * a.toNat + b.toNat) else -1 := by
  rcases g.2.2.2.2.2 a.toNat b.toNat (by omega) (by omega) with ⟨h1, h2⟩ | ⟨h1, h2⟩
  · rw [if_pos ⟨ha, hb, by omega⟩, if_pos h1, h2]
  · rw [if_neg (by omega), if_neg (by omega)]
theorem yhs_cg {f g : Nat → Int} : ∀ n : Nat, (∀ j, j < n → f j = g j) → yhs f n = yhs g n
  | 0, _ => rfl
  | n + 1, h => by
    show yhs f n + f n = yhs g n + g n
    rw [yhs_cg n (fun j hj => h j (by omega)), h n (by omega)]
theorem CP_ht {σ t : zS} {nd nr ns : Nat} {z : Int} (h : CP σ t nd nr ns) : min (max (100 + yhs (yh1 σ z) nr - yhs (yh2 σ z) nd) 100) (σ 0 0 7) = yht t nd nr z := by
  have e1 : yhs (yh1 σ z) nr = yhs (ym1 t z) nr := yhs_cg nr (fun j hj => by
    obtain ⟨b1, b2, b3, b4, b5, b6, b7⟩ := h.2.2 j hj
    unfold yh1 ym1
    rw [b1, b6])
  have e2 : yhs (yh2 σ z) nd = yhs (ym2 t z) nd := yhs_cg nd (fun j hj => by
    have hf := CP_free h hj
    unfold yh2 ym2
    rw [(h.2.1 j hj).1.1.2.2.2.1, propext hf])
  unfold yht
  rw [e1, e2, h.1.2.1.1]
theorem yht_0 {t : zS} {nd nr : Nat} {x z : Int} : yht (zu t 30 0 0 x) nd nr z = yht t nd nr z := by
  have e1 : ym1 (zu t 30 0 0 x) z = ym1 t z := funext fun j => by
    unfold ym1
    rw [zu_ne (by omega), zu_ne (by omega)]
  have e2 : ym2 (zu t 30 0 0 x) z = ym2 t z := funext fun j => by
    unfold ym2
    rw [ymf_z, zu_ne (by omega)]
  unfold yht
  rw [e1, e2, zu_ne (by omega)]
theorem yrp_0 {t : zS} {nd nr a b : Nat} {x : Int} : yrp (zu t 30 0 0 x) nd nr a b = yrp t nd nr a b := by
  unfold yrp
  rw [yht_0, zu_ne (by omega)]
theorem CP_yst {σ t : zS} {nd nr ns : Nat} (g : CPg σ t nd nr ns) (h : yst (t 44 0) (t 45 0) (t 46 0) ns) : yst (σ 2 0) (σ 3 0) (σ 4 0) ns := fun k hk => by
  obtain ⟨e1, e2, e3⟩ := g.2.2.2.2.1 k hk
  rw [e1, e2, e3]
  exact h k hk
theorem CP_street {σ t u v : zS} {nd nr ns : Nat} {c B a b m : Int} (h : CP σ t nd nr ns) (hw : yWF t nd nr ns c B) (hn : ns < 20) (ha : 0 ≤ a ∧ a ≤ 9) (hb : 0 ≤ b ∧ b ≤ 9) (hab : a ≠ b) (hm : 1 ≤ m ∧ m ≤ 20) (hu : u 1 0 4 = (ns : Int) + 1 ∧ (∀ k, u 2 0 k = if k = ns then a else σ 2 0 k) ∧ (∀ k, u 3 0 k = if k = ns then b else σ 3 0 k) ∧ (∀ k, u 4 0 k = if k = ns then m else σ 4 0 k) ∧ (∀ a b, a < 10 → b < 10 → u 6 a b = ywf 1000000 (u 2 0) (u 3 0) (u 4 0) (ns + 1) 10 a b) ∧ zfr (fun κ i k => κ = 6 ∨ (κ = 1 ∧ k = 4) ∨ κ = 2 ∨ κ = 3 ∨ κ = 4) σ u) (hv : yfw (zu (zu (zu (zu (zu t 30 0 0 0) 44 0 ns a) 45 0 ns b) 46 0 ns m) 30 0 3 ((ns : Int) + 1)) v (ns + 1)) : CP u v nd nr (ns + 1) := by
  obtain ⟨u1, u2, u3, u4, u6, uf⟩ := hu
  have hwv := yWF_street hw hn ha hb hab hm hv
  obtain ⟨v1, v2⟩ := hv
  refine CP_str h hw hwv (by rw [u1]; omega) (fun k hk => ?_) u6 uf (fun κ k hk => ?_)
  · rw [u2, u3, u4, v2 44 0 k (by omega), v2 45 0 k (by omega), v2 46 0 k (by omega)]
    by_cases e : k = ns
    · subst e
      rw [if_pos rfl, if_pos rfl, if_pos rfl, zu_ne (by omega), zu_ne (by omega), zu_ne (by omega), zu_same, zu_ne (by omega), zu_ne (by omega), zu_same, zu_ne (by omega), zu_same]
      exact ⟨rfl, rfl, rfl⟩
    · rw [if_neg e, if_neg e, if_neg e, zu_ne (by omega), zu_ne (by omega), zu_ne (by omega), zu_ne (by omega), zu_ne (by omega), zu_ne (by omega), zu_ne (by omega), zu_ne (by omega), zu_ne (by omega), zu_ne (by omega), zu_ne (by omega), zu_ne (by omega), zu_ne (by omega), zu_ne (by omega), zu_ne (by omega)]
      exact h.1.2.2.2.2.1 k (by omega)
  · rw [v2 κ 0 k (by omega), zu_ne (by omega), zu_ne (by omega), zu_ne (by omega), zu_ne (by omega), zu_ne (by omega)]
theorem CP_slow {σ t u v : zS} {nd nr ns s : Nat} {c B m : Int} (h : CP σ t nd nr ns) (hw : yWF t nd nr ns c B) (hs : s < ns) (hm : 1 ≤ m ∧ m ≤ 20) (hu : u 4 0 s = m ∧ (∀ a b, a < 10 → b < 10 → u 6 a b = ywf 1000000 (u 2 0) (u 3 0) (u 4 0) ns 10 a b) ∧ zfr (fun κ i k => κ = 6 ∨ (κ = 4 ∧ k = s)) σ u) (hv : yfw (zu (zu t 30 0 0 0) 46 0 s m) v ns) : CP u v nd nr ns := by
  obtain ⟨u4, u6, uf⟩ := hu
  have hwv := yWF_slow hw hs hm hv
  obtain ⟨v1, v2⟩ := hv
  refine CP_str h hw hwv (by rw [uf 1 0 4 (by omega)]; exact h.1.1.2.2) (fun k hk => ?_) u6 (fun κ i k hk => uf κ i k (by omega)) (fun κ k hk => ?_)
  · obtain ⟨e1, e2, e3⟩ := h.1.2.2.2.2.1 k hk
    rw [uf 2 0 k (by omega), uf 3 0 k (by omega), v2 44 0 k (by omega), v2 45 0 k (by omega), v2 46 0 k (by omega), zu_ne (by omega), zu_ne (by omega), zu_ne (by omega), zu_ne (by omega)]
    refine ⟨e1, e2, ?_⟩
    by_cases e : k = s
    · subst e
      rw [zu_same]; exact u4
    · rw [uf 4 0 k (by omega), zu_ne (by omega), zu_ne (by omega)]; exact e3
  · rw [v2 κ 0 k (by omega), zu_ne (by omega), zu_ne (by omega)]
/-- the airport's queue -/
theorem CP_fq {σ t : zS} {nd nr ns : Nat} (h : CP σ t nd nr ns) : ∀ i, i ≤ nd → yfq σ i = yfM t i
  | 0, _ => rfl
  | i + 1, hi => by
    have ih := CP_fq h i (by omega)
    have hr := yfM_rg t i
    have hf := CP_free h (show i < nd by omega)
    have hd := (h.2.1 i (by omega)).1.1
    have e : (yfr σ i ∧ σ 17 i 6 = 0 ∧ (yfq σ i < 0 ∨ σ 17 i 8 < σ 17 (yfq σ i).toNat 8)) ↔ (ymf t i ∧ t 49 0 i = 0 ∧ (yfM t i = -1 ∨ t 56 0 i < t 56 0 (yfM t i).toNat)) := by
      rw [ih, hf, hd.2.2.2.1, hd.2.2.2.2.2.1]
      rcases hr with hr | hr
      · rw [hr]
        constructor
        · rintro ⟨x, y, z⟩; exact ⟨x, y, Or.inl rfl⟩
        · rintro ⟨x, y, z⟩; exact ⟨x, y, Or.inl (by decide)⟩
      · have hd2 := (h.2.1 (yfM t i).toNat (by omega)).1.1.2.2.2.2.2.1
        rw [hd2]
        constructor
        · rintro ⟨x, y, z⟩; exact ⟨x, y, by omega⟩
        · rintro ⟨x, y, z⟩; exact ⟨x, y, by omega⟩
    by_cases c : ymf t i ∧ t 49 0 i = 0 ∧ (yfM t i = -1 ∨ t 56 0 i < t 56 0 (yfM t i).toNat)
    · exact (if_pos (e.2 c) : yfq σ (i + 1) = _).trans (if_pos c : yfM t (i + 1) = _).symm
    · exact (if_neg (fun q => c (e.1 q)) : yfq σ (i + 1) = _).trans (ih.trans (if_neg c : yfM t (i + 1) = _).symm)
/-- who waits, and for how long -/
theorem CP_yw {σ t : zS} {nd nr ns k : Nat} (h : CP σ t nd nr ns) (hk : k < nr) : yw σ k ↔ ywt t k := by
  obtain ⟨b1, b2, b3, b4, b5, b6, b7⟩ := h.2.2 k hk
  unfold yw ywt
  rw [b1, b6]
theorem CP_ywn {σ t : zS} {nd nr ns : Nat} (h : CP σ t nd nr ns) : ∀ n, n ≤ nr → ywn σ n = ylc t n
  | 0, _ => rfl
  | n + 1, hn => by
    have ih := CP_ywn h n (by omega)
    have e := CP_yw h (show n < nr by omega)
    by_cases c : ywt t n
    · rw [ywn_y (e.2 c), ylc_s, if_pos c, ih]
    · rw [ywn_n (fun q => c (e.1 q)), ylc_s, if_neg c, ih]
theorem CP_yfm {σ t : zS} {nd nr ns k j : Nat} {c B : Int} (h : CP σ t nd nr ns) (hw : yWF t nd nr ns c B) (hk : k < nr) (hj : j < nd) : yfm σ k j = ymm t k j := by
  obtain ⟨b1, b2, b3, b4, b5, b6, b7⟩ := h.2.2 k hk
  have hd := (h.2.1 j hj).1.1
  have hf := CP_free h hj
  have hp := (hw.2.1 j hj).1.1
  have hq := (hw.2.2.1 k hk).1
  have hn := h.1.2.1.2.1
  unfold yfm ymm
  rw [hd.2.2.2.1, b1, b4, hn]
  rcases h.1.2.2.2.2.2 (t 49 0 j).toNat (t 65 0 k).toNat (by omega) (by omega) with ⟨x1, x2⟩ | ⟨x1, x2⟩
  · rw [x2]
    by_cases c1 : ymf t j ∧ t 47 0 (10 * (t 49 0 j).toNat + (t 65 0 k).toNat) < 100000 ∧ t 30 0 1 + t 47 0 (10 * (t 49 0 j).toNat + (t 65 0 k).toNat) ≤ t 67 0 k
    · rw [if_pos c1, if_pos ⟨hf.2 c1.1, by omega, by omega⟩]
    · rw [if_neg c1, if_neg (fun q => c1 ⟨hf.1 q.1, x1, by have := q.2.2; omega⟩)]
  · rw [if_neg (fun q => by have := q.2.1; omega), if_neg (fun q => by have := q.2.1; omega)]
