theorem CP_keep2 {σ t : zS} {nd nr ns q d n f s : Nat} {c B : Int} (h : CP σ t nd nr ns) (hw : yWF t nd nr ns c B) (hq : q < nr) (h0 : t 64 0 q = 0) (hd : d < nd) (hn : t 52 0 d = (n : Int)) (hS : ycS t d n) (hfs : f < s) (hf1 : 1 ≤ f) (hf : f ≤ n) (hs : s ≤ n + 1) : ((∀ j, j < n + 2 → yok1 σ d q f s j) ↔ yka (yly t q d f s) q (n + 2)) ∧ (yka (yly t q d f s) q (n + 2) → yT (σ 6) (σ 17 d 9) (yQ (σ 20 d) (σ 23 q 1) (σ 23 q 2) f s) (n + 1) = yl1 t q d f s (n + 1) ∧ ymo t q d n f s < 100000 ∧ yT (σ 6) (σ 17 d 9) (yQ (σ 20 d) (σ 23 q 1) (σ 23 q 2) f s) f = yl1 t q d f s f) := by
  have h6 := ycS_6 hw hd hn hS
  have w1 : yka (yly t q d f s) q (n + 2) → ∀ j, j < n + 1 → yfn t (yQ (yPd t d) (t 65 0 q) (t 66 0 q) f s j) (yQ (yPd t d) (t 65 0 q) (t 66 0 q) f s (j + 1)) := fun hk j hj => yzf_way hw hq ⟨hd, hn, hS, ⟨hf1, hf⟩, ⟨hfs, hs⟩, hk⟩ j (j + 1) (by omega) (by omega)
  have w2 : (∀ j, j < n + 2 → yok1 σ d q f s j) → ∀ j, j < n + 1 → yfn t (yQ (yPd t d) (t 65 0 q) (t 66 0 q) f s j) (yQ (yPd t d) (t 65 0 q) (t 66 0 q) f s (j + 1)) := fun hk j hj => by
    have h1 := (hk (j + 1) (by omega)).1 (by omega)
    rw [show j + 1 - 1 = j by omega] at h1
    obtain ⟨g, hds, hqs⟩ := id h
    have a12 := (hds d hd).1.2.2.2
    obtain ⟨b1, b2, b3⟩ := hqs q hq
    obtain ⟨k1, k2, k3⟩ := hw.2.2.1 q hq
    have hP : ∀ j, j < n → 0 ≤ yPd t d j ∧ yPd t d j < 10 := fun j hj => (hw.2.1 d hd).2.1 j (by omega)
    have hQ : ∀ j, j < n + 2 → 0 ≤ yQ (yPd t d) (t 65 0 q) (t 66 0 q) f s j ∧ yQ (yPd t d) (t 65 0 q) (t 66 0 q) f s j < 10 := fun j hj => yQ_rg hfs hf hs hj hP k1 k2
    have eQ : ∀ j, j < n + 2 → yQ (σ 20 d) (σ 23 q 1) (σ 23 q 2) f s j = yQ (yPd t d) (t 65 0 q) (t 66 0 q) f s j := fun j hj => by
      unfold yQ
      rw [b1, b2]
      by_cases e1 : j = f
      · rw [if_pos e1, if_pos e1]
      · rw [if_neg e1, if_neg e1]
        by_cases e2 : j = s
        · rw [if_pos e2, if_pos e2]
        · rw [if_neg e2, if_neg e2]
          exact (a12 _ (by have := yold_lt hfs hf hs hj e1 e2; omega)).1
    rw [eQ j (by omega), eQ (j + 1) (by omega)] at h1
    have q1 := hQ j (by omega)
    have q2 := hQ (j + 1) (by omega)
    rcases g.2.2.2.2.2 (yQ (yPd t d) (t 65 0 q) (t 66 0 q) f s j).toNat (yQ (yPd t d) (t 65 0 q) (t 66 0 q) f s (j + 1)).toNat (by omega) (by omega) with ⟨x1, x2⟩ | ⟨x1, x2⟩
    · exact x1
    · omega
  refine ⟨⟨fun hk => (CP_keep h hw hq h0 hd hn hS hfs hf1 hf hs (w2 hk)).1.1 hk, fun hk => (CP_keep h hw hq h0 hd hn hS hfs hf1 hf hs (w1 hk)).1.2 hk⟩, fun hk => ?_⟩
  obtain ⟨x1, x2, x3⟩ := CP_keep h hw hq h0 hd hn hS hfs hf1 hf hs (w1 hk)
  exact ⟨x2, x3, CP_yT h hw hq hd hn h6.1 hfs hf hs (m := f) (by omega) (fun j hj => w1 hk j (by omega))⟩
theorem CP_l0 {σ t : zS} {nd nr ns d n : Nat} {c B : Int} (h : CP σ t nd nr ns) (hw : yWF t nd nr ns c B) (hd : d < nd) (hn : t 52 0 d = (n : Int)) (hn1 : 1 ≤ n) : yls σ d n = yl0 t d n := by
  obtain ⟨g, hds, hqs⟩ := id h
  obtain ⟨⟨-, a10, a11, a12⟩, a13⟩ := hds d hd
  obtain ⟨-, h3, h4, -⟩ := hw.2.1 d hd
  unfold yls yl0
  rw [yT_cg (a13 (by omega)) (fun _ _ => rfl) (n - 1) (fun j hj => (a12 j (by omega)).1)]
  refine yT_cl (n - 1) (fun j hj => ?_)
  have p1 := h3 j (by omega)
  have p2 := h3 (j + 1) (by omega)
  exact CP_way g (by omega) (by omega) (h4 j (by omega))
/-- what is found, in both -/
def ySR (a : Int × Int × Int × Int × Int) (b : Int × Int × Int × Int) : Prop := (a.1 < 0 ∧ b = (100000, -1, 0, 0)) ∨ (0 ≤ a.1 ∧ b = (a.2.2.2.2, a.1, a.2.1, a.2.2.1))
theorem CP_sp {σ t : zS} {nd nr ns q d n f s : Nat} {c B : Int} (h : CP σ t nd nr ns) (hw : yWF t nd nr ns c B) (hq : q < nr) (h0 : t 64 0 q = 0) (hd : d < nd) (hn : t 52 0 d = (n : Int)) (hS : ycS t d n) (hfs : f < s) (hf1 : 1 ≤ f) (hf : f ≤ n) (hs : s ≤ n + 1) {a : Int × Int × Int × Int × Int} {b : Int × Int × Int × Int} (hr : ySR a b) : ySR (ysp σ d q n f s a) (yzp t q d n f s b) := by
  obtain ⟨k1, k2⟩ := CP_keep2 h hw hq h0 hd hn hS hfs hf1 hf hs
  have h6 := ycS_6 hw hd hn hS
  have hl := CP_l0 h hw hd hn h6.1
  by_cases c1 : yka (yly t q d f s) q (n + 2)
  · obtain ⟨x1, x2, x3⟩ := k2 c1
    have hm : yT (σ 6) (σ 17 d 9) (yQ (σ 20 d) (σ 23 q 1) (σ 23 q 2) f s) (n + 1) - yls σ d n = ymo t q d n f s := by rw [x1, hl]; rfl
    by_cases c2 : ymo t q d n f s < b.1
    · have e1 : ysp σ d q n f s a = ((d : Int), (f : Int), (s : Int), yT (σ 6) (σ 17 d 9) (yQ (σ 20 d) (σ 23 q 1) (σ 23 q 2) f s) f, ymo t q d n f s) := by
        unfold ysp
        rw [hm]
        refine if_pos ⟨k1.2 c1, ?_⟩
        rcases hr with ⟨r1, r2⟩ | ⟨r1, r2⟩
        · exact Or.inl r1
        · rw [r2] at c2; exact Or.inr c2
      have e2 : yzp t q d n f s b = (ymo t q d n f s, (d : Int), (f : Int), (s : Int)) := if_pos ⟨c2, c1⟩
      rw [e1, e2]
      exact Or.inr ⟨Int.natCast_nonneg d, rfl⟩
    · have e1 : ysp σ d q n f s a = a := by
        unfold ysp
        rw [hm]
        refine if_neg (fun hc => ?_)
        rcases hr with ⟨r1, r2⟩ | ⟨r1, r2⟩
        · rw [r2] at c2; exact c2 x2
        · rw [r2] at c2
          rcases hc.2 with hc2 | hc2
          · omega
          · exact c2 hc2
      have e2 : yzp t q d n f s b = b := if_neg (fun hc => c2 hc.1)
      rw [e1, e2]
      exact hr
  · have e1 : ysp σ d q n f s a = a := if_neg (fun hc => c1 (k1.1 hc.1))
    have e2 : yzp t q d n f s b = b := if_neg (fun hc => c1 hc.2)
    rw [e1, e2]
    exact hr
theorem CP_s2 {σ t : zS} {nd nr ns q d n f : Nat} {c B : Int} (h : CP σ t nd nr ns) (hw : yWF t nd nr ns c B) (hq : q < nr) (h0 : t 64 0 q = 0) (hd : d < nd) (hn : t 52 0 d = (n : Int)) (hS : ycS t d n) (hf1 : 1 ≤ f) (hf : f ≤ n) {a : Int × Int × Int × Int × Int} {b : Int × Int × Int × Int} (hr : ySR a b) : ∀ k, k ≤ n + 1 - f → ySR (ys2 σ d q n f k a) (yz2 t q d n f k b)
  | 0, _ => hr
  | k + 1, hk => CP_sp h hw hq h0 hd hn hS (by omega) hf1 hf (by omega) (CP_s2 h hw hq h0 hd hn hS hf1 hf hr k (by omega))
theorem CP_s1 {σ t : zS} {nd nr ns q d n : Nat} {c B : Int} (h : CP σ t nd nr ns) (hw : yWF t nd nr ns c B) (hq : q < nr) (h0 : t 64 0 q = 0) (hd : d < nd) (hn : t 52 0 d = (n : Int)) (hS : ycS t d n) {a : Int × Int × Int × Int × Int} {b : Int × Int × Int × Int} (hr : ySR a b) : ∀ k, k ≤ n → ySR (ys1 σ d q n k a) (yz1 t q d n k b)
  | 0, _ => hr
  | k + 1, hk => CP_s2 h hw hq h0 hd hn hS (by omega) hk (CP_s1 h hw hq h0 hd hn hS hr k (by omega)) _ (Nat.le_refl _)
theorem CP_cn {σ t : zS} {nd nr ns d : Nat} {c B : Int} (h : CP σ t nd nr ns) (hw : yWF t nd nr ns c B) (hd : d < nd) : ycn σ d ↔ ycS t d (t 52 0 d).toNat := by
  obtain ⟨⟨⟨a1, a2, a3, a4, a5, a6, a7, a8, a9⟩, a10, a11, a12⟩, a13⟩ := h.2.1 d hd
  have h8 := (hw.2.1 d hd).1.2
  have hrs := (hw.2.1 d hd).2.2.2.2.2.2.2.2.2
  have hnr := hw.1.1.2.1
  have hrc := CP_rc (h.2.1 d hd).1 h8.1
  have hlo := ylo_O (σ := t) (d := d) (t 52 0 d).toNat
  unfold ycn ycS ycs
  rw [hrc, hlo, a3, a10]
  have row : ∀ j : Nat, (j : Int) < t 52 0 d → ((0 ≤ σ 21 d j ∧ σ 23 (σ 21 d j).toNat 3 = 1) ↔ (t 54 0 (8 * d + j) ≠ -1 ∧ t 68 0 (t 54 0 (8 * d + j) % 100).toNat = 1)) := fun j hj => by
    have hr := yWF_row hw hd hj
    obtain ⟨w1, w2, w3⟩ := a12 j hj
    unfold yw1 at w2
    rcases hr with e | ⟨e1, e2, e3, e4⟩ | ⟨e1, e2, e3, e4⟩
    · rw [e, if_pos (by decide)] at w2
      rw [w2, e]
      constructor
      · rintro ⟨x, -⟩; omega
      · rintro ⟨x, -⟩; exact absurd rfl x
    · rw [if_pos (by omega)] at w2
      have hm : t 54 0 (8 * d + j) % 100 = t 54 0 (8 * d + j) := by omega
      rw [w2, hm, (h.2.2 (t 54 0 (8 * d + j)).toNat (by omega)).2.2.1]
      constructor
      · rintro ⟨x, y⟩; exact ⟨by omega, y⟩
      · rintro ⟨x, y⟩; exact ⟨e1, y⟩
    · rw [if_neg (by omega)] at w2
      have hm : t 54 0 (8 * d + j) % 100 = t 54 0 (8 * d + j) - 100 := by omega
      rw [w2, hm, (h.2.2 (t 54 0 (8 * d + j) - 100).toNat (by omega)).2.2.1]
      constructor
      · rintro ⟨x, y⟩; exact ⟨by omega, y⟩
      · rintro ⟨x, y⟩; exact ⟨by omega, y⟩
  constructor
  · rintro ⟨x1, x2, x3, x4⟩
    obtain ⟨j, hj, -⟩ := ycO_ex (w := fun j => t 54 0 (8 * d + j)) (n := (t 52 0 d).toNat) (by omega)
    exact ⟨⟨⟨x1, by omega⟩, fun j hj => (row j (by omega)).1 (x2 j (by omega))⟩, by omega⟩
  · rintro ⟨⟨⟨x1, x2⟩, x3⟩, x4⟩
    have h1 := (yRS_rid hrs).1 ⟨0, by omega, (x3 0 (by omega)).1⟩
    exact ⟨x1, fun j hj => (row j hj).2 (x3 j (by omega)), by omega, by omega⟩
theorem CP_sh {σ t : zS} {nd nr ns q : Nat} {c B : Int} (h : CP σ t nd nr ns) (hw : yWF t nd nr ns c B) (hq : q < nr) (h0 : t 64 0 q = 0) : ∀ d, d ≤ nd → ySR (ysh σ q d) (yzs t q d)
  | 0, _ => Or.inl ⟨(by decide : (-1 : Int) < 0), rfl⟩
  | d + 1, hd => by
    have ih := CP_sh h hw hq h0 d (by omega)
    have hc := CP_cn h hw (show d < nd by omega)
    have h8 := (hw.2.1 d (by omega)).1.2
    have e18 := (h.2.1 d (by omega)).1.2.1
    by_cases c1 : ycS t d (t 52 0 d).toNat
    · rw [show ysh σ q (d + 1) = ys1 σ d q (σ 18 d 3).toNat (σ 18 d 3).toNat (ysh σ q d) from if_pos (hc.2 c1), show yzs t q (d + 1) = _ from if_pos c1, e18]
      exact CP_s1 h hw hq h0 (by omega) (by omega) c1 ih _ (Nat.le_refl _)
    · rw [show ysh σ q (d + 1) = ysh σ q d from if_neg (fun x => c1 (hc.1 x)), show yzs t q (d + 1) = _ from if_neg c1]
      exact ih
/-- one shared request, in both -/
theorem CP_one {σ t u v : zS} {nd nr ns q : Nat} {c B : Int} (h : CP σ t nd nr ns) (hw : yWF t nd nr ns c B) (hq : q < nr) (h0 : t 64 0 q = 0) (h1 : t 68 0 q = 1) {r : Int} (hu : (r = 0 ∧ (ysh σ q nd).1 < 0 ∧ zfr (fun κ i k => (κ = 14 ∧ i = 0 ∧ 2 ≤ k ∧ k ≤ 8) ∨ (24 ≤ κ ∧ κ ≤ 27)) σ u) ∨ (r = 1 ∧ ∃ d n f s : Nat, yfd σ nd q (ysh σ q nd) d n f s ∧ ypu σ u d n f s q)) (hv : ystp t v q nd) : CP u v nd nr ns ∧ (r = 0 ∧ ¬ yshC t nd q ∨ r = 1 ∧ yshC t nd q) := by
  have hr := CP_sh h hw hq h0 nd (Nat.le_refl _)
  rcases hu with ⟨r0, hs, uf⟩ | ⟨r1, d, n, f, s, hf, hp⟩
  · have e : (yzs t q nd).2.1 = -1 := by
      rcases hr with ⟨x1, x2⟩ | ⟨x1, x2⟩
      · rw [x2]
      · omega
    have hc : ¬ yshC t nd q := fun hc => hc.2.2 e
    rcases hv with ⟨x, -⟩ | ⟨-, vf⟩
    · exact absurd x hc
    · exact ⟨CP_fr h hw (fun κ i k hk => uf κ i k (by omega)) (fun κ k hk => vf κ 0 k hk.2), Or.inl ⟨r0, hc⟩⟩
  · obtain ⟨f1, f2, f3, f4, f5, f6, g1, g2, g3, g4⟩ := hf
    have e : (yzs t q nd).2 = ((d : Int), (f : Int), (s : Int)) := by
      rcases hr with ⟨x1, x2⟩ | ⟨x1, x2⟩
      · omega
      · rw [x2, g1, g2, g3]
    have hc : yshC t nd q := ⟨h0, h1, by rw [e]; show (d : Int) ≠ -1; omega⟩
    rcases hv with ⟨-, d2, n2, f2', s2, y1, y2, y3⟩ | ⟨x, -⟩
    · rw [e] at y1
      injection y1 with y1 y4
      injection y4 with y4 y5
      obtain rfl : d2 = d := by omega
      obtain rfl : f2' = f := by omega
      obtain rfl : s2 = s := by omega
      have e18 := (h.2.1 d2 y2.1).1.2.1
      have e52 := y2.2.1
      obtain rfl : n2 = n := by omega
      exact ⟨CP_mp h hw hq h0 y2 hp y3, Or.inr ⟨r1, hc⟩⟩
    · exact absurd hc x
theorem yshR_tot {a : zS} {nd nr ns : Nat} {c B : Int} (h : yWF a nd nr ns c B) : ∀ k, k ≤ nr → ∃ v m, yshR nd k a v m
  | 0, _ => ⟨a, 0, rfl, rfl⟩
  | k + 1, hk => by
    obtain ⟨v, m, h1⟩ := yshR_tot h k (by omega)
    obtain ⟨u, h2⟩ := ystp_ex (yWF_shR h k v m (by omega) h1).1 (show k < nr by omega)
    exact ⟨u, _, v, m, h1, h2, rfl⟩
/-! the matches by any rows that say the same -/
theorem ymx_cg {m0 m1 : Int} {P Q : Nat → Bool} {f g : Nat → Int} (h0 : m0 = m1) : ∀ n, (∀ d, d < n → P d = Q d ∧ f d = g d) → ymx m0 P f n = ymx m1 Q g n
  | 0, _ => h0
  | n + 1, h => by
    have ih := ymx_cg h0 n (fun d hd => h d (by omega))
    obtain ⟨h1, h2⟩ := h n (by omega)
    show (if _ then _ else _ : Int) = (if _ then _ else _ : Int)
    rw [ih, h1, h2]
theorem yok_cg {mn mn' : Nat → Nat → Int} {r t d : Nat} (h : mn r d = mn' r d) : yok mn r t d = yok mn' r t d := by
  unfold yok
  rw [h]
theorem yB_cg {mn mn' : Nat → Nat → Int} {nd n : Nat} (h : ∀ r d, r < n → d < nd → mn r d = mn' r d) : ∀ k, k ≤ n → ∀ t, yB mn nd n k t = yB mn' nd n k t
  | 0, _, _ => rfl
  | k + 1, hk, t => by
    refine ymx_cg (yB_cg h k (by omega) t) nd (fun d hd => ⟨yok_cg (h _ d (by omega) hd), ?_⟩)
    unfold ygv
    rw [h _ d (by omega) hd, yB_cg h k (by omega)]
theorem yfi_cg {P Q : Nat → Bool} : ∀ n, (∀ i, i < n → P i = Q i) → yfi P n = yfi Q n
  | 0, _ => rfl
  | n + 1, h => by
    have ih := yfi_cg n (fun i hi => h i (by omega))
    show (if _ then _ else if _ then _ else _ : Int) = (if _ then _ else if _ then _ else _ : Int)
    rw [ih, h n (by omega)]
theorem ych_cg {mn mn' : Nat → Nat → Int} {nd n : Nat} (h : ∀ r d, r < n → d < nd → mn r d = mn' r d) {k t : Nat} (hk : k < n) : ych mn nd n k t = ych mn' nd n k t := by
  have e : yfi (fun i => yok mn (n - (k + 1)) t i && decide (ygv mn (yB mn nd n k) (n - (k + 1)) t i = yB mn nd n (k + 1) t)) nd = yfi (fun i => yok mn' (n - (k + 1)) t i && decide (ygv mn' (yB mn' nd n k) (n - (k + 1)) t i = yB mn' nd n (k + 1) t)) nd := yfi_cg nd (fun i hi => by
    rw [yok_cg (h _ i (by omega) hi), yB_cg h (k + 1) (by omega)]
    unfold ygv
    rw [h _ i (by omega) hi, yB_cg h k (by omega)])
  unfold ych
  rw [e]
theorem yG_cg {mn mn' : Nat → Nat → Int} {nd n : Nat} (h : ∀ r d, r < n → d < nd → mn r d = mn' r d) : ∀ k, k ≤ n → ∀ t, yG mn nd n k t = yG mn' nd n k t
  | 0, _, _ => rfl
  | k + 1, hk, t => by
    show ych mn nd n k t * _ + yG mn nd n k _ = ych mn' nd n k t * _ + yG mn' nd n k _
    rw [ych_cg h (by omega), yG_cg h k (by omega)]
theorem ybs_cg {mn mn' : Nat → Nat → Int} {nd n : Nat} (h : ∀ r d, r < n → d < nd → mn r d = mn' r d) (k : Nat) : ybs mn nd n k = ybs mn' nd n k := by
  unfold ybs
  rw [yG_cg h n (Nat.le_refl _)]
theorem yGN_cg {bs bs' : Nat → Nat} {nd : Nat} : ∀ n, (∀ k, k < n → bs k = bs' k) → yGN bs nd n = yGN bs' nd n
  | 0, _ => rfl
  | n + 1, h => by
    show (if _ then _ else _) = (if _ then _ else _)
    rw [yGN_cg n (fun k hk => h k (by omega)), h n (by omega)]
theorem yGV_cg {as as' bs bs' : Nat → Nat} {nd : Nat} {v : zS} : ∀ n, (∀ k, k < n → as k = as' k ∧ bs k = bs' k) → yGV as bs nd n v = yGV as' bs' nd n v
  | 0, _ => rfl
  | n + 1, h => by
    obtain ⟨h1, h2⟩ := h n (by omega)
    show (if _ then _ else _ : zS) = (if _ then _ else _ : zS)
    rw [yGV_cg n (fun k hk => h k (by omega)), h1, h2]
theorem yas_eq {σ : zS} {nr : Nat} {as as' : Nat → Nat} (h : yasOK σ nr as) (h' : yasOK σ nr as') : ∀ j, j < ylc σ nr → as j = as' j := fun j hj => by
  obtain ⟨k, h1, h2, h3⟩ := ylc_sur hj
  have e1 := h k h1 h2
  have e2 := h' k h1 h2
  rw [h3] at e1 e2
  rw [e1, e2]
/-! what a driver's sending needs -/
theorem CP_snd {σ t : zS} {nd nr ns d q : Nat} {c B : Int} (h : CP σ t nd nr ns) (hw : yWF t nd nr ns c B) (hB : B ≤ 1800000000) (hd : d < nd) (hq : q < nr) (h52 : t 52 0 d = 0) (hway : t 47 0 (10 * (t 49 0 d).toNat + (t 65 0 q).toNat) < 100000) : σ 18 d 3 = 0 ∧ (0 ≤ σ 17 d 6 ∧ σ 17 d 6 < 10) ∧ (0 ≤ σ 23 q 1 ∧ σ 23 q 1 < 10) ∧ (0 ≤ σ 23 q 2 ∧ σ 23 q 2 < 10) ∧ (0 ≤ σ 6 (σ 17 d 6).toNat (σ 23 q 1).toNat ∧ σ 6 (σ 17 d 6).toNat (σ 23 q 1).toNat ≤ 20480) ∧ (0 ≤ σ 6 (σ 23 q 1).toNat (σ 23 q 2).toNat ∧ σ 6 (σ 23 q 1).toNat (σ 23 q 2).toNat ≤ 20480) ∧ (0 ≤ σ 23 q 5 ∧ σ 23 q 5 ≤ 3000000) ∧ (0 ≤ σ 0 0 9 ∧ σ 0 0 9 < 1900000000) ∧ (0 ≤ σ 0 0 8 ∧ σ 0 0 8 ≤ 20000) ∧ (0 ≤ σ 17 d 11 ∧ σ 17 d 11 ≤ 900) ∧ (0 ≤ σ 17 d 12 ∧ σ 17 d 12 ≤ 900000000) := by
  obtain ⟨⟨⟨a1, a2, a3, a4, a5, a6, a7, a8, a9⟩, a10, a11, a12⟩, a13⟩ := h.2.1 d hd
  obtain ⟨b1, b2, b3, b4, b5, b6, b7⟩ := h.2.2 q hq
  obtain ⟨⟨w1, w2⟩, w3, w4, w5, w6, w7, w8, w9, w10, w11⟩ := hw.2.1 d hd
  obtain ⟨k1, k2, k3, k4, k5, k6⟩ := hw.2.2.1 q hq
  have hN := yDN_le t nr
  have hnr := hw.1.1.2.1
  have ho := hw.1.2.2.2.2.1
  have x1 := yWF_w hw (t 49 0 d).toNat (t 65 0 q).toNat (by omega) (by omega)
  have x2 := yWF_w hw (t 65 0 q).toNat (t 66 0 q).toNat (by omega) (by omega)
  rw [a4, b1, b2, b5, a8, a9, a10, h.1.2.1.2.1, h.1.2.1.2.2, CP_way h.1 (by omega) (by omega) hway, CP_way h.1 (by omega) (by omega) k3]
  exact ⟨h52, w1, k1, k2, ⟨x1.1, x1.2.2.1 hway⟩, ⟨x2.1, x2.2.2.1 k3⟩, k5, by omega, hw.1.2.2.1, by omega, by omega⟩
theorem yNX_fr {σ v : zS} {d : Nat} (h : yNX σ v d) {κ i k : Nat} (hk : κ ≠ 0 ∧ κ ≠ 17 ∧ κ ≠ 18 ∧ κ ≠ 20 ∧ κ ≠ 21 ∧ κ ≠ 22 ∧ κ ≠ 23) : v κ i k = σ κ i k := by
  obtain ⟨u1, ⟨-, -, hf⟩, hx⟩ := h
  have e1 : u1 κ i k = yns σ d κ i k := hf κ i k (by omega)
  have e2 : yns σ d κ i k = σ κ i k := by
    unfold yns
    rw [zu_ne (by omega)]
    split
    · rw [zu_ne (by omega), zu_ne (by omega), zu_ne (by omega), zu_ne (by omega)]
    · split
      · rw [zu_ne (by omega)]
      · rfl
  rw [← hx]
  unfold ynx yqf
  split
  · rw [zu_ne (by omega), e1, e2]
  · split
    · rw [zu_ne (by omega), zu_ne (by omega), e1, e2]
    · rw [e1, e2]
theorem yDR_fr {d : Nat} {κ i k : Nat} (hk : κ ≠ 0 ∧ κ ≠ 17 ∧ κ ≠ 18 ∧ κ ≠ 20 ∧ κ ≠ 21 ∧ κ ≠ 22 ∧ κ ≠ 23) : ∀ (n : Nat) (σ u : zS), yDR d n σ u → u κ i k = σ κ i k
  | 0, σ, u, h => by
    obtain rfl : σ = u := h
    rfl
  | n + 1, σ, u, h => by
    rcases h with ⟨-, v, h1, h2⟩ | ⟨-, h1⟩
    · rw [yDR_fr hk n v u h2, yNX_fr h1 hk]
    · rw [h1]
theorem yAR_end {nd i : Nat} {t : zS} (h : yfM (yAR nd i t) nd = -1) : ∀ k, yAR nd (i + k) t = yAR nd i t ∧ yAN nd t (i + k) = yAN nd t i
  | 0 => ⟨rfl, rfl⟩
  | k + 1 => by
    obtain ⟨h1, h2⟩ := yAR_end h k
    have hc : ¬ yaC nd (i + k) (yAR nd (i + k) t) := fun c => c.2.2 (by rw [h1]; exact h)
    exact ⟨(if_neg hc : yAR nd (i + k + 1) t = _).trans h1, (if_neg hc : yAN nd t (i + k + 1) = _).trans h2⟩
