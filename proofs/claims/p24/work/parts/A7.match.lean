/-! P24: A MATCH -/
noncomputable def pas (t : zS) (nr j : Nat) : Nat := @dite Nat (∃ k, k < nr ∧ ywt t k ∧ ylc t k = j) (Classical.propDecidable _) (fun h => Classical.choose h) (fun _ => 0)
theorem pas_ok (t : zS) (nr : Nat) : yasOK t nr (pas t nr) := fun k hk hw => by
  have hex : ∃ k', k' < nr ∧ ywt t k' ∧ ylc t k' = ylc t k := ⟨k, hk, hw, rfl⟩
  have e : pas t nr (ylc t k) = Classical.choose hex := dif_pos hex
  rw [e]
  obtain ⟨c1, c2, c3⟩ := Classical.choose_spec hex
  rcases Nat.lt_trichotomy (Classical.choose hex) k with q | q | q
  · have := ylc_lt q c2; omega
  · exact q
  · have := ylc_lt q hw; omega
/-- what best tells -/
noncomputable def pBE (t : zS) (nd nr : Nat) : Int := if 5 < ylc t nr then -2000000003 else yB (fun k d => ymm t (pas t nr k) d) nd (ylc t nr) (ylc t nr) 0
def pFs (mn : Nat → Nat → Int) (nd : Nat) (a : Nat → Nat) : Nat → Int
  | 0 => 0
  | m + 1 => pFs mn nd a m + ycb mn nd m (a m)
theorem pFs_To {mn : Nat → Nat → Int} {nd n : Nat} {a : Nat → Nat} : ∀ k, k ≤ n → yTo mn nd n a k + pFs mn nd a (n - k) = pFs mn nd a n
  | 0, _ => by
    show 0 + pFs mn nd a n = _
    exact Int.zero_add _
  | k + 1, hk => by
    have ih := pFs_To (mn := mn) (nd := nd) (n := n) (a := a) k (by omega)
    rw [show n - k = n - (k + 1) + 1 by omega] at ih
    have ih : yTo mn nd n a k + (pFs mn nd a (n - (k + 1)) + ycb mn nd (n - (k + 1)) (a (n - (k + 1)))) = pFs mn nd a n := ih
    show yTo mn nd n a k + ycb mn nd (n - (k + 1)) (a (n - (k + 1))) + pFs mn nd a (n - (k + 1)) = _
    omega
theorem pFs_eq {mn : Nat → Nat → Int} {nd n : Nat} {a : Nat → Nat} : yTo mn nd n a n = pFs mn nd a n := by
  have h := pFs_To (mn := mn) (nd := nd) (n := n) (a := a) n (Nat.le_refl n)
  rw [Nat.sub_self] at h
  have h : yTo mn nd n a n + 0 = pFs mn nd a n := h
  omega
theorem pFs_GN {mn : Nat → Nat → Int} {nd : Nat} {a : Nat → Nat} : ∀ m : Nat, (∀ j, j < m → a j < nd → 0 ≤ mn j (a j) ∧ mn j (a j) ≤ 60) → pFs mn nd a m ≤ 10000 * (yGN a nd m : Int) ∧ 10000 * (yGN a nd m : Int) - 60 * (m : Int) ≤ pFs mn nd a m
  | 0, _ => by
    show (0 : Int) ≤ 10000 * ((0 : Nat) : Int) ∧ 10000 * ((0 : Nat) : Int) - 60 * ((0 : Nat) : Int) ≤ 0
    omega
  | m + 1, h => by
    obtain ⟨h1, h2⟩ := pFs_GN (mn := mn) (nd := nd) (a := a) m (fun j hj => h j (by omega))
    show pFs mn nd a m + ycb mn nd m (a m) ≤ _ ∧ _ ≤ pFs mn nd a m + ycb mn nd m (a m)
    unfold ycb
    by_cases c : a m < nd
    · have h3 := h m (by omega) c
      rw [if_pos c, show yGN a nd (m + 1) = yGN a nd m + 1 from if_pos c]
      omega
    · rw [if_neg c, show yGN a nd (m + 1) = yGN a nd m from if_neg c]
      omega
theorem pFs_nn {mn : Nat → Nat → Int} {nd : Nat} {a : Nat → Nat} : ∀ m : Nat, (∀ j, j < m → a j < nd → mn j (a j) ≤ 10000) → 0 ≤ pFs mn nd a m
  | 0, _ => Int.le_refl _
  | m + 1, h => by
    have h1 := pFs_nn (mn := mn) (nd := nd) (a := a) m (fun j hj => h j (by omega))
    show 0 ≤ pFs mn nd a m + ycb mn nd m (a m)
    unfold ycb
    by_cases c : a m < nd
    · have h3 := h m (by omega) c
      rw [if_pos c]; omega
    · rw [if_neg c]; omega
/-- the best sum is that of the first best way -/
theorem pB_is {mn : Nat → Nat → Int} {nd n : Nat} (h : ∀ k d, k < n → d < nd → -1 ≤ mn k d ∧ mn k d ≤ 100000) (hn : n ≤ 5) : yB mn nd n n 0 = yTo mn nd n (ybs mn nd n) n ∧ yVA mn nd n (ybs mn nd n) := by
  obtain ⟨h1, h2⟩ := ybb_G h hn
  refine ⟨?_, h2⟩
  have h0 : (0 : Int) ≤ yB mn nd n n 0 := by
    have h3 : yTo mn nd n (fun _ => nd) n ≤ yB mn nd n n 0 := yTo_le (fun k _ hk => absurd hk (Nat.lt_irrefl nd)) n (Nat.le_refl n) 0 (fun j _ _ hk => absurd hk (Nat.lt_irrefl nd))
    have h4 : ∀ m, m ≤ n → yTo mn nd n (fun _ => nd) m = 0 := fun m => by
      induction m with
      | zero => intro _; rfl
      | succ m ih =>
        intro hm
        show yTo mn nd n (fun _ => nd) m + ycb mn nd (n - (m + 1)) nd = 0
        rw [ih (by omega)]
        unfold ycb
        rw [if_neg (Nat.lt_irrefl nd)]
        rfl
    rw [h4 n (Nat.le_refl n)] at h3
    exact h3
  rcases ybb_sp mn nd n ((nd + 1) ^ n) with ⟨e, -⟩ | ⟨-, e, -⟩
  · rw [h1] at e
    have e : yB mn nd n n 0 = -1 := e
    omega
  · rw [h1] at e
    have e : yB mn nd n n 0 = yvw mn nd n (yG mn nd n n 0) n := e
    rw [e, yvw_To h2 n (Nat.le_refl n)]
    rfl
theorem ymm_60 {t : zS} {nd nr ns : Nat} {c B : Int} (h : yWF t nd nr ns c B) {q d : Nat} (hq : q < nr) (hd : d < nd) : -1 ≤ ymm t q d ∧ ymm t q d ≤ 60 := by
  have h1 := (h.2.2.1 q hq).2.2.2.1
  have h2 := yWF_w h (t 49 0 d).toNat (t 65 0 q).toNat (by have := (h.2.1 d hd).1.1; omega) (by have := (h.2.2.1 q hq).1; omega)
  unfold ymm
  split <;> omega
theorem pBE_rg {t : zS} {nd nr ns : Nat} {c B : Int} (h : yWF t nd nr ns c B) (h5 : ylc t nr ≤ 5) : 0 ≤ pBE t nd nr ∧ pBE t nd nr ≤ 50000 ∧ pBE t nd nr = pFs (fun k d => ymm t (pas t nr k) d) nd (ybs (fun k d => ymm t (pas t nr k) d) nd (ylc t nr)) (ylc t nr) ∧ (∀ j, j < ylc t nr → ybs (fun k d => ymm t (pas t nr k) d) nd (ylc t nr) j < nd → 0 ≤ ymm t (pas t nr j) (ybs (fun k d => ymm t (pas t nr k) d) nd (ylc t nr) j) ∧ ymm t (pas t nr j) (ybs (fun k d => ymm t (pas t nr k) d) nd (ylc t nr) j) ≤ 60) := by
  have hm := ymm_ok h (pas_ok t nr)
  obtain ⟨b1, b2⟩ := pB_is hm h5
  have hj : ∀ j, j < ylc t nr → ybs (fun k d => ymm t (pas t nr k) d) nd (ylc t nr) j < nd → 0 ≤ ymm t (pas t nr j) (ybs (fun k d => ymm t (pas t nr k) d) nd (ylc t nr) j) ∧ ymm t (pas t nr j) (ybs (fun k d => ymm t (pas t nr k) d) nd (ylc t nr) j) ≤ 60 := fun j hj hb => by
    have h1 := ymm_60 h (yas_ex (pas_ok t nr) hj).1 hb
    have h2 : ymm t (pas t nr j) (ybs (fun k d => ymm t (pas t nr k) d) nd (ylc t nr) j) ≠ -1 := (b2 j hj hb).1
    omega
  have e : pBE t nd nr = pFs (fun k d => ymm t (pas t nr k) d) nd (ybs (fun k d => ymm t (pas t nr k) d) nd (ylc t nr)) (ylc t nr) := by
    unfold pBE
    rw [if_neg (by omega), b1, pFs_eq]
  have hg := pFs_GN (mn := fun k d => ymm t (pas t nr k) d) (nd := nd) (a := ybs (fun k d => ymm t (pas t nr k) d) nd (ylc t nr)) (ylc t nr) hj
  have hl := yGN_le (ybs (fun k d => ymm t (pas t nr k) d) nd (ylc t nr)) nd (ylc t nr)
  have h0 := pFs_nn (mn := fun k d => ymm t (pas t nr k) d) (nd := nd) (a := ybs (fun k d => ymm t (pas t nr k) d) nd (ylc t nr)) (ylc t nr) (fun j h1 h2 => Int.le_trans (hj j h1 h2).2 (by decide))
  exact ⟨by rw [e]; exact h0, by rw [e]; omega, e, hj⟩
/-- who is given has stops -/
theorem pgi_52 {t : zS} {nd nr ns d q : Nat} {c B : Int} (h : yWF t nd nr ns c B) (hE : pE t nd nr) (hd : d < nd) (hq : q < nr) (h0 : t 64 0 q = 0) (h52 : t 52 0 d = 0) (hw : t 47 0 (10 * (t 49 0 d).toNat + (t 65 0 q).toNat) < 100000) : 0 < ygi t q d 52 0 d := by
  have hg := yWF_gm h hd hq h0 h52 hw
  obtain ⟨⟨g1, g2⟩, ⟨g3, g4⟩, g5, g6, g7, g8, g9⟩ := ygm_at (t := t) (d := d) (q := q)
  have hne := (hE.1 q hq).2
  obtain ⟨wq1, wq2, -⟩ := h.2.2.1 q hq
  have hpos := (yWF_w h (t 65 0 q).toNat (t 66 0 q).toNat (by omega) (by omega)).2.2.2 (by omega)
  show 0 < ybf (yLV d 2 (ygm t d q)) d 52 0 d
  rw [ybf_f2 (by omega)]
  show 0 < (if ywy (ygm t d q) d = 0 then yLV d 1 (ymt (zu (ygm t d q) 55 0 d (ygm t d q 30 0 1 + ywy (ygm t d q) d)) d 1) else zu (ygm t d q) 55 0 d (ygm t d q 30 0 1 + ywy (ygm t d q) d) : zS) 52 0 d
  split
  · obtain ⟨v, hv⟩ : ∃ v, v = ymt (zu (ygm t d q) 55 0 d (ygm t d q 30 0 1 + ywy (ygm t d q) d)) d 1 := ⟨_, rfl⟩
    rw [← hv]
    have v52 : v 52 0 d = 1 := by rw [hv]; exact ymt_52 _ _ _
    have v49 : v 49 0 d = t 65 0 q := by rw [hv, ymt_49, zu_ne (by omega)]; exact g1
    have v53 : v 53 0 (8 * d) = t 66 0 q := by
      have := ymt_st (zu (ygm t d q) 55 0 d (ygm t d q 30 0 1 + ywy (ygm t d q) d)) d 1 (Or.inl rfl : 53 = 53 ∨ 53 = 54) (j := 0) (by decide)
      rw [hv]
      rw [Nat.add_zero] at this
      rw [this, zu_ne (by omega)]
      exact g2
    have v47 : ∀ k, v 47 0 k = t 47 0 k := fun k => by rw [hv, ymt_fr (by omega), zu_ne (by omega)]; exact ygm_fr (by omega)
    have vy : ywy v d = t 47 0 (10 * (t 65 0 q).toNat + (t 66 0 q).toNat) := by
      unfold ywy
      rw [v47, v49, v53]
    show 0 < (if ywy v d = 0 then yLV d 0 (ymt (zu v 55 0 d (v 30 0 1 + ywy v d)) d 0) else zu v 55 0 d (v 30 0 1 + ywy v d) : zS) 52 0 d
    rw [if_neg (by omega), zu_ne (by omega), v52]
    decide
  · rw [zu_ne (by omega), g5]
    decide
/-- what a match leaves -/
theorem pGV {t : zS} {as bs : Nat → Nat} {sl : Prop} {nd nr ns n : Nat} {c B : Int} (h : yWF t nd nr ns c B) (hv : pV t sl nd nr) (hE : pE t nd nr) (hg : yGok t as bs nd nr n) : ∀ i : Nat, i ≤ n → pV (yGV as bs nd i t) sl nd nr ∧ pE (yGV as bs nd i t) nd nr ∧ pM t (yGV as bs nd i t) nd nr ∧ (∀ d, (∀ j, j < i → bs j ≠ d) → ∀ κ, κ = 49 ∨ κ = 50 ∨ κ = 51 ∨ κ = 52 → yGV as bs nd i t κ 0 d = t κ 0 d) ∧ (∀ j, j < i → bs j < nd → 0 < yGV as bs nd i t 52 0 (bs j) ∧ yGV as bs nd i t 64 0 (as j) ≠ 0)
  | 0, _ => ⟨hv, hE, pM_rf t nd nr, fun _ _ _ _ => rfl, fun j hj => absurd hj (Nat.not_lt_zero j)⟩
  | i + 1, hi => by
    obtain ⟨k1, k2, k3, k4, k5⟩ := pGV h hv hE hg i (by omega)
    obtain ⟨h1, h2, h3⟩ := yGV_ok h hg i (by omega)
    obtain ⟨h4, h5⟩ := h3 i (Nat.le_refl _) (by omega)
    obtain ⟨g1, g2, g3⟩ := hg.1 i (by omega)
    have hnr := h.1.1.2.1
    by_cases cc : bs i < nd
    · obtain ⟨h6, h7⟩ := h5 cc
      obtain ⟨g4, g5⟩ := g3 cc
      have e : yGV as bs nd (i + 1) t = ygi (yGV as bs nd i t) (as i) (bs i) := if_pos cc
      have hwy : yGV as bs nd i t 47 0 (10 * (yGV as bs nd i t 49 0 (bs i)).toNat + (yGV as bs nd i t 65 0 (as i)).toNat) < 100000 := by rw [h7, h2 65 _ (by omega), h2 47 _ (by omega)]; exact g5
      obtain ⟨m1, m2⟩ := pV_gi h1 k1 cc g1 h4 h6.1 hwy
      have hq60 : as i < 60 := by omega
      rw [e]
      refine ⟨m1, pE_gi h1 k2 cc g1 h4 h6.1 hwy, pM_tr k3 m2, fun d hd κ hκ => ?_, fun j hj hb => ?_⟩
      · have hne := hd i (by omega)
        rw [ygi_gl hq60 (by unfold ygl; omega)]
        exact k4 d (fun j hj => hd j (by omega)) κ hκ
      · by_cases ej : j = i
        · subst ej
          refine ⟨pgi_52 h1 k2 cc g1 h4 h6.1 hwy, ?_⟩
          obtain ⟨-, -, -, -, p5⟩ := pV_gm h1 k1 cc g1 h4 h6.1
          have hs : ygm (yGV as bs nd j t) (bs j) (as j) 64 0 (as j) = 1 := (ygm_at (t := yGV as bs nd j t) (d := bs j) (q := as j)).2.2.2.1
          obtain ⟨l1, l2, l3, l4, -⟩ := pV_gm h1 k1 cc g1 h4 h6.1
          have hnow : ygm (yGV as bs nd j t) (bs j) (as j) 30 0 1 = yGV as bs nd j t 30 0 1 := ygm_fr (by omega)
          have hlv := (pV_LV (yWF_gm h1 cc g1 h4 h6.1 hwy) cc (n := 2) (ygm_at (t := yGV as bs nd j t) (d := bs j) (q := as j)).2.2.1 l1 (fun _ => by rw [hnow]; exact l2) l3 (fun q' hq' hs' => by rw [hnow]; exact l4 q' hq' hs')).2
          have h9 := (hlv.1 (as j) g1).1
          rw [hs] at h9
          show ybf (yLV (bs j) 2 (ygm (yGV as bs nd j t) (bs j) (as j))) (bs j) 64 0 (as j) ≠ 0
          rw [ybf_f2 (by omega)]
          omega
        · obtain ⟨q1, q2⟩ := k5 j (by omega) hb
          obtain ⟨g6, g7⟩ := hg.2 i j (by omega) (by omega) (fun w => ej w.symm)
          have g8 := g7 cc
          rw [ygi_gl hq60 (by unfold ygl; omega), ygi_gl hq60 (by unfold ygl; omega)]
          exact ⟨q1, q2⟩
    · have e : yGV as bs nd (i + 1) t = yGV as bs nd i t := if_neg cc
      rw [e]
      refine ⟨k1, k2, k3, fun d hd κ hκ => k4 d (fun j hj => hd j (by omega)) κ hκ, fun j hj hb => ?_⟩
      by_cases ej : j = i
      · subst ej; exact absurd hb cc
      · exact k5 j (by omega) hb
theorem ylc_mn {t u : zS} (h : ∀ k, ywt u k → ywt t k) : ∀ n, ylc u n ≤ ylc t n
  | 0 => Nat.le_refl _
  | n + 1 => by
    have ih := ylc_mn h n
    rw [ylc_s, ylc_s]
    by_cases c : ywt u n
    · rw [if_pos c, if_pos (h n c)]; omega
    · rw [if_neg c]
      split <;> omega
/-- behind a match there is nothing left to match; as many are given as was told -/
theorem pMA {t : zS} {sl : Prop} {nd nr ns : Nat} {c B : Int} (h : yWF t nd nr ns c B) (hv : pV t sl nd nr) (hE : pE t nd nr) (h5 : ylc t nr ≤ 5) :
    ∃ u, u = yGV (pas t nr) (ybs (fun k d => ymm t (pas t nr k) d) nd (ylc t nr)) nd (ylc t nr) t ∧ yWF u nd nr ns c (B + 5) ∧ pV u sl nd nr ∧ pE u nd nr ∧ pM t u nd nr ∧ (∀ k, k ≠ 17 → u 30 0 k = t 30 0 k) ∧ ylc u nr ≤ 5 ∧ pBE u nd nr = 0 ∧ ((yGN (ybs (fun k d => ymm t (pas t nr k) d) nd (ylc t nr)) nd (ylc t nr) : Nat) : Int) = (pBE t nd nr + 9999) / 10000 := by
  have has := pas_ok t nr
  have hg := yGok_of h has h5 (t := t) (fun _ _ _ => rfl)
  have hm := ymm_ok h has
  obtain ⟨b1, b2⟩ := pB_is hm h5
  obtain ⟨r1, r2, r3, r4⟩ := pBE_rg h h5
  obtain ⟨bs, hbs⟩ : ∃ bs, bs = ybs (fun k d => ymm t (pas t nr k) d) nd (ylc t nr) := ⟨_, rfl⟩
  rw [← hbs] at hg b1 b2 r3 r4 ⊢
  obtain ⟨w1, w2, w3⟩ := yGV_ok h hg (ylc t nr) (Nat.le_refl _)
  obtain ⟨k1, k2, k3, k4, k5⟩ := pGV h hv hE hg (ylc t nr) (Nat.le_refl _)
  obtain ⟨u, hu⟩ : ∃ u, u = yGV (pas t nr) bs nd (ylc t nr) t := ⟨_, rfl⟩
  rw [← hu] at w1 w2 w3 k1 k2 k3 k4 k5
  have hw1 : yWF u nd nr ns c (B + 5) := yWF_B w1 (Int.le_refl _) (by omega)
  -- who WAITS now did so
  have hwt : ∀ k, k < nr → ywt u k → ywt t k := fun k hk hw => by
    have m1 := (k3.1 k hk).1
    have m2 := (h.2.2.1 k hk).2.2.2.2.2.1
    have m3 := hw.1
    have m4 := hw.2
    rw [w2 65 k (by omega)] at m4
    exact ⟨by omega, m4⟩
  have hlc : ∀ n, n ≤ nr → ylc u n ≤ ylc t n := fun n => by
    induction n with
    | zero => intro _; exact Nat.le_refl _
    | succ n ih =>
      intro hn
      have i1 := ih (by omega)
      rw [ylc_s, ylc_s]
      by_cases cc : ywt u n
      · rw [if_pos cc, if_pos (hwt n (by omega) cc)]; omega
      · rw [if_neg cc]
        split <;> omega
  have hu5 : ylc u nr ≤ 5 := Nat.le_trans (hlc nr (Nat.le_refl _)) h5
  -- there is no pair left
  have hno : ∀ k, k < nr → ywt u k → ∀ d, d < nd → ymm u k d = -1 := fun k hk hw d hd => by
    refine Classical.byContradiction fun hne => ?_
    have hwk := hwt k hk hw
    have hj := ylc_lt hk hwk
    have haj : pas t nr (ylc t k) = k := has k hk hwk
    have hbj : ¬ bs (ylc t k) < nd := fun cc => by
      have := (k5 _ hj cc).2
      rw [haj] at this
      exact this hw.1
    have hfr : ymf u d := by
      unfold ymm at hne
      split at hne
      · rename_i q; exact q.1
      · exact absurd rfl hne
    have hdb : ∀ j, j < ylc t nr → bs j ≠ d := fun j hj2 e => by
      have h9 := (k5 j hj2 (by rw [e]; exact hd)).1
      rw [e] at h9
      have := hfr.1
      omega
    have e49 := k4 d hdb 49 (by omega)
    have e50 := k4 d hdb 50 (by omega)
    have e51 := k4 d hdb 51 (by omega)
    have e52 := k4 d hdb 52 (by omega)
    have hkk := k3.1 k hk
    have e47 : ∀ k9, u 47 0 k9 = t 47 0 k9 := fun k9 => w2 47 k9 (by omega)
    have emm : ymm u k d = ymm t k d := by
      unfold ymm
      rw [ymf_fr e52 e50 e51, e49, w2 65 k (by omega), w2 30 1 (by omega), hkk.2.2.2.1, e47]
    rw [emm] at hne
    -- the way with this pair too
    have hmn : ymm t (pas t nr (ylc t k)) d ≠ -1 := by rw [haj]; exact hne
    have hb : yVA (fun k d => ymm t (pas t nr k) d) nd (ylc t nr) (fun i => if i = ylc t k then d else bs i) := by
      intro i hi hlt
      by_cases e : i = ylc t k
      · subst e
        refine ⟨?_, fun j hj2 hji => ?_⟩
        · show ymm t (pas t nr (ylc t k)) (if ylc t k = ylc t k then d else bs (ylc t k)) ≠ -1
          rw [if_pos rfl]; exact hmn
        · show (if j = ylc t k then d else bs j) ≠ (if ylc t k = ylc t k then d else _)
          rw [if_neg hji, if_pos rfl]
          exact hdb j hj2
      · have hlt : (if i = ylc t k then d else bs i) < nd := hlt
        rw [if_neg e] at hlt
        obtain ⟨c1, c2⟩ := b2 i hi hlt
        refine ⟨?_, fun j hj2 hji => ?_⟩
        · show ymm t (pas t nr i) (if i = ylc t k then d else bs i) ≠ -1
          rw [if_neg e]; exact c1
        · show (if j = ylc t k then d else bs j) ≠ (if i = ylc t k then d else bs i)
          rw [if_neg e]
          by_cases e2 : j = ylc t k
          · rw [if_pos e2]
            exact fun q => hdb i hi q.symm
          · rw [if_neg e2]
            exact c2 j hj2 hji
    have hup := yTo_upd (mn := fun k d => ymm t (pas t nr k) d) (nd := nd) (n := ylc t nr) (r := ylc t k) (a := bs) (b := fun i => if i = ylc t k then d else bs i) hbj (by show (if ylc t k = ylc t k then d else _) < nd; rw [if_pos rfl]; exact hd) (fun j hj2 => if_neg hj2) (ylc t nr) (Nat.le_refl _) (by omega) hj
    have hle := yTo_le hb (ylc t nr) (Nat.le_refl _) 0 (fun j _ _ _ => Nat.zero_testBit _)
    have h60 := (ymm_60 h hk hd).2
    rw [if_pos rfl] at hup
    have hup2 : yTo (fun k d => ymm t (pas t nr k) d) nd (ylc t nr) (fun i => if i = ylc t k then d else bs i) (ylc t nr) = yTo (fun k d => ymm t (pas t nr k) d) nd (ylc t nr) bs (ylc t nr) + (10000 - ymm t (pas t nr (ylc t k)) d) := hup
    have hb1 : yB (fun k d => ymm t (pas t nr k) d) nd (ylc t nr) (ylc t nr) 0 = yTo (fun k d => ymm t (pas t nr k) d) nd (ylc t nr) bs (ylc t nr) := b1
    have hq : ymm t (pas t nr (ylc t k)) d ≤ 60 := by rw [haj]; exact h60
    rw [hb1] at hle
    omega
  have hz : pBE u nd nr = 0 := by
    obtain ⟨s1, s2, s3, s4⟩ := pBE_rg hw1 hu5
    rw [s3]
    have hb0 : ∀ j, j < ylc u nr → ¬ ybs (fun k d => ymm u (pas u nr k) d) nd (ylc u nr) j < nd := fun j hj hb => by
      obtain ⟨x1, x2, x3⟩ := yas_ex (pas_ok u nr) hj
      have := hno _ x1 x2 _ hb
      have := (s4 j hj hb).1
      omega
    have hf : ∀ m, m ≤ ylc u nr → pFs (fun k d => ymm u (pas u nr k) d) nd (ybs (fun k d => ymm u (pas u nr k) d) nd (ylc u nr)) m = 0 := fun m => by
      induction m with
      | zero => intro _; rfl
      | succ m ih =>
        intro hm
        show pFs _ nd _ m + ycb _ nd m _ = 0
        rw [ih (by omega)]
        unfold ycb
        rw [if_neg (hb0 m (by omega))]
        rfl
    exact hf _ (Nat.le_refl _)
  refine ⟨u, hu, hw1, k1, k2, k3, fun k hk => w2 30 k (by omega), hu5, hz, ?_⟩
  have hgn := pFs_GN (mn := fun k d => ymm t (pas t nr k) d) (nd := nd) (a := bs) (ylc t nr) r4
  rw [r3]
  omega
