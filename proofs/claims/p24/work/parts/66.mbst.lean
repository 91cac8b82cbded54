/-! best and match, in the model -/
def ysr (κ _i k : Nat) : Prop := κ = 75 ∨ κ = 76 ∨ κ = 77 ∨ (κ = 30 ∧ (k = 0 ∨ k = 38))
def yasOK (σ : zS) (nr : Nat) (as : Nat → Nat) : Prop := ∀ k, k < nr → ywt σ k → as (ylc σ k) = k
theorem ylc_s {σ : zS} {n : Nat} : ylc σ (n + 1) = @ite Nat (ywt σ n) (Classical.propDecidable _) (ylc σ n + 1) (ylc σ n) := rfl
theorem ylc_sur {σ : zS} : ∀ {nr j : Nat}, j < ylc σ nr → ∃ k, k < nr ∧ ywt σ k ∧ ylc σ k = j
  | 0, j, h => absurd h (Nat.not_lt_zero j)
  | n + 1, j, h => by
    by_cases c : ywt σ n
    · rw [ylc_s, if_pos c] at h
      by_cases e : j = ylc σ n
      · exact ⟨n, by omega, c, e.symm⟩
      · obtain ⟨k, h1, h2⟩ := ylc_sur (show j < ylc σ n by omega)
        exact ⟨k, by omega, h2⟩
    · rw [ylc_s, if_neg c] at h
      obtain ⟨k, h1, h2⟩ := ylc_sur h
      exact ⟨k, by omega, h2⟩
theorem yas_ex {σ : zS} {nr j : Nat} {as : Nat → Nat} (h : yasOK σ nr as) (hj : j < ylc σ nr) : as j < nr ∧ ywt σ (as j) ∧ ylc σ (as j) = j := by
  obtain ⟨k, h1, h2, h3⟩ := ylc_sur hj
  have e := h k h1 h2
  rw [h3] at e
  rw [e]
  exact ⟨h1, h2, h3⟩
theorem ymm_fr {σ u : zS} {q d : Nat} (h : ∀ κ k, ¬ ysr κ 0 k → u κ 0 k = σ κ 0 k) : ymm u q d = ymm σ q d := by
  have hf : ymf u d = ymf σ d := ymf_fr (h 52 d (by unfold ysr; omega)) (h 50 d (by unfold ysr; omega)) (h 51 d (by unfold ysr; omega))
  unfold ymm
  rw [hf, h 47 _ (by unfold ysr; omega), h 49 _ (by unfold ysr; omega), h 65 _ (by unfold ysr; omega), h 30 1 (by unfold ysr; omega), h 67 _ (by unfold ysr; omega)]
theorem ywt_fr {σ u : zS} {k : Nat} (h : ∀ κ k, ¬ ysr κ 0 k → u κ 0 k = σ κ 0 k) : ywt u k = ywt σ k := by
  unfold ywt
  rw [h 64 _ (by unfold ysr; omega), h 65 _ (by unfold ysr; omega)]
theorem ylc_fr {σ u : zS} (h : ∀ κ k, ¬ ysr κ 0 k → u κ 0 k = σ κ 0 k) : ∀ n, ylc u n = ylc σ n
  | 0 => rfl
  | n + 1 => by rw [ylc_s, ylc_s, ylc_fr h n, ywt_fr h]
theorem yWF_sr {t u : zS} {nd nr ns : Nat} {c B : Int} (h : yWF t nd nr ns c B) (e : ∀ κ k, ¬ ysr κ 0 k → u κ 0 k = t κ 0 k) : yWF u nd nr ns c B :=
  yWF_fr h (fun κ k hk => e κ k (by unfold yWk at hk; unfold ysr; omega)) (Int.le_refl _) (by rw [e 30 17 (by unfold ysr; omega)]; exact h.1.2.2.2.2.1)
theorem ymm_ok {σ : zS} {nd nr ns : Nat} {c B : Int} (h : yWF σ nd nr ns c B) {as : Nat → Nat} (has : yasOK σ nr as) : ∀ k d, k < ylc σ nr → d < nd → -1 ≤ ymm σ (as k) d ∧ ymm σ (as k) d ≤ 100000 := fun k d hk hd => by
  obtain ⟨h1, h2, h3⟩ := yas_ex has hk
  have h4 := (h.2.2.1 _ h1).1
  have h5 := (h.2.1 d hd).1.1
  exact ymm_rg σ _ d (yWF_w h _ _ (by omega) (by omega)).1
/-- one by one they are given -/
noncomputable def yGV (as bs : Nat → Nat) (nd : Nat) : Nat → zS → zS
  | 0, t => t
  | i + 1, t => if bs i < nd then ygi (yGV as bs nd i t) (as i) (bs i) else yGV as bs nd i t
def yGN (bs : Nat → Nat) (nd : Nat) : Nat → Nat
  | 0 => 0
  | i + 1 => if bs i < nd then yGN bs nd i + 1 else yGN bs nd i
theorem yGN_le (bs : Nat → Nat) (nd : Nat) : ∀ i, yGN bs nd i ≤ i
  | 0 => Nat.le_refl 0
  | i + 1 => by
    have ih := yGN_le bs nd i
    by_cases c : bs i < nd
    · rw [show yGN bs nd (i + 1) = yGN bs nd i + 1 from if_pos c]; omega
    · rw [show yGN bs nd (i + 1) = yGN bs nd i from if_neg c]; omega
/-- what a gift leaves as it was -/
def ygl (q d κ k : Nat) : Prop := ¬ ((κ = 49 ∨ κ = 52 ∨ κ = 55 ∨ κ = 56 ∨ κ = 61 ∨ κ = 62) ∧ k = d) ∧ ¬ ((κ = 53 ∨ κ = 54) ∧ 8 * d ≤ k ∧ k < 8 * d + 8) ∧ ¬ ((κ = 64 ∨ κ = 70 ∨ κ = 71 ∨ κ = 72 ∨ κ = 73) ∧ k = q) ∧ ¬ (κ = 30 ∧ k = 17)
theorem ymt_gl {t : zS} {d n q κ k : Nat} (hn : n ≤ 8) (hw : t 54 0 (8 * d) = (q : Int) ∨ t 54 0 (8 * d) = 100 + (q : Int)) (hq : q < 60) (h : ygl q d κ k) : ymt t d n κ 0 k = t κ 0 k := by
  unfold ygl at h
  by_cases c : κ = 64 ∨ κ = 72
  · unfold ymt
    split
    · rw [zu_ne (by omega), zu_ne (by omega), zu_ne (by omega), zu_ne (by omega), zu_ne (by omega), yms_fr (by omega), zu_ne (by omega)]
    · split
      · rw [zu_ne (by omega), zu_ne (by omega), yms_fr (by omega), zu_ne (by omega)]
      · rw [zu_ne (by omega), yms_fr (by omega), zu_ne (by omega)]
  · exact ymt_el hn (by unfold yel; omega)
theorem yLV_gl {d q κ k : Nat} (hq : q < 60) (h : ygl q d κ k) : ∀ (n : Nat) (t : zS), n ≤ 8 → (∀ j, j < n → t 54 0 (8 * d + j) = (q : Int) ∨ t 54 0 (8 * d + j) = 100 + (q : Int)) → yLV d n t κ 0 k = t κ 0 k
  | 0, _, _, _ => rfl
  | n + 1, t, hn, hw => by
    have e : zu t 55 0 d (t 30 0 1 + ywy t d) κ 0 k = t κ 0 k := by
      unfold ygl at h
      rw [zu_ne (by omega)]
    have h0 := hw 0 (by omega)
    show (if _ then _ else _ : zS) κ 0 k = _
    split
    · rw [yLV_gl hq h n _ (by omega) (fun j hj => ?_), ymt_gl (by omega) ?_ hq h, e]
      · rw [zu_ne (by omega)]; exact h0
      · rw [ymt_st _ d n (Or.inr rfl) hj, zu_ne (by omega)]
        exact hw (j + 1) (by omega)
    · exact e
theorem ybf_f2 {σ : zS} {d κ k : Nat} (h : ¬ (κ = 56 ∧ k = d) ∧ ¬ (κ = 30 ∧ k = 17)) : ybf σ d κ 0 k = σ κ 0 k := by
  unfold ybf
  split
  · rw [zu_ne (by omega), zu_ne (by omega)]
  · rfl
theorem ygi_gl {t : zS} {q d κ k : Nat} (hq : q < 60) (h : ygl q d κ k) : ygi t q d κ 0 k = t κ 0 k := by
  obtain ⟨⟨p0, p1⟩, ⟨w0, w1⟩, n2, s1, d1, t1, r1⟩ := ygm_at (t := t) (d := d) (q := q)
  unfold ygi
  have h2 := h
  unfold ygl at h2
  rw [ybf_f2 (by omega), yLV_gl hq h 2 _ (by decide) (fun j hj => by
    rcases (show j = 0 ∨ j = 1 by omega) with rfl | rfl
    · exact Or.inl w0
    · exact Or.inr w1), ygm_fr (by omega)]
theorem ymf_gl {t : zS} {q d d' : Nat} (hq : q < 60) (hd : d' ≠ d) : ymf (ygi t q d) d' = ymf t d' := ymf_fr (ygi_gl hq (by unfold ygl; omega)) (ygi_gl hq (by unfold ygl; omega)) (ygi_gl hq (by unfold ygl; omega))
/-- gifts that are good: as and bs are apart, the drivers FREE, the requests WAIT, there are ways -/
def yGok (t : zS) (as bs : Nat → Nat) (nd nr n : Nat) : Prop := (∀ j, j < n → as j < nr ∧ t 64 0 (as j) = 0 ∧ (bs j < nd → ymf t (bs j) ∧ t 47 0 (10 * (t 49 0 (bs j)).toNat + (t 65 0 (as j)).toNat) < 100000)) ∧ (∀ i j, i < n → j < n → i ≠ j → as i ≠ as j ∧ (bs i < nd → bs i ≠ bs j))
theorem yGV_ok {t : zS} {as bs : Nat → Nat} {nd nr ns n : Nat} {c B : Int} (h : yWF t nd nr ns c B) (hg : yGok t as bs nd nr n) : ∀ i : Nat, i ≤ n → yWF (yGV as bs nd i t) nd nr ns c (B + i) ∧ (∀ κ k, (κ = 75 ∨ κ = 77 ∨ κ = 65 ∨ κ = 47 ∨ κ = 66 ∨ (κ = 30 ∧ k ≠ 17)) → yGV as bs nd i t κ 0 k = t κ 0 k) ∧ ∀ j, i ≤ j → j < n → yGV as bs nd i t 64 0 (as j) = 0 ∧ (bs j < nd → ymf (yGV as bs nd i t) (bs j) ∧ yGV as bs nd i t 49 0 (bs j) = t 49 0 (bs j))
  | 0, _ => ⟨yWF_B h (Int.le_refl _) (by omega), fun _ _ _ => rfl, fun j _ hj => ⟨(hg.1 j hj).2.1, fun hb => ⟨((hg.1 j hj).2.2 hb).1, rfl⟩⟩⟩
  | i + 1, hi => by
    obtain ⟨h1, h2, h3⟩ := yGV_ok h hg i (by omega)
    obtain ⟨h4, h5⟩ := h3 i (Nat.le_refl _) (by omega)
    obtain ⟨g1, g2, g3⟩ := hg.1 i (by omega)
    have hnr := h.1.1.2.1
    by_cases c : bs i < nd
    · obtain ⟨h6, h7⟩ := h5 c
      obtain ⟨g4, g5⟩ := g3 c
      have e : yGV as bs nd (i + 1) t = ygi (yGV as bs nd i t) (as i) (bs i) := if_pos c
      rw [e]
      refine ⟨yWF_B (yWF_gi h1 c g1 h4 h6.1 (by rw [h7, h2 65 _ (by omega), h2 47 _ (by omega)]; exact g5)) (Int.le_refl _) (by omega), fun κ k hk => ?_, fun j hj hjn => ?_⟩
      · rw [ygi_gl (by omega) (by unfold ygl; omega)]
        exact h2 κ k hk
      · obtain ⟨h8, h9⟩ := h3 j (by omega) hjn
        obtain ⟨g6, g7⟩ := hg.2 i j (by omega) hjn (by omega)
        have g8 := g7 c
        refine ⟨by rw [ygi_gl (by omega) (by unfold ygl; omega)]; exact h8, fun hb => ?_⟩
        rw [ymf_gl (by omega) (fun e => g8 e.symm), ygi_gl (by omega) (by unfold ygl; omega)]
        exact h9 hb
    · have e : yGV as bs nd (i + 1) t = yGV as bs nd i t := if_neg c
      rw [e]
      exact ⟨yWF_B h1 (Int.le_refl _) (by omega), h2, fun j hj hjn => h3 j (by omega) hjn⟩
/-- the drivers whom the first best way gives -/
def ybs (mn : Nat → Nat → Int) (nd n k : Nat) : Nat := ydg (nd + 1) (yG mn nd n n 0) (n - 1 - k)
theorem yGok_of {σ t : zS} {nd nr ns : Nat} {c B : Int} (h : yWF σ nd nr ns c B) {as : Nat → Nat} (has : yasOK σ nr as) (h5 : ylc σ nr ≤ 5) (e : ∀ κ k, ¬ ysr κ 0 k → t κ 0 k = σ κ 0 k) : yGok t as (ybs (fun k d => ymm σ (as k) d) nd (ylc σ nr)) nd nr (ylc σ nr) := by
  have hv := (ybb_G (mn := fun k d => ymm σ (as k) d) (nd := nd) (ymm_ok h has) h5).2
  refine ⟨fun j hj => ?_, fun i j hi hj hij => ⟨fun he => ?_, fun hb he => ?_⟩⟩
  · obtain ⟨a1, a2, a3⟩ := yas_ex has hj
    refine ⟨a1, by rw [e 64 _ (by unfold ysr; omega)]; exact a2.1, fun hb => ?_⟩
    have h1 := (hv j hj hb).1
    have h1 : ymm σ (as j) (ybs (fun k d => ymm σ (as k) d) nd (ylc σ nr) j) ≠ -1 := h1
    rw [ymf_fr (e 52 _ (by unfold ysr; omega)) (e 50 _ (by unfold ysr; omega)) (e 51 _ (by unfold ysr; omega)), e 47 _ (by unfold ysr; omega), e 49 _ (by unfold ysr; omega), e 65 _ (by unfold ysr; omega)]
    unfold ymm at h1
    split at h1
    · rename_i hc; exact ⟨hc.1, hc.2.1⟩
    · exact absurd rfl h1
  · have h1 := (yas_ex has hi).2.2
    have h2 := (yas_ex has hj).2.2
    rw [he] at h1
    omega
  · exact (hv i hi hb).2 j hj (fun c => hij c.symm) he.symm

theorem ylc_lt {σ : zS} {k nr : Nat} (hk : k < nr) (hw : ywt σ k) : ylc σ k < ylc σ nr := by
  have h1 : ylc σ (k + 1) = ylc σ k + 1 := by rw [ylc_s, if_pos hw]
  have h2 := ylc_mono (σ := σ) (a := k + 1) nr (by omega)
  omega
