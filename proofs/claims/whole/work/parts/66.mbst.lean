/-! best and match, in the model -/
def ysr (κ _i k : Nat) : Prop := κ = 75 ∨ κ = 76 ∨ κ = 77 ∨ (κ = 30 ∧ (k = 0 ∨ k = 38))
def yasOK (σ : zS) (nr : Nat) (as : Nat → Nat) : Prop := ∀ k, k < nr → ywt σ k → as (ylc σ k) = k
theorem ylc_s {σ : zS} {n : Nat} : ylc σ (n + 1) = @ite Nat (ywt σ n) (Classical.propDecidable _) (ylc σ n + 1) (ylc σ n) := rfl
theorem ylc_sur {σ : zS} : ∀ {nr j : Nat}, j < ylc σ nr → ∃ k, k < nr ∧ ywt σ k ∧ ylc σ k = j
  | 0, j, h => absurd h (Nat.not_lt_zero j)
  | n + 1, j, h => by
    by_cases c : ywt σ n
    · rw [ylc_s, if_pos c] at h
      by_cases e : j = ylc σ n
      · exact ⟨n, by omega, c, e.symm⟩
      · obtain ⟨k, h1, h2⟩ := ylc_sur (show j < ylc σ n by omega)
        exact ⟨k, by omega, h2⟩
    · rw [ylc_s, if_neg c] at h
      obtain ⟨k, h1, h2⟩ := ylc_sur h
      exact ⟨k, by omega, h2⟩
theorem yas_ex {σ : zS} {nr j : Nat} {as : Nat → Nat} (h : yasOK σ nr as) (hj : j < ylc σ nr) : as j < nr ∧ ywt σ (as j) ∧ ylc σ (as j) = j := by
  obtain ⟨k, h1, h2, h3⟩ := ylc_sur hj
  have e := h k h1 h2
  rw [h3] at e
  rw [e]
  exact ⟨h1, h2, h3⟩
theorem ymm_fr {σ u : zS} {q d : Nat} (h : ∀ κ k, ¬ ysr κ 0 k → u κ 0 k = σ κ 0 k) : ymm u q d = ymm σ q d := by
  have hf : ymf u d = ymf σ d := ymf_fr (h 52 d (by unfold ysr; omega)) (h 50 d (by unfold ysr; omega)) (h 51 d (by unfold ysr; omega))
  unfold ymm
  rw [hf, h 47 _ (by unfold ysr; omega), h 49 _ (by unfold ysr; omega), h 65 _ (by unfold ysr; omega), h 30 1 (by unfold ysr; omega), h 67 _ (by unfold ysr; omega)]
theorem ywt_fr {σ u : zS} {k : Nat} (h : ∀ κ k, ¬ ysr κ 0 k → u κ 0 k = σ κ 0 k) : ywt u k = ywt σ k := by
  unfold ywt
  rw [h 64 _ (by unfold ysr; omega), h 65 _ (by unfold ysr; omega)]
theorem ylc_fr {σ u : zS} (h : ∀ κ k, ¬ ysr κ 0 k → u κ 0 k = σ κ 0 k) : ∀ n, ylc u n = ylc σ n
  | 0 => rfl
  | n + 1 => by rw [ylc_s, ylc_s, ylc_fr h n, ywt_fr h]
theorem yWF_sr {t u : zS} {nd nr ns : Nat} {c B : Int} (h : yWF t nd nr ns c B) (e : ∀ κ k, ¬ ysr κ 0 k → u κ 0 k = t κ 0 k) : yWF u nd nr ns c B :=
  yWF_fr h (fun κ k hk => e κ k (by unfold yWk at hk; unfold ysr; omega)) (Int.le_refl _) (by rw [e 30 17 (by unfold ysr; omega)]; exact h.1.2.2.2.2.1)
theorem ymm_ok {σ : zS} {nd nr ns : Nat} {c B : Int} (h : yWF σ nd nr ns c B) {as : Nat → Nat} (has : yasOK σ nr as) : ∀ k d, k < ylc σ nr → d < nd → -1 ≤ ymm σ (as k) d ∧ ymm σ (as k) d ≤ 100000 := fun k d hk hd => by
  obtain ⟨h1, h2, h3⟩ := yas_ex has hk
  have h4 := (h.2.2.1 _ h1).1
  have h5 := (h.2.1 d hd).1.1
  exact ymm_rg σ _ d (yWF_w h _ _ (by omega) (by omega)).1
/-- one by one they are given -/
noncomputable def yGV (as bs : Nat → Nat) (nd : Nat) : Nat → zS → zS
  | 0, t => t
  | i + 1, t => if bs i < nd then ygi (yGV as bs nd i t) (as i) (bs i) else yGV as bs nd i t
def yGN (bs : Nat → Nat) (nd : Nat) : Nat → Nat
  | 0 => 0
  | i + 1 => if bs i < nd then yGN bs nd i + 1 else yGN bs nd i
theorem yGN_le (bs : Nat → Nat) (nd : Nat) : ∀ i, yGN bs nd i ≤ i
  | 0 => Nat.le_refl 0
  | i + 1 => by
    have ih := yGN_le bs nd i
    by_cases c : bs i < nd
    · rw [show yGN bs nd (i + 1) = yGN bs nd i + 1 from if_pos c]; omega
    · rw [show yGN bs nd (i + 1) = yGN bs nd i from if_neg c]; omega
/-- what a gift leaves as it was -/
def ygl (q d κ k : Nat) : Prop := ¬ ((κ = 49 ∨ κ = 52 ∨ κ = 55 ∨ κ = 56 ∨ κ = 61 ∨ κ = 62) ∧ k = d) ∧ ¬ ((κ = 53 ∨ κ = 54) ∧ 8 * d ≤ k ∧ k < 8 * d + 8) ∧ ¬ ((κ = 64 ∨ κ = 70 ∨ κ = 71 ∨ κ = 72 ∨ κ = 73) ∧ k = q) ∧ ¬ (κ = 30 ∧ k = 17)
theorem ymt_gl {t : zS} {d n q κ k : Nat} (hn : n ≤ 8) (hw : t 54 0 (8 * d) = (q : Int) ∨ t 54 0 (8 * d) = 100 + (q : Int)) (hq : q < 60) (h : ygl q d κ k) : ymt t d n κ 0 k = t κ 0 k := by
  unfold ygl at h
  by_cases c : κ = 64 ∨ κ = 72
  · unfold ymt
    split
    · rw [zu_ne (by omega), zu_ne (by omega), zu_ne (by omega), zu_ne (by omega), zu_ne (by omega), yms_fr (by omega), zu_ne (by omega)]
    · split
      · rw [zu_ne (by omega), zu_ne (by omega), yms_fr (by omega), zu_ne (by omega)]
      · rw [zu_ne (by omega), yms_fr (by omega), zu_ne (by omega)]
  · exact ymt_el hn (by unfold yel; omega)
theorem yLV_gl {d q κ k : Nat} (hq : q < 60) (h : ygl q d κ k) : ∀ (n : Nat) (t : zS), n ≤ 8 → (∀ j, j < n → t 54 0 (8 * d + j) = (q : Int) ∨ t 54 0 (8 * d + j) = 100 + (q : Int)) → yLV d n t κ 0 k = t κ 0 k
  | 0, _, _, _ => rfl
  | n + 1, t, hn, hw => by
    have e : zu t 55 0 d (t 30 0 1 + ywy t d) κ 0 k = t κ 0 k := by
      unfold ygl at h
      rw [zu_ne (by omega)]
    have h0 := hw 0 (by omega)
    show (if _ then _ else _ : zS) κ 0 k = _
    split
    · rw [yLV_gl hq h n _ (by omega) (fun j hj => ?_), ymt_gl (by omega) ?_ hq h, e]
      · rw [zu_ne (by omega)]; exact h0
      · rw [ymt_st _ d n (Or.inr rfl) hj, zu_ne (by omega)]
        exact hw (j + 1) (by omega)
    · exact e
theorem ybf_f2 {σ : zS} {d κ k : Nat} (h : ¬ (κ = 56 ∧ k = d) ∧ ¬ (κ = 30 ∧ k = 17)) : ybf σ d κ 0 k = σ κ 0 k := by
  unfold ybf
  split
  · rw [zu_ne (by omega), zu_ne (by omega)]
  · rfl
theorem ygi_gl {t : zS} {q d κ k : Nat} (hq : q < 60) (h : ygl q d κ k) : ygi t q d κ 0 k = t κ 0 k := by
  obtain ⟨⟨p0, p1⟩, ⟨w0, w1⟩, n2, s1, d1, t1, r1⟩ := ygm_at (t := t) (d := d) (q := q)
  unfold ygi
  have h2 := h
  unfold ygl at h2
  rw [ybf_f2 (by omega), yLV_gl hq h 2 _ (by decide) (fun j hj => by
    rcases (show j = 0 ∨ j = 1 by omega) with rfl | rfl
    · exact Or.inl w0
    · exact Or.inr w1), ygm_fr (by omega)]
theorem ymf_gl {t : zS} {q d d' : Nat} (hq : q < 60) (hd : d' ≠ d) : ymf (ygi t q d) d' = ymf t d' := ymf_fr (ygi_gl hq (by unfold ygl; omega)) (ygi_gl hq (by unfold ygl; omega)) (ygi_gl hq (by unfold ygl; omega))
/-- gifts that are good: as and bs are apart, the drivers FREE, the requests WAIT, there are ways -/
def yGok (t : zS) (as bs : Nat → Nat) (nd nr n : Nat) : Prop := (∀ j, j < n → as j < nr ∧ t 64 0 (as j) = 0 ∧ (bs j < nd → ymf t (bs j) ∧ t 47 0 (10 * (t 49 0 (bs j)).toNat + (t 65 0 (as j)).toNat) < 100000)) ∧ (∀ i j, i < n → j < n → i ≠ j → as i ≠ as j ∧ (bs i < nd → bs i ≠ bs j))
theorem yGV_ok {t : zS} {as bs : Nat → Nat} {nd nr ns n : Nat} {c B : Int} (h : yWF t nd nr ns c B) (hg : yGok t as bs nd nr n) : ∀ i : Nat, i ≤ n → yWF (yGV as bs nd i t) nd nr ns c (B + i) ∧ (∀ κ k, (κ = 75 ∨ κ = 77 ∨ κ = 65 ∨ κ = 47 ∨ κ = 66 ∨ (κ = 30 ∧ k ≠ 17)) → yGV as bs nd i t κ 0 k = t κ 0 k) ∧ ∀ j, i ≤ j → j < n → yGV as bs nd i t 64 0 (as j) = 0 ∧ (bs j < nd → ymf (yGV as bs nd i t) (bs j) ∧ yGV as bs nd i t 49 0 (bs j) = t 49 0 (bs j))
  | 0, _ => ⟨yWF_B h (Int.le_refl _) (by omega), fun _ _ _ => rfl, fun j _ hj => ⟨(hg.1 j hj).2.1, fun hb => ⟨((hg.1 j hj).2.2 hb).1, rfl⟩⟩⟩
  | i + 1, hi => by
    obtain ⟨h1, h2, h3⟩ := yGV_ok h hg i (by omega)
    obtain ⟨h4, h5⟩ := h3 i (Nat.le_refl _) (by omega)
    obtain ⟨g1, g2, g3⟩ := hg.1 i (by omega)
    have hnr := h.1.1.2.1
    by_cases c : bs i < nd
    · obtain ⟨h6, h7⟩ := h5 c
      obtain ⟨g4, g5⟩ := g3 c
      have e : yGV as bs nd (i + 1) t = ygi (yGV as bs nd i t) (as i) (bs i) := if_pos c
      rw [e]
      refine ⟨yWF_B (yWF_gi h1 c g1 h4 h6.1 (by rw [h7, h2 65 _ (by omega), h2 47 _ (by omega)]; exact g5)) (Int.le_refl _) (by omega), fun κ k hk => ?_, fun j hj hjn => ?_⟩
      · rw [ygi_gl (by omega) (by unfold ygl; omega)]
        exact h2 κ k hk
      · obtain ⟨h8, h9⟩ := h3 j (by omega) hjn
        obtain ⟨g6, g7⟩ := hg.2 i j (by omega) hjn (by omega)
        have g8 := g7 c
        refine ⟨by rw [ygi_gl (by omega) (by unfold ygl; omega)]; exact h8, fun hb => ?_⟩
        rw [ymf_gl (by omega) (fun e => g8 e.symm), ygi_gl (by omega) (by unfold ygl; omega)]
        exact h9 hb
    · have e : yGV as bs nd (i + 1) t = yGV as bs nd i t := if_neg c
      rw [e]
      exact ⟨yWF_B h1 (Int.le_refl _) (by omega), h2, fun j hj hjn => h3 j (by omega) hjn⟩
/-- the drivers whom the first best way gives -/
def ybs (mn : Nat → Nat → Int) (nd n k : Nat) : Nat := ydg (nd + 1) (yG mn nd n n 0) (n - 1 - k)
theorem yGok_of {σ t : zS} {nd nr ns : Nat} {c B : Int} (h : yWF σ nd nr ns c B) {as : Nat → Nat} (has : yasOK σ nr as) (h5 : ylc σ nr ≤ 5) (e : ∀ κ k, ¬ ysr κ 0 k → t κ 0 k = σ κ 0 k) : yGok t as (ybs (fun k d => ymm σ (as k) d) nd (ylc σ nr)) nd nr (ylc σ nr) := by
  have hv := (ybb_G (mn := fun k d => ymm σ (as k) d) (nd := nd) (ymm_ok h has) h5).2
  refine ⟨fun j hj => ?_, fun i j hi hj hij => ⟨fun he => ?_, fun hb he => ?_⟩⟩
  · obtain ⟨a1, a2, a3⟩ := yas_ex has hj
    refine ⟨a1, by rw [e 64 _ (by unfold ysr; omega)]; exact a2.1, fun hb => ?_⟩
    have h1 := (hv j hj hb).1
    have h1 : ymm σ (as j) (ybs (fun k d => ymm σ (as k) d) nd (ylc σ nr) j) ≠ -1 := h1
    rw [ymf_fr (e 52 _ (by unfold ysr; omega)) (e 50 _ (by unfold ysr; omega)) (e 51 _ (by unfold ysr; omega)), e 47 _ (by unfold ysr; omega), e 49 _ (by unfold ysr; omega), e 65 _ (by unfold ysr; omega)]
    unfold ymm at h1
    split at h1
    · rename_i hc; exact ⟨hc.1, hc.2.1⟩
    · exact absurd rfl h1
  · have h1 := (yas_ex has hi).2.2
    have h2 := (yas_ex has hj).2.2
    rw [he] at h1
    omega
  · exact (hv i hi hb).2 j hj (fun c => hij c.symm) he.symm

theorem ylc_lt {σ : zS} {k nr : Nat} (hk : k < nr) (hw : ywt σ k) : ylc σ k < ylc σ nr := by
  have h1 : ylc σ (k + 1) = ylc σ k + 1 := by rw [ylc_s, if_pos hw]
  have h2 := ylc_mono (σ := σ) (a := k + 1) nr (by omega)
  omega

set_option maxHeartbeats 4000000 in
set_option maxRecDepth 100000 in
theorem c_X7_best (l : Launch) (G : zG) (ad : zA) (A : Nat → Prop) (N0 : Nat) (σ : zS) (hM : zMm ad) (nd nr ns : Nat) (c9 B9 : Int) (hWF : yWF σ nd nr ns c9 B9) (hB9 : B9 ≤ 1000000) : Met l yX7_best wsX7_best ({ frames := 2, cells := 0, slots := 0, locals := 52 }) (zP G ad A N0 σ [zr ad 30 ((0 : Nat) : Int)]) (zQ G ad A zri (fun r u => (5 < ylc σ nr ∧ 0 = r ∧ u 30 0 0 = 1 ∧ zfr ysr σ u) ∨ (ylc σ nr ≤ 5 ∧ u 30 0 0 = 0 ∧ zfr ysr σ u ∧ ∃ as, yasOK σ nr as ∧ yB (fun k d => ymm σ (as k) d) nd (ylc σ nr) (ylc σ nr) 0 = r))) 0 0 A := by
  refine zz_of (cc := cX7_best) (maxL := 2) (ret := (some .int)) (by decide) rfl ⟨rfl, rfl⟩ (List.forall_mem_cons.mpr ⟨zr_cat _ _ _, fun _ h => absurd h List.not_mem_nil⟩) (Nat.le_of_ble_eq_true rfl) ?_
  intro p e s m below meth c hx hb hr hml hts hown hlocks hsz hW0 hK ls hl
  have hS0 : va_S A s.heap s.heap [] := va_S.rf
  have hl : zh ls 2 [(0, zr ad 30 ((0 : Nat) : Int))] := hl
  have hinX7 : ∀ w ∈ u_ws RX7 TX7 42, w ∈ wsX7_best := by decide +kernel
  have h8 := hWF.1.2.1.1
  have h23 := hWF.1.2.1.2.1
  have hnd := hWF.1.1.1
  have hnr := hWF.1.1.2.1
  have hnow := hWF.1.2.2.1
  have hord := hWF.1.2.2.2.2.1
  refine zz_aload_n hx hb hl 0 dX7_best_0 rfl rfl ?_
  refine zz_callV (T := TX7) (N := 42) (As := []) (rest := []) (v := ((0 : Nat) : Int)) (κ := 30) ⟨hx, hb, hml, hown, hts⟩ (c_X7_lay l G ad A N0 σ hM nd nr hnd hnr h8 h23) (cwV 0 hts gX7_best_X7_lay rfl rfl rfl (by decide +kernel) ⟨Nat.le_of_ble_eq_true rfl, Nat.le_of_ble_eq_true rfl⟩) hK hW0 (zlN (hM 30 rfl)) rfl rfl (Nat.le_trans hsz hS0.1) hS0 rfl hl.1.1 rfl (Nat.le_of_ble_eq_true rfl) dX7_best_1 ⟨Nat.le_of_ble_eq_true rfl, Nat.le_of_ble_eq_true rfl⟩ (fun x1 σ1 H1 locs1 hp1 hW1 hz1 hS1 => ?_)
  obtain ⟨rfl, hl75, hlf⟩ := hp1
  have hlz := ylc_le σ nr
  refine W.eq (g2 := F0 m 4 ls [.int (zi ((ylc σ nr : Nat) : Int))]) rfl ?_
  refine zz_istore_n (lv' := [(1, .int (zi ((ylc σ nr : Nat) : Int))), (0, zr ad 30 ((0 : Nat) : Int))]) hx hb hl dX7_best_4 rfl (by decide) rfl (fun ls hl => ?_)
  refine zz_aload_n hx hb hl 1 dX7_best_5 rfl rfl ?_
  refine zz_iload_n hx hb hl 0 dX7_best_6 rfl rfl ?_
  refine zz_iconst hx hb dX7_best_7 ?_
  refine zz_icmp_le (tgt := 15) hx hb dX7_best_8 (by decide) ⟨by omega, by omega⟩ ⟨by decide, by decide⟩ (fun hc8 => ?_) (fun hc8 => ?_)
  · refine zz_iconst hx hb dX7_best_15 ?_
    refine zz_callV (T := TX7) (N := 42) (As := [.int (zi 0)]) (rest := []) (v := ((0 : Nat) : Int)) (κ := 30) ⟨hx, hb, hml, hown, hts⟩ (c_X7_refused l G ad A N0 σ1 hM (0) ⟨by decide, by decide⟩) (cwV 1 hts gX7_best_X7_refused rfl rfl rfl (by decide +kernel) ⟨Nat.le_of_ble_eq_true rfl, Nat.le_of_ble_eq_true rfl⟩) hK hW1 (zlN (hM 30 rfl)) rfl rfl (Nat.le_trans hsz hS1.1) hS1 rfl hl.1.1 rfl (Nat.le_of_ble_eq_true rfl) dX7_best_16 ⟨Nat.le_of_ble_eq_true rfl, Nat.le_of_ble_eq_true rfl⟩ (fun x2 σ2 H2 locs2 hp2 hW2 hz2 hS2 => ?_)
    have hs2 : σ2 = zu σ1 30 0 0 (0) := hp2.1.symm
    obtain rfl := hp2.2
    refine W.eq (g2 := F0 m 19 ls [.int (zi (zb ((0 : Int) ≠ 0)))]) rfl ?_
    refine zz_if_eqb (tgt := 24) hx hb dX7_best_19 (by decide) (fun hc19 => ?_) (fun hc19 => ?_)
    · have hv9 : ∀ κ k, ¬ ysr κ 0 k → σ2 κ 0 k = σ κ 0 k := fun κ k h => by
        unfold ysr at h
        rw [hs2, zu_ne (by omega)]
        exact hlf κ 0 k (by omega)
      have e75 : ∀ k, σ2 75 0 k = σ1 75 0 k := fun k => by rw [hs2, zu_ne (by omega)]
      have has : yasOK σ nr (fun k => (σ2 75 0 k).toNat) := fun k hk hw => by
        have h9 : ylc σ k < ylc σ nr := ylc_lt hk hw
        show (σ2 75 0 (ylc σ k)).toNat = k
        rw [e75, hl75 k hk hw (by omega)]
        exact Int.toNat_natCast k
      have has0 : ∀ k, k < ylc σ nr → 0 ≤ σ2 75 0 k := fun j hj => by
        obtain ⟨k, h1, h2, h3⟩ := ylc_sur hj
        rw [e75, ← h3, hl75 k h1 h2 (by omega)]
        exact Int.natCast_nonneg k
      have hgg := ybb_G (mn := fun k d => ymm σ (σ2 75 0 k).toNat d) (nd := nd) (n := ylc σ nr) (ymm_ok hWF has) (by omega)
      have hmq : (fun k d => ymm σ2 (σ2 75 0 k).toNat d) = fun k d => ymm σ (σ2 75 0 k).toNat d := funext fun k => funext fun d => ymm_fr hv9
      refine zz_aload_n hx hb hl 1 dX7_best_24 rfl rfl ?_
      refine zz_iload_n hx hb hl 0 dX7_best_25 rfl rfl ?_
      refine zz_callV (T := TX7) (N := 42) (As := [.int (zi ((ylc σ nr : Nat) : Int))]) (rest := []) (v := ((0 : Nat) : Int)) (κ := 30) ⟨hx, hb, hml, hown, hts⟩ (c_X7_tryAll l G ad A N0 σ2 hM nd (ylc σ nr) hnd (by omega) (by rw [hv9 30 8 (by unfold ysr; omega)]; exact h8) (fun k hk => by
    obtain ⟨a1, a2, a3⟩ := yas_ex has hk
    have a4 := (hWF.2.2.1 _ a1).1
    have a5 : (σ2 75 0 k).toNat < nr := a1
    have a6 : 0 ≤ σ2 75 0 k := has0 k hk
    exact ⟨⟨by omega, by omega⟩, by rw [hv9 65 _ (by unfold ysr; omega)]; exact a4⟩) (fun d hd => by rw [hv9 49 _ (by unfold ysr; omega)]; exact (hWF.2.1 d hd).1.1) (fun a b ha hb => by rw [hv9 47 _ (by unfold ysr; omega)]; have h9 := yWF_w hWF a b ha hb; omega) (by rw [hv9 30 1 (by unfold ysr; omega)]; exact hnow)) (cwV 1 hts gX7_best_X7_tryAll rfl rfl rfl (by decide +kernel) ⟨Nat.le_of_ble_eq_true rfl, Nat.le_of_ble_eq_true rfl⟩) hK hW2 (zlN (hM 30 rfl)) rfl rfl (Nat.le_trans hsz hS2.1) hS2 rfl hl.1.1 rfl (Nat.le_of_ble_eq_true rfl) dX7_best_26 ⟨Nat.le_of_ble_eq_true rfl, Nat.le_of_ble_eq_true rfl⟩ (fun x3 σ3 H3 locs3 hp3 hW3 hz3 hS3 => ?_)
      obtain ⟨hb38, hb77, hbf⟩ := hp3
      rw [hmq, hgg.1] at hb38
      refine W.eq (g2 := F0 m 29 ls []) rfl ?_
      refine zz_aload_n hx hb hl 1 dX7_best_29 rfl rfl ?_
      refine zz_get (T := TX7) (N := 42) (k := 38) (κ := 30) (w := .int (zi (yB (fun k d => ymm σ (σ2 75 0 k).toNat d) nd (ylc σ nr) (ylc σ nr) 0))) hx hb hts hinX7 hown hK hW3 (zlN (hM 30 rfl)) rfl rfl rfl (by decide) (hts (.fieldLink RX7 188 "HailCityModel" "bestWorth" "I") (by decide +kernel)) (fun _ h9 => h9) (congrArg (fun z => Value.int (zi z)) hb38) dX7_best_30 ?_
      refine W.eq (g2 := F0 m 33 ls [.int (zi (yB (fun k d => ymm σ (σ2 75 0 k).toNat d) nd (ylc σ nr) (ylc σ nr) 0))]) rfl ?_
      refine zz_reti hx hb hr hlocks hW3 hS3 ?_ dX7_best_33
      refine Or.inr ⟨by omega, ?_, fun κ i k h => ?_, _, has, rfl⟩
      · rw [hbf 30 0 0 (by omega), hs2, zu_same]
      · unfold ysr at h
        rw [hbf κ i k (by omega), hs2, zu_ne (by omega)]
        exact hlf κ i k (by omega)
    · exact absurd rfl hc19
  · refine zz_iconst hx hb dX7_best_11 ?_
    refine zz_goto (tgt := 16) hx hb dX7_best_12 (by decide) ?_
    refine zz_callV (T := TX7) (N := 42) (As := [.int (zi 1)]) (rest := []) (v := ((0 : Nat) : Int)) (κ := 30) ⟨hx, hb, hml, hown, hts⟩ (c_X7_refused l G ad A N0 σ1 hM (1) ⟨by decide, by decide⟩) (cwV 1 hts gX7_best_X7_refused rfl rfl rfl (by decide +kernel) ⟨Nat.le_of_ble_eq_true rfl, Nat.le_of_ble_eq_true rfl⟩) hK hW1 (zlN (hM 30 rfl)) rfl rfl (Nat.le_trans hsz hS1.1) hS1 rfl hl.1.1 rfl (Nat.le_of_ble_eq_true rfl) dX7_best_16 ⟨Nat.le_of_ble_eq_true rfl, Nat.le_of_ble_eq_true rfl⟩ (fun x4 σ4 H4 locs4 hp4 hW4 hz4 hS4 => ?_)
    have hs4 : σ4 = zu σ1 30 0 0 (1) := hp4.1.symm
    obtain rfl := hp4.2
    refine W.eq (g2 := F0 m 19 ls [.int (zi (zb ((1 : Int) ≠ 0)))]) rfl ?_
    refine zz_if_eqb (tgt := 24) hx hb dX7_best_19 (by decide) (fun hc19 => ?_) (fun hc19 => ?_)
    · exact absurd (by decide) hc19
    · refine zz_iconst hx hb dX7_best_22 ?_
      refine W.eq (g2 := F0 m 23 ls [.int (zi 0)]) rfl ?_
      refine zz_reti hx hb hr hlocks hW4 hS4 ?_ dX7_best_23
      refine Or.inl ⟨by omega, rfl, by rw [hs4, zu_same], fun κ i k h => ?_⟩
      rw [hs4, zu_ne (by unfold ysr at h; omega)]
      exact hlf κ i k (by unfold ysr at h; omega)

set_option maxHeartbeats 4000000 in
set_option maxRecDepth 100000 in
theorem c_X7_bestAnew (l : Launch) (G : zG) (ad : zA) (A : Nat → Prop) (N0 : Nat) (σ : zS) (hM : zMm ad) (nd nr ns : Nat) (c9 B9 : Int) (hWF : yWF σ nd nr ns c9 B9) (hB9 : B9 ≤ 1000000) : Met l yX7_bestAnew wsX7_bestAnew ({ frames := 3, cells := 0, slots := 0, locals := 73 }) (zP G ad A N0 σ [zr ad 30 ((0 : Nat) : Int)]) (zQ G ad A zri (fun r u => (5 < ylc σ nr ∧ 0 = r ∧ u 30 0 0 = 1 ∧ zfr ysr σ u) ∨ (ylc σ nr ≤ 5 ∧ u 30 0 0 = 0 ∧ zfr ysr σ u ∧ ∃ as, yasOK σ nr as ∧ yB (fun k d => ymm σ (as k) d) nd (ylc σ nr) (ylc σ nr) 0 = r))) 0 0 A := by
  refine zz_of (cc := cX7_bestAnew) (maxL := 1) (ret := (some .int)) (by decide) rfl ⟨rfl, rfl⟩ (List.forall_mem_cons.mpr ⟨zr_cat _ _ _, fun _ h => absurd h List.not_mem_nil⟩) (Nat.le_of_ble_eq_true rfl) ?_
  intro p e s m below meth c hx hb hr hml hts hown hlocks hsz hW0 hK ls hl
  have hS0 : va_S A s.heap s.heap [] := va_S.rf
  have hl : zh ls 1 [(0, zr ad 30 ((0 : Nat) : Int))] := hl
  refine zz_aload_n hx hb hl 0 dX7_bestAnew_0 rfl rfl ?_
  refine zz_callV (T := TX7) (N := 42) (As := []) (rest := []) (v := ((0 : Nat) : Int)) (κ := 30) ⟨hx, hb, hml, hown, hts⟩ (c_X7_best l G ad A N0 σ hM nd nr ns c9 B9 hWF hB9) (cwV 0 hts gX7_bestAnew_X7_best rfl rfl rfl (by decide +kernel) ⟨Nat.le_of_ble_eq_true rfl, Nat.le_of_ble_eq_true rfl⟩) hK hW0 (zlN (hM 30 rfl)) rfl rfl (Nat.le_trans hsz hS0.1) hS0 rfl hl.1.1 rfl (Nat.le_of_ble_eq_true rfl) dX7_bestAnew_1 ⟨Nat.le_of_ble_eq_true rfl, Nat.le_of_ble_eq_true rfl⟩ (fun x1 σ1 H1 locs1 hp1 hW1 hz1 hS1 => ?_)
  refine W.eq (g2 := F0 m 4 ls [.int (zi x1)]) rfl ?_
  refine W.eq (g2 := F0 m 4 ls [.int (zi x1)]) rfl ?_
  refine zz_reti hx hb hr hlocks hW1 hS1 ?_ dX7_bestAnew_4
  exact hp1

set_option maxHeartbeats 4000000 in
set_option maxRecDepth 100000 in
theorem c_X7_match (l : Launch) (G : zG) (ad : zA) (A : Nat → Prop) (N0 : Nat) (σ : zS) (hM : zMm ad) (nd nr ns : Nat) (c9 B9 : Int) (hWF : yWF σ nd nr ns c9 B9) (hB9 : B9 ≤ 1000000) : Met l yX7_match wsX7_match ({ frames := 4, cells := 0, slots := 0, locals := 86 }) (zP G ad A N0 σ [zr ad 30 ((0 : Nat) : Int)]) (zQ G ad A zri (fun r u => (5 < ylc σ nr ∧ 0 = r ∧ u 30 0 0 = 1 ∧ zfr ysr σ u) ∨ (ylc σ nr ≤ 5 ∧ ∃ (as : Nat → Nat) (v : zS), yasOK σ nr as ∧ zfr ysr σ v ∧ v 30 0 0 = 0 ∧ (yGN (ybs (fun k d => ymm σ (as k) d) nd (ylc σ nr)) nd (ylc σ nr) : Int) = r ∧ u = yGV as (ybs (fun k d => ymm σ (as k) d) nd (ylc σ nr)) nd (ylc σ nr) v))) 0 0 A := by
  refine zz_of (cc := cX7_match) (maxL := 4) (ret := (some .int)) (by decide) rfl ⟨rfl, rfl⟩ (List.forall_mem_cons.mpr ⟨zr_cat _ _ _, fun _ h => absurd h List.not_mem_nil⟩) (Nat.le_of_ble_eq_true rfl) ?_
  intro p e s m below meth c hx hb hr hml hts hown hlocks hsz hW0 hK ls hl
  have hS0 : va_S A s.heap s.heap [] := va_S.rf
  have hl : zh ls 4 [(0, zr ad 30 ((0 : Nat) : Int))] := hl
  have hinX7 : ∀ w ∈ u_ws RX7 TX7 42, w ∈ wsX7_match := by decide +kernel
  have h8 := hWF.1.2.1.1
  have h23 := hWF.1.2.1.2.1
  have hnd := hWF.1.1.1
  have hnr := hWF.1.1.2.1
  have hnow := hWF.1.2.2.1
  have hord := hWF.1.2.2.2.2.1
  refine zz_aload_n hx hb hl 0 dX7_match_0 rfl rfl ?_
  refine zz_callV (T := TX7) (N := 42) (As := []) (rest := []) (v := ((0 : Nat) : Int)) (κ := 30) ⟨hx, hb, hml, hown, hts⟩ (c_X7_lay l G ad A N0 σ hM nd nr hnd hnr h8 h23) (cwV 0 hts gX7_match_X7_lay rfl rfl rfl (by decide +kernel) ⟨Nat.le_of_ble_eq_true rfl, Nat.le_of_ble_eq_true rfl⟩) hK hW0 (zlN (hM 30 rfl)) rfl rfl (Nat.le_trans hsz hS0.1) hS0 rfl hl.1.1 rfl (Nat.le_of_ble_eq_true rfl) dX7_match_1 ⟨Nat.le_of_ble_eq_true rfl, Nat.le_of_ble_eq_true rfl⟩ (fun x1 σ1 H1 locs1 hp1 hW1 hz1 hS1 => ?_)
  obtain ⟨rfl, hl75, hlf⟩ := hp1
  have hlz := ylc_le σ nr
  refine W.eq (g2 := F0 m 4 ls [.int (zi ((ylc σ nr : Nat) : Int))]) rfl ?_
  refine zz_istore_n (lv' := [(1, .int (zi ((ylc σ nr : Nat) : Int))), (0, zr ad 30 ((0 : Nat) : Int))]) hx hb hl dX7_match_4 rfl (by decide) rfl (fun ls hl => ?_)
  refine zz_aload_n hx hb hl 1 dX7_match_5 rfl rfl ?_
  refine zz_iload_n hx hb hl 0 dX7_match_6 rfl rfl ?_
  refine zz_iconst hx hb dX7_match_7 ?_
  refine zz_icmp_le (tgt := 15) hx hb dX7_match_8 (by decide) ⟨by omega, by omega⟩ ⟨by decide, by decide⟩ (fun hc8 => ?_) (fun hc8 => ?_)
  · refine zz_iconst hx hb dX7_match_15 ?_
    refine zz_callV (T := TX7) (N := 42) (As := [.int (zi 0)]) (rest := []) (v := ((0 : Nat) : Int)) (κ := 30) ⟨hx, hb, hml, hown, hts⟩ (c_X7_refused l G ad A N0 σ1 hM (0) ⟨by decide, by decide⟩) (cwV 1 hts gX7_match_X7_refused rfl rfl rfl (by decide +kernel) ⟨Nat.le_of_ble_eq_true rfl, Nat.le_of_ble_eq_true rfl⟩) hK hW1 (zlN (hM 30 rfl)) rfl rfl (Nat.le_trans hsz hS1.1) hS1 rfl hl.1.1 rfl (Nat.le_of_ble_eq_true rfl) dX7_match_16 ⟨Nat.le_of_ble_eq_true rfl, Nat.le_of_ble_eq_true rfl⟩ (fun x2 σ2 H2 locs2 hp2 hW2 hz2 hS2 => ?_)
    have hs2 : σ2 = zu σ1 30 0 0 (0) := hp2.1.symm
    obtain rfl := hp2.2
    refine W.eq (g2 := F0 m 19 ls [.int (zi (zb ((0 : Int) ≠ 0)))]) rfl ?_
    refine zz_if_eqb (tgt := 24) hx hb dX7_match_19 (by decide) (fun hc19 => ?_) (fun hc19 => ?_)
    · have hv9 : ∀ κ k, ¬ ysr κ 0 k → σ2 κ 0 k = σ κ 0 k := fun κ k h => by
        unfold ysr at h
        rw [hs2, zu_ne (by omega)]
        exact hlf κ 0 k (by omega)
      have e75 : ∀ k, σ2 75 0 k = σ1 75 0 k := fun k => by rw [hs2, zu_ne (by omega)]
      have has : yasOK σ nr (fun k => (σ2 75 0 k).toNat) := fun k hk hw => by
        have h9 : ylc σ k < ylc σ nr := ylc_lt hk hw
        show (σ2 75 0 (ylc σ k)).toNat = k
        rw [e75, hl75 k hk hw (by omega)]
        exact Int.toNat_natCast k
      have has0 : ∀ k, k < ylc σ nr → 0 ≤ σ2 75 0 k := fun j hj => by
        obtain ⟨k, h1, h2, h3⟩ := ylc_sur hj
        rw [e75, ← h3, hl75 k h1 h2 (by omega)]
        exact Int.natCast_nonneg k
      have hgg := ybb_G (mn := fun k d => ymm σ (σ2 75 0 k).toNat d) (nd := nd) (n := ylc σ nr) (ymm_ok hWF has) (by omega)
      have hmq : (fun k d => ymm σ2 (σ2 75 0 k).toNat d) = fun k d => ymm σ (σ2 75 0 k).toNat d := funext fun k => funext fun d => ymm_fr hv9
      refine zz_aload_n hx hb hl 1 dX7_match_24 rfl rfl ?_
      refine zz_iload_n hx hb hl 0 dX7_match_25 rfl rfl ?_
      refine zz_callV (T := TX7) (N := 42) (As := [.int (zi ((ylc σ nr : Nat) : Int))]) (rest := []) (v := ((0 : Nat) : Int)) (κ := 30) ⟨hx, hb, hml, hown, hts⟩ (c_X7_tryAll l G ad A N0 σ2 hM nd (ylc σ nr) hnd (by omega) (by rw [hv9 30 8 (by unfold ysr; omega)]; exact h8) (fun k hk => by
    obtain ⟨a1, a2, a3⟩ := yas_ex has hk
    have a4 := (hWF.2.2.1 _ a1).1
    have a5 : (σ2 75 0 k).toNat < nr := a1
    have a6 : 0 ≤ σ2 75 0 k := has0 k hk
    exact ⟨⟨by omega, by omega⟩, by rw [hv9 65 _ (by unfold ysr; omega)]; exact a4⟩) (fun d hd => by rw [hv9 49 _ (by unfold ysr; omega)]; exact (hWF.2.1 d hd).1.1) (fun a b ha hb => by rw [hv9 47 _ (by unfold ysr; omega)]; have h9 := yWF_w hWF a b ha hb; omega) (by rw [hv9 30 1 (by unfold ysr; omega)]; exact hnow)) (cwV 1 hts gX7_match_X7_tryAll rfl rfl rfl (by decide +kernel) ⟨Nat.le_of_ble_eq_true rfl, Nat.le_of_ble_eq_true rfl⟩) hK hW2 (zlN (hM 30 rfl)) rfl rfl (Nat.le_trans hsz hS2.1) hS2 rfl hl.1.1 rfl (Nat.le_of_ble_eq_true rfl) dX7_match_26 ⟨Nat.le_of_ble_eq_true rfl, Nat.le_of_ble_eq_true rfl⟩ (fun x3 σ3 H3 locs3 hp3 hW3 hz3 hS3 => ?_)
      obtain ⟨hb38, hb77, hbf⟩ := hp3
      refine W.eq (g2 := F0 m 29 ls []) rfl ?_
      refine zz_iconst hx hb dX7_match_29 ?_
      refine zz_istore_n (lv' := [(2, .int (zi 0)), (1, .int (zi ((ylc σ nr : Nat) : Int))), (0, zr ad 30 ((0 : Nat) : Int))]) hx hb hl dX7_match_30 rfl (by decide) rfl (fun ls hl => ?_)
      have hbz : (ybb (fun k d => ymm σ (σ2 75 0 k).toNat d) nd (ylc σ nr) ((nd + 1) ^ ylc σ nr)).1 ≠ -1 := by
        have hB := (yB_rg (mn := fun k d => ymm σ (σ2 75 0 k).toNat d) (nd := nd) (n := ylc σ nr) (fun r d hr hd => (ymm_ok hWF has r d hr hd).1) (ylc σ nr) (Nat.le_refl _) 0).1
        rw [hgg.1]
        show yB _ _ _ _ _ ≠ -1
        omega
      rw [hmq] at hb77
      have h77 : ∀ k, k < ylc σ nr → σ3 77 0 k = (((ybs (fun k d => ymm σ (σ2 75 0 k).toNat d) nd (ylc σ nr)) k : Nat) : Int) := fun k hk => by
        rw [hb77 hbz k hk, hgg.1]
        rfl
      have hvv : ∀ κ k, ¬ ysr κ 0 k → σ3 κ 0 k = σ κ 0 k := fun κ k h => by
        have h2 := h
        unfold ysr at h2
        rw [hbf κ 0 k (by omega)]
        exact hv9 κ k h
      have e752 : ∀ k, σ3 75 0 k = σ2 75 0 k := fun k => hbf 75 0 k (by omega)
      have hWv := yWF_sr hWF hvv
      have hGok := yGok_of hWF has (by omega) hvv
      have hbd : ∀ k, (ybs (fun k d => ymm σ (σ2 75 0 k).toNat d) nd (ylc σ nr)) k ≤ nd := fun k => Nat.le_of_lt_succ (Nat.mod_lt _ (Nat.succ_pos _))
      refine zz_iconst hx hb dX7_match_31 ?_
      refine zz_istore_n (lv' := [(3, .int (zi 0)), (2, .int (zi 0)), (1, .int (zi ((ylc σ nr : Nat) : Int))), (0, zr ad 30 ((0 : Nat) : Int))]) hx hb hl dX7_match_32 rfl (by decide) rfl (fun ls hl => ?_)
      have hcut33 : ∀ (n9 : Nat) (n i : Nat)  (σ9 : zS) (H9 : Heap) (locs9 : List Loc) (ls : Array Slot), (i ≤ ylc σ nr ∧ n = yGN (ybs (fun k d => ymm σ (σ2 75 0 k).toNat d) nd (ylc σ nr)) nd i ∧ σ9 = yGV (fun k => (σ2 75 0 k).toNat) (ybs (fun k d => ymm σ (σ2 75 0 k).toNat d) nd (ylc σ nr)) nd i σ3) → (ylc σ nr - i) < n9 → ZW G ad A σ9 H9 → va_S A s.heap H9 locs9 → zh ls 4 [(0, zr ad 30 ((0 : Nat) : Int)), (1, .int (zi ((ylc σ nr : Nat) : Int))), (2, .int (zi ((n : Nat) : Int))), (3, .int (zi ((i : Nat) : Int)))] → W p l e ({ frames := 4, cells := 0, slots := 0, locals := 86 }) s m ([zr ad 30 ((0 : Nat) : Int)] : List Value).toArray below meth c H9 locs9 0 0 (MQ below (zQ G ad A zri (fun r u => (5 < ylc σ nr ∧ 0 = r ∧ u 30 0 0 = 1 ∧ zfr ysr σ u) ∨ (ylc σ nr ≤ 5 ∧ ∃ (as : Nat → Nat) (v : zS), yasOK σ nr as ∧ zfr ysr σ v ∧ v 30 0 0 = 0 ∧ (yGN (ybs (fun k d => ymm σ (as k) d) nd (ylc σ nr)) nd (ylc σ nr) : Int) = r ∧ u = yGV as (ybs (fun k d => ymm σ (as k) d) nd (ylc σ nr)) nd (ylc σ nr) v))) ([zr ad 30 ((0 : Nat) : Int)] : List Value).toArray s 0 0 A) (F0 m 33 ls []) := by
        intro n9
        induction n9 with
        | zero =>
          intro n i σ4 H4 locs4 ls hI33 hm33 hW4 hS4 hl
          exact absurd hm33 (Nat.not_lt_zero _)
        | succ n9 ih33 =>
          intro n i σ4 H4 locs4 ls hI33 hm33 hW4 hS4 hl
          obtain ⟨hi1, hn2, hi2⟩ := hI33
          obtain ⟨hw, hfx, hgx⟩ := yGV_ok hWv hGok i hi1
          rw [← hi2] at hw hfx hgx
          have hnle := yGN_le (ybs (fun k d => ymm σ (σ2 75 0 k).toNat d) nd (ylc σ nr)) nd i
          have hord2 := hw.1.2.2.2.2.1
          refine zz_iload_n hx hb hl 3 dX7_match_33 rfl rfl ?_
          refine zz_iload_n hx hb hl 1 dX7_match_34 rfl rfl ?_
          refine zz_icmp_ge (tgt := 76) hx hb dX7_match_35 (by decide) ⟨by omega, by omega⟩ ⟨by omega, by omega⟩ (fun hc35 => ?_) (fun hc35 => ?_)
          · refine zz_iload_n hx hb hl 2 dX7_match_76 rfl rfl ?_
            refine W.eq (g2 := F0 m 77 ls [.int (zi ((n : Nat) : Int))]) rfl ?_
            refine zz_reti hx hb hr hlocks hW4 hS4 ?_ dX7_match_77
            obtain ⟨hz1, hz2⟩ : i = ylc σ nr ∧ True := ⟨by omega, trivial⟩
            refine Or.inr ⟨by omega, (fun k => (σ2 75 0 k).toNat), σ3, has, fun κ j k h => ?_, ?_, by rw [hn2, hz1], by rw [hi2, hz1]⟩
            · have h2 := h
              unfold ysr at h2
              rw [hbf κ j k (by omega), hs2, zu_ne (by omega)]
              exact hlf κ j k (by omega)
            · rw [hbf 30 0 0 (by omega), hs2, zu_same]
          · have hbdi := hbd i
            have hib : i < ylc σ nr := by omega
            refine zz_aload_n hx hb hl 0 dX7_match_38 rfl rfl ?_
            refine zz_get (T := TX7) (N := 42) (k := 37) (κ := 30) (w := zr ad 77 ((0 : Nat) : Int)) hx hb hts hinX7 hown hK hW4 (zlN (hM 30 rfl)) rfl rfl rfl (by decide) (hts (.fieldLink RX7 105 "HailCityModel" "best" "[I") (by decide +kernel)) (fun _ h9 => h9) rfl dX7_match_39 ?_
            refine zz_iload_n hx hb hl 3 dX7_match_42 rfl rfl ?_
            refine zz_iald (w := (((ybs (fun k d => ymm σ (σ2 75 0 k).toNat d) nd (ylc σ nr)) i : Nat) : Int)) hx hb hK hW4 (zlN (hM 77 rfl)) rfl rfl rfl (by show (0 : Int) ≤ ((i : Nat) : Int); omega) (by show ((i : Nat) : Int) < (5 : Int); omega) (show σ4 77 0 i = (((ybs (fun k d => ymm σ (σ2 75 0 k).toNat d) nd (ylc σ nr)) i : Nat) : Int) from (hfx 77 _ (by omega)).trans (h77 i hib)) dX7_match_43 ?_
            refine zz_aload_n hx hb hl 0 dX7_match_44 rfl rfl ?_
            refine zz_get (T := TX7) (N := 42) (k := 8) (κ := 30) (w := .int (zi ((nd : Nat) : Int))) hx hb hts hinX7 hown hK hW4 (zlN (hM 30 rfl)) rfl rfl rfl (by decide) (hts (.fieldLink RX7 127 "HailCityModel" "drivers" "I") (by decide +kernel)) (fun _ h9 => h9) (congrArg (fun z => Value.int (zi z)) (show σ4 30 0 8 = ((nd : Nat) : Int) from hw.1.2.1.1)) dX7_match_45 ?_
            refine zz_icmp_ge (tgt := 70) hx hb dX7_match_48 (by decide) ⟨by omega, by omega⟩ ⟨by omega, by omega⟩ (fun hc48 => ?_) (fun hc48 => ?_)
            · refine zz_iinc (lv' := [(3, .int (zi ((i + 1 : Nat) : Int))), (0, zr ad 30 ((0 : Nat) : Int)), (1, .int (zi ((ylc σ nr : Nat) : Int))), (2, .int (zi ((n : Nat) : Int)))]) hx hb hl dX7_match_70 (k0 := 3) rfl (by decide) rfl (fun ls hl => ?_)
              refine zz_goto (tgt := 33) hx hb dX7_match_73 (by decide) ?_
              refine ih33 n (i + 1) σ4 H4 locs4 ls ?_ (by omega) hW4 hS4 (zh_sub hl [1, 2, 3, 0] rfl)
              refine ⟨by omega, ?_, ?_⟩
              · rw [hn2]; exact (if_neg (show ¬ (ybs (fun k d => ymm σ (σ2 75 0 k).toNat d) nd (ylc σ nr)) i < nd by omega)).symm
              · rw [hi2]; exact (if_neg (show ¬ (ybs (fun k d => ymm σ (σ2 75 0 k).toNat d) nd (ylc σ nr)) i < nd by omega) : yGV (fun k => (σ2 75 0 k).toNat) (ybs (fun k d => ymm σ (σ2 75 0 k).toNat d) nd (ylc σ nr)) nd (i + 1) σ3 = _).symm
            · have hb9 : (ybs (fun k d => ymm σ (σ2 75 0 k).toNat d) nd (ylc σ nr)) i < nd := by omega
              obtain ⟨g1, g2, g3⟩ := hGok.1 i hib
              obtain ⟨x1, x2⟩ := hgx i (Nat.le_refl _) hib
              obtain ⟨hfr9, hpl9⟩ := x2 hb9
              have g1 : (σ2 75 0 i).toNat < nr := g1
              refine zz_aload_n hx hb hl 0 dX7_match_51 rfl rfl ?_
              refine zz_aload_n hx hb hl 0 dX7_match_52 rfl rfl ?_
              refine zz_get (T := TX7) (N := 42) (k := 35) (κ := 30) (w := zr ad 75 ((0 : Nat) : Int)) hx hb hts hinX7 hown hK hW4 (zlN (hM 30 rfl)) rfl rfl rfl (by decide) (hts (.fieldLink RX7 99 "HailCityModel" "asked" "[I") (by decide +kernel)) (fun _ h9 => h9) rfl dX7_match_53 ?_
              refine zz_iload_n hx hb hl 3 dX7_match_56 rfl rfl ?_
              refine zz_iald (w := (((σ2 75 0 i).toNat : Nat) : Int)) hx hb hK hW4 (zlN (hM 75 rfl)) rfl rfl rfl (by show (0 : Int) ≤ ((i : Nat) : Int); omega) (by show ((i : Nat) : Int) < (5 : Int); omega) (show σ4 75 0 i = (((σ2 75 0 i).toNat : Nat) : Int) from ((hfx 75 _ (by omega)).trans (e752 i)).trans (by have := has0 i hib; omega)) dX7_match_57 ?_
              refine zz_aload_n hx hb hl 0 dX7_match_58 rfl rfl ?_
              refine zz_get (T := TX7) (N := 42) (k := 37) (κ := 30) (w := zr ad 77 ((0 : Nat) : Int)) hx hb hts hinX7 hown hK hW4 (zlN (hM 30 rfl)) rfl rfl rfl (by decide) (hts (.fieldLink RX7 105 "HailCityModel" "best" "[I") (by decide +kernel)) (fun _ h9 => h9) rfl dX7_match_59 ?_
              refine zz_iload_n hx hb hl 3 dX7_match_62 rfl rfl ?_
              refine zz_iald (w := (((ybs (fun k d => ymm σ (σ2 75 0 k).toNat d) nd (ylc σ nr)) i : Nat) : Int)) hx hb hK hW4 (zlN (hM 77 rfl)) rfl rfl rfl (by show (0 : Int) ≤ ((i : Nat) : Int); omega) (by show ((i : Nat) : Int) < (5 : Int); omega) (show σ4 77 0 i = (((ybs (fun k d => ymm σ (σ2 75 0 k).toNat d) nd (ylc σ nr)) i : Nat) : Int) from (hfx 77 _ (by omega)).trans (h77 i hib)) dX7_match_63 ?_
              refine zz_callV (T := TX7) (N := 42) (As := [.int (zi (((σ2 75 0 i).toNat : Nat) : Int)), .int (zi (((ybs (fun k d => ymm σ (σ2 75 0 k).toNat d) nd (ylc σ nr)) i : Nat) : Int))]) (rest := []) (v := ((0 : Nat) : Int)) (κ := 30) ⟨hx, hb, hml, hown, hts⟩ (c_X7_give l G ad A N0 σ4 hM ((ybs (fun k d => ymm σ (σ2 75 0 k).toNat d) nd (ylc σ nr)) i) (by omega) ((σ2 75 0 i).toNat) (by omega) hfr9.1 (hw.2.1 _ (by omega)).1.1 (hw.2.2.1 _ g1).1 (hw.2.2.1 _ g1).2.1 (fun a b ha hb => by have h9 := yWF_w hw a b ha hb; omega) hw.1.2.2.1 (by have h9 := (hw.2.1 _ (show (ybs (fun k d => ymm σ (σ2 75 0 k).toNat d) nd (ylc σ nr)) i < nd by omega)).2.2.2.2.2.2.2.1; have := yDN_le σ4 nr; omega) (by have h9 := (hw.2.1 _ (show (ybs (fun k d => ymm σ (σ2 75 0 k).toNat d) nd (ylc σ nr)) i < nd by omega)).2.2.2.2.2.2.2; have := yDN_le σ4 nr; omega) (hw.2.2.1 _ g1).2.2.2.2.1 (by have := hw.1.2.2.2.2.1; omega)) (cwV 2 hts gX7_match_X7_give rfl rfl rfl (by decide +kernel) ⟨Nat.le_of_ble_eq_true rfl, Nat.le_of_ble_eq_true rfl⟩) hK hW4 (zlN (hM 30 rfl)) rfl rfl (Nat.le_trans hsz hS4.1) hS4 rfl hl.1.1 rfl (Nat.le_of_ble_eq_true rfl) dX7_match_64 ⟨Nat.le_of_ble_eq_true rfl, Nat.le_of_ble_eq_true rfl⟩ (fun x5 σ5 H5 locs5 hp5 hW5 hz5 hS5 => ?_)
              refine W.eq (g2 := F0 m 67 ls []) rfl ?_
              refine zz_iinc (lv' := [(2, .int (zi ((n + 1 : Nat) : Int))), (0, zr ad 30 ((0 : Nat) : Int)), (1, .int (zi ((ylc σ nr : Nat) : Int))), (3, .int (zi ((i : Nat) : Int)))]) hx hb hl dX7_match_67 (k0 := 2) rfl (by decide) rfl (fun ls hl => ?_)
              refine zz_iinc (lv' := [(3, .int (zi ((i + 1 : Nat) : Int))), (2, .int (zi ((n + 1 : Nat) : Int))), (0, zr ad 30 ((0 : Nat) : Int)), (1, .int (zi ((ylc σ nr : Nat) : Int)))]) hx hb hl dX7_match_70 (k0 := 3) rfl (by decide) rfl (fun ls hl => ?_)
              refine zz_goto (tgt := 33) hx hb dX7_match_73 (by decide) ?_
              refine ih33 (n + 1) (i + 1) σ5 H5 locs5 ls ?_ (by omega) hW5 hS5 (zh_sub hl [2, 3, 1, 0] rfl)
              refine ⟨by omega, ?_, ?_⟩
              · rw [hn2]; exact (if_pos hb9).symm
              · rw [← hp5, hi2]; exact (if_pos hb9 : yGV (fun k => (σ2 75 0 k).toNat) (ybs (fun k d => ymm σ (σ2 75 0 k).toNat d) nd (ylc σ nr)) nd (i + 1) σ3 = _).symm
      refine hcut33 _ 0 0 σ3 H3 locs3 ls ?_ (Nat.lt_succ_self _) hW3 hS3 (zh_sub hl [3, 2, 1, 0] rfl)
      exact ⟨Nat.zero_le _, rfl, rfl⟩
    · exact absurd rfl hc19
  · refine zz_iconst hx hb dX7_match_11 ?_
    refine zz_goto (tgt := 16) hx hb dX7_match_12 (by decide) ?_
    refine zz_callV (T := TX7) (N := 42) (As := [.int (zi 1)]) (rest := []) (v := ((0 : Nat) : Int)) (κ := 30) ⟨hx, hb, hml, hown, hts⟩ (c_X7_refused l G ad A N0 σ1 hM (1) ⟨by decide, by decide⟩) (cwV 1 hts gX7_match_X7_refused rfl rfl rfl (by decide +kernel) ⟨Nat.le_of_ble_eq_true rfl, Nat.le_of_ble_eq_true rfl⟩) hK hW1 (zlN (hM 30 rfl)) rfl rfl (Nat.le_trans hsz hS1.1) hS1 rfl hl.1.1 rfl (Nat.le_of_ble_eq_true rfl) dX7_match_16 ⟨Nat.le_of_ble_eq_true rfl, Nat.le_of_ble_eq_true rfl⟩ (fun x6 σ6 H6 locs6 hp6 hW6 hz6 hS6 => ?_)
    have hs6 : σ6 = zu σ1 30 0 0 (1) := hp6.1.symm
    obtain rfl := hp6.2
    refine W.eq (g2 := F0 m 19 ls [.int (zi (zb ((1 : Int) ≠ 0)))]) rfl ?_
    refine zz_if_eqb (tgt := 24) hx hb dX7_match_19 (by decide) (fun hc19 => ?_) (fun hc19 => ?_)
    · exact absurd (by decide) hc19
    · refine zz_iconst hx hb dX7_match_22 ?_
      refine W.eq (g2 := F0 m 23 ls [.int (zi 0)]) rfl ?_
      refine zz_reti hx hb hr hlocks hW6 hS6 ?_ dX7_match_23
      refine Or.inl ⟨by omega, rfl, by rw [hs6, zu_same], fun κ i k h => ?_⟩
      rw [hs6, zu_ne (by unfold ysr at h; omega)]
      exact hlf κ i k (by unfold ysr at h; omega)
