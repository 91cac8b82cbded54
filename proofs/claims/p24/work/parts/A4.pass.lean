/-! P24: share, pass -/
theorem ycO_ins {w : Nat → Int} {x : Int} : ∀ n a, a ≤ n → ycO (zins a x w) (n + 1) = ycO w n + (if 100 ≤ x then 1 else 0)
  | 0, a, ha => by
    obtain rfl : a = 0 := by omega
    show 0 + (if 100 ≤ zins 0 x w 0 then 1 else 0) = _
    rw [zins_at]
    rfl
  | n + 1, a, ha => by
    by_cases c : a ≤ n
    · have ih := ycO_ins (w := w) (x := x) n a c
      show ycO (zins a x w) (n + 1) + (if 100 ≤ zins a x w (n + 1) then 1 else 0) = ycO w n + (if 100 ≤ w n then 1 else 0) + _
      have e : zins a x w (n + 1) = w n := by
        unfold zins
        rw [if_neg (by omega), if_neg (by omega)]
        rfl
      rw [ih, e]
      omega
    · obtain rfl : a = n + 1 := by omega
      show ycO (zins (n + 1) x w) (n + 1) + (if 100 ≤ zins (n + 1) x w (n + 1) then 1 else 0) = _
      rw [zins_at, ycO_congr (w := w) (fun j hj => zins_lt hj)]
theorem yQ_zins {P : Nat → Int} {x y : Int} {n f s j : Nat} (hf : f ≤ n) (hfs : f < s) (hs : s ≤ n + 1) (hj : j ≤ n + 1) : zins s y (zins f x P) j = yQ P x y f s j := zins2 (n := n) (P := P) (P1 := P) (P2 := zins f x P) (P3 := zins s y (zins f x P)) hf hfs hs hj (fun _ _ => rfl) (fun _ _ => rfl) rfl
/-- a shared request is put into a row -/
theorem pV_mp {t u : zS} {sl : Prop} {nd nr ns q d n f s : Nat} {c B : Int} (h : yWF t nd nr ns c B) (hv : pV t sl nd nr) (hq : q < nr) (h0 : t 64 0 q = 0) (hz : yzf t nd q d n f s) (hu : ymp t u d n f s q) : pV u sl nd nr ∧ pM t u nd nr := by
  have hnr := h.1.1.2.1
  have h8 := pWF_8 h
  obtain ⟨hd, hn, hcs, ⟨hf1, hf⟩, ⟨hfs, hs⟩, hk⟩ := hz
  have hn6 := ycS_6 h hd hn hcs
  obtain ⟨u52, ur, ⟨u64, u70, u73, u71⟩, ufr⟩ := hu
  have F : ∀ κ k, ¬ (κ = 79 ∨ κ = 80 ∨ κ = 81 ∨ ((κ = 53 ∨ κ = 54) ∧ 8 * d ≤ k ∧ k < 8 * d + n + 2) ∨ (κ = 52 ∧ k = d) ∨ ((κ = 64 ∨ κ = 70 ∨ κ = 71 ∨ κ = 73) ∧ k = q)) → u κ 0 k = t κ 0 k := fun κ k hk => ufr κ 0 k hk
  have h71 := (hv.1.1 q hq).1 h0
  have hgd := hv.1.2 d hd
  have hride : ∀ j p : Nat, (j : Int) < t 52 0 d → t 54 0 (8 * d + j) = 100 + (p : Int) → p ≠ q := fun j p hj hw e => by
    have := (pWF_ride h hd hj hw).2.1
    rw [e] at this
    exact this h0
  -- what stands at a stop of the new row
  have at9 : ∀ j, j < n + 2 → j ≠ f → j ≠ s → u 54 0 (8 * d + j) = t 54 0 (8 * d + yold f s j) ∧ yold f s j < n := fun j hj e1 e2 => by
    refine ⟨?_, yold_lt hfs hf hs hj e1 e2⟩
    rw [(ur j hj).2]
    exact (if_neg e1).trans (if_neg e2)
  have atf : u 54 0 (8 * d + f) = (q : Int) := by
    rw [(ur f (by omega)).2]
    exact if_pos rfl
  have ats : u 54 0 (8 * d + s) = 100 + (q : Int) := by
    rw [(ur s (by omega)).2]
    exact (if_neg (by omega)).trans (if_pos rfl)
  have hI : pI u sl nd nr := by
    refine ⟨fun p hp => ?_, fun d' hd' => ?_⟩
    · by_cases e : p = q
      · subst e
        refine ⟨fun k => ?_, fun k => ?_, fun _ => ?_⟩
        · rw [u64] at k; exact absurd k (by decide)
        · rw [u64] at k; exact absurd k (by decide)
        · rw [F 72 p (by omega)]; exact (hv.1.1 p hp).2.2 (by omega)
      · exact pQ_ot (hv.1.1 p hp) (F 64 p (by omega)) (F 71 p (by omega)) (F 72 p (by omega))
    · by_cases e : d' = d
      · rw [e]
        refine ⟨fun j p hj hw hp1 => ?_, ?_, fun j k1 k2 => ?_⟩
        · rw [u52] at hj
          by_cases e1 : j = f
          · rw [e1, atf] at hw; omega
          · by_cases e2 : j = s
            · rw [e2, ats] at hw
              exact ⟨f, by omega, by rw [atf]; omega⟩
            · obtain ⟨g1, g2⟩ := at9 j (by omega) e1 e2
              rw [g1] at hw
              have hpq := hride _ p (by omega) hw
              rw [F 64 p (by omega)] at hp1
              obtain ⟨i, hi, ei⟩ := hgd.1 _ p (by omega) hw hp1
              obtain ⟨y1, y2, y3⟩ := yold_nw (f := f) (s := s) (i := i) hfs
              have y4 := ynw_lt (f := f) (s := s) (i := i) (n := n) (by omega)
              have y5 := ynw_mono (f := f) (s := s) hi
              rw [ynw_old hfs e1 e2] at y5
              refine ⟨ynw f s i, y5, ?_⟩
              rw [(at9 _ y4 y2 y3).1, y1]
              exact ei
        · rw [u52, show ((n : Int) + 2).toNat = n + 1 + 1 by omega, ycO_congr (w := zins s (100 + (q : Int)) (zins f (q : Int) (fun j => t 54 0 (8 * d + j)))) (fun j hj => by rw [(ur j (by omega)).2, yQ_zins hf hfs hs (by omega)]), ycO_ins (n + 1) s hs, ycO_ins n f hf]
          have g := hcs.2
          rw [ylo_O] at g
          split <;> split <;> omega
        · rw [F 59 _ (by omega)]
          rw [F 58 _ (by omega)] at k2
          exact hgd.2.2 j k1 k2
      · refine pD_ot (hv.1.2 d' hd') (h8 d' hd') (F 52 _ (by omega)) (fun _ _ => F 54 _ (by omega)) (F 58 _ (by omega)) (fun _ _ => F 59 _ (by omega)) (fun j p hj hw hp1 => ?_)
        by_cases e2 : p = q
        · subst e2; exact absurd h0 (pWF_ride h hd' hj hw).2.1
        · rw [F 64 p (by omega)] at hp1; exact hp1
  refine ⟨⟨hI, fun d' hd' => ?_, fun p hp hp0 => ?_⟩, ⟨fun p hp => ?_, fun d' hd' => by rw [F 62 d' (by omega), F 60 d' (by omega)]; exact ⟨Int.le_refl _, Int.le_refl _⟩⟩⟩
  · by_cases e : d' = d
    · rw [e]
      have hR := hv.2.1 d hd
      unfold pR
      rw [F 55 d (by omega), F 30 1 (by omega), u52]
      refine ⟨fun j hj hw => Or.inr ?_, fun _ => hR.2 (by omega)⟩
      rw [u52] at hj
      have eT : yT (yW u) (t 55 0 d) (yPd u d) j = yl1 t q d f s j := yT_cg (w := yW u) (P := yPd u d) (w' := yW t) (t1 := t 55 0 d) (Q := yQ (yPd t d) (t 65 0 q) (t 66 0 q) f s) rfl (fun a b => F 47 _ (by omega)) j (fun i hi => (ur i (by omega)).1)
      rw [eT]
      have hkj := hk j (by omega)
      have ew : u 54 0 (8 * d + j) = yQ (yUd t d) (q : Int) (100 + (q : Int)) f s j := (ur j (by omega)).2
      unfold yko at hkj
      have l80 : yly t q d f s 80 0 j = yQ (yUd t d) (q : Int) (100 + (q : Int)) f s j := if_pos rfl
      have l81 : ∀ i, yly t q d f s 81 0 i = yl1 t q d f s i := fun i => (if_neg (by decide)).trans (if_pos rfl)
      have lo : ∀ κ k, κ ≠ 80 → κ ≠ 81 → yly t q d f s κ 0 k = t κ 0 k := fun κ k h1 h2 => (if_neg h1).trans (if_neg h2)
      rw [l80, ← ew, l81, if_neg (by omega)] at hkj
      have hkj := hkj hw
      by_cases e2 : u 54 0 (8 * d + j) - 100 = (q : Int)
      · rw [if_pos e2] at hkj
        have ejs : j = s := by
          refine Classical.byContradiction fun e4 => ?_
          by_cases e3 : j = f
          · rw [e3, atf] at hw; omega
          · obtain ⟨g1, g2⟩ := at9 j (by omega) e3 e4
            exact hride (yold f s j) q (by omega) (by rw [← g1]; omega) rfl
        subst ejs
        rw [ykp_at (f := f) (s := j) (by unfold yly; rw [if_pos rfl]; exact if_pos rfl) (fun i hi hif e5 => ?_) j hfs (Nat.le_refl _)] at hkj
        · rw [show (u 54 0 (8 * d + j) - 100).toNat = q by omega, u71]
          rw [l81, lo 47 _ (by decide) (by decide), lo 65 _ (by decide) (by decide), lo 66 _ (by decide) (by decide)] at hkj
          exact hkj
        · obtain ⟨g1, g2⟩ := at9 i (by omega) hif (by omega)
          have l80i : yly t q d f j 80 0 i = yQ (yUd t d) (q : Int) (100 + (q : Int)) f j i := if_pos rfl
          have ewi : u 54 0 (8 * d + i) = yQ (yUd t d) (q : Int) (100 + (q : Int)) f j i := (ur i (by omega)).2
          rw [l80i, ← ewi, g1] at e5
          have hrow := yWF_row h hd (j := yold f j i) (by omega)
          rw [e5, show ((q : Int)).toNat = q by omega] at hrow
          omega
      · rw [if_neg e2, lo 71 _ (by decide) (by decide)] at hkj
        rw [F 71 _ (by omega)]
        exact hkj
    · refine pR_ot (hv.2.1 d' hd') (h8 d' hd') (F 52 _ (by omega)) (fun _ _ => F 53 _ (by omega)) (fun _ _ => F 54 _ (by omega)) (fun _ => F 47 _ (by omega)) (fun j hj hw => ?_) (F 55 _ (by omega)) (F 30 1 (by omega))
      have hr := pWF_ride h hd' hj (q := (t 54 0 (8 * d' + j) - 100).toNat) (by omega)
      refine F 71 _ (fun k => ?_)
      have ek : (t 54 0 (8 * d' + j) - 100).toNat = q := by omega
      rw [ek] at hr
      exact hr.2.1 h0
  · by_cases e : p = q
    · subst e; rw [u64] at hp0; exact absurd hp0 (by decide)
    · rw [F 64 p (by omega)] at hp0
      rw [F 30 1 (by omega), F 67 p (by omega)]
      exact hv.2.2 p hp hp0
  · by_cases e : p = q
    · subst e
      rw [u64, h0]
      exact ⟨by decide, fun k => absurd k (by decide), F 69 p (by omega), F 67 p (by omega), fun k => absurd h71 k⟩
    · rw [F 64 p (by omega)]
      exact ⟨Int.le_refl _, fun _ => rfl, F 69 p (by omega), F 67 p (by omega), fun _ => F 71 p (by omega)⟩
theorem pV_shR {a : zS} {sl : Prop} {nd nr ns : Nat} {c B : Int} (h : yWF a nd nr ns c B) (hv : pV a sl nd nr) : ∀ (k : Nat) (u : zS) (n : Nat), k ≤ nr → yshR nd k a u n → pV u sl nd nr ∧ pM a u nd nr
  | 0, u, n, _, hr => by
    obtain ⟨rfl, rfl⟩ := hr
    exact ⟨hv, pM_rf a nd nr⟩
  | k + 1, u, n, hk, hr => by
    obtain ⟨v, m, h1, h2, h3⟩ := hr
    obtain ⟨h4, h5⟩ := pV_shR h hv k v m (by omega) h1
    have hw := (yWF_shR h k v m (by omega) h1).1
    rcases h2 with ⟨⟨c1, c2, c3⟩, d, n', f, s, g1, g2, g3⟩ | ⟨c1, c2⟩
    · obtain ⟨k1, k2⟩ := pV_mp hw h4 (by omega) c1 g2 g3
      exact ⟨k1, pM_tr h5 k2⟩
    · have e : ∀ κ k, κ ≠ 79 → κ ≠ 80 → κ ≠ 81 → u κ 0 k = v κ 0 k := fun κ k h1 h2 h3 => c2 κ 0 k (by unfold y79; omega)
      exact ⟨pV_fr (pWF_8 hw) h4 (fun κ k hk => e κ k (by omega) (by omega) (by omega)), pM_tr h5 (pM_ot (fun κ k hk => e κ k (by omega) (by omega) (by omega)))⟩
/-- amid a minute: the drivers below i have done what they reach -/
def pVm (t : zS) (sl : Prop) (nd nr i : Nat) : Prop := pI t sl nd nr ∧ ∀ d, d < nd → pT t sl d (t 55 0 d) ∧ (0 < t 52 0 d → (d < i → t 30 0 1 < t 55 0 d) ∧ t 30 0 1 ≤ t 55 0 d)
theorem pVm_a {t : zS} {sl : Prop} {nd nr ns : Nat} {c B : Int} (h : yWF t nd nr ns c B) (hv : pV t sl nd nr) : pVm (yPa t nd) sl nd nr 0 ∧ pM t (yPa t nd) nd nr := by
  have h8 := pWF_8 h
  have F : ∀ κ k, κ ≠ 60 ∧ ¬ (κ = 30 ∧ k = 1) → yPa t nd κ 0 k = t κ 0 k := fun κ k hk => yPa_fr hk
  have hn : yPa t nd 30 0 1 = t 30 0 1 + 1 := by unfold yPa; rw [zu_same]
  refine ⟨⟨⟨fun q hq => pQ_ot (hv.1.1 q hq) (F 64 _ (by omega)) (F 71 _ (by omega)) (F 72 _ (by omega)), fun d hd => pD_ot (hv.1.2 d hd) (h8 d hd) (F 52 _ (by omega)) (fun _ _ => F 54 _ (by omega)) (F 58 _ (by omega)) (fun _ _ => F 59 _ (by omega)) (fun _ q _ _ hs => by rw [F 64 q (by omega)] at hs; exact hs)⟩, fun d hd => ⟨?_, fun k => ⟨fun k2 => absurd k2 (Nat.not_lt_zero d), ?_⟩⟩⟩, ⟨fun q hq => ?_, fun d hd => ⟨?_, ?_⟩⟩⟩
  · rw [F 55 d (by omega)]
    exact pT_ot (hv.2.1 d hd).1 (h8 d hd) (F 52 _ (by omega)) (fun _ _ => F 53 _ (by omega)) (fun _ _ => F 54 _ (by omega)) (fun _ => F 47 _ (by omega)) (fun _ _ _ => F 71 _ (by omega))
  · rw [F 52 d (by omega)] at k
    have := (hv.2.1 d hd).2 k
    rw [F 55 d (by omega), hn]
    omega
  · rw [F 64 q (by omega)]
    exact ⟨Int.le_refl _, fun _ => rfl, F 69 q (by omega), F 67 q (by omega), fun _ => F 71 q (by omega)⟩
  · rw [F 62 d (by omega)]; exact Int.le_refl _
  · have e : yPa t nd 60 0 d = t 60 0 d + zb (yhr t d (t 52 0 d).toNat) := by
      unfold yPa
      rw [zu_ne (by omega)]
      exact if_pos ⟨rfl, rfl, hd⟩
    rw [e]
    rcases zb_01 (yhr t d (t 52 0 d).toNat) with k | k <;> rw [k] <;> omega
theorem pVm_1 {t : zS} {sl : Prop} {nd nr ns i : Nat} {c B : Int} (h : yWF t nd nr ns c B) (hi : i < nd) (hv : pVm t sl nd nr i) : pVm (yP1 i t) sl nd nr (i + 1) ∧ pM t (yP1 i t) nd nr := by
  have h8 := pWF_8 h
  have EL : ∀ κ k, yel i κ k → yP1 i t κ 0 k = t κ 0 k := fun κ k hk => yP1_el (h8 i hi) hk
  have ho : ∀ d, d < nd → d ≠ i → pT (yP1 i t) sl d (yP1 i t 55 0 d) ∧ (0 < yP1 i t 52 0 d → (d < i + 1 → yP1 i t 30 0 1 < yP1 i t 55 0 d) ∧ yP1 i t 30 0 1 ≤ yP1 i t 55 0 d) := fun d hd hne => by
    rw [EL 55 d (by unfold yel; omega), EL 52 d (by unfold yel; omega), EL 30 1 (by unfold yel; omega)]
    obtain ⟨k1, k2⟩ := hv.2 d hd
    refine ⟨pT_ot k1 (h8 d hd) (EL 52 d (by unfold yel; omega)) (fun j hj => EL 53 _ (by unfold yel; omega)) (fun j hj => EL 54 _ (by unfold yel; omega)) (fun k => EL 47 k (by unfold yel; omega)) (fun j _ _ => EL 71 _ (by unfold yel; omega)), fun k => ?_⟩
    have := k2 k
    exact ⟨fun k3 => this.1 (by omega), this.2⟩
  by_cases hc : 0 < t 52 0 i ∧ t 55 0 i ≤ t 30 0 1
  · have e1 : yP1 i t = ybf (yLV i ((t 52 0 i).toNat - 1) (ymt t i ((t 52 0 i).toNat - 1))) i := if_pos hc
    obtain ⟨n, hn⟩ : ∃ n, n = (t 52 0 i).toNat - 1 := ⟨_, rfl⟩
    rw [← hn] at e1
    have hn1 : t 52 0 i = (n : Int) + 1 := by omega
    obtain ⟨k1, k2⟩ := hv.2 i hi
    have h55 : t 55 0 i = t 30 0 1 := by have := (k2 hc.1).2; omega
    rw [h55] at k1
    obtain ⟨m1, m2, m3⟩ := pI_mt h hi hn1 hv.1 k1
    have hnow : ymt t i n 30 0 1 = t 30 0 1 := ymt_fr (by omega)
    obtain ⟨p1, p2, p3, p4⟩ := pI_LV hi n _ (yWF_mt h hi hn1) (ymt_52 _ _ _) m1 (fun g => by rw [hnow]; exact m2 g)
    rw [hnow] at p3
    have hw := yWF_LV hi n _ (yWF_mt h hi hn1) (ymt_52 _ _ _)
    have h88 := pWF_8 hw
    have FB : ∀ κ k, κ ≠ 56 → κ ≠ 30 → yP1 i t κ 0 k = yLV i n (ymt t i n) κ 0 k := fun κ k h1 h2 => by rw [e1]; exact ybf_f2 (by omega)
    refine ⟨⟨⟨fun q hq => pQ_ot (p1.1 q hq) (FB 64 _ (by decide) (by decide)) (FB 71 _ (by decide) (by decide)) (FB 72 _ (by decide) (by decide)), fun d hd => pD_ot (p1.2 d hd) (h88 d hd) (FB 52 _ (by decide) (by decide)) (fun _ _ => FB 54 _ (by decide) (by decide)) (FB 58 _ (by decide) (by decide)) (fun _ _ => FB 59 _ (by decide) (by decide)) (fun _ q _ _ hs => by rw [FB 64 q (by decide) (by decide)] at hs; exact hs)⟩, fun d hd => ?_⟩, ?_⟩
    · by_cases e : d = i
      · rw [e, FB 55 i (by decide) (by decide), FB 52 i (by decide) (by decide), EL 30 1 (by unfold yel; omega)]
        refine ⟨pT_ot p2 (h88 i hi) (FB 52 _ (by decide) (by decide)) (fun _ _ => FB 53 _ (by decide) (by decide)) (fun _ _ => FB 54 _ (by decide) (by decide)) (fun _ => FB 47 _ (by decide) (by decide)) (fun _ _ _ => FB 71 _ (by decide) (by decide)), fun k => ?_⟩
        have := p3 k
        exact ⟨fun _ => this, by omega⟩
      · exact ho d hd e
    · rw [e1]
      exact pM_tr m3 (pM_tr p4 pM_bf)
  · have e1 : yP1 i t = t := if_neg hc
    rw [e1] at ho ⊢
    refine ⟨⟨hv.1, fun d hd => ?_⟩, pM_rf t nd nr⟩
    by_cases e : d = i
    · rw [e]
      obtain ⟨k1, k2⟩ := hv.2 i hi
      refine ⟨k1, fun k => ?_⟩
      have := k2 k
      exact ⟨fun _ => by omega, this.2⟩
    · exact ho d hd e
theorem pVm_2 {t : zS} {sl : Prop} {nd nr ns : Nat} {c B : Int} (h : yWF t nd nr ns c B) (hv : pVm t sl nd nr 0) : ∀ i : Nat, i ≤ nd → pVm (yP2 i t) sl nd nr i ∧ pM t (yP2 i t) nd nr
  | 0, _ => ⟨hv, pM_rf t nd nr⟩
  | i + 1, hi => by
    obtain ⟨k1, k2⟩ := pVm_2 h hv i (by omega)
    obtain ⟨m1, m2⟩ := pVm_1 (yWF_P2 h i (by omega)) (by omega) k1
    exact ⟨m1, pM_tr k2 m2⟩
theorem pV_e {t : zS} {sl : Prop} {nd nr ns : Nat} {c B : Int} (h : yWF t nd nr ns c B) (hv : pVm t sl nd nr nd) : pV (yPe t nr) sl nd nr ∧ pM t (yPe t nr) nd nr := by
  have h8 := pWF_8 h
  have F : ∀ κ k, κ ≠ 64 → yPe t nr κ 0 k = t κ 0 k := fun κ k hk => if_neg (fun q => hk q.1)
  have G : ∀ q, q < nr → yPe t nr 64 0 q = if t 64 0 q = 0 ∧ t 67 0 q ≤ t 30 0 1 then 4 else t 64 0 q := fun q hq => if_pos ⟨rfl, rfl, hq⟩
  have G9 : ∀ q x, yPe t nr 64 0 q = x → x ≠ 4 → t 64 0 q = x := fun q x e hx => by
    by_cases hq : q < nr
    · rw [G q hq] at e
      split at e
      · exact absurd e.symm hx
      · exact e
    · rw [← e]
      exact (if_neg (fun k => hq k.2.2)).symm
  refine ⟨⟨⟨fun q hq => ?_, fun d hd => pD_ot (hv.1.2 d hd) (h8 d hd) (F 52 _ (by decide)) (fun _ _ => F 54 _ (by decide)) (F 58 _ (by decide)) (fun _ _ => F 59 _ (by decide)) (fun _ q _ _ hs => G9 q 1 hs (by decide))⟩, fun d hd => ?_, fun q hq hs => ?_⟩, ⟨fun q hq => ?_, fun d hd => by rw [F 62 d (by decide), F 60 d (by decide)]; exact ⟨Int.le_refl _, Int.le_refl _⟩⟩⟩
  · obtain ⟨q1, q2, q3⟩ := hv.1.1 q hq
    unfold pQ
    rw [F 71 q (by decide), F 72 q (by decide), G q hq]
    split
    · rename_i k
      exact ⟨fun k2 => absurd k2 (by decide), fun k2 => absurd k2 (by decide), fun _ => q3 (by omega)⟩
    · exact ⟨q1, q2, q3⟩
  · obtain ⟨k1, k2⟩ := hv.2 d hd
    unfold pR
    rw [F 55 d (by decide), F 52 d (by decide), F 30 1 (by decide)]
    exact ⟨pT_ot k1 (h8 d hd) (F 52 _ (by decide)) (fun _ _ => F 53 _ (by decide)) (fun _ _ => F 54 _ (by decide)) (fun _ => F 47 _ (by decide)) (fun _ _ _ => F 71 _ (by decide)), fun k => (k2 k).1 hd⟩
  · rw [G q hq] at hs
    rw [F 30 1 (by decide), F 67 q (by decide)]
    split at hs
    · exact absurd hs (by decide)
    · omega
  · have hq6 := (h.2.2.1 q hq).2.2.2.2.2.1
    refine ⟨?_, fun k => ?_, F 69 q (by decide), F 67 q (by decide), fun _ => F 71 q (by decide)⟩
    · rw [G q hq]
      split <;> omega
    · rw [G q hq, if_neg (by omega)]
/-- a minute -/
theorem pV_s {t : zS} {sl : Prop} {nd nr ns : Nat} {c B : Int} (h : yWF t nd nr ns c B) (hnow : t 30 0 1 < 20000) (hv : pV t sl nd nr) : pV (yPs t nd nr) sl nd nr ∧ pM t (yPs t nd nr) nd nr := by
  obtain ⟨a1, a2⟩ := pVm_a h hv
  have hw := yWF_pa h hnow
  obtain ⟨b1, b2⟩ := pVm_2 hw a1 nd (Nat.le_refl _)
  obtain ⟨c1, c2⟩ := pV_e (yWF_P2 hw nd (Nat.le_refl _)) b1
  exact ⟨c1, pM_tr a2 (pM_tr b2 c2)⟩
theorem pV_PN {t : zS} {sl : Prop} {nd nr ns : Nat} {c B : Int} (h : yWF t nd nr ns c B) (hv : pV t sl nd nr) : ∀ i : Nat, t 30 0 1 + i ≤ 20000 → pV (yPN nd nr i t) sl nd nr ∧ pM t (yPN nd nr i t) nd nr
  | 0, _ => ⟨hv, pM_rf t nd nr⟩
  | i + 1, hi => by
    obtain ⟨k1, k2⟩ := pV_PN h hv i (by omega)
    obtain ⟨w1, w2⟩ := yWF_PN h i (by omega)
    obtain ⟨m1, m2⟩ := pV_s w1 (by omega) k1
    exact ⟨m1, pM_tr k2 m2⟩
