/-! P24: WHAT A STEP DOES -/
theorem ygi_30 {t : zS} {q d k : Nat} (hk : k ≠ 0 ∧ k ≠ 17) : ygi t q d 30 0 k = t 30 0 k := by
  unfold ygi
  rw [ybf_f2 (by omega), yLV_el (by unfold yel; omega) 2 _ (by decide), ygm_fr (by omega)]
theorem yAR_30 {nd : Nat} {t : zS} {k : Nat} (hk : k ≠ 0 ∧ k ≠ 17) : ∀ i : Nat, yAR nd i t 30 0 k = t 30 0 k
  | 0 => rfl
  | i + 1 => by
    have ih := yAR_30 (nd := nd) (t := t) hk i
    show (@ite zS (yaC nd i (yAR nd i t)) (Classical.propDecidable _) _ _) 30 0 k = t 30 0 k
    by_cases c : yaC nd i (yAR nd i t)
    · rw [if_pos c, ygi_30 hk]
      exact ih
    · rw [if_neg c]
      exact ih
theorem yshR_30 {a : zS} {nd k9 : Nat} (hk9 : k9 = 1 ∨ k9 = 2) : ∀ (k : Nat) (u : zS) (n : Nat), yshR nd k a u n → u 30 0 k9 = a 30 0 k9
  | 0, u, n, hr => by
    obtain ⟨rfl, rfl⟩ := hr
    rfl
  | k + 1, u, n, hr => by
    obtain ⟨v, m, h1, h2, h3⟩ := hr
    have h4 := yshR_30 hk9 k v m h1
    rcases h2 with ⟨⟨c1, c2, c3⟩, d, n', f, s, g1, g2, g3⟩ | ⟨c1, c2⟩
    · rw [g3.2.2.2 30 0 k9 (by omega)]; exact h4
    · rw [c2 30 0 k9 (by unfold y79; omega)]; exact h4
/-- the store after a step that makes no request -/
def pOp (ad : zA) (t : zS) (sl' : Prop) (nd nr ns : Nat) (c : Int) (K : zS → Prop) (u : zS) : Prop := ∃ t', pC ad u t' nd nr ns (c + 1) ∧ pV t' sl' nd nr ∧ pE t' nd nr ∧ pM t t' nd nr ∧ K t'
theorem pC_up {ad : zA} {σ t : zS} {nd nr ns : Nat} {c c' : Int} (h : pC ad σ t nd nr ns c) (hc : c ≤ c') (hc8 : c' ≤ 800) : pC ad σ t nd nr ns c' :=
  ⟨h.1, h.2.1, h.2.2.1, yWF_B h.2.2.2.1 hc (by omega), by have := h.2.2.2.2.1; omega, hc8⟩
theorem pC_air {ad : zA} {σ u t : zS} {sl : Prop} {nd nr ns : Nat} {c r : Int} (hC : pC ad σ t nd nr ns c) (hv : pV t sl nd nr) (hPE : pE t nd nr) (hc7 : c + 1 ≤ 800) (hp : (yAN nd (zu t 30 0 0 0) nr : Int) = r ∧ CP u (yAR nd nr (zu t 30 0 0 0)) nd nr ns) : (0 ≤ r ∧ r ≤ 60) ∧ pOp ad t sl nd nr ns c (fun t' => t' 30 0 1 = t 30 0 1 ∧ t' 30 0 2 = t 30 0 2) u := by
  obtain ⟨hX, hun, hCP, hWF, hc0, hc8⟩ := hC
  have hw0 := yWF_z (x := 0) hWF
  have h60 := hWF.1.1.2.1
  have hle := yAN_le nd (zu t 30 0 0 0) nr
  obtain ⟨k1, k2⟩ := pV_AR hw0 (pV_z hWF hv) nr (Nat.le_refl _)
  have hE0 : pE (zu t 30 0 0 0) nd nr := pE_fr hPE (fun κ k hk => zu_ne (by omega))
  have hw1 := yWF_AR hw0 nr (Nat.le_refl _)
  refine ⟨by omega, _, ⟨hX, hun, hp.2, yWF_B hw1 (by omega) (by omega), by omega, hc7⟩, k1, pE_AR hw0 hE0 nr (Nat.le_refl _), pM_tr pM_z k2, ?_, ?_⟩
  · rw [yAR_30 (by decide), zu_ne (by omega)]
  · rw [yAR_30 (by decide), zu_ne (by omega)]
theorem pC_shr {ad : zA} {σ u t : zS} {sl : Prop} {nd nr ns : Nat} {c r : Int} (hC : pC ad σ t nd nr ns c) (hv : pV t sl nd nr) (hPE : pE t nd nr) (hc7 : c + 1 ≤ 800) (hp : ∀ v m, yshR nd nr (zu t 30 0 0 0) v m → CP u v nd nr ns ∧ (m : Int) = r) : (0 ≤ r ∧ r ≤ 60) ∧ pOp ad t sl nd nr ns c (fun t' => t' 30 0 1 = t 30 0 1 ∧ t' 30 0 2 = t 30 0 2) u := by
  obtain ⟨hX, hun, hCP, hWF, hc0, hc8⟩ := hC
  have hw0 := yWF_z (x := 0) hWF
  have h60 := hWF.1.1.2.1
  obtain ⟨v, m, hvm⟩ := yshR_tot hw0 nr (Nat.le_refl _)
  obtain ⟨q1, q2⟩ := hp v m hvm
  obtain ⟨k1, k2⟩ := pV_shR hw0 (pV_z hWF hv) nr v m (Nat.le_refl _) hvm
  have hE0 : pE (zu t 30 0 0 0) nd nr := pE_fr hPE (fun κ k hk => zu_ne (by omega))
  obtain ⟨hw1, hm⟩ := yWF_shR hw0 nr v m (Nat.le_refl _) hvm
  refine ⟨by omega, v, ⟨hX, hun, q1, yWF_B hw1 (by omega) (by omega), by omega, hc7⟩, k1, pE_shR hw0 hE0 nr v m (Nat.le_refl _) hvm, pM_tr pM_z k2, ?_, ?_⟩
  · rw [yshR_30 (Or.inl rfl) nr v m hvm, zu_ne (by omega)]
  · rw [yshR_30 (Or.inr rfl) nr v m hvm, zu_ne (by omega)]
/-- the law's arrays, as they stand between two steps -/
def pIn (σ t : zS) (sl : Prop) (nr : Nat) : Prop := nr ≤ 12 ∧ σ 86 0 0 = ((nr : Nat) : Int) ∧ σ 86 0 1 = t 30 0 1 ∧ σ 86 0 2 = t 30 0 2 ∧ (σ 86 0 3 = 1 ∨ ¬ sl) ∧ pHe σ t nr
/-- what a step leaves -/
def pDo (σ t : zS) (ad : zA) (nd nr ns : Nat) (c : Int) (ad9 : zA) (r : Int) (u : zS) : Prop :=
  (r ≠ -5 ∧ zg r) ∧ ∃ (t' : zS) (nr' : Nat) (sl' : Prop), (pRf r → t' = t ∧ nr' = nr) ∧ (pC ad9 u t' nd nr' ns (c + 1) ∧ pV t' sl' nd nr' ∧ pE t' nd nr' ∧ pM t t' nd nr) ∧ (nr ≤ nr' ∧ nr' ≤ 12) ∧ (u 86 0 0 = ((nr' : Nat) : Int) ∧ u 86 0 1 = t' 30 0 1 ∧ u 86 0 2 = t' 30 0 2 ∧ (u 86 0 3 = 1 ∨ ¬ sl') ∧ pHm u t' nr') ∧ (∀ k, k < 3 → u 88 0 k = σ 88 0 k) ∧ ∀ κ i, ¬ (17 ≤ κ ∧ κ ≤ 23) → ad9 κ i = ad κ i
theorem pHe_m {σ u t t' : zS} {nd nr : Nat} (h : pHe σ t nr) (hM : pM t t' nd nr) (e : ∀ j, u 87 0 j = σ 87 0 j) : pHm u t' nr := fun q hq => pH1_cg (pH2_M (h q hq) hM hq) (fun j _ => e _)
/-- no request is made -/
theorem pDo_sm {σ t t' u : zS} {ad : zA} {sl sl' : Prop} {nd nr ns : Nat} {c r : Int} (hin : pIn σ t sl nr) (h5 : r ≠ -5 ∧ zg r) (hrf : pRf r → t' = t) (hC : pC ad u t' nd nr ns (c + 1)) (hv : pV t' sl' nd nr) (hE : pE t' nd nr) (hM : pM t t' nd nr) (h87 : ∀ j, u 87 0 j = σ 87 0 j) (h88 : ∀ j, u 88 0 j = σ 88 0 j) (h0 : u 86 0 0 = σ 86 0 0) (h1 : u 86 0 1 = t' 30 0 1) (h2 : u 86 0 2 = t' 30 0 2) (h3 : u 86 0 3 = 1 ∨ ¬ sl') : pDo σ t ad nd nr ns c ad r u :=
  ⟨h5, t', nr, sl', fun h => ⟨hrf h, rfl⟩, ⟨hC, hv, hE, hM⟩, ⟨Nat.le_refl _, hin.1⟩, ⟨h0.trans hin.2.1, h1, h2, h3, pHe_m hin.2.2.2.2.2 hM h87⟩, fun k _ => h88 k, fun _ _ _ => rfl⟩
/-- nothing was done, but perhaps that streets may be slow -/
theorem pDo_no {σ t u : zS} {ad : zA} {sl : Prop} {nd nr ns : Nat} {c r : Int} (hin : pIn σ t sl nr) (h5 : r ≠ -5 ∧ zg r) (hC : pC ad u t nd nr ns c) (hv : pV t sl nd nr) (hE : pE t nd nr) (hc7 : c + 1 ≤ 800) (h87 : ∀ j, u 87 0 j = σ 87 0 j) (h88 : ∀ j, u 88 0 j = σ 88 0 j) (h86 : ∀ j, j < 3 → u 86 0 j = σ 86 0 j) (h3 : u 86 0 3 = 1 ∨ ¬ sl) : pDo σ t ad nd nr ns c ad r u :=
  pDo_sm hin h5 (fun _ => rfl) (pC_up hC (by omega) hc7) hv hE (pM_rf t nd nr) h87 h88 (h86 0 (by decide)) ((h86 1 (by decide)).trans hin.2.2.1) ((h86 2 (by decide)).trans hin.2.2.2.1) h3
theorem pRf_lo {r : Int} (h : pRf r) : r < 0 := by unfold pRf at h; omega
theorem pRf_5 {r : Int} (h : pRf r) : r ≠ -5 ∧ zg r := by unfold pRf at h; exact ⟨by omega, by omega, by omega⟩
theorem pDn_5 {r : Int} (h0 : 0 ≤ r) (h2 : r < 2000000000) : r ≠ -5 ∧ zg r := ⟨by omega, by omega, by omega⟩
theorem pOp_g {ad : zA} {σ u t : zS} {sl' : Prop} {nd nr ns : Nat} {c : Int} {K : zS → Prop} (h : pOp (zr8 ad) t sl' nd nr ns c K u) : pOp ad t sl' nd nr ns c K (zg8 σ u) := by
  obtain ⟨t', h1, h2⟩ := h
  exact ⟨t', pC_g h1, h2⟩
/-- refused, or done -/
def pRs (ad : zA) (t : zS) (sl' : Prop) (nd nr ns : Nat) (c : Int) (K : Int → zS → Prop) (r : Int) (u : zS) : Prop := (pRf r ∧ pC ad u t nd nr ns c) ∨ ((0 ≤ r ∧ r < 2000000000) ∧ pOp ad t sl' nd nr ns c (K r) u)
theorem pRs_g {ad : zA} {σ u t : zS} {sl' : Prop} {nd nr ns : Nat} {c r : Int} {K : Int → zS → Prop} (h : pRs (zr8 ad) t sl' nd nr ns c K r u) : pRs ad t sl' nd nr ns c K r (zg8 σ u) := by
  rcases h with ⟨h1, h2⟩ | ⟨h1, h2⟩
  · exact Or.inl ⟨h1, pC_g h2⟩
  · exact Or.inr ⟨h1, pOp_g h2⟩
theorem pRes_s {ad : zA} {u t : zS} {sl' : Prop} {nd nr ns : Nat} {c r : Int} {K : Int → zS → Prop} (h : pRes ad t sl' nd nr nr ns ns c K r u) : pRs ad t sl' nd nr ns c K r u := by
  rcases h with ⟨h1, h2⟩ | ⟨h0, h1, h2⟩
  · exact Or.inl ⟨h1, h2⟩
  · exact Or.inr ⟨⟨h0, h1⟩, h2⟩
theorem pSA_s {ad : zA} {u t : zS} {sl' : Prop} {nd nr ns : Nat} {c r : Int} {K : zS → Prop} (h : (0 ≤ r ∧ r ≤ 60) ∧ pOp ad t sl' nd nr ns c K u) : pRs ad t sl' nd nr ns c (fun _ => K) r u := Or.inr ⟨⟨h.1.1, by omega⟩, h.2⟩
theorem pRI_at2 {t : zS} {nr : Nat} {a : Int} (ha : 0 ≤ a ∧ a ≤ (nr : Int) - 1) : pRI t nr a 0 = t 64 0 a.toNat := (if_pos ha).trans ((if_pos (by decide)).trans yri_0)
/-- a request is made: what is told of it -/
theorem pHm_rq {σ u t t' : zS} {nd nr : Nat} (h : pHe σ t nr) (hM : pM t t' nd nr) (e : ∀ j, j < 4 * nr → u 87 0 j = σ 87 0 j) (e0 : u 87 0 (4 * nr) = 0) (e1 : u 87 0 (4 * nr + 1) = t' 69 0 nr) (e2 : u 87 0 (4 * nr + 2) = -1) (e3 : u 87 0 (4 * nr + 3) = t' 67 0 nr) (h64 : t' 64 0 nr = 0) : pHm u t' (nr + 1) := fun q hq => by
  by_cases c : q = nr
  · rw [c]
    exact ⟨by rw [e0, h64]; decide, fun z => by rw [e0] at z; exact absurd z (by decide), e1, e3, fun z => absurd e2 z⟩
  · exact pH1_cg (pH2_M (h q (by omega)) hM (by omega)) (fun j hj => e _ (by omega))
/-- nothing was done, but the class's world was made anew -/
theorem pDo_al {σ t u : zS} {ad ad9 : zA} {nd nr ns : Nat} {c r : Int} (hlo : ∀ κ i, ¬ (17 ≤ κ ∧ κ ≤ 23) → ad9 κ i = ad κ i) (h : pDo σ t ad9 nd nr ns c ad9 r u) : pDo σ t ad nd nr ns c ad9 r u := by
  obtain ⟨a1, t', nr', sl', a2, a3, a4, a5, a6, a7⟩ := h
  exact ⟨a1, t', nr', sl', a2, a3, a4, a5, a6, hlo⟩
