/-! P24: WHAT THE LAW'S HELPERS ANSWER -/
/-- the class's world and the store beside it -/
def pC (ad : zA) (σ t : zS) (nd nr ns : Nat) (c : Int) : Prop := zX ad nd nr ∧ (∀ κ i, 17 ≤ κ → κ ≤ 23 → zlive κ i nd nr = false → ad κ i = none) ∧ CP σ t nd nr ns ∧ yWF t nd nr ns c (1000 * c) ∧ 0 ≤ c ∧ c ≤ 800
/-- refused -/
def pRf (r : Int) : Prop := r = -2000000001 ∨ r = -2000000002 ∨ r = -2000000003
noncomputable def pRI (t : zS) (nr : Nat) (a w : Int) : Int := if 0 ≤ a ∧ a ≤ (nr : Int) - 1 then (if 0 ≤ w ∧ w ≤ 6 then yri t a.toNat w else -2000000002) else -2000000001
noncomputable def pDI (t : zS) (nd : Nat) (a w : Int) : Int := if 0 ≤ a ∧ a ≤ (nd : Int) - 1 then (if 0 ≤ w ∧ w ≤ 6 then ydi t a.toNat w else -2000000002) else -2000000001
def pST (t : zS) (nd : Nat) (a b x : Int) : Int := if (0 ≤ a ∧ a ≤ (nd : Int) - 1) ∧ 0 ≤ b then (if b < t 52 0 a.toNat then (if x = 0 then t 53 0 (8 * a.toNat + b.toNat) else t 54 0 (8 * a.toNat + b.toNat)) else -1) else -2000000001
noncomputable def pHT (t : zS) (nd nr : Nat) (z : Int) : Int := if 0 ≤ z ∧ z ≤ 3 then yht t nd nr z else -2000000001
def pPA (t : zS) (nd : Nat) (a : Int) : Int := if 0 ≤ a ∧ a ≤ (nd : Int) - 1 then ypy t a.toNat else -2000000001
theorem zg_lit (v : Int) (h : -2147483648 ≤ v ∧ v < 2147483648) : zg v := ⟨h.1, h.2⟩
theorem pRI_g {ad : zA} {σ t : zS} {nd nr ns : Nat} {c : Int} (h : pC ad σ t nd nr ns c) (hg : ∀ κ i k, zg (σ κ i k)) (a w : Int) : zg (pRI t nr a w) := by
  unfold pRI
  split
  · rename_i ha
    split
    · obtain ⟨b1, b2, b3, b4, b5, b6, b7, b8, b9, b10, b11⟩ := h.2.2.1.2.2 a.toNat (by omega)
      unfold yri
      rw [← b6, ← b5, ← b7, ← b9, ← b10, ← b4]
      repeat' split
      all_goals first | exact hg _ _ _ | exact zg_b _
    · exact ⟨by decide, by decide⟩
  · exact ⟨by decide, by decide⟩
theorem pDI_g {ad : zA} {σ t : zS} {nd nr ns : Nat} {c : Int} (h : pC ad σ t nd nr ns c) (hg : ∀ κ i k, zg (σ κ i k)) (a w : Int) : zg (pDI t nd a w) := by
  unfold pDI
  split
  · rename_i ha
    split
    · obtain ⟨⟨⟨b1, b2, b3, b4, b5, b6, b7, b8, b9⟩, b10, b11, b12⟩, b13⟩ := h.2.2.1.2.1 a.toNat (by omega)
      have hw := h.2.2.2.1.2.1 a.toNat (by omega)
      have h55 := hw.2.2.2.2.1
      unfold ydi
      rw [← b4, ← b2, ← b7, ← b8, ← b10]
      repeat' split
      all_goals first | exact hg _ _ _ | exact zg_b _ | exact ⟨by omega, by omega⟩
    · exact ⟨by decide, by decide⟩
  · exact ⟨by decide, by decide⟩
theorem pST_g {ad : zA} {σ t : zS} {nd nr ns : Nat} {c : Int} (h : pC ad σ t nd nr ns c) (a b x : Int) : zg (pST t nd a b x) := by
  unfold pST
  have hW := h.2.2.2.1
  split
  · rename_i ha
    split
    · rename_i hb
      have hp := (hW.2.1 a.toNat (by omega)).2.1 b.toNat (by omega)
      have hr := yWF_row hW (d := a.toNat) (by omega) (j := b.toNat) (by omega)
      have hnr := hW.1.1.2.1
      split
      · exact ⟨by omega, by omega⟩
      · exact ⟨by omega, by omega⟩
    · exact ⟨by decide, by decide⟩
  · exact ⟨by decide, by decide⟩
theorem pHT_g {ad : zA} {σ t : zS} {nd nr ns : Nat} {c : Int} (h : pC ad σ t nd nr ns c) (z : Int) : zg (pHT t nd nr z) := by
  have h1 := pHT_rg h.2.2.2.1 z
  have h2 := h.2.2.2.1.1.2.2.2.1
  unfold pHT
  split
  · exact ⟨by omega, by omega⟩
  · exact ⟨by decide, by decide⟩
theorem pPA_g {ad : zA} {σ t : zS} {nd nr ns : Nat} {c : Int} (h : pC ad σ t nd nr ns c) (a : Int) : zg (pPA t nd a) := by
  unfold pPA
  split
  · rename_i ha
    have h60 := (h.2.2.2.1.2.1 a.toNat (by omega)).2.2.2.2.2.2.1
    have h30 := h.2.2.2.1.1.2.2.1
    exact zg_max (zg_toInt _) ⟨by omega, by omega⟩
  · exact ⟨by decide, by decide⟩
theorem pWY_g {ad : zA} {σ t : zS} {nd nr ns : Nat} {c : Int} (h : pC ad σ t nd nr ns c) (a b : Int) : zg (pWY t a b) := by
  have := pWY_rg h.2.2.2.1 a b
  exact ⟨by omega, by omega⟩
theorem pBE_g {ad : zA} {σ t : zS} {nd nr ns : Nat} {c : Int} (h : pC ad σ t nd nr ns c) : zg (pBE t nd nr) := by
  by_cases h5 : 5 < ylc t nr
  · rw [show pBE t nd nr = -2000000003 from if_pos h5]
    exact ⟨by decide, by decide⟩
  · have := pBE_rg h.2.2.2.1 (by omega)
    exact ⟨by omega, by omega⟩
theorem zi_self {r : Int} (h : zg r) : (zi r).toInt = r := zi_toInt h
theorem yfw_ex (v : zS) (ns : Nat) : ∃ u, yfw v u ns := by
  refine ⟨fun κ i k => if κ = 47 then ywf 100000 (v 44 0) (v 45 0) (v 46 0) ns 10 (k / 10) (k % 10) else v κ i k, fun a b ha hb => ?_, fun κ i k hk => if_neg hk⟩
  show (if 47 = 47 then ywf 100000 (v 44 0) (v 45 0) (v 46 0) ns 10 ((10 * a + b) / 10) ((10 * a + b) % 10) else _) = _
  rw [if_pos rfl, show (10 * a + b) / 10 = a by omega, show (10 * a + b) % 10 = b by omega]
/-- what a call that changes something may answer, and what is then -/
def pRes (ad : zA) (t : zS) (sl' : Prop) (nd nr nr' ns ns' : Nat) (c : Int) (K : Int → zS → Prop) (r : Int) (u : zS) : Prop := (pRf r ∧ pC ad u t nd nr ns c) ∨ (0 ≤ r ∧ r < 2000000000 ∧ ∃ t', pC ad u t' nd nr' ns' (c + 1) ∧ pV t' sl' nd nr' ∧ pE t' nd nr' ∧ pM t t' nd nr ∧ K r t')

theorem CP_bh {σ t : zS} {nd nr ns : Nat} {c B : Int} (hCP : CP σ t nd nr ns) (hWF : yWF t nd nr ns c B) : (nd ≤ 8 ∧ nr ≤ 60 ∧ σ 0 0 5 = (nd : Int) ∧ σ 0 0 6 = (nr : Int) ∧ (∀ i, i < nd → σ 15 0 i = (i : Int)) ∧ (∀ i, i < nr → σ 16 0 i = (i : Int))) ∧ (∀ i, i < nd → 0 ≤ σ 17 i 6 ∧ σ 17 i 6 < 10) ∧ (∀ a b, a < 10 → b < 10 → 0 ≤ σ 6 a b) ∧ (0 ≤ σ 0 0 8 ∧ σ 0 0 8 ≤ 20000) ∧ (∀ k, k < nr → (0 ≤ σ 23 k 1 ∧ σ 23 k 1 < 10) ∧ 0 ≤ σ 23 k 4 ∧ σ 23 k 4 ≤ 100000) ∧ ∀ k, k < nr → σ 23 k 4 - σ 0 0 8 ≤ 100 := by
  have hg8 := hCP.1.2.1.2.1
  have hnow0 := hWF.1.2.2.1
  refine ⟨⟨hWF.1.1.1, hWF.1.1.2.1, hCP.1.1.1, hCP.1.1.2.1, hCP.1.2.2.1, hCP.1.2.2.2.1⟩, fun i hi => ?_, fun a b ha hb => ?_, ?_, fun k hk => ?_, fun k hk => ?_⟩
  · rw [(hCP.2.1 i hi).1.1.2.2.2.1]; exact (hWF.2.1 i hi).1.1
  · have x1 := yWF_w hWF a b ha hb
    rcases hCP.1.2.2.2.2.2 a b ha hb with ⟨y1, y2⟩ | ⟨y1, y2⟩ <;> omega
  · rw [hg8]; exact hnow0
  · have hq := hCP.2.2 k hk
    have hz := hWF.2.2.1 k hk
    rw [hq.1, hq.2.2.2.1]
    exact ⟨hz.1, hz.2.2.2.1.1, by have := hz.2.2.2.1; omega⟩
  · have hq := hCP.2.2 k hk
    have hz := hWF.2.2.1 k hk
    rw [hq.2.2.2.1, hg8]
    have := hz.2.2.2.1
    omega

theorem pPN_cap {t : zS} {nd nr ns : Nat} {c B : Int} (h : yWF t nd nr ns c B) : ∀ i : Nat, t 30 0 1 + i ≤ 20000 → yPN nd nr i t 30 0 2 = t 30 0 2
  | 0, _ => rfl
  | i + 1, hi => by
    obtain ⟨w1, w2⟩ := yWF_PN h i (by omega)
    have ih := pPN_cap h i (by omega)
    show yPe (yP2 nd (yPa (yPN nd nr i t) nd)) nr 30 0 2 = _
    have e1 : yPe (yP2 nd (yPa (yPN nd nr i t) nd)) nr 30 0 2 = yP2 nd (yPa (yPN nd nr i t) nd) 30 0 2 := if_neg (fun q => absurd q.1 (by decide))
    rw [e1, yP2_fr (fun d hd => ⟨_, yWF_mok (yWF_pa w1 (by omega)) hd⟩) (by omega) nd (Nat.le_refl _), yPa_fr (by omega)]
    exact ih

set_option maxHeartbeats 2000000 in
theorem cl_requestIs (l : Launch) (hst : l.stackTraces = false) (G : zG) (ad : zA) (A : Nat → Prop) (N0 : Nat) (σ t : zS) (nd nr ns : Nat) (c : Int) (hC : pC ad σ t nd nr ns c) (hg : ∀ κ i k, zg (σ κ i k)) (a w : Int) (ga : zg a) (gw : zg w) : vx_Met l yL_requestIs wsL_requestIs ({ frames := 8, cells := 2, slots := 12, locals := 245 }) (zPH G ad A N0 σ [zr ad 0 ((0 : Nat) : Int), .int (zi a), .int (zi w)]) (zQ G ad A zri (fun r u => σ = u ∧ pRI t nr a w = r)) zX0 2 12 A := by
  obtain ⟨hX, hun, hCP, hWF, hc0, hc8⟩ := id hC
  have hB9 : 1000 * c ≤ 1000000 := by omega
  have hz := pRI_g hC hg a w
  refine c_L_requestIs l G ad A N0 σ (hX 0 0 rfl) a w (c_X6_requestIs l hst G ad A N0 σ nd nr ns hX _ _ t hCP hWF hB9 a w ga gw) (fun r u hp => ?_) (fun E u hp => ?_)
  · obtain ⟨rfl, h1, h2, rfl⟩ := hp
    have e : pRI t nr a w = yri t a.toNat w := (if_pos h1).trans (if_pos h2)
    rw [e] at hz ⊢
    exact ⟨rfl, (zi_self hz).symm⟩
  · obtain ⟨rfl, ⟨rfl, h1⟩ | ⟨rfl, h1, h2⟩⟩ := hp
    · exact Or.inl ⟨rfl, rfl, if_neg h1⟩
    · exact Or.inr ⟨rfl, rfl, (if_pos h1).trans (if_neg h2)⟩

set_option maxHeartbeats 2000000 in
theorem cl_driverIs (l : Launch) (hst : l.stackTraces = false) (G : zG) (ad : zA) (A : Nat → Prop) (N0 : Nat) (σ t : zS) (nd nr ns : Nat) (c : Int) (hC : pC ad σ t nd nr ns c) (hg : ∀ κ i k, zg (σ κ i k)) (a w : Int) (ga : zg a) (gw : zg w) : vx_Met l yL_driverIs wsL_driverIs ({ frames := 8, cells := 2, slots := 12, locals := 245 }) (zPH G ad A N0 σ [zr ad 0 ((0 : Nat) : Int), .int (zi a), .int (zi w)]) (zQ G ad A zri (fun r u => σ = u ∧ pDI t nd a w = r)) zX0 2 12 A := by
  obtain ⟨hX, hun, hCP, hWF, hc0, hc8⟩ := id hC
  have hB9 : 1000 * c ≤ 1000000 := by omega
  have hz := pDI_g hC hg a w
  refine c_L_driverIs l G ad A N0 σ (hX 0 0 rfl) a w (c_X6_driverIs l hst G ad A N0 σ nd nr ns hX _ _ t hCP hWF hB9 a w ga gw) (fun r u hp => ?_) (fun E u hp => ?_)
  · obtain ⟨rfl, h1, h2, rfl⟩ := hp
    have e : pDI t nd a w = ydi t a.toNat w := (if_pos h1).trans (if_pos h2)
    rw [e] at hz ⊢
    exact ⟨rfl, (zi_self hz).symm⟩
  · obtain ⟨rfl, ⟨rfl, h1⟩ | ⟨rfl, h1, h2⟩⟩ := hp
    · exact Or.inl ⟨rfl, rfl, if_neg h1⟩
    · exact Or.inr ⟨rfl, rfl, (if_pos h1).trans (if_neg h2)⟩

set_option maxHeartbeats 2000000 in
theorem cl_stop (l : Launch) (hst : l.stackTraces = false) (G : zG) (ad : zA) (A : Nat → Prop) (N0 : Nat) (σ t : zS) (nd nr ns : Nat) (c : Int) (hC : pC ad σ t nd nr ns c) (hg : ∀ κ i k, zg (σ κ i k)) (a b x : Int) (ga : zg a) (gb : zg b) (hx01 : x = 0 ∨ x = 1) : vx_Met l yL_stop wsL_stop ({ frames := 8, cells := 2, slots := 12, locals := 247 }) (zPH G ad A N0 σ [zr ad 0 ((0 : Nat) : Int), .int (zi a), .int (zi b), .int (zi x)]) (zQ G ad A zri (fun r u => σ = u ∧ pST t nd a b x = r)) zX0 2 12 A := by
  obtain ⟨hX, hun, hCP, hWF, hc0, hc8⟩ := id hC
  have hB9 : 1000 * c ≤ 1000000 := by omega
  have hz := pST_g hC a b x
  refine c_L_stop l G ad A N0 σ (hX 0 0 rfl) a b x (c_X6_stop l hst G ad A N0 σ nd nr ns hX _ _ t hCP hWF hB9 a b x ga gb hx01) (fun r u hp => ?_) (fun E u hp => ?_)
  · obtain ⟨rfl, h1, rfl⟩ := hp
    have e : pST t nd a b x = _ := if_pos h1
    rw [e] at hz ⊢
    exact ⟨rfl, (zi_self hz).symm⟩
  · obtain ⟨rfl, rfl, h1⟩ := hp
    exact ⟨rfl, rfl, if_neg h1⟩

set_option maxHeartbeats 2000000 in
theorem cl_way (l : Launch) (hst : l.stackTraces = false) (G : zG) (ad : zA) (A : Nat → Prop) (N0 : Nat) (σ t : zS) (nd nr ns : Nat) (c : Int) (hC : pC ad σ t nd nr ns c) (hg : ∀ κ i k, zg (σ κ i k)) (a b : Int) (ga : zg a) (gb : zg b) : vx_Met l yL_way wsL_way ({ frames := 8, cells := 2, slots := 12, locals := 242 }) (zPH G ad A N0 σ [zr ad 0 ((0 : Nat) : Int), .int (zi a), .int (zi b)]) (zQ G ad A zri (fun r u => σ = u ∧ pWY t a b = r)) zX0 2 12 A := by
  obtain ⟨hX, hun, hCP, hWF, hc0, hc8⟩ := id hC
  have hB9 : 1000 * c ≤ 1000000 := by omega
  have hz := pWY_g hC a b
  refine c_L_way l G ad A N0 σ (hX 0 0 rfl) a b (c_X6_way l hst G ad A N0 σ nd nr ns hX _ _ t hCP hWF hB9 a b ga gb) (fun r u hp => ?_) (fun E u hp => ?_)
  · obtain ⟨rfl, h1, rfl⟩ := hp
    have e : pWY t a b = _ := if_pos h1
    rw [e] at hz ⊢
    exact ⟨rfl, (zi_self hz).symm⟩
  · obtain ⟨rfl, rfl, h1⟩ := hp
    exact ⟨rfl, rfl, if_neg h1⟩

set_option maxHeartbeats 2000000 in
theorem cl_height (l : Launch) (hst : l.stackTraces = false) (G : zG) (ad : zA) (A : Nat → Prop) (N0 : Nat) (σ t : zS) (nd nr ns : Nat) (c : Int) (hC : pC ad σ t nd nr ns c) (hg : ∀ κ i k, zg (σ κ i k)) (a : Int) (ga : zg a) : vx_Met l yL_height wsL_height ({ frames := 7, cells := 1, slots := 6, locals := 221 }) (zPH G ad A N0 σ [zr ad 0 ((0 : Nat) : Int), .int (zi a)]) (zQ G ad A zri (fun r u => σ = u ∧ pHT t nd nr a = r)) zX0 1 6 A := by
  obtain ⟨hX, hun, hCP, hWF, hc0, hc8⟩ := id hC
  have hB9 : 1000 * c ≤ 1000000 := by omega
  have hz := pHT_g hC a
  refine c_L_height l G ad A N0 σ (hX 0 0 rfl) a (c_X6_height l hst G ad A N0 σ nd nr ns hX _ _ t hCP hWF hB9 a ga) (fun r u hp => ?_) (fun E u hp => ?_)
  · obtain ⟨rfl, h1, rfl⟩ := hp
    have e : pHT t nd nr a = _ := if_pos h1
    rw [e] at hz ⊢
    exact ⟨rfl, (zi_self hz).symm⟩
  · obtain ⟨rfl, rfl, h1⟩ := hp
    exact ⟨rfl, rfl, if_neg h1⟩

set_option maxHeartbeats 2000000 in
theorem cl_pay (l : Launch) (hst : l.stackTraces = false) (G : zG) (ad : zA) (A : Nat → Prop) (N0 : Nat) (σ t : zS) (nd nr ns : Nat) (c : Int) (hC : pC ad σ t nd nr ns c) (hg : ∀ κ i k, zg (σ κ i k)) (a : Int) (ga : zg a) : vx_Met l yL_pay wsL_pay ({ frames := 8, cells := 1, slots := 6, locals := 244 }) (zPH G ad A N0 σ [zr ad 0 ((0 : Nat) : Int), .int (zi a)]) (zQ G ad A zri (fun r u => σ = u ∧ pPA t nd a = r)) zX0 1 6 A := by
  obtain ⟨hX, hun, hCP, hWF, hc0, hc8⟩ := id hC
  have hB9 : 1000 * c ≤ 1000000 := by omega
  have hz := pPA_g hC a
  refine c_L_pay l G ad A N0 σ (hX 0 0 rfl) a (c_X6_pay l hst G ad A N0 σ nd nr ns hX _ _ t hCP hWF hB9 a ga) (fun r u hp => ?_) (fun E u hp => ?_)
  · obtain ⟨rfl, h1, rfl⟩ := hp
    have e : pPA t nd a = _ := if_pos h1
    rw [e] at hz ⊢
    exact ⟨rfl, (zi_self hz).symm⟩
  · obtain ⟨rfl, rfl, h1⟩ := hp
    exact ⟨rfl, rfl, if_neg h1⟩

set_option maxHeartbeats 2000000 in
theorem cl_best (l : Launch) (hst : l.stackTraces = false) (G : zG) (ad : zA) (A : Nat → Prop) (N0 : Nat) (σ t : zS) (nd nr ns : Nat) (c : Int) (hC : pC ad σ t nd nr ns c) (hg : ∀ κ i k, zg (σ κ i k)) : vx_Met l yL_best wsL_best ({ frames := 8, cells := 1, slots := 6, locals := 242 }) (zPH G ad A N0 σ [zr ad 0 ((0 : Nat) : Int)]) (zQ G ad A zri (fun r u => pC ad u t nd nr ns c ∧ pBE t nd nr = r)) zX0 1 6 A := by
  obtain ⟨hX, hun, hCP, hWF, hc0, hc8⟩ := id hC
  have hB9 : 1000 * c ≤ 1000000 := by omega
  have hz := pBE_g hC
  obtain ⟨⟨y1, y2, y3, y4, y5, y6⟩, y7, y8, y9, y10, y11⟩ := CP_bh hCP hWF
  have hwl := CP_ywn hCP nr (Nat.le_refl _)
  refine c_L_best l G ad A N0 σ (hX 0 0 rfl) (c_X6_best l hst G ad A N0 σ nd nr hX y1 y2 y3 y4 y5 y6 y7 y8 y9 y10 y11) (fun r u hp => ?_) (fun E u hp => ?_)
  · obtain ⟨v9, hv, hr, hu⟩ := hp
    obtain ⟨h5, e, hcp⟩ := CP_best hCP hWF hv hr hu (pas_ok t nr)
    have e2 : pBE t nd nr = r := (if_neg (by omega)).trans e.symm
    rw [e2] at hz ⊢
    exact ⟨⟨hX, hun, hcp, hWF, hc0, hc8⟩, (zi_self hz).symm⟩
  · obtain ⟨rfl, hz2, h5⟩ := hp
    exact ⟨rfl, ⟨hX, hun, CP_sc hCP hWF hz2, hWF, hc0, hc8⟩, if_pos (by omega)⟩

set_option maxHeartbeats 2000000 in
theorem cl_anew (l : Launch) (hst : l.stackTraces = false) (G : zG) (ad : zA) (A : Nat → Prop) (N0 : Nat) (σ t : zS) (nd nr ns : Nat) (c : Int) (hC : pC ad σ t nd nr ns c) (hg : ∀ κ i k, zg (σ κ i k)) : vx_Met l yL_anew wsL_anew ({ frames := 8, cells := 1, slots := 6, locals := 242 }) (zPH G ad A N0 σ [zr ad 0 ((0 : Nat) : Int)]) (zQ G ad A zri (fun r u => pC ad u t nd nr ns c ∧ pBE t nd nr = r)) zX0 1 6 A := by
  obtain ⟨hX, hun, hCP, hWF, hc0, hc8⟩ := id hC
  have hB9 : 1000 * c ≤ 1000000 := by omega
  have hz := pBE_g hC
  obtain ⟨⟨y1, y2, y3, y4, y5, y6⟩, y7, y8, y9, y10, y11⟩ := CP_bh hCP hWF
  have hwl := CP_ywn hCP nr (Nat.le_refl _)
  refine c_L_anew l G ad A N0 σ (hX 0 0 rfl) (c_X6_bestAnew l hst G ad A N0 σ nd nr hX y1 y2 y3 y4 y5 y6 y7 y8 y9 y10 y11) (fun r u hp => ?_) (fun E u hp => ?_)
  · obtain ⟨v9, hv, hr, hu⟩ := hp
    obtain ⟨h5, e, hcp⟩ := CP_anew hCP hWF hv hr hu (pas_ok t nr)
    have e2 : pBE t nd nr = r := (if_neg (by omega)).trans e.symm
    rw [e2] at hz ⊢
    exact ⟨⟨hX, hun, hcp, hWF, hc0, hc8⟩, (zi_self hz).symm⟩
  · obtain ⟨rfl, hz2, h5⟩ := hp
    exact ⟨rfl, ⟨hX, hun, CP_sc hCP hWF hz2, hWF, hc0, hc8⟩, if_pos (by omega)⟩

set_option maxHeartbeats 2000000 in
theorem cl_slow (l : Launch) (hst : l.stackTraces = false) (G : zG) (ad : zA) (A : Nat → Prop) (N0 : Nat) (σ t : zS) (nd nr ns : Nat) (c : Int) (hC : pC ad σ t nd nr ns c) (hg : ∀ κ i k, zg (σ κ i k)) (sl : Prop) (hv : pV t sl nd nr) (hE : pE t nd nr) (a m9 : Int) (ga : zg a) (gm9 : zg m9) (hc7 : c + 1 ≤ 800) : vx_Met l yL_slow wsL_slow ({ frames := 8, cells := 2, slots := 12, locals := 244 }) (zPH G ad A N0 σ [zr ad 0 ((0 : Nat) : Int), .int (zi a), .int (zi m9)]) (zQ G ad A zri (fun r u => pRes ad t True nd nr nr ns ns c (fun _ t' => t' 30 0 1 = t 30 0 1 ∧ t' 30 0 2 = t 30 0 2) r u)) zX0 2 12 A := by
  obtain ⟨hX, hun, hCP, hWF, hc0, hc8⟩ := id hC
  have hB9 : 1000 * c ≤ 1000000 := by omega
  refine c_L_slow l G ad A N0 σ (hX 0 0 rfl) a m9 (c_X6_slow l hst G ad A N0 σ nd nr ns hX _ _ t hCP hWF hB9  a m9 ga gm9) (fun r u hp => ?_) (fun E u hp => ?_)
  · obtain ⟨h1, h2, rfl, h3⟩ := hp
    obtain ⟨v, hw⟩ := yfw_ex (zu (zu t 30 0 0 0) 46 0 a.toNat m9) ns
    have h9 := hWF.1.2.2.2.2.2.1 a.toNat (by omega)
    have F : ∀ κ k, κ ≠ 46 ∧ κ ≠ 47 ∧ ¬ (κ = 30 ∧ k = 0) → v κ 0 k = t κ 0 k := fun κ k hk => by rw [hw.2 κ 0 k (by omega), zu_ne (by omega), zu_ne (by omega)]
    obtain ⟨k1, k2⟩ := pV_slow hWF hv F
    rw [zi_self ⟨by omega, by omega⟩]
    exact Or.inr ⟨by omega, by omega, v, ⟨hX, hun, h3 v hw, yWF_B (yWF_slow (s := a.toNat) hWF (by omega) h2 hw) (by omega) (by omega), by omega, hc7⟩, k1, pE_fr hE (fun κ k hk => F κ k (by omega)), k2, F 30 1 (by omega), F 30 2 (by omega)⟩
  · obtain ⟨rfl, ⟨rfl, h1⟩ | ⟨rfl, h1, h2⟩⟩ := hp
    · exact Or.inl ⟨rfl, Or.inl ⟨Or.inl rfl, hC⟩⟩
    · exact Or.inr ⟨rfl, Or.inl ⟨Or.inr (Or.inl rfl), hC⟩⟩

set_option maxHeartbeats 2000000 in
theorem cl_rest (l : Launch) (hst : l.stackTraces = false) (G : zG) (ad : zA) (A : Nat → Prop) (N0 : Nat) (σ t : zS) (nd nr ns : Nat) (c : Int) (hC : pC ad σ t nd nr ns c) (hg : ∀ κ i k, zg (σ κ i k)) (sl : Prop) (hv : pV t sl nd nr) (hE : pE t nd nr) (a x : Int) (ga : zg a) (hx01 : x = 0 ∨ x = 1) (hc7 : c + 1 ≤ 800) : vx_Met l yL_rest wsL_rest ({ frames := 8, cells := 2, slots := 12, locals := 247 }) (zPH G ad A N0 σ [zr ad 0 ((0 : Nat) : Int), .int (zi a), .int (zi x)]) (zQ G ad A zri (fun r u => pRes ad t sl nd nr nr ns ns c (fun _ t' => t' 30 0 1 = t 30 0 1 ∧ t' 30 0 2 = t 30 0 2) r u)) zX0 2 12 A := by
  obtain ⟨hX, hun, hCP, hWF, hc0, hc8⟩ := id hC
  have hB9 : 1000 * c ≤ 1000000 := by omega
  refine c_L_rest l G ad A N0 σ (hX 0 0 rfl) a x (c_X6_rest l hst G ad A N0 σ nd nr ns hX _ _ t hCP hWF hB9  a x ga hx01) (fun r u hp => ?_) (fun E u hp => ?_)
  · obtain ⟨h1, h2, h3, hcp⟩ := hp
    obtain ⟨k1, k2⟩ := pV_rest (d := a.toNat) (x := x) hWF hv
    have F : ∀ k, k ≠ 0 ∧ k ≠ 17 → ymr t a.toNat x 30 0 k = t 30 0 k := fun k hk => by
      unfold ymr
      split
      · rw [ybf_f2 (by omega), zu_ne (by omega), zu_ne (by omega)]
      · rw [zu_ne (by omega), zu_ne (by omega)]
    refine Or.inr ⟨by split <;> decide, by split <;> decide, _, ⟨hX, hun, hcp, yWF_B (yWF_rest hWF (by omega)) (by omega) (by omega), by omega, hc7⟩, k1, pE_rest hE, k2, F 1 (by omega), F 2 (by omega)⟩
  · obtain ⟨rfl, ⟨rfl, h1⟩ | ⟨rfl, h1, h2⟩⟩ := hp
    · exact Or.inl ⟨rfl, Or.inl ⟨Or.inl rfl, hC⟩⟩
    · exact Or.inr ⟨rfl, Or.inl ⟨Or.inr (Or.inr rfl), hC⟩⟩

set_option maxHeartbeats 2000000 in
theorem cl_cap (l : Launch) (hst : l.stackTraces = false) (G : zG) (ad : zA) (A : Nat → Prop) (N0 : Nat) (σ t : zS) (nd nr ns : Nat) (c : Int) (hC : pC ad σ t nd nr ns c) (hg : ∀ κ i k, zg (σ κ i k)) (sl : Prop) (hv : pV t sl nd nr) (hE : pE t nd nr) (a : Int) (ga : zg a) (hc7 : c + 1 ≤ 800) : vx_Met l yL_cap wsL_cap ({ frames := 8, cells := 1, slots := 6, locals := 244 }) (zPH G ad A N0 σ [zr ad 0 ((0 : Nat) : Int), .int (zi a)]) (zQ G ad A zri (fun r u => pRes ad t sl nd nr nr ns ns c (fun _ t' => t' 30 0 1 = t 30 0 1 ∧ t' 30 0 2 = a) r u)) zX0 1 6 A := by
  obtain ⟨hX, hun, hCP, hWF, hc0, hc8⟩ := id hC
  have hB9 : 1000 * c ≤ 1000000 := by omega
  refine c_L_cap l G ad A N0 σ (hX 0 0 rfl) a (c_X6_cap l hst G ad A N0 σ nd nr ns hX _ _ t hCP hWF hB9  a ga) (fun r u hp => ?_) (fun E u hp => ?_)
  · obtain ⟨h1, rfl, hcp⟩ := hp
    obtain ⟨k1, k2⟩ := pV_cap (x := a) hWF hv
    have h9 := hWF.1.2.2.2.1
    rw [zi_self ⟨by omega, by omega⟩]
    exact Or.inr ⟨by omega, by omega, _, ⟨hX, hun, hcp, yWF_B (yWF_cap (yWF_z hWF) h1) (by omega) (by omega), by omega, hc7⟩, k1, pE_fr hE (fun κ k hk => by rw [zu_ne (by omega), zu_ne (by omega)]), k2, by rw [zu_ne (by omega), zu_ne (by omega)], by rw [zu_same]⟩
  · obtain ⟨rfl, rfl, h1⟩ := hp
    exact ⟨rfl, Or.inl ⟨Or.inr (Or.inl rfl), hC⟩⟩

set_option maxHeartbeats 2000000 in
theorem cl_wander (l : Launch) (hst : l.stackTraces = false) (G : zG) (ad : zA) (A : Nat → Prop) (N0 : Nat) (σ t : zS) (nd nr ns : Nat) (c : Int) (hC : pC ad σ t nd nr ns c) (hg : ∀ κ i k, zg (σ κ i k)) (sl : Prop) (hv : pV t sl nd nr) (hE : pE t nd nr) (a b : Int) (ga : zg a) (gb : zg b) (hc7 : c + 1 ≤ 800) : vx_Met l yL_wander wsL_wander ({ frames := 8, cells := 3, slots := 18, locals := 246 }) (zPH G ad A N0 σ [zr ad 0 ((0 : Nat) : Int), .int (zi a), .int (zi b)]) (zQ G ad A zri (fun r u => pRes ad t sl nd nr nr ns ns c (fun r t' => t' 30 0 1 = t 30 0 1 ∧ t' 30 0 2 = t 30 0 2 ∧ t 30 0 1 < r) r u)) zX0 3 18 A := by
  obtain ⟨hX, hun, hCP, hWF, hc0, hc8⟩ := id hC
  have hB9 : 1000 * c ≤ 1000000 := by omega
  refine c_L_wander l G ad A N0 σ (hX 0 0 rfl) a b (c_X6_wander l hst G ad A N0 σ nd nr ns hX _ _ t hCP hWF hB9  a b ga gb) (fun r u hp => ?_) (fun E u hp => ?_)
  · obtain ⟨⟨h1, h1b⟩, ⟨h2, h3, h4⟩, hr, hcp⟩ := hp
    have hd : a.toNat < nd := by omega
    obtain ⟨k1, k2⟩ := pV_wander hWF hv hd h2.1 (b := b) (by omega) h4
    have hwu := yWF_wander hWF hd h2.1 (b := b) (by omega) h4
    have F : ∀ k, k ≠ 0 ∧ k ≠ 17 → ybf (yLV a.toNat 1 (ywd t a.toNat b)) a.toNat 30 0 k = t 30 0 k := fun k hk => by
      rw [ybf_f2 (by omega), yLV_el (by unfold yel; omega) 1 _ (by decide)]
      unfold ywd
      rw [zu_ne (by omega), zu_ne (by omega), zu_ne (by omega), zu_ne (by omega)]
    -- it takes time: another place
    have e52 : 0 < ybf (yLV a.toNat 1 (ywd t a.toNat b)) a.toNat 52 0 a.toNat := by
      rw [ybf_f2 (by omega)]
      have hpos := (yWF_w hWF (t 49 0 a.toNat).toNat b.toNat (by have := (hWF.2.1 _ hd).1.1; omega) (by omega)).2.2.2 (by have := (hWF.2.1 _ hd).1.1; omega)
      have ey : ywy (ywd t a.toNat b) a.toNat = t 47 0 (10 * (t 49 0 a.toNat).toNat + b.toNat) := by
        unfold ywy ywd
        rw [zu_ne (by omega), zu_ne (by omega), zu_ne (by omega), zu_ne (by omega), zu_ne (by omega), zu_ne (by omega), zu_ne (by omega), zu_ne (by omega), zu_ne (by omega), zu_ne (by omega), zu_same]
      show 0 < (if ywy (ywd t a.toNat b) a.toNat = 0 then _ else _ : zS) 52 0 a.toNat
      rw [if_neg (by omega), zu_ne (by omega)]
      unfold ywd
      rw [zu_same]
      decide
    have hn := (k1.2.1 _ hd).2 e52
    rw [F 1 (by omega), hr] at hn
    have h55 := (hwu.2.1 _ hd).2.2.2.2.1
    rw [hr] at h55
    have h30 := hWF.1.2.2.1
    rw [zi_self ⟨by omega, by omega⟩]
    exact Or.inr ⟨by omega, by omega, _, ⟨hX, hun, hcp, yWF_B hwu (by omega) (by omega), by omega, hc7⟩, k1, pE_wander hWF hE hd h2.1 (by omega) h4, k2, F 1 (by omega), F 2 (by omega), hn⟩
  · obtain ⟨rfl, ⟨rfl, h1⟩ | ⟨rfl, h1, h2⟩⟩ := hp
    · exact Or.inl ⟨rfl, Or.inl ⟨Or.inl rfl, hC⟩⟩
    · exact Or.inr ⟨rfl, Or.inl ⟨Or.inr (Or.inr rfl), hC⟩⟩

set_option maxHeartbeats 2000000 in
theorem cl_cancel (l : Launch) (hst : l.stackTraces = false) (G : zG) (ad : zA) (A : Nat → Prop) (N0 : Nat) (σ t : zS) (nd nr ns : Nat) (c : Int) (hC : pC ad σ t nd nr ns c) (hg : ∀ κ i k, zg (σ κ i k)) (sl : Prop) (hv : pV t sl nd nr) (hE : pE t nd nr) (a : Int) (ga : zg a) (hc7 : c + 1 ≤ 800) : vx_Met l yL_cancel wsL_cancel ({ frames := 8, cells := 2, slots := 12, locals := 245 }) (zPH G ad A N0 σ [zr ad 0 ((0 : Nat) : Int), .int (zi a)]) (zQ G ad A zri (fun r u => pRes ad t sl nd nr nr ns ns c (fun r t' => t' 30 0 1 = t 30 0 1 ∧ t' 30 0 2 = t 30 0 2 ∧ (r = 0 ∨ r = 500) ∧ (0 ≤ a ∧ a ≤ (nr : Int) - 1) ∧ t' 64 0 a.toNat = 4) r u)) zX0 2 12 A := by
  obtain ⟨hX, hun, hCP, hWF, hc0, hc8⟩ := id hC
  have hB9 : 1000 * c ≤ 1000000 := by omega
  refine c_L_cancel l G ad A N0 σ (hX 0 0 rfl) a (c_X6_cancel l hst G ad A N0 σ nd nr ns hX _ _ t hCP hWF hB9  a ga) (fun r u hp => ?_) (fun E u hp => ?_)
  · obtain ⟨h1, hh⟩ := hp
    have hq : a.toNat < nr := by omega
    rcases hh with ⟨h2, rfl, hcp⟩ | ⟨h2, rfl, hcp⟩
    · obtain ⟨k1, k2⟩ := pV_c0 hWF hv hq h2
      exact Or.inr ⟨by decide, by decide, _, ⟨hX, hun, hcp, yWF_B (yWF_c0 hWF hq h2) (by omega) (by omega), by omega, hc7⟩, k1, pE_fr hE (fun κ k hk => by rw [zu_ne (by omega), zu_ne (by omega)]), k2, by rw [zu_ne (by omega), zu_ne (by omega)], by rw [zu_ne (by omega), zu_ne (by omega)], Or.inl (by decide), h1, zu_same⟩
    · obtain ⟨o, ho⟩ := yco_ex hWF hq h2
      obtain ⟨k1, k2⟩ := pV_cl hWF hv hq h2 ho
      have hwq := hWF.2.2.1 a.toNat hq
      have hD0 := hwq.2.2.2.2.2.2.2.2.1 (by omega) (by omega)
      have hD1 := hwq.2.2.2.2.2.2.2.1
      have h8 := pWF_8 hWF (t 70 0 a.toNat).toNat (by omega)
      have F : ∀ k, k ≠ 0 → ycl t a.toNat o 30 0 k = t 30 0 k := fun k hk => ycl_fr (by omega) (by omega)
      have hcf : ycf t a.toNat = 0 ∨ ycf t a.toNat = 500 := by unfold ycf; split <;> simp
      rw [zi_self (by rcases hcf with e | e <;> rw [e] <;> exact ⟨by decide, by decide⟩)]
      exact Or.inr ⟨by omega, by omega, _, ⟨hX, hun, hcp o ho, yWF_B (yWF_cl hWF hq h2 ho) (by omega) (by omega), by omega, hc7⟩, k1, pE_cl hWF hE hq h2, k2, F 1 (by decide), F 2 (by decide), hcf, h1, by unfold ycl; rw [zu_same]⟩
  · obtain ⟨rfl, ⟨rfl, h1⟩ | ⟨rfl, h1, h2⟩⟩ := hp
    · exact Or.inl ⟨rfl, Or.inl ⟨Or.inl rfl, hC⟩⟩
    · exact Or.inr ⟨rfl, Or.inl ⟨Or.inr (Or.inr rfl), hC⟩⟩

set_option maxHeartbeats 2000000 in
theorem cl_rate (l : Launch) (hst : l.stackTraces = false) (G : zG) (ad : zA) (A : Nat → Prop) (N0 : Nat) (σ t : zS) (nd nr ns : Nat) (c : Int) (hC : pC ad σ t nd nr ns c) (hg : ∀ κ i k, zg (σ κ i k)) (sl : Prop) (hv : pV t sl nd nr) (hE : pE t nd nr) (a b : Int) (ga : zg a) (gb : zg b) (hc7 : c + 1 ≤ 800) : vx_Met l yL_rate wsL_rate ({ frames := 8, cells := 3, slots := 18, locals := 247 }) (zPH G ad A N0 σ [zr ad 0 ((0 : Nat) : Int), .int (zi a), .int (zi b)]) (zQ G ad A zri (fun r u => pRes ad t sl nd nr nr ns ns c (fun _ t' => t' 30 0 1 = t 30 0 1 ∧ t' 30 0 2 = t 30 0 2) r u)) zX0 3 18 A := by
  obtain ⟨hX, hun, hCP, hWF, hc0, hc8⟩ := id hC
  have hB9 : 1000 * c ≤ 1000000 := by omega
  refine c_L_rate l G ad A N0 σ (hX 0 0 rfl) a b (c_X6_rate l hst G ad A N0 σ nd nr ns hX _ _ t hCP hWF hB9 (by omega) a b ga gb) (fun r u hp => ?_) (fun E u hp => ?_)
  · obtain ⟨h1, h2, ⟨h3, h4⟩, hr, hcp⟩ := hp
    have hq : a.toNat < nr := by omega
    have hwq := hWF.2.2.1 a.toNat hq
    have hD0 := hwq.2.2.2.2.2.2.2.2.1 (by omega) (by omega)
    have hD1 := hwq.2.2.2.2.2.2.2.1
    have hD : (t 70 0 a.toNat).toNat < nd := by omega
    have h58 := (hWF.2.1 _ hD).2.2.2.2.2.1.1
    obtain ⟨k1, k2⟩ := pV_ra (q := a.toNat) (D := (t 70 0 a.toNat).toNat) hWF hv h2.1 h58.1
    have hwu := yWF_ra (q := a.toNat) (K := (t 58 0 (t 70 0 a.toNat).toNat).toNat % 10) (t := b) hWF hq hD (by omega) (by omega)
    have F : ∀ k, k ≠ 0 ∧ k ≠ 17 → yra t a.toNat (t 70 0 a.toNat).toNat ((t 58 0 (t 70 0 a.toNat).toNat).toNat % 10) b 30 0 k = t 30 0 k := fun k hk => by
      unfold yra
      split
      · rw [ybf_f2 (by omega)]
        unfold yrw yrv
        rw [zu_ne (by omega), zu_ne (by omega), zu_ne (by omega), zu_ne (by omega), zu_ne (by omega)]
      · unfold yrw yrv
        rw [zu_ne (by omega), zu_ne (by omega), zu_ne (by omega), zu_ne (by omega), zu_ne (by omega)]
    have hrt := pRT hwu k1 hD
    rw [hr] at hrt
    rw [zi_self ⟨by omega, by omega⟩]
    exact Or.inr ⟨by omega, by omega, _, ⟨hX, hun, hcp, yWF_B hwu (by omega) (by omega), by omega, hc7⟩, k1, pE_ra hE, k2, F 1 (by omega), F 2 (by omega)⟩
  · obtain ⟨rfl, ⟨rfl, h1⟩ | ⟨rfl, h1, h2⟩ | ⟨rfl, h1, h2, h3⟩⟩ := hp
    · exact Or.inl ⟨rfl, Or.inl ⟨Or.inl rfl, hC⟩⟩
    · exact Or.inr (Or.inl ⟨rfl, Or.inl ⟨Or.inr (Or.inl rfl), hC⟩⟩)
    · exact Or.inr (Or.inr ⟨rfl, Or.inl ⟨Or.inr (Or.inr rfl), hC⟩⟩)

set_option maxHeartbeats 2000000 in
theorem cl_pass (l : Launch) (hst : l.stackTraces = false) (G : zG) (ad : zA) (A : Nat → Prop) (N0 : Nat) (σ t : zS) (nd nr ns : Nat) (c : Int) (hC : pC ad σ t nd nr ns c) (hg : ∀ κ i k, zg (σ κ i k)) (sl : Prop) (hv : pV t sl nd nr) (hE : pE t nd nr) (a : Int) (ga : zg a) (hc7 : c + 1 ≤ 800) : vx_Met l yL_pass wsL_pass ({ frames := 8, cells := 2, slots := 12, locals := 244 }) (zPH G ad A N0 σ [zr ad 0 ((0 : Nat) : Int), .int (zi a)]) (zQ G ad A zri (fun r u => pRes ad t sl nd nr nr ns ns c (fun r t' => t' 30 0 1 = r ∧ t' 30 0 2 = t 30 0 2) r u)) zX0 2 12 A := by
  obtain ⟨hX, hun, hCP, hWF, hc0, hc8⟩ := id hC
  have hB9 : 1000 * c ≤ 1000000 := by omega
  refine c_L_pass l G ad A N0 σ (hX 0 0 rfl) a (c_X6_pass l hst G ad A N0 σ nd nr ns hX _ _ t hCP hWF hB9 (by omega) a ga) (fun r u hp => ?_) (fun E u hp => ?_)
  · obtain ⟨h1, h2, hr, hcp⟩ := hp
    have e1 : zu t 30 0 0 0 30 0 1 = t 30 0 1 := zu_ne (by omega)
    have hw0 := yWF_z (x := 0) hWF
    obtain ⟨k1, k2⟩ := pV_PN hw0 (pV_z hWF hv) a.toNat (by rw [e1]; omega)
    obtain ⟨w1, w2⟩ := yWF_PN hw0 a.toNat (by rw [e1]; omega)
    have hE0 : pE (zu t 30 0 0 0) nd nr := pE_fr hE (fun κ k hk => zu_ne (by omega))
    have hcap := pPN_cap hw0 a.toNat (by rw [e1]; omega)
    have h30 := w1.1.2.2.1
    rw [hr] at w2 h30
    rw [zi_self ⟨by omega, by omega⟩]
    exact Or.inr ⟨by omega, by omega, _, ⟨hX, hun, hcp, yWF_B w1 (by omega) (by omega), by omega, hc7⟩, k1, pE_PN hw0 hE0 a.toNat (by rw [e1]; omega), pM_tr pM_z k2, hr, by rw [hcap, zu_ne (by omega)]⟩
  · obtain ⟨rfl, ⟨rfl, h1⟩ | ⟨rfl, h1, h2⟩⟩ := hp
    · exact Or.inl ⟨rfl, Or.inl ⟨Or.inr (Or.inl rfl), hC⟩⟩
    · exact Or.inr ⟨rfl, Or.inl ⟨Or.inr (Or.inr rfl), hC⟩⟩

set_option maxHeartbeats 2000000 in
theorem cl_match (l : Launch) (hst : l.stackTraces = false) (G : zG) (ad : zA) (A : Nat → Prop) (N0 : Nat) (σ t : zS) (nd nr ns : Nat) (c : Int) (hC : pC ad σ t nd nr ns c) (hg : ∀ κ i k, zg (σ κ i k)) (sl : Prop) (hv : pV t sl nd nr) (hE : pE t nd nr) (hc7 : c + 1 ≤ 800) : vx_Met l yL_match wsL_match ({ frames := 8, cells := 1, slots := 6, locals := 246 }) (zPH G ad A N0 σ [zr ad 0 ((0 : Nat) : Int)]) (zQ G ad A zri (fun r u => (-2000000003 = r ∧ pBE t nd nr = -2000000003 ∧ pC ad u t nd nr ns c) ∨ (0 ≤ r ∧ r < 2000000000 ∧ ylc t nr ≤ 5 ∧ (pBE t nd nr + 9999) / 10000 = r ∧ ∃ t', pC ad u t' nd nr ns (c + 1) ∧ pV t' sl nd nr ∧ pE t' nd nr ∧ pM t t' nd nr ∧ t' 30 0 1 = t 30 0 1 ∧ t' 30 0 2 = t 30 0 2 ∧ pBE t' nd nr = 0))) zX0 1 6 A := by
  obtain ⟨hX, hun, hCP, hWF, hc0, hc8⟩ := id hC
  have hB9 : 1000 * c ≤ 1000000 := by omega
  refine c_L_match l G ad A N0 σ (hX 0 0 rfl) (c_X6_match l hst G ad A N0 σ nd nr ns hX _ _ t hCP hWF hB9) (fun r u hp => ?_) (fun E u hp => ?_)
  · obtain ⟨h5, as, has, hr, hcp⟩ := hp
    obtain ⟨t', et, w1, w2, w3, w4, w5, w6, w7, w8⟩ := pMA hWF hv hE h5
    have e := yas_eq has (pas_ok t nr)
    have eb : ∀ k, ybs (fun k d => ymm t (as k) d) nd (ylc t nr) k = ybs (fun k d => ymm t (pas t nr k) d) nd (ylc t nr) k := fun k => ybs_cg (fun r d hr hd => by show ymm t (as r) d = ymm t (pas t nr r) d; rw [e r hr]) k
    have hgn := yGN_cg (nd := nd) (ylc t nr) (fun k _ => eb k)
    have hgv := yGV_cg (nd := nd) (v := t) (ylc t nr) (fun k hk => ⟨e k hk, eb k⟩)
    have hcp2 := hcp t (fun _ _ _ _ => rfl)
    rw [hgv, ← et] at hcp2
    rw [hgn, w8] at hr
    have hb := pBE_rg hWF h5
    rw [← hr, zi_self ⟨by omega, by omega⟩]
    exact Or.inr ⟨by omega, by omega, h5, rfl, t', ⟨hX, hun, hcp2, yWF_B w1 (by omega) (by omega), by omega, hc7⟩, w2, w3, w4, w5 1 (by decide), w5 2 (by decide), w7⟩
  · obtain ⟨rfl, h5, hcp⟩ := hp
    exact ⟨rfl, Or.inl ⟨rfl, if_pos (by omega), ⟨hX, hun, hcp, hWF, hc0, hc8⟩⟩⟩

set_option maxHeartbeats 2000000 in
theorem cl_request (l : Launch) (hst : l.stackTraces = false) (G : zG) (ad : zA) (A : Nat → Prop) (N0 : Nat) (σ t : zS) (nd nr ns : Nat) (c : Int) (hC : pC ad σ t nd nr ns c) (hg : ∀ κ i k, zg (σ κ i k)) (sl : Prop) (hv : pV t sl nd nr) (hE : pE t nd nr) (hA : ∀ q, N0 ≤ q → A q) (a b m9 x : Int) (ga : zg a) (gb : zg b) (gm9 : zg m9) (hx01 : x = 0 ∨ x = 1) (hc7 : c + 1 ≤ 800) : vx_Met l yL_request wsL_request ({ frames := 8, cells := 6, slots := 42, locals := 249 }) (zPH G ad A N0 σ [zr ad 0 ((0 : Nat) : Int), .int (zi a), .int (zi b), .int (zi m9), .int (zi x)]) (zQD G A (fun ad9 r u => ((pRf r ∧ pC ad9 u t nd nr ns c) ∨ (0 ≤ r ∧ r < 2000000000 ∧ ∃ t', pC ad9 u t' nd (nr + 1) ns (c + 1) ∧ pV t' sl nd (nr + 1) ∧ pE t' nd (nr + 1) ∧ pM t t' nd nr ∧ t' 30 0 1 = t 30 0 1 ∧ t' 30 0 2 = t 30 0 2 ∧ ((nr : Nat) : Int) = r ∧ t' 64 0 nr = 0 ∧ t' 71 0 nr = -1 ∧ t' 67 0 nr = t 30 0 1 + m9)) ∧ (∀ κ i, ¬ (17 ≤ κ ∧ κ ≤ 23) → ad9 κ i = ad κ i))) zX0 6 42 A := by
  obtain ⟨hX, hun, hCP, hWF, hc0, hc8⟩ := id hC
  have hB9 : 1000 * c ≤ 1000000 := by omega
  refine c_L_request l G ad A N0 σ (hX 0 0 rfl) a b m9 x (c_X6_request l hst G ad A N0 σ nd nr ns hX _ _ t hCP hWF hB9 hA (hun 23 nr (by decide) (by decide) (by simp [zlive])) a b m9 x ga gb gm9 hx01) (fun ad9 r u hp => ?_) (fun E u hp => ?_)
  · obtain ⟨⟨h1, h1b⟩, ⟨h2, h2b⟩, ⟨h3, h4⟩, rfl, hX9, hk9, hcp⟩ := hp
    obtain ⟨k1, k2⟩ := pV_rq (a := a.toNat) (b := b.toNat) (x := x) hWF hv h3 h2b.1
    have hwu := yWF_rq (x := x) hWF h3 (by omega : a.toNat < 10) (by omega : b.toNat < 10) h2b h4
    have hnr60 : nr < 60 := h3
    rw [zi_self ⟨by omega, by omega⟩]
    refine ⟨Or.inr ⟨by omega, by omega, _, ⟨hX9, fun κ i q1 q2 q3 => ?_, hcp, yWF_B hwu (by omega) (by omega), by omega, hc7⟩, k1, pE_rq (x := x) hWF hE (by omega) (by omega) (by omega) h4, k2, ?_⟩, fun κ i q1 => hk9 κ i (by omega)⟩
    · have hne : ¬ (κ = 23 ∧ i = nr) := by
        rintro ⟨rfl, rfl⟩
        simp [zlive] at q3
      rw [hk9 κ i hne]
      refine hun κ i q1 q2 ?_
      rcases (by omega : κ = 17 ∨ κ = 18 ∨ κ = 19 ∨ κ = 20 ∨ κ = 21 ∨ κ = 22 ∨ κ = 23) with rfl | rfl | rfl | rfl | rfl | rfl | rfl <;> simp [zlive] at q3 ⊢ <;> omega
    · have F : ∀ k, k ≠ 0 ∧ k ≠ 23 → yrq t nd nr a.toNat b.toNat m9 x 30 0 k = t 30 0 k := fun k hk => yrq_fr (by omega)
      have e64 : yrq t nd nr a.toNat b.toNat m9 x 64 0 nr = 0 := by rw [yrq_fr (by omega)]; exact (hWF.2.2.2.2 nr (Nat.le_refl _) h3).1
      exact ⟨F 1 (by omega), F 2 (by omega), rfl, e64, (yrq_at (t := t)).2.2.2.2.2.2.2.1, (yrq_at (t := t)).2.2.2.2.1⟩
  · obtain ⟨rfl, ⟨rfl, h1⟩ | ⟨rfl, h1, h2⟩ | ⟨rfl, h1, h2, h3⟩⟩ := hp
    · exact Or.inl ⟨rfl, Or.inl ⟨Or.inl rfl, hC⟩, fun _ _ _ => rfl⟩
    · exact Or.inr (Or.inl ⟨rfl, Or.inl ⟨Or.inr (Or.inl rfl), hC⟩, fun _ _ _ => rfl⟩)
    · exact Or.inr (Or.inr ⟨rfl, Or.inl ⟨Or.inr (Or.inr rfl), hC⟩, fun _ _ _ => rfl⟩)

set_option maxHeartbeats 2000000 in
theorem cl_driver (l : Launch) (hst : l.stackTraces = false) (G : zG) (ad : zA) (A : Nat → Prop) (N0 : Nat) (σ t : zS) (nd nr ns : Nat) (c : Int) (hC : pC ad σ t nd nr ns c) (hg : ∀ κ i k, zg (σ κ i k)) (sl : Prop) (hv : pV t sl nd nr) (hE : pE t nd nr) (hA : ∀ q, N0 ≤ q → A q) (hnd : nd < 8) (a : Int) (ha : 0 ≤ a ∧ a ≤ 9) (hc7 : c + 1 ≤ 800) : vx_Met l yL_driver wsL_driver ({ frames := 8, cells := 8, slots := 63, locals := 242 }) (zPH G ad A N0 σ [zr ad 0 ((0 : Nat) : Int), .int (zi a)]) (zQD G A (fun ad9 r u => ∃ t', pC ad9 u t' (nd + 1) nr ns (c + 1) ∧ pV t' sl (nd + 1) nr ∧ pE t' (nd + 1) nr ∧ ((nd : Nat) : Int) = r ∧ t' 30 0 1 = t 30 0 1 ∧ t' 30 0 2 = t 30 0 2 ∧ (∀ κ i, ¬ (17 ≤ κ ∧ κ ≤ 23) → ad9 κ i = ad κ i))) zX0 8 63 A := by
  obtain ⟨hX, hun, hCP, hWF, hc0, hc8⟩ := id hC
  have hB9 : 1000 * c ≤ 1000000 := by omega
  refine c_L_driver l G ad A N0 σ (hX 0 0 rfl) a (c_X6_driver l hst G ad A N0 σ nd nr ns hX _ _ t hCP hWF hB9 hc0 hA (fun κ q1 q2 => hun κ nd q1 (by omega) (by rcases (by omega : κ = 17 ∨ κ = 18 ∨ κ = 19 ∨ κ = 20 ∨ κ = 21 ∨ κ = 22) with rfl | rfl | rfl | rfl | rfl | rfl <;> simp [zlive])) a ⟨by omega, by omega⟩) (fun ad9 r u hp => ?_) (fun E u hp => ?_)
  · obtain ⟨h1, h2, rfl, hX9, hk9, hcp⟩ := hp
    have k1 := pV_dr (x := a) hWF hv h2
    rw [zi_self ⟨by omega, by omega⟩]
    refine ⟨_, ⟨hX9, fun κ i q1 q2 q3 => ?_, hcp, yWF_B (yWF_dr hWF hc0 h2 h1) (by omega) (by omega), by omega, hc7⟩, k1, pE_dr hWF hE h2, rfl, ?_, ?_, fun κ i q1 => hk9 κ i (by omega)⟩
    · have hne : ¬ (17 ≤ κ ∧ κ ≤ 22 ∧ i = nd) := by
        rintro ⟨p1, p2, rfl⟩
        rcases (by omega : κ = 17 ∨ κ = 18 ∨ κ = 19 ∨ κ = 20 ∨ κ = 21 ∨ κ = 22) with rfl | rfl | rfl | rfl | rfl | rfl <;> simp [zlive] at q3
      rw [hk9 κ i hne]
      refine hun κ i q1 q2 ?_
      rcases (by omega : κ = 17 ∨ κ = 18 ∨ κ = 19 ∨ κ = 20 ∨ κ = 21 ∨ κ = 22 ∨ κ = 23) with rfl | rfl | rfl | rfl | rfl | rfl | rfl <;> simp [zlive] at q3 ⊢ <;> omega
    · rw [ybf_f2 (by omega), zu_ne (by omega), zu_ne (by omega), zu_ne (by omega)]
    · rw [ybf_f2 (by omega), zu_ne (by omega), zu_ne (by omega), zu_ne (by omega)]
  · obtain ⟨rfl, ⟨rfl, h1⟩ | ⟨rfl, h1, h2⟩⟩ := hp
    · exact absurd ha h1
    · omega

set_option maxHeartbeats 2000000 in
theorem cl_street (l : Launch) (hst : l.stackTraces = false) (G : zG) (ad : zA) (A : Nat → Prop) (N0 : Nat) (σ t : zS) (nd nr ns : Nat) (c : Int) (hC : pC ad σ t nd nr ns c) (hg : ∀ κ i k, zg (σ κ i k)) (hns : ns < 20) (a b m9 : Int) (ha : 0 ≤ a ∧ a ≤ 9) (hb : 0 ≤ b ∧ b ≤ 9) (hab : a ≠ b) (hm : 1 ≤ m9 ∧ m9 ≤ 20) (hnd : nd = 0) (hnr : nr = 0) (hc7 : c + 1 ≤ 800) : vx_Met l yL_street wsL_street ({ frames := 8, cells := 5, slots := 30, locals := 245 }) (zPH G ad A N0 σ [zr ad 0 ((0 : Nat) : Int), .int (zi a), .int (zi b), .int (zi m9)]) (zQ G ad A zri (fun r u => ((ns : Nat) : Int) = r ∧ ∃ t', pC ad u t' nd nr (ns + 1) (c + 1) ∧ t' 30 0 1 = t 30 0 1 ∧ t' 30 0 2 = t 30 0 2)) zX0 5 30 A := by
  obtain ⟨hX, hun, hCP, hWF, hc0, hc8⟩ := id hC
  have hB9 : 1000 * c ≤ 1000000 := by omega
  refine c_L_street l G ad A N0 σ (hX 0 0 rfl) a b m9 (c_X6_street l hst G ad A N0 σ nd nr ns hX _ _ t hCP hWF hB9 a b m9 ⟨by omega, by omega⟩ ⟨by omega, by omega⟩ ⟨by omega, by omega⟩) (fun r u hp => ?_) (fun E u hp => ?_)
  · obtain ⟨h1, h2, h3, rfl, hcp⟩ := hp
    obtain ⟨v, hw⟩ := yfw_ex (zu (zu (zu (zu (zu t 30 0 0 0) 44 0 ns a) 45 0 ns b) 46 0 ns m9) 30 0 3 ((ns : Int) + 1)) (ns + 1)
    have F : ∀ k, k ≠ 0 ∧ k ≠ 3 → v 30 0 k = t 30 0 k := fun k hk => by rw [hw.2 30 0 k (by omega), zu_ne (by omega), zu_ne (by omega), zu_ne (by omega), zu_ne (by omega), zu_ne (by omega)]
    rw [zi_self ⟨by omega, by omega⟩]
    exact ⟨rfl, v, ⟨hX, hun, hcp v hw, yWF_B (yWF_street hWF h3 ha hb hab hm hw) (by omega) (by omega), by omega, hc7⟩, F 1 (by omega), F 2 (by omega)⟩
  · obtain ⟨rfl, ⟨rfl, h1⟩ | ⟨rfl, h1, h2⟩ | ⟨rfl, h1, h2, h3⟩⟩ := hp
    · exact absurd ⟨ha, hb⟩ h1
    · exact absurd ⟨hab, hm⟩ h2
    · omega
