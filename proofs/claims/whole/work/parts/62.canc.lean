/-! a request is cancelled -/
/-- the row of D without its stop o, q's stop to let in for nobody; so far L stops are laid -/
def ymk (v : zS) (D q o L : Nat) : zS := fun κ i k => if κ = 53 ∧ i = 0 ∧ 8 * D ≤ k ∧ k < 8 * D + L then (if k < 8 * D + o then v 53 0 k else v 53 0 (k + 1)) else if κ = 54 ∧ i = 0 ∧ 8 * D ≤ k ∧ k < 8 * D + L then (if (if k < 8 * D + o then v 54 0 k else v 54 0 (k + 1)) = (q : Int) then -1 else if k < 8 * D + o then v 54 0 k else v 54 0 (k + 1)) else v κ i k
theorem ymk_fr {v : zS} {D q o L κ i k : Nat} (h : ¬ ((κ = 53 ∨ κ = 54) ∧ 8 * D ≤ k ∧ k < 8 * D + L)) : ymk v D q o L κ i k = v κ i k := by
  unfold ymk
  rw [if_neg (by omega), if_neg (by omega)]
theorem ymk_0 {v : zS} {D q o : Nat} : ymk v D q o 0 = v := funext fun κ => funext fun i => funext fun k => ymk_fr (by omega)
theorem ymk_53 {v : zS} {D q o L j : Nat} (h : j < L) : ymk v D q o L 53 0 (8 * D + j) = if j < o then v 53 0 (8 * D + j) else v 53 0 (8 * D + (j + 1)) := by
  unfold ymk
  rw [if_pos (by omega)]
  by_cases c : j < o
  · rw [if_pos c, if_pos (by omega)]
  · rw [if_neg c, if_neg (by omega)]
    rfl
theorem ymk_54 {v : zS} {D q o L j : Nat} (h : j < L) : ymk v D q o L 54 0 (8 * D + j) = ycx (fun j => v 54 0 (8 * D + j)) (q : Int) o j := by
  unfold ymk ycx
  rw [if_neg (by omega), if_pos (by omega)]
  by_cases c : j < o
  · rw [if_pos c, if_pos (show 8 * D + j < 8 * D + o by omega)]
  · rw [if_neg c, if_neg (show ¬ 8 * D + j < 8 * D + o by omega)]
    rfl
theorem ymk_st {v : zS} {D q o L j : Nat} {x y : Int} (hj : j = if L < o then L else L + 1) (hx : x = v 53 0 (8 * D + j)) (hy : y = if v 54 0 (8 * D + j) = (q : Int) then -1 else v 54 0 (8 * D + j)) : zu (zu (ymk v D q o L) 53 0 (8 * D + L) x) 54 0 (8 * D + L) y = ymk v D q o (L + 1) := by
  have e53 := ymk_53 (v := v) (D := D) (q := q) (o := o) (L := L + 1) (j := L) (by omega)
  have e54 := ymk_54 (v := v) (D := D) (q := q) (o := o) (L := L + 1) (j := L) (by omega)
  have x2 : x = ymk v D q o (L + 1) 53 0 (8 * D + L) := by
    rw [e53, hx, hj]
    by_cases c : L < o
    · rw [if_pos c, if_pos c]
    · rw [if_neg c, if_neg c]
  have y2 : y = ymk v D q o (L + 1) 54 0 (8 * D + L) := by
    rw [e54, hy, hj]
    unfold ycx
    by_cases c : L < o
    · rw [if_pos c, if_pos c]
    · rw [if_neg c, if_neg c]
  funext κ i k
  by_cases h1 : κ = 54 ∧ i = 0 ∧ k = 8 * D + L
  · obtain ⟨rfl, rfl, rfl⟩ := h1
    rw [zu_same, y2]
  · rw [zu_ne h1]
    by_cases h2 : κ = 53 ∧ i = 0 ∧ k = 8 * D + L
    · obtain ⟨rfl, rfl, rfl⟩ := h2
      rw [zu_same, x2]
    · rw [zu_ne h2]
      by_cases h3 : κ = 53 ∧ i = 0 ∧ 8 * D ≤ k ∧ k < 8 * D + L
      · obtain ⟨rfl, rfl, h4, h5⟩ := h3
        rw [show k = 8 * D + (k - 8 * D) by omega, ymk_53 (by omega), ymk_53 (by omega)]
      · by_cases h4 : κ = 54 ∧ i = 0 ∧ 8 * D ≤ k ∧ k < 8 * D + L
        · obtain ⟨rfl, rfl, h4, h5⟩ := h4
          rw [show k = 8 * D + (k - 8 * D) by omega, ymk_54 (by omega), ymk_54 (by omega)]
        · unfold ymk
          rw [if_neg h3, if_neg h4, if_neg (by omega), if_neg (by omega)]
/-- where the rider of q is let out -/
def yco (σ : zS) (q o : Nat) : Prop := (o : Int) < σ 52 0 (σ 70 0 q).toNat ∧ σ 54 0 (8 * (σ 70 0 q).toNat + o) = 100 + (q : Int) ∧ ∀ j : Nat, (j : Int) < σ 52 0 (σ 70 0 q).toNat → σ 54 0 (8 * (σ 70 0 q).toNat + j) = 100 + (q : Int) → j = o
theorem yco_ex {σ : zS} {nd nr ns q : Nat} {c B : Int} (h : yWF σ nd nr ns c B) (hq : q < nr) (hs : σ 64 0 q = 1) : ∃ o, yco σ q o := by
  have hwq := h.2.2.1 q hq
  have h709 := hwq.2.2.2.2.2.2.2.2.1 (by omega) (by omega)
  have h70 := hwq.2.2.2.2.2.2.2.1
  have hrs := (h.2.1 (σ 70 0 q).toNat (by omega)).2.2.2.2.2.2.2.2.2
  obtain ⟨o, ho, e⟩ := hrs.2.2 q hq hs (by omega)
  refine ⟨o, by omega, e, fun j hj e2 => hrs.2.1 j o (by omega) ho (e2.trans e.symm) ?_⟩
  show σ 54 0 (8 * (σ 70 0 q).toNat + j) ≠ -1
  omega
noncomputable def ycl (σ : zS) (q o : Nat) : zS := zu (zu (ymk (zu σ 30 0 0 0) (σ 70 0 q).toNat q o ((σ 52 0 (σ 70 0 q).toNat).toNat - 1)) 52 0 (σ 70 0 q).toNat (σ 52 0 (σ 70 0 q).toNat - 1)) 64 0 q 4
noncomputable def ycf (σ : zS) (q : Nat) : Int := if 2 < σ 30 0 1 - σ 73 0 q then 500 else 0

set_option maxHeartbeats 4000000 in
set_option maxRecDepth 100000 in
theorem c_X7_cancel (l : Launch) (G : zG) (ad : zA) (A : Nat → Prop) (N0 : Nat) (σ : zS) (hM : zMm ad) (nd nr ns : Nat) (c9 B9 : Int) (hWF : yWF σ nd nr ns c9 B9) (hB9 : B9 ≤ 1000000) (a : Int) (ga : zg a) : Met l yX7_cancel wsX7_cancel ({ frames := 2, cells := 0, slots := 0, locals := 43 }) (zP G ad A N0 σ [zr ad 30 ((0 : Nat) : Int), .int (zi a)]) (zQ G ad A zri (fun r u => (¬ (0 ≤ a ∧ a ≤ σ 30 0 23 - 1) ∧ 0 = r ∧ u = zu σ 30 0 0 1) ∨ ((0 ≤ a ∧ a ≤ σ 30 0 23 - 1) ∧ ¬ (0 ≤ σ 64 0 a.toNat ∧ σ 64 0 a.toNat ≤ 1) ∧ 0 = r ∧ u = zu σ 30 0 0 2) ∨ ((0 ≤ a ∧ a ≤ σ 30 0 23 - 1) ∧ σ 64 0 a.toNat = 0 ∧ 0 = r ∧ u = zu (zu σ 30 0 0 0) 64 0 a.toNat 4) ∨ ((0 ≤ a ∧ a ≤ σ 30 0 23 - 1) ∧ σ 64 0 a.toNat = 1 ∧ ycf σ a.toNat = r ∧ ∃ o, yco σ a.toNat o ∧ u = ycl σ a.toNat o))) 0 0 A := by
  refine zz_of (cc := cX7_cancel) (maxL := 7) (ret := (some .int)) (by decide) rfl ⟨rfl, rfl⟩ (List.forall_mem_cons.mpr ⟨zr_cat _ _ _, List.forall_mem_cons.mpr ⟨rfl, fun _ h => absurd h List.not_mem_nil⟩⟩) (Nat.le_of_ble_eq_true rfl) ?_
  intro p e s m below meth c hx hb hr hml hts hown hlocks hsz hW0 hK ls hl
  have hS0 : va_S A s.heap s.heap [] := va_S.rf
  have hl : zh ls 7 [(0, zr ad 30 ((0 : Nat) : Int)), (1, .int (zi a))] := hl
  have hinX7 : ∀ w ∈ u_ws RX7 TX7 42, w ∈ wsX7_cancel := by decide +kernel
  have h8 := hWF.1.2.1.1
  have h23 := hWF.1.2.1.2.1
  have hnd := hWF.1.1.1
  have hnr := hWF.1.1.2.1
  have hnow := hWF.1.2.2.1
  have hord := hWF.1.2.2.2.2.1
  refine zz_aload_n hx hb hl 0 dX7_cancel_0 rfl rfl ?_
  refine zz_iload_n hx hb hl 1 dX7_cancel_1 rfl rfl ?_
  refine zz_callV (T := TX7) (N := 42) (As := [.int (zi a)]) (rest := []) (v := ((0 : Nat) : Int)) (κ := 30) ⟨hx, hb, hml, hown, hts⟩ (c_X7_isRequest l G ad A N0 σ hM a ga (by omega)) (cwV 1 hts gX7_cancel_X7_isRequest rfl rfl rfl (by decide +kernel) ⟨Nat.le_of_ble_eq_true rfl, Nat.le_of_ble_eq_true rfl⟩) hK hW0 (zlN (hM 30 rfl)) rfl rfl (Nat.le_trans hsz hS0.1) hS0 rfl hl.1.1 rfl (Nat.le_of_ble_eq_true rfl) dX7_cancel_2 ⟨Nat.le_of_ble_eq_true rfl, Nat.le_of_ble_eq_true rfl⟩ (fun x1 σ1 H1 locs1 hp1 hW1 hz1 hS1 => ?_)
  obtain ⟨rfl, rfl⟩ := hp1
  refine W.eq (g2 := F0 m 5 ls [.int (zi (zb (0 ≤ a ∧ a ≤ σ 30 0 23 - 1)))]) rfl ?_
  refine zz_istore_n (lv' := [(2, .int (zi (zb (0 ≤ a ∧ a ≤ σ 30 0 23 - 1)))), (0, zr ad 30 ((0 : Nat) : Int)), (1, .int (zi a))]) hx hb hl dX7_cancel_5 rfl (by decide) rfl (fun ls hl => ?_)
  refine zz_aload_n hx hb hl 1 dX7_cancel_6 rfl rfl ?_
  refine zz_iload_n hx hb hl 0 dX7_cancel_7 rfl rfl ?_
  refine zz_if_neb (tgt := 15) hx hb dX7_cancel_8 (by decide) (fun hc8 => ?_) (fun hc8 => ?_)
  · refine zz_aload_n hx hb hl 1 dX7_cancel_15 rfl rfl ?_
    refine zz_get (T := TX7) (N := 42) (k := 24) (κ := 30) (w := zr ad 64 ((0 : Nat) : Int)) hx hb hts hinX7 hown hK hW1 (zlN (hM 30 rfl)) rfl rfl rfl (by decide) (hts (.fieldLink RX7 66 "HailCityModel" "state" "[I") (by decide +kernel)) (fun _ h9 => h9) rfl dX7_cancel_16 ?_
    refine zz_iload_n hx hb hl 2 dX7_cancel_19 rfl rfl ?_
    refine zz_iald (w := σ 64 0 ((a).toNat)) hx hb hK hW1 (zlN (hM 64 rfl)) rfl rfl rfl (by show (0 : Int) ≤ a; omega) (by show a < (60 : Int); omega) rfl dX7_cancel_20 ?_
    refine zz_iconst hx hb dX7_cancel_21 ?_
    refine zz_iconst hx hb dX7_cancel_22 ?_
    refine zz_callS (As := [.int (zi (σ 64 0 ((a).toNat))), .int (zi 0), .int (zi 1)]) (rest := [zr ad 30 ((0 : Nat) : Int)]) ⟨hx, hb, hml, hown, hts⟩ (c_X7_in l G ad A N0 σ (σ 64 0 a.toNat) 0 1 (hW0.2.2.1 _ _ _) ⟨by decide, by decide⟩ ⟨by decide, by decide⟩) (va_cwS 3 hts gX7_cancel_X7_in rfl rfl rfl (by decide +kernel) ⟨Nat.le_of_ble_eq_true rfl, Nat.le_of_ble_eq_true rfl⟩) hK hW1 (Nat.le_trans hsz hS1.1) hS1 rfl hl.1.1 rfl (by simp [zr_cat, zcat_i]) dX7_cancel_23 ⟨Nat.le_of_ble_eq_true rfl, Nat.le_of_ble_eq_true rfl⟩ (fun x2 σ2 H2 locs2 hp2 hW2 hz2 hS2 => ?_)
    obtain ⟨rfl, rfl⟩ := hp2
    refine W.eq (g2 := F0 m 26 ls [.int (zi (zb (0 ≤ σ 64 0 a.toNat ∧ σ 64 0 a.toNat ≤ 1))), zr ad 30 ((0 : Nat) : Int)]) rfl ?_
    refine zz_if_neb (tgt := 33) hx hb dX7_cancel_26 (by decide) (fun hc26 => ?_) (fun hc26 => ?_)
    · refine zz_iconst hx hb dX7_cancel_33 ?_
      refine zz_callV (T := TX7) (N := 42) (As := [.int (zi 0)]) (rest := []) (v := ((0 : Nat) : Int)) (κ := 30) ⟨hx, hb, hml, hown, hts⟩ (c_X7_refused l G ad A N0 σ hM (0) ⟨by decide, by decide⟩) (cwV 1 hts gX7_cancel_X7_refused rfl rfl rfl (by decide +kernel) ⟨Nat.le_of_ble_eq_true rfl, Nat.le_of_ble_eq_true rfl⟩) hK hW2 (zlN (hM 30 rfl)) rfl rfl (Nat.le_trans hsz hS2.1) hS2 rfl hl.1.1 rfl (Nat.le_of_ble_eq_true rfl) dX7_cancel_34 ⟨Nat.le_of_ble_eq_true rfl, Nat.le_of_ble_eq_true rfl⟩ (fun x3 σ3 H3 locs3 hp3 hW3 hz3 hS3 => ?_)
      have hs3 : σ3 = zu σ 30 0 0 (0) := hp3.1.symm
      obtain rfl := hp3.2
      refine W.eq (g2 := F0 m 37 ls [.int (zi (zb ((0 : Int) ≠ 0)))]) rfl ?_
      refine zz_if_eqb (tgt := 42) hx hb dX7_cancel_37 (by decide) (fun hc37 => ?_) (fun hc37 => ?_)
      · have ea : (a : Int) = ((a.toNat : Nat) : Int) := by omega
        have hwq := hWF.2.2.1 a.toNat (by omega)
        have h70 := hwq.2.2.2.2.2.2.2.1
        have h73 := hwq.2.2.2.2.2.2.2.2.2.1
        have hl : zh ls 7 [(2, .int (zi (zb (0 ≤ a ∧ a ≤ σ 30 0 23 - 1)))), (0, zr ad 30 ((0 : Nat) : Int)), (1, .int (zi ((a.toNat : Nat) : Int)))] := by
          rw [← ea]
          exact hl
        refine zz_iconst hx hb dX7_cancel_42 ?_
        refine zz_istore_n (lv' := [(3, .int (zi 0)), (2, .int (zi (zb (0 ≤ a ∧ a ≤ σ 30 0 23 - 1)))), (0, zr ad 30 ((0 : Nat) : Int)), (1, .int (zi ((a.toNat : Nat) : Int)))]) hx hb hl dX7_cancel_43 rfl (by decide) rfl (fun ls hl => ?_)
        refine zz_aload_n hx hb hl 2 dX7_cancel_44 rfl rfl ?_
        refine zz_get (T := TX7) (N := 42) (k := 24) (κ := 30) (w := zr ad 64 ((0 : Nat) : Int)) hx hb hts hinX7 hown hK hW3 (zlN (hM 30 rfl)) rfl rfl rfl (by decide) (hts (.fieldLink RX7 66 "HailCityModel" "state" "[I") (by decide +kernel)) (fun _ h9 => h9) rfl dX7_cancel_45 ?_
        refine zz_iload_n hx hb hl 3 dX7_cancel_48 rfl rfl ?_
        refine zz_iald (w := σ 64 0 a.toNat) hx hb hK hW3 (zlN (hM 64 rfl)) rfl rfl rfl (by show (0 : Int) ≤ ((a.toNat : Nat) : Int); omega) (by show ((a.toNat : Nat) : Int) < (60 : Int); omega) (show σ3 64 0 a.toNat = σ 64 0 a.toNat from by rw [hs3, zu_k (by decide)]) dX7_cancel_49 ?_
        refine zz_iconst hx hb dX7_cancel_50 ?_
        refine zz_icmp_ne (tgt := 200) hx hb dX7_cancel_51 (by decide) (hW2.2.2.1 _ _ _) ⟨by decide, by decide⟩ (fun hc51 => ?_) (fun hc51 => ?_)
        · refine zz_aload_n hx hb hl 2 dX7_cancel_200 rfl rfl ?_
          refine zz_get (T := TX7) (N := 42) (k := 24) (κ := 30) (w := zr ad 64 ((0 : Nat) : Int)) hx hb hts hinX7 hown hK hW3 (zlN (hM 30 rfl)) rfl rfl rfl (by decide) (hts (.fieldLink RX7 66 "HailCityModel" "state" "[I") (by decide +kernel)) (fun _ h9 => h9) rfl dX7_cancel_201 ?_
          refine zz_iload_n hx hb hl 3 dX7_cancel_204 rfl rfl ?_
          refine zz_iconst hx hb dX7_cancel_205 ?_
          refine zz_iast (y := 4) hx hb hK hW3 hS3 (zlN (hM 64 rfl)) rfl rfl rfl (by show (0 : Int) ≤ ((a.toNat : Nat) : Int); omega) (by show ((a.toNat : Nat) : Int) < (60 : Int); omega) ⟨by decide, by decide⟩ dX7_cancel_206 (fun H4 locs4 hW4' hS4 => ?_)
          obtain ⟨σ4, hs4⟩ : ∃ z, z = zu σ3 64 0 a.toNat 4 := ⟨_, rfl⟩
          have hW4 : ZW G ad A σ4 H4 := by rw [hs4]; exact hW4'
          refine zz_iload_n hx hb hl 0 dX7_cancel_207 rfl rfl ?_
          refine W.eq (g2 := F0 m 208 ls [.int (zi 0)]) rfl ?_
          refine zz_reti hx hb hr hlocks hW4 hS4 ?_ dX7_cancel_208
          exact Or.inr (Or.inr (Or.inl ⟨hc8, by omega, rfl, by rw [hs4, hs3]⟩))
        · have h709 := hwq.2.2.2.2.2.2.2.2.1 (by omega) (by omega)
          obtain ⟨o, ho1, ho2, ho3⟩ := yco_ex hWF (show a.toNat < nr by omega) (by omega)
          have hoC : yco σ a.toNat o := ⟨ho1, ho2, ho3⟩
          obtain ⟨D, hD⟩ : ∃ z, z = (σ 70 0 a.toNat).toNat := ⟨_, rfl⟩
          rw [← hD] at ho1 ho2 ho3
          have hDn : D < nd := by omega
          have h529 := (hWF.2.1 D hDn).1.2
          obtain ⟨n, hn9⟩ : ∃ z, z = (σ 52 0 D).toNat := ⟨_, rfl⟩
          have e52 : σ 52 0 D = (n : Int) := by omega
          refine zz_aload_n hx hb hl 2 dX7_cancel_54 rfl rfl ?_
          have hcut76 : ∀  (H9 : Heap) (locs9 : List Loc) (ls : Array Slot), (True) → ZW G ad A σ3 H9 → va_S A s.heap H9 locs9 → zh ls 7 [(0, zr ad 30 ((0 : Nat) : Int)), (1, .int (zi ((a.toNat : Nat) : Int)))] → W p l e ({ frames := 2, cells := 0, slots := 0, locals := 43 }) s m ([zr ad 30 ((0 : Nat) : Int), .int (zi a)] : List Value).toArray below meth c H9 locs9 0 0 (MQ below (zQ G ad A zri (fun r u => (¬ (0 ≤ a ∧ a ≤ σ 30 0 23 - 1) ∧ 0 = r ∧ u = zu σ 30 0 0 1) ∨ ((0 ≤ a ∧ a ≤ σ 30 0 23 - 1) ∧ ¬ (0 ≤ σ 64 0 a.toNat ∧ σ 64 0 a.toNat ≤ 1) ∧ 0 = r ∧ u = zu σ 30 0 0 2) ∨ ((0 ≤ a ∧ a ≤ σ 30 0 23 - 1) ∧ σ 64 0 a.toNat = 0 ∧ 0 = r ∧ u = zu (zu σ 30 0 0 0) 64 0 a.toNat 4) ∨ ((0 ≤ a ∧ a ≤ σ 30 0 23 - 1) ∧ σ 64 0 a.toNat = 1 ∧ ycf σ a.toNat = r ∧ ∃ o, yco σ a.toNat o ∧ u = ycl σ a.toNat o))) ([zr ad 30 ((0 : Nat) : Int), .int (zi a)] : List Value).toArray s 0 0 A) (F0 m 76 ls [.int (zi (ycf σ a.toNat))]) := by
            intro  H5 locs5 ls hI76 hW5 hS5 hl
            have gF : zg (ycf σ a.toNat) := by unfold ycf; split <;> exact ⟨by decide, by decide⟩
            refine zz_istore_n (lv' := [(3, .int (zi (ycf σ a.toNat))), (0, zr ad 30 ((0 : Nat) : Int)), (1, .int (zi ((a.toNat : Nat) : Int)))]) hx hb hl dX7_cancel_76 rfl (by decide) rfl (fun ls hl => ?_)
            refine zz_aload_n hx hb hl 1 dX7_cancel_77 rfl rfl ?_
            refine zz_get (T := TX7) (N := 42) (k := 30) (κ := 30) (w := zr ad 70 ((0 : Nat) : Int)) hx hb hts hinX7 hown hK hW5 (zlN (hM 30 rfl)) rfl rfl rfl (by decide) (hts (.fieldLink RX7 84 "HailCityModel" "driverOf" "[I") (by decide +kernel)) (fun _ h9 => h9) rfl dX7_cancel_78 ?_
            refine zz_iload_n hx hb hl 2 dX7_cancel_81 rfl rfl ?_
            refine zz_iald (w := ((D : Nat) : Int)) hx hb hK hW5 (zlN (hM 70 rfl)) rfl rfl rfl (by show (0 : Int) ≤ ((a.toNat : Nat) : Int); omega) (by show ((a.toNat : Nat) : Int) < (60 : Int); omega) (show σ3 70 0 a.toNat = ((D : Nat) : Int) from by rw [hs3, zu_k (by decide)]; omega) dX7_cancel_82 ?_
            refine zz_istore (lv' := [(4, .int (zi ((D : Nat) : Int))), (3, .int (zi (ycf σ a.toNat))), (0, zr ad 30 ((0 : Nat) : Int)), (1, .int (zi ((a.toNat : Nat) : Int)))]) hx hb hl dX7_cancel_83 (by decide) rfl (fun ls hl => ?_)
            refine zz_iconst hx hb dX7_cancel_85 ?_
            refine zz_istore (lv' := [(5, .int (zi 0)), (4, .int (zi ((D : Nat) : Int))), (3, .int (zi (ycf σ a.toNat))), (0, zr ad 30 ((0 : Nat) : Int)), (1, .int (zi ((a.toNat : Nat) : Int)))]) hx hb hl dX7_cancel_86 (by decide) rfl (fun ls hl => ?_)
            refine zz_bipush hx hb dX7_cancel_88 (by decide +kernel) ?_
            refine zz_iload hx hb hl 1 dX7_cancel_90 rfl ?_
            refine zz_imul hx hb dX7_cancel_92 ?_
            refine zz_istore (lv' := [(6, .int (zi ((8 * D : Nat) : Int))), (5, .int (zi 0)), (4, .int (zi ((D : Nat) : Int))), (3, .int (zi (ycf σ a.toNat))), (0, zr ad 30 ((0 : Nat) : Int)), (1, .int (zi ((a.toNat : Nat) : Int)))]) hx hb hl dX7_cancel_93 (by decide) rfl (fun ls hl => ?_)
            have hcut95 : ∀ (n9 : Nat) (j L : Nat)  (σ9 : zS) (H9 : Heap) (locs9 : List Loc) (ls : Array Slot), (j ≤ n ∧ (L + (if o < j then 1 else 0) = j) ∧ σ9 = ymk (zu σ 30 0 0 0) D a.toNat o L) → (n - j) < n9 → ZW G ad A σ9 H9 → va_S A s.heap H9 locs9 → zh ls 7 [(0, zr ad 30 ((0 : Nat) : Int)), (1, .int (zi ((a.toNat : Nat) : Int))), (3, .int (zi (ycf σ a.toNat))), (4, .int (zi ((D : Nat) : Int))), (5, .int (zi ((L : Nat) : Int))), (6, .int (zi ((8 * D + j : Nat) : Int)))] → W p l e ({ frames := 2, cells := 0, slots := 0, locals := 43 }) s m ([zr ad 30 ((0 : Nat) : Int), .int (zi a)] : List Value).toArray below meth c H9 locs9 0 0 (MQ below (zQ G ad A zri (fun r u => (¬ (0 ≤ a ∧ a ≤ σ 30 0 23 - 1) ∧ 0 = r ∧ u = zu σ 30 0 0 1) ∨ ((0 ≤ a ∧ a ≤ σ 30 0 23 - 1) ∧ ¬ (0 ≤ σ 64 0 a.toNat ∧ σ 64 0 a.toNat ≤ 1) ∧ 0 = r ∧ u = zu σ 30 0 0 2) ∨ ((0 ≤ a ∧ a ≤ σ 30 0 23 - 1) ∧ σ 64 0 a.toNat = 0 ∧ 0 = r ∧ u = zu (zu σ 30 0 0 0) 64 0 a.toNat 4) ∨ ((0 ≤ a ∧ a ≤ σ 30 0 23 - 1) ∧ σ 64 0 a.toNat = 1 ∧ ycf σ a.toNat = r ∧ ∃ o, yco σ a.toNat o ∧ u = ycl σ a.toNat o))) ([zr ad 30 ((0 : Nat) : Int), .int (zi a)] : List Value).toArray s 0 0 A) (F0 m 95 ls []) := by
              intro n9
              induction n9 with
              | zero =>
                intro j L σ6 H6 locs6 ls hI95 hm95 hW6 hS6 hl
                exact absurd hm95 (Nat.not_lt_zero _)
              | succ n9 ih95 =>
                intro j L σ6 H6 locs6 ls hI95 hm95 hW6 hS6 hl
                obtain ⟨hj1, hL, hj2⟩ := hI95
                have hLj : L ≤ j := by omega
                have e54 : (zu σ 30 0 0 0) 54 0 (8 * D + j) = σ 54 0 (8 * D + j) := zu_ne (by omega)
                
                refine zz_iload hx hb hl 5 dX7_cancel_95 rfl ?_
                refine zz_bipush hx hb dX7_cancel_97 (by decide +kernel) ?_
                refine zz_iload hx hb hl 3 dX7_cancel_99 rfl ?_
                refine zz_imul hx hb dX7_cancel_101 ?_
                refine zz_aload_n hx hb hl 0 dX7_cancel_102 rfl rfl ?_
                refine zz_get (T := TX7) (N := 42) (k := 12) (κ := 30) (w := zr ad 52 ((0 : Nat) : Int)) hx hb hts hinX7 hown hK hW6 (zlN (hM 30 rfl)) rfl rfl rfl (by decide) (hts (.fieldLink RX7 36 "HailCityModel" "stops" "[I") (by decide +kernel)) (fun _ h9 => h9) rfl dX7_cancel_103 ?_
                refine zz_iload hx hb hl 3 dX7_cancel_106 rfl ?_
                refine zz_iald (w := ((n : Nat) : Int)) hx hb hK hW6 (zlN (hM 52 rfl)) rfl rfl rfl (by show (0 : Int) ≤ ((D : Nat) : Int); omega) (by show ((D : Nat) : Int) < (8 : Int); omega) (show σ6 52 0 D = ((n : Nat) : Int) from by rw [hj2, ymk_fr (by omega), zu_ne (by omega)]; exact e52) dX7_cancel_108 ?_
                refine zz_iadd hx hb dX7_cancel_109 ?_
                refine zz_icmp_ge (tgt := 191) hx hb dX7_cancel_110 (by decide) ⟨by omega, by omega⟩ ⟨by omega, by omega⟩ (fun hc110 => ?_) (fun hc110 => ?_)
                · refine zz_aload_n hx hb hl 0 dX7_cancel_191 rfl rfl ?_
                  refine zz_get (T := TX7) (N := 42) (k := 12) (κ := 30) (w := zr ad 52 ((0 : Nat) : Int)) hx hb hts hinX7 hown hK hW6 (zlN (hM 30 rfl)) rfl rfl rfl (by decide) (hts (.fieldLink RX7 36 "HailCityModel" "stops" "[I") (by decide +kernel)) (fun _ h9 => h9) rfl dX7_cancel_192 ?_
                  refine zz_iload hx hb hl 3 dX7_cancel_195 rfl ?_
                  refine zz_iload hx hb hl 4 dX7_cancel_197 rfl ?_
                  refine zz_iast (y := ((L : Nat) : Int)) hx hb hK hW6 hS6 (zlN (hM 52 rfl)) rfl rfl rfl (by show (0 : Int) ≤ ((D : Nat) : Int); omega) (by show ((D : Nat) : Int) < (8 : Int); omega) ⟨by omega, by omega⟩ dX7_cancel_199 (fun H7 locs7 hW7' hS7 => ?_)
                  obtain ⟨σ7, hs7⟩ : ∃ z, z = zu σ6 52 0 D ((L : Nat) : Int) := ⟨_, rfl⟩
                  have hW7 : ZW G ad A σ7 H7 := by rw [hs7]; exact hW7'
                  refine zz_aload_n hx hb hl 0 dX7_cancel_200 rfl rfl ?_
                  refine zz_get (T := TX7) (N := 42) (k := 24) (κ := 30) (w := zr ad 64 ((0 : Nat) : Int)) hx hb hts hinX7 hown hK hW7 (zlN (hM 30 rfl)) rfl rfl rfl (by decide) (hts (.fieldLink RX7 66 "HailCityModel" "state" "[I") (by decide +kernel)) (fun _ h9 => h9) rfl dX7_cancel_201 ?_
                  refine zz_iload_n hx hb hl 1 dX7_cancel_204 rfl rfl ?_
                  refine zz_iconst hx hb dX7_cancel_205 ?_
                  refine zz_iast (y := 4) hx hb hK hW7 hS7 (zlN (hM 64 rfl)) rfl rfl rfl (by show (0 : Int) ≤ ((a.toNat : Nat) : Int); omega) (by show ((a.toNat : Nat) : Int) < (60 : Int); omega) ⟨by decide, by decide⟩ dX7_cancel_206 (fun H8 locs8 hW8' hS8 => ?_)
                  obtain ⟨σ8, hs8⟩ : ∃ z, z = zu σ7 64 0 a.toNat 4 := ⟨_, rfl⟩
                  have hW8 : ZW G ad A σ8 H8 := by rw [hs8]; exact hW8'
                  refine zz_iload_n hx hb hl 2 dX7_cancel_207 rfl rfl ?_
                  refine W.eq (g2 := F0 m 208 ls [.int (zi (ycf σ a.toNat))]) rfl ?_
                  refine zz_reti hx hb hr hlocks hW8 hS8 ?_ dX7_cancel_208
                  refine Or.inr (Or.inr (Or.inr ⟨hc8, by omega, rfl, o, hoC, ?_⟩))
                  unfold ycl
                  rw [← hD, hs8, hs7, hj2, show (σ 52 0 D).toNat - 1 = L by rw [if_pos (show o < j by omega)] at hL; omega, show σ 52 0 D - 1 = ((L : Nat) : Int) by rw [if_pos (show o < j by omega)] at hL; omega]
                · refine zz_aload_n hx hb hl 0 dX7_cancel_113 rfl rfl ?_
                  refine zz_get (T := TX7) (N := 42) (k := 14) (κ := 30) (w := zr ad 54 ((0 : Nat) : Int)) hx hb hts hinX7 hown hK hW6 (zlN (hM 30 rfl)) rfl rfl rfl (by decide) (hts (.fieldLink RX7 42 "HailCityModel" "stopWhom" "[I") (by decide +kernel)) (fun _ h9 => h9) rfl dX7_cancel_114 ?_
                  refine zz_iload hx hb hl 5 dX7_cancel_117 rfl ?_
                  
                  refine zz_iald (w := σ 54 0 (8 * D + j)) hx hb hK hW6 (zlN (hM 54 rfl)) rfl rfl rfl (by show (0 : Int) ≤ ((8 * D + j : Nat) : Int); omega) (by show ((8 * D + j : Nat) : Int) < (64 : Int); omega) (show σ6 54 0 (8 * D + j) = σ 54 0 (8 * D + j) from by rw [hj2, ymk_fr (by omega), zu_ne (by omega)]) dX7_cancel_119 ?_
                  refine zz_bipush hx hb dX7_cancel_120 (by decide +kernel) ?_
                  refine zz_iload_n hx hb hl 1 dX7_cancel_122 rfl rfl ?_
                  refine zz_iadd hx hb dX7_cancel_123 ?_
                  refine zz_icmp_eq (tgt := 185) hx hb dX7_cancel_124 (by decide) (hW0.2.2.1 _ _ _) ⟨by omega, by omega⟩ (fun hc124 => ?_) (fun hc124 => ?_)
                  · refine zz_iinc (lv' := [(6, .int (zi (((8 * D + j) + 1 : Nat) : Int))), (0, zr ad 30 ((0 : Nat) : Int)), (1, .int (zi ((a.toNat : Nat) : Int))), (3, .int (zi (ycf σ a.toNat))), (4, .int (zi ((D : Nat) : Int))), (5, .int (zi ((L : Nat) : Int)))]) hx hb hl dX7_cancel_185 (k0 := 5) rfl (by decide) rfl (fun ls hl => ?_)
                    refine zz_goto (tgt := 95) hx hb dX7_cancel_188 (by decide) ?_
                    refine ih95 (j + 1) L σ6 H6 locs6 ls ?_ (by omega) hW6 hS6 (zh_sub hl [1, 2, 3, 4, 5, 0] rfl)
                    refine ⟨by omega, ?_, hj2⟩
                    have h9 := ho3 j (by omega) (by omega)
                    rw [if_pos (by omega)]
                    rw [h9, if_neg (by omega)] at hL
                    omega
                  · refine zz_aload_n hx hb hl 0 dX7_cancel_127 rfl rfl ?_
                    refine zz_get (T := TX7) (N := 42) (k := 13) (κ := 30) (w := zr ad 53 ((0 : Nat) : Int)) hx hb hts hinX7 hown hK hW6 (zlN (hM 30 rfl)) rfl rfl rfl (by decide) (hts (.fieldLink RX7 39 "HailCityModel" "stopAt" "[I") (by decide +kernel)) (fun _ h9 => h9) rfl dX7_cancel_128 ?_
                    refine zz_bipush hx hb dX7_cancel_131 (by decide +kernel) ?_
                    refine zz_iload hx hb hl 3 dX7_cancel_133 rfl ?_
                    refine zz_imul hx hb dX7_cancel_135 ?_
                    refine zz_iload hx hb hl 4 dX7_cancel_136 rfl ?_
                    refine zz_iadd hx hb dX7_cancel_138 ?_
                    refine zz_aload_n hx hb hl 0 dX7_cancel_139 rfl rfl ?_
                    refine zz_get (T := TX7) (N := 42) (k := 13) (κ := 30) (w := zr ad 53 ((0 : Nat) : Int)) hx hb hts hinX7 hown hK hW6 (zlN (hM 30 rfl)) rfl rfl rfl (by decide) (hts (.fieldLink RX7 39 "HailCityModel" "stopAt" "[I") (by decide +kernel)) (fun _ h9 => h9) rfl dX7_cancel_140 ?_
                    refine zz_iload hx hb hl 5 dX7_cancel_143 rfl ?_
                    refine zz_iald (w := σ 53 0 (8 * D + j)) hx hb hK hW6 (zlN (hM 53 rfl)) rfl rfl rfl (by show (0 : Int) ≤ ((8 * D + j : Nat) : Int); omega) (by show ((8 * D + j : Nat) : Int) < (64 : Int); omega) (show σ6 53 0 (8 * D + j) = σ 53 0 (8 * D + j) from by rw [hj2, ymk_fr (by omega), zu_ne (by omega)]) dX7_cancel_145 ?_
                    refine zz_iast (y := (σ 53 0 (8 * D + j))) hx hb hK hW6 hS6 (zlN (hM 53 rfl)) rfl rfl rfl (by show (0 : Int) ≤ (((8 * D) + L : Nat) : Int); omega) (by show (((8 * D) + L : Nat) : Int) < (64 : Int); omega) (hW0.2.2.1 _ _ _) dX7_cancel_146 (fun H9 locs9 hW9' hS9 => ?_)
                    obtain ⟨σ9, hs9⟩ : ∃ z, z = zu σ6 53 0 ((8 * D) + L) (σ 53 0 (8 * D + j)) := ⟨_, rfl⟩
                    have hW9 : ZW G ad A σ9 H9 := by rw [hs9]; exact hW9'
                    refine zz_aload_n hx hb hl 0 dX7_cancel_147 rfl rfl ?_
                    refine zz_get (T := TX7) (N := 42) (k := 14) (κ := 30) (w := zr ad 54 ((0 : Nat) : Int)) hx hb hts hinX7 hown hK hW9 (zlN (hM 30 rfl)) rfl rfl rfl (by decide) (hts (.fieldLink RX7 42 "HailCityModel" "stopWhom" "[I") (by decide +kernel)) (fun _ h9 => h9) rfl dX7_cancel_148 ?_
                    refine zz_bipush hx hb dX7_cancel_151 (by decide +kernel) ?_
                    refine zz_iload hx hb hl 3 dX7_cancel_153 rfl ?_
                    refine zz_imul hx hb dX7_cancel_155 ?_
                    refine zz_iload hx hb hl 4 dX7_cancel_156 rfl ?_
                    refine zz_iadd hx hb dX7_cancel_158 ?_
                    refine zz_aload_n hx hb hl 0 dX7_cancel_159 rfl rfl ?_
                    refine zz_get (T := TX7) (N := 42) (k := 14) (κ := 30) (w := zr ad 54 ((0 : Nat) : Int)) hx hb hts hinX7 hown hK hW9 (zlN (hM 30 rfl)) rfl rfl rfl (by decide) (hts (.fieldLink RX7 42 "HailCityModel" "stopWhom" "[I") (by decide +kernel)) (fun _ h9 => h9) rfl dX7_cancel_160 ?_
                    refine zz_iload hx hb hl 5 dX7_cancel_163 rfl ?_
                    refine zz_iald (w := σ 54 0 (8 * D + j)) hx hb hK hW9 (zlN (hM 54 rfl)) rfl rfl rfl (by show (0 : Int) ≤ ((8 * D + j : Nat) : Int); omega) (by show ((8 * D + j : Nat) : Int) < (64 : Int); omega) (show σ9 54 0 (8 * D + j) = σ 54 0 (8 * D + j) from by rw [hs9, zu_ne (by omega), hj2, ymk_fr (by omega), zu_ne (by omega)]) dX7_cancel_165 ?_
                    refine zz_iload_n hx hb hl 1 dX7_cancel_166 rfl rfl ?_
                    refine zz_icmp_ne (tgt := 174) hx hb dX7_cancel_167 (by decide) (hW0.2.2.1 _ _ _) ⟨by omega, by omega⟩ (fun hc167 => ?_) (fun hc167 => ?_)
                    · refine zz_aload_n hx hb hl 0 dX7_cancel_174 rfl rfl ?_
                      refine zz_get (T := TX7) (N := 42) (k := 14) (κ := 30) (w := zr ad 54 ((0 : Nat) : Int)) hx hb hts hinX7 hown hK hW9 (zlN (hM 30 rfl)) rfl rfl rfl (by decide) (hts (.fieldLink RX7 42 "HailCityModel" "stopWhom" "[I") (by decide +kernel)) (fun _ h9 => h9) rfl dX7_cancel_175 ?_
                      refine zz_iload hx hb hl 5 dX7_cancel_178 rfl ?_
                      refine zz_iald (w := σ 54 0 (8 * D + j)) hx hb hK hW9 (zlN (hM 54 rfl)) rfl rfl rfl (by show (0 : Int) ≤ ((8 * D + j : Nat) : Int); omega) (by show ((8 * D + j : Nat) : Int) < (64 : Int); omega) (show σ9 54 0 (8 * D + j) = σ 54 0 (8 * D + j) from by rw [hs9, zu_ne (by omega), hj2, ymk_fr (by omega), zu_ne (by omega)]) dX7_cancel_180 ?_
                      refine zz_iast (y := (σ 54 0 (8 * D + j))) hx hb hK hW9 hS9 (zlN (hM 54 rfl)) rfl rfl rfl (by show (0 : Int) ≤ (((8 * D) + L : Nat) : Int); omega) (by show (((8 * D) + L : Nat) : Int) < (64 : Int); omega) (hW0.2.2.1 _ _ _) dX7_cancel_181 (fun H10 locs10 hW10' hS10 => ?_)
                      obtain ⟨σ10, hs10⟩ : ∃ z, z = zu σ9 54 0 ((8 * D) + L) (σ 54 0 (8 * D + j)) := ⟨_, rfl⟩
                      have hW10 : ZW G ad A σ10 H10 := by rw [hs10]; exact hW10'
                      refine zz_iinc (lv' := [(5, .int (zi ((L + 1 : Nat) : Int))), (0, zr ad 30 ((0 : Nat) : Int)), (1, .int (zi ((a.toNat : Nat) : Int))), (3, .int (zi (ycf σ a.toNat))), (4, .int (zi ((D : Nat) : Int))), (6, .int (zi ((8 * D + j : Nat) : Int)))]) hx hb hl dX7_cancel_182 (k0 := 4) rfl (by decide) rfl (fun ls hl => ?_)
                      refine zz_iinc (lv' := [(6, .int (zi (((8 * D + j) + 1 : Nat) : Int))), (5, .int (zi ((L + 1 : Nat) : Int))), (0, zr ad 30 ((0 : Nat) : Int)), (1, .int (zi ((a.toNat : Nat) : Int))), (3, .int (zi (ycf σ a.toNat))), (4, .int (zi ((D : Nat) : Int)))]) hx hb hl dX7_cancel_185 (k0 := 5) rfl (by decide) rfl (fun ls hl => ?_)
                      refine zz_goto (tgt := 95) hx hb dX7_cancel_188 (by decide) ?_
                      refine ih95 (j + 1) (L + 1) σ10 H10 locs10 ls ?_ (by omega) hW10 hS10 (zh_sub hl [2, 3, 4, 5, 1, 0] rfl)
                      have hne9 : j ≠ o := fun q9 => by subst q9; omega
                      have hL2 : j = if L < o then L else L + 1 := by
                        by_cases c9 : L < o
                        · rw [if_pos c9]
                          by_cases c8 : o < j
                          · rw [if_pos c8] at hL; omega
                          · rw [if_neg c8] at hL; omega
                        · rw [if_neg c9]
                          by_cases c8 : o < j
                          · rw [if_pos c8] at hL; omega
                          · rw [if_neg c8] at hL; omega
                      refine ⟨by omega, ?_, ?_⟩
                      · by_cases c8 : o < j
                        · rw [if_pos c8] at hL; rw [if_pos (by omega)]; omega
                        · rw [if_neg c8] at hL; rw [if_neg (by omega)]; omega
                      · rw [hs10, hs9, hj2]
                        refine ymk_st hL2 ?_ ?_
                        · rw [zu_ne (by omega)]
                        · rw [zu_ne (by omega)]
                          first
                            | (rw [if_pos (by omega)]; done)
                            | (rw [if_neg (by omega)]; done)
                    · refine zz_iconst hx hb dX7_cancel_170 ?_
                      refine zz_goto (tgt := 181) hx hb dX7_cancel_171 (by decide) ?_
                      refine zz_iast (y := (-1)) hx hb hK hW9 hS9 (zlN (hM 54 rfl)) rfl rfl rfl (by show (0 : Int) ≤ (((8 * D) + L : Nat) : Int); omega) (by show (((8 * D) + L : Nat) : Int) < (64 : Int); omega) ⟨by decide, by decide⟩ dX7_cancel_181 (fun H11 locs11 hW11' hS11 => ?_)
                      obtain ⟨σ11, hs11⟩ : ∃ z, z = zu σ9 54 0 ((8 * D) + L) (-1) := ⟨_, rfl⟩
                      have hW11 : ZW G ad A σ11 H11 := by rw [hs11]; exact hW11'
                      refine zz_iinc (lv' := [(5, .int (zi ((L + 1 : Nat) : Int))), (0, zr ad 30 ((0 : Nat) : Int)), (1, .int (zi ((a.toNat : Nat) : Int))), (3, .int (zi (ycf σ a.toNat))), (4, .int (zi ((D : Nat) : Int))), (6, .int (zi ((8 * D + j : Nat) : Int)))]) hx hb hl dX7_cancel_182 (k0 := 4) rfl (by decide) rfl (fun ls hl => ?_)
                      refine zz_iinc (lv' := [(6, .int (zi (((8 * D + j) + 1 : Nat) : Int))), (5, .int (zi ((L + 1 : Nat) : Int))), (0, zr ad 30 ((0 : Nat) : Int)), (1, .int (zi ((a.toNat : Nat) : Int))), (3, .int (zi (ycf σ a.toNat))), (4, .int (zi ((D : Nat) : Int)))]) hx hb hl dX7_cancel_185 (k0 := 5) rfl (by decide) rfl (fun ls hl => ?_)
                      refine zz_goto (tgt := 95) hx hb dX7_cancel_188 (by decide) ?_
                      refine ih95 (j + 1) (L + 1) σ11 H11 locs11 ls ?_ (by omega) hW11 hS11 (zh_sub hl [2, 3, 4, 5, 1, 0] rfl)
                      have hne9 : j ≠ o := fun q9 => by subst q9; omega
                      have hL2 : j = if L < o then L else L + 1 := by
                        by_cases c9 : L < o
                        · rw [if_pos c9]
                          by_cases c8 : o < j
                          · rw [if_pos c8] at hL; omega
                          · rw [if_neg c8] at hL; omega
                        · rw [if_neg c9]
                          by_cases c8 : o < j
                          · rw [if_pos c8] at hL; omega
                          · rw [if_neg c8] at hL; omega
                      refine ⟨by omega, ?_, ?_⟩
                      · by_cases c8 : o < j
                        · rw [if_pos c8] at hL; rw [if_pos (by omega)]; omega
                        · rw [if_neg c8] at hL; rw [if_neg (by omega)]; omega
                      · rw [hs11, hs9, hj2]
                        refine ymk_st hL2 ?_ ?_
                        · rw [zu_ne (by omega)]
                        · rw [zu_ne (by omega)]
                          first
                            | (rw [if_pos (by omega)]; done)
                            | (rw [if_neg (by omega)]; done)
            refine hcut95 _ 0 0 σ3 H5 locs5 ls ?_ (Nat.lt_succ_self _) hW5 hS5 (zh_sub hl [4, 5, 3, 2, 1, 0] rfl)
            exact ⟨Nat.zero_le _, by rw [if_neg (Nat.not_lt_zero _)], by rw [ymk_0, hs3]⟩
          refine zz_get (T := TX7) (N := 42) (k := 1) (κ := 30) (w := .int (zi (σ 30 0 1))) hx hb hts hinX7 hown hK hW3 (zlN (hM 30 rfl)) rfl rfl rfl (by decide) (hts (.fieldLink RX7 161 "HailCityModel" "now" "I") (by decide +kernel)) (fun _ h9 => h9) (congrArg (fun z => Value.int (zi z)) (show σ3 30 0 1 = σ 30 0 1 from by rw [hs3, zu_s (by decide)])) dX7_cancel_55 ?_
          refine zz_aload_n hx hb hl 2 dX7_cancel_58 rfl rfl ?_
          refine zz_get (T := TX7) (N := 42) (k := 33) (κ := 30) (w := zr ad 73 ((0 : Nat) : Int)) hx hb hts hinX7 hown hK hW3 (zlN (hM 30 rfl)) rfl rfl rfl (by decide) (hts (.fieldLink RX7 93 "HailCityModel" "sentAt" "[I") (by decide +kernel)) (fun _ h9 => h9) rfl dX7_cancel_59 ?_
          refine zz_iload_n hx hb hl 3 dX7_cancel_62 rfl rfl ?_
          refine zz_iald (w := σ 73 0 a.toNat) hx hb hK hW3 (zlN (hM 73 rfl)) rfl rfl rfl (by show (0 : Int) ≤ ((a.toNat : Nat) : Int); omega) (by show ((a.toNat : Nat) : Int) < (60 : Int); omega) (show σ3 73 0 a.toNat = σ 73 0 a.toNat from by rw [hs3, zu_k (by decide)]) dX7_cancel_63 ?_
          refine zz_isub hx hb dX7_cancel_64 ?_
          refine zz_iconst hx hb dX7_cancel_65 ?_
          refine zz_icmp_le (tgt := 75) hx hb dX7_cancel_66 (by decide) ⟨by omega, by omega⟩ ⟨by decide, by decide⟩ (fun hc66 => ?_) (fun hc66 => ?_)
          · refine zz_iconst hx hb dX7_cancel_75 ?_
            refine W.eq (g2 := F0 m 76 ls [.int (zi (ycf σ a.toNat))]) (congrArg (fun z9 => F0 m 76 ls [Value.int (zi z9)]) (show 0 = ycf σ a.toNat from by unfold ycf; exact (if_neg (by omega)).symm)) ?_
            refine hcut76  H3 locs3 ls ?_ hW3 hS3 (zh_sub hl [2, 3] rfl)
            trivial
          · refine zz_sipush hx hb dX7_cancel_69 (by decide +kernel) ?_
            refine zz_goto (tgt := 76) hx hb dX7_cancel_72 (by decide) ?_
            refine W.eq (g2 := F0 m 76 ls [.int (zi (ycf σ a.toNat))]) (congrArg (fun z9 => F0 m 76 ls [Value.int (zi z9)]) (show 500 = ycf σ a.toNat from by unfold ycf; exact (if_pos (by omega)).symm)) ?_
            refine hcut76  H3 locs3 ls ?_ hW3 hS3 (zh_sub hl [2, 3] rfl)
            trivial
      · exact absurd rfl hc37
    · refine zz_iconst hx hb dX7_cancel_29 ?_
      refine zz_goto (tgt := 34) hx hb dX7_cancel_30 (by decide) ?_
      refine zz_callV (T := TX7) (N := 42) (As := [.int (zi 2)]) (rest := []) (v := ((0 : Nat) : Int)) (κ := 30) ⟨hx, hb, hml, hown, hts⟩ (c_X7_refused l G ad A N0 σ hM (2) ⟨by decide, by decide⟩) (cwV 1 hts gX7_cancel_X7_refused rfl rfl rfl (by decide +kernel) ⟨Nat.le_of_ble_eq_true rfl, Nat.le_of_ble_eq_true rfl⟩) hK hW2 (zlN (hM 30 rfl)) rfl rfl (Nat.le_trans hsz hS2.1) hS2 rfl hl.1.1 rfl (Nat.le_of_ble_eq_true rfl) dX7_cancel_34 ⟨Nat.le_of_ble_eq_true rfl, Nat.le_of_ble_eq_true rfl⟩ (fun x12 σ12 H12 locs12 hp12 hW12 hz12 hS12 => ?_)
      have hs12 : σ12 = zu σ 30 0 0 (2) := hp12.1.symm
      obtain rfl := hp12.2
      refine W.eq (g2 := F0 m 37 ls [.int (zi (zb ((2 : Int) ≠ 0)))]) rfl ?_
      refine zz_if_eqb (tgt := 42) hx hb dX7_cancel_37 (by decide) (fun hc37 => ?_) (fun hc37 => ?_)
      · exact absurd (by decide) hc37
      · refine zz_iconst hx hb dX7_cancel_40 ?_
        refine W.eq (g2 := F0 m 41 ls [.int (zi 0)]) rfl ?_
        refine zz_reti hx hb hr hlocks hW12 hS12 ?_ dX7_cancel_41
        exact Or.inr (Or.inl ⟨hc8, hc26, rfl, by rw [hs12]⟩)
  · refine zz_iconst hx hb dX7_cancel_11 ?_
    refine zz_goto (tgt := 34) hx hb dX7_cancel_12 (by decide) ?_
    refine zz_callV (T := TX7) (N := 42) (As := [.int (zi 1)]) (rest := []) (v := ((0 : Nat) : Int)) (κ := 30) ⟨hx, hb, hml, hown, hts⟩ (c_X7_refused l G ad A N0 σ hM (1) ⟨by decide, by decide⟩) (cwV 1 hts gX7_cancel_X7_refused rfl rfl rfl (by decide +kernel) ⟨Nat.le_of_ble_eq_true rfl, Nat.le_of_ble_eq_true rfl⟩) hK hW1 (zlN (hM 30 rfl)) rfl rfl (Nat.le_trans hsz hS1.1) hS1 rfl hl.1.1 rfl (Nat.le_of_ble_eq_true rfl) dX7_cancel_34 ⟨Nat.le_of_ble_eq_true rfl, Nat.le_of_ble_eq_true rfl⟩ (fun x13 σ13 H13 locs13 hp13 hW13 hz13 hS13 => ?_)
    have hs13 : σ13 = zu σ 30 0 0 (1) := hp13.1.symm
    obtain rfl := hp13.2
    refine W.eq (g2 := F0 m 37 ls [.int (zi (zb ((1 : Int) ≠ 0)))]) rfl ?_
    refine zz_if_eqb (tgt := 42) hx hb dX7_cancel_37 (by decide) (fun hc37 => ?_) (fun hc37 => ?_)
    · exact absurd (by decide) hc37
    · refine zz_iconst hx hb dX7_cancel_40 ?_
      refine W.eq (g2 := F0 m 41 ls [.int (zi 0)]) rfl ?_
      refine zz_reti hx hb hr hlocks hW13 hS13 ?_ dX7_cancel_41
      exact Or.inl ⟨hc8, rfl, by rw [hs13]⟩
