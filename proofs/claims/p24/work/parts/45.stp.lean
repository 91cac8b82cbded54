/-! reached stops -/
def yRok (σ : zS) (d n : Nat) : Prop :=
  σ 18 d 3 = (n : Int) ∧ n ≤ 8 ∧ (∀ j, j < n → 0 ≤ σ 20 d j ∧ σ 20 d j < 10) ∧ (∀ j, j + 1 < n → 0 ≤ σ 6 (σ 20 d j).toNat (σ 20 d (j + 1)).toNat ∧ σ 6 (σ 20 d j).toNat (σ 20 d (j + 1)).toNat ≤ 20480) ∧ (∀ j, j < n → 0 ≤ σ 21 d j → 0 ≤ σ 23 (σ 21 d j).toNat 5 ∧ σ 23 (σ 21 d j).toNat 5 ≤ 3000000) ∧ (0 ≤ σ 0 0 9 ∧ σ 0 0 9 + n < 2000000000) ∧ (0 ≤ σ 0 0 8 ∧ σ 0 0 8 ≤ 20000) ∧ (0 ≤ σ 17 d 11 ∧ σ 17 d 11 + n ≤ 1000) ∧ (0 ≤ σ 17 d 12 ∧ σ 17 d 12 + 3000000 * n ≤ 1000000000)
def yNX (σ v : zS) (d : Nat) : Prop := ∃ u1, yrd (yns σ d) u1 d ∧ ynx u1 d = v
def yDR (d : Nat) : Nat → zS → zS → Prop
  | 0, σ, u => σ = u
  | n + 1, σ, u => (σ 17 d 9 ≤ σ 0 0 8 ∧ ∃ v, yNX σ v d ∧ yDR d n v u) ∨ (¬ (σ 17 d 9 ≤ σ 0 0 8) ∧ σ = u)
theorem ynx_fr {u : zS} {d κ i k : Nat} (h : ¬ (κ = 17 ∧ i = d ∧ (k = 8 ∨ k = 9))) (h2 : ¬ (κ = 0 ∧ i = 0 ∧ k = 9)) : ynx u d κ i k = u κ i k := by
  unfold ynx yqf
  split
  · rw [zu_ne (by omega)]
  · split
    · rw [zu_ne (by omega), zu_ne (by omega)]
    · rfl
theorem ynx_g (u : zS) (d : Nat) : u 0 0 9 ≤ ynx u d 0 0 9 ∧ ynx u d 0 0 9 ≤ u 0 0 9 + 1 := by
  unfold ynx yqf
  split
  · rw [zu_ne (by omega)]; omega
  · split
    · rw [zu_same]; omega
    · omega
theorem yns_fr2 {σ : zS} {d κ i k : Nat} (h : ¬ (κ = 23 ∧ (k = 6 ∨ k = 10))) (h2 : ¬ (κ = 17 ∧ i = d ∧ (k = 11 ∨ k = 12 ∨ k = 6))) : yns σ d κ i k = σ κ i k := by
  unfold yns
  rw [zu_ne (by omega)]
  split
  · rw [zu_ne (by omega), zu_ne (by omega), zu_ne (by omega), zu_ne (by omega)]
  · split
    · rw [zu_ne (by omega)]
    · rfl
theorem yns_11 (σ : zS) (d : Nat) : yns σ d 17 d 11 = σ 17 d 11 ∨ yns σ d 17 d 11 = σ 17 d 11 + 1 := by
  unfold yns
  rw [zu_ne (by omega)]
  split
  · right; rw [zu_ne (by omega), zu_same]
  · left
    split
    · rw [zu_ne (by omega)]
    · rfl
theorem yns_12 (σ : zS) (d : Nat) : yns σ d 17 d 12 = σ 17 d 12 ∨ (0 ≤ σ 21 d 0 ∧ yns σ d 17 d 12 = σ 17 d 12 + σ 23 (σ 21 d 0).toNat 5) := by
  unfold yns
  rw [zu_ne (by omega)]
  split
  · rename_i h
    right; exact ⟨h.1, zu_same⟩
  · left
    split
    · rw [zu_ne (by omega)]
    · rfl
theorem yRok_nx {σ v : zS} {d n : Nat} (h : yRok σ d (n + 1)) (hx : yNX σ v d) : yRok v d n := by
  obtain ⟨u1, ⟨b1, b2, b3⟩, rfl⟩ := hx
  obtain ⟨a1, a2, a3, a4, a5, a6, a7, a8, a9⟩ := h
  have e18 : yns σ d 18 d 3 = σ 18 d 3 := yns_fr2 (by omega) (by omega)
  rw [e18, a1] at b1 b2
  have c20 : ∀ j, j < n → ynx u1 d 20 d j = σ 20 d (j + 1) := fun j hj => by rw [ynx_fr (by omega) (by omega), (b2 j (by omega)).1, yns_fr2 (by omega) (by omega)]
  have c21 : ∀ j, j < n → ynx u1 d 21 d j = σ 21 d (j + 1) := fun j hj => by rw [ynx_fr (by omega) (by omega), (b2 j (by omega)).2.1, yns_fr2 (by omega) (by omega)]
  have c6 : ∀ a b, ynx u1 d 6 a b = σ 6 a b := fun a b => by rw [ynx_fr (by omega) (by omega), b3 6 a b (by omega), yns_fr2 (by omega) (by omega)]
  have c5 : ∀ q, ynx u1 d 23 q 5 = σ 23 q 5 := fun q => by rw [ynx_fr (by omega) (by omega), b3 23 q 5 (by omega), yns_fr2 (by omega) (by omega)]
  have c8 : ynx u1 d 0 0 8 = σ 0 0 8 := by rw [ynx_fr (by omega) (by omega), b3 0 0 8 (by omega), yns_fr2 (by omega) (by omega)]
  have c11 : ynx u1 d 17 d 11 = yns σ d 17 d 11 := by rw [ynx_fr (by omega) (by omega), b3 17 d 11 (by omega)]
  have c12 : ynx u1 d 17 d 12 = yns σ d 17 d 12 := by rw [ynx_fr (by omega) (by omega), b3 17 d 12 (by omega)]
  have c9 : u1 0 0 9 = σ 0 0 9 := by rw [b3 0 0 9 (by omega), yns_fr2 (by omega) (by omega)]
  have g9 := ynx_g u1 d
  have g11 := yns_11 σ d
  have g12 := yns_12 σ d
  have g5 := a5 0 (by omega)
  refine ⟨?_, by omega, fun j hj => ?_, fun j hj => ?_, fun j hj => ?_, ⟨by omega, by omega⟩, by rw [c8]; exact a7, ⟨by omega, by omega⟩, ?_⟩
  · rw [ynx_fr (by omega) (by omega), b1]; omega
  · rw [c20 j hj]; exact a3 _ (by omega)
  · rw [c20 j (by omega), c20 (j + 1) (by omega), c6]; exact a4 _ (by omega)
  · rw [c21 j hj, c5]; exact a5 _ (by omega)
  · rw [c12]
    rcases g12 with h | ⟨h0, h⟩
    · rw [h]; omega
    · have := g5 h0
      rw [h]; omega

set_option maxHeartbeats 4000000 in
set_option maxRecDepth 100000 in
theorem c_X6_doReachedStops (l : Launch) (G : zG) (ad : zA) (A : Nat → Prop) (N0 : Nat) (σ : zS) (nd nr : Nat) (hX : zX ad nd nr) (d : Nat) (hd : d < nd) (n : Nat) (hok : yRok σ d n) : Met l yX6_doReachedStops wsX6_doReachedStops ({ frames := 3, cells := 0, slots := 0, locals := 67 }) (zP G ad A N0 σ [zr ad 0 ((0 : Nat) : Int), zr ad 17 ((d : Nat) : Int)]) (zQ G ad A zrv (fun _ u => yDR d n σ u)) 0 0 A := by
  refine zz_of (cc := cX6_doReachedStops) (maxL := 4) (ret := none) (by decide) rfl ⟨rfl, rfl⟩ (List.forall_mem_cons.mpr ⟨zr_cat _ _ _, List.forall_mem_cons.mpr ⟨zr_cat _ _ _, fun _ h => absurd h List.not_mem_nil⟩⟩) (Nat.le_of_ble_eq_true rfl) ?_
  intro p e s m below meth c hx hb hr hml hts hown hlocks hsz hW0 hK ls hl
  have hS0 : va_S A s.heap s.heap [] := va_S.rf
  have hl : zh ls 4 [(0, zr ad 0 ((0 : Nat) : Int)), (1, zr ad 17 ((d : Nat) : Int))] := hl
  have hinX1 : ∀ w ∈ u_ws RX1 TX1 13, w ∈ wsX6_doReachedStops := by decide +kernel
  have hinX4 : ∀ w ∈ u_ws RX4 TX4 4, w ∈ wsX6_doReachedStops := by decide +kernel
  have hinX6 : ∀ w ∈ u_ws RX6 TX6 10, w ∈ wsX6_doReachedStops := by decide +kernel
  have hn8 := hok.2.1
  refine zz_aload_n hx hb hl 1 dX6_doReachedStops_0 rfl rfl ?_
  refine zz_getN (T := TX1) (N := 13) (k := 1) (κ := 17) (w := zr ad 18 ((d : Nat) : Int)) hx hb hts hinX1 hown hK hW0 (zlN (hX 17 d (decide_eq_true hd))) rfl rfl rfl (by decide) (host := "HailCity") (List.mem_of_getElem? (i := 12) rfl) (fun _ h9 => h9) rfl dX6_doReachedStops_1 ?_
  refine zz_getN (T := TX4) (N := 4) (k := 3) (κ := 18) (w := .int (zi ((n : Nat) : Int))) hx hb hts hinX4 hown hK hW0 (zlN (hX 18 d (decide_eq_true hd))) rfl rfl rfl (by decide) (host := "HailCity") (List.mem_of_getElem? (i := 5) rfl) (fun _ h9 => h9) (congrArg (fun z => Value.int (zi z)) (show σ 18 d 3 = ((n : Nat) : Int) from by rw [hok.1])) dX6_doReachedStops_4 ?_
  refine zz_istore_n (lv' := [(2, .int (zi ((n : Nat) : Int))), (0, zr ad 0 ((0 : Nat) : Int)), (1, zr ad 17 ((d : Nat) : Int))]) hx hb hl dX6_doReachedStops_7 rfl (by decide) rfl (fun ls hl => ?_)
  refine zz_iconst hx hb dX6_doReachedStops_8 ?_
  refine zz_istore_n (lv' := [(3, .int (zi 0)), (2, .int (zi ((n : Nat) : Int))), (0, zr ad 0 ((0 : Nat) : Int)), (1, zr ad 17 ((d : Nat) : Int))]) hx hb hl dX6_doReachedStops_9 rfl (by decide) rfl (fun ls hl => ?_)
  have hcut10 : ∀ (n9 : Nat) (i : Nat)  (σ9 : zS) (H9 : Heap) (locs9 : List Loc) (ls : Array Slot), (i ≤ n ∧ yRok σ9 d (n - i) ∧ (∀ u, yDR d (n - i) σ9 u → yDR d n σ u)) → (n - i) < n9 → ZW G ad A σ9 H9 → va_S A s.heap H9 locs9 → zh ls 4 [(0, zr ad 0 ((0 : Nat) : Int)), (1, zr ad 17 ((d : Nat) : Int)), (2, .int (zi ((n : Nat) : Int))), (3, .int (zi ((i : Nat) : Int)))] → W p l e ({ frames := 3, cells := 0, slots := 0, locals := 67 }) s m ([zr ad 0 ((0 : Nat) : Int), zr ad 17 ((d : Nat) : Int)] : List Value).toArray below meth c H9 locs9 0 0 (MQ below (zQ G ad A zrv (fun _ u => yDR d n σ u)) ([zr ad 0 ((0 : Nat) : Int), zr ad 17 ((d : Nat) : Int)] : List Value).toArray s 0 0 A) (F0 m 10 ls []) := by
    intro n9
    induction n9 with
    | zero =>
      intro i σ1 H1 locs1 ls hI10 hm10 hW1 hS1 hl
      exact absurd hm10 (Nat.not_lt_zero _)
    | succ n9 ih10 =>
      intro i σ1 H1 locs1 ls hI10 hm10 hW1 hS1 hl
      obtain ⟨hi1, hi2, hi3⟩ := hI10
      refine zz_iload_n hx hb hl 3 dX6_doReachedStops_10 rfl rfl ?_
      refine zz_iload_n hx hb hl 2 dX6_doReachedStops_11 rfl rfl ?_
      refine zz_icmp_ge (tgt := 47) hx hb dX6_doReachedStops_12 (by decide) ⟨by omega, by omega⟩ ⟨by omega, by omega⟩ (fun hc12 => ?_) (fun hc12 => ?_)
      · refine W.eq (g2 := F0 m 47 ls []) rfl ?_
        refine zz_retv hx hb hr hlocks hW1 hS1 ?_ dX6_doReachedStops_47
        refine hi3 _ ?_
        rcases Nat.eq_zero_or_pos (n - i) with h9 | h9
        · rw [h9]; rfl
        · obtain ⟨k9, hk9⟩ : ∃ k9, n - i = k9 + 1 := ⟨n - i - 1, by omega⟩
          rw [hk9]
          first
            | exact Or.inr ⟨by omega, rfl⟩
            | (exfalso; omega)
      · refine zz_aload_n hx hb hl 1 dX6_doReachedStops_15 rfl rfl ?_
        refine zz_getN (T := TX1) (N := 13) (k := 1) (κ := 17) (w := zr ad 18 ((d : Nat) : Int)) hx hb hts hinX1 hown hK hW1 (zlN (hX 17 d (decide_eq_true hd))) rfl rfl rfl (by decide) (host := "HailCity") (List.mem_of_getElem? (i := 12) rfl) (fun _ h9 => h9) rfl dX6_doReachedStops_16 ?_
        refine zz_getN (T := TX4) (N := 4) (k := 3) (κ := 18) (w := .int (zi ((n - i : Nat) : Int))) hx hb hts hinX4 hown hK hW1 (zlN (hX 18 d (decide_eq_true hd))) rfl rfl rfl (by decide) (host := "HailCity") (List.mem_of_getElem? (i := 5) rfl) (fun _ h9 => h9) (congrArg (fun z => Value.int (zi z)) (show σ1 18 d 3 = ((n - i : Nat) : Int) from by rw [hi2.1])) dX6_doReachedStops_19 ?_
        refine zz_if_le (tgt := 47) hx hb dX6_doReachedStops_22 (by decide) ⟨by omega, by omega⟩ (fun hc22 => ?_) (fun hc22 => ?_)
        · refine W.eq (g2 := F0 m 47 ls []) rfl ?_
          refine zz_retv hx hb hr hlocks hW1 hS1 ?_ dX6_doReachedStops_47
          refine hi3 _ ?_
          rcases Nat.eq_zero_or_pos (n - i) with h9 | h9
          · rw [h9]; rfl
          · obtain ⟨k9, hk9⟩ : ∃ k9, n - i = k9 + 1 := ⟨n - i - 1, by omega⟩
            rw [hk9]
            first
              | exact Or.inr ⟨by omega, rfl⟩
              | (exfalso; omega)
        · refine zz_aload_n hx hb hl 1 dX6_doReachedStops_25 rfl rfl ?_
          refine zz_getN (T := TX1) (N := 13) (k := 9) (κ := 17) (w := .int (zi (σ1 17 d 9))) hx hb hts hinX1 hown hK hW1 (zlN (hX 17 d (decide_eq_true hd))) rfl rfl rfl (by decide) (host := "HailCity") (List.mem_of_getElem? (i := 19) rfl) (fun _ h9 => h9) rfl dX6_doReachedStops_26 ?_
          refine zz_aload_n hx hb hl 0 dX6_doReachedStops_29 rfl rfl ?_
          refine zz_get (T := TX6) (N := 10) (k := 8) (κ := 0) (w := .int (zi (σ1 0 0 8))) hx hb hts hinX6 hown hK hW1 (zlN (hX 0 0 rfl)) rfl rfl rfl (by decide) (hts (.fieldLink RX6 134 "HailCity" "now" "I") (by decide +kernel)) (fun _ h9 => h9) rfl dX6_doReachedStops_30 ?_
          refine zz_icmp_gt (tgt := 47) hx hb dX6_doReachedStops_33 (by decide) (hW1.2.2.1 _ _ _) (hW1.2.2.1 _ _ _) (fun hc33 => ?_) (fun hc33 => ?_)
          · refine W.eq (g2 := F0 m 47 ls []) rfl ?_
            refine zz_retv hx hb hr hlocks hW1 hS1 ?_ dX6_doReachedStops_47
            refine hi3 _ ?_
            rcases Nat.eq_zero_or_pos (n - i) with h9 | h9
            · rw [h9]; rfl
            · obtain ⟨k9, hk9⟩ : ∃ k9, n - i = k9 + 1 := ⟨n - i - 1, by omega⟩
              rw [hk9]
              first
                | exact Or.inr ⟨by omega, rfl⟩
                | (exfalso; omega)
          · have hi2k := hi2
            obtain ⟨k9, hk9⟩ : ∃ k9, n - i = k9 + 1 := ⟨n - i - 1, by omega⟩
            rw [hk9] at hi2k
            obtain ⟨q1, q2, q3, q4, q5, q6, q7, q8, q9⟩ := hi2k
            refine zz_aload_n hx hb hl 0 dX6_doReachedStops_36 rfl rfl ?_
            refine zz_aload_n hx hb hl 1 dX6_doReachedStops_37 rfl rfl ?_
            refine zz_callV (T := TX6) (N := 10) (As := [zr ad 17 ((d : Nat) : Int)]) (rest := []) (v := ((0 : Nat) : Int)) (κ := 0) ⟨hx, hb, hml, hown, hts⟩ (c_X6_doNextStop l G ad A N0 σ1 nd nr hX d hd k9 q1 q2 q3 (fun j hj => q4 j (by omega)) ⟨q6.1, by omega⟩ q7 ⟨q8.1, by omega⟩ ⟨q9.1, by omega⟩ (fun h => q5 0 (by omega) h)) (cwV 1 hts gX6_doReachedStops_X6_doNextStop rfl rfl rfl (by decide +kernel) ⟨Nat.le_of_ble_eq_true rfl, Nat.le_of_ble_eq_true rfl⟩) hK hW1 (zlN (hX 0 0 rfl)) rfl rfl (Nat.le_trans hsz hS1.1) hS1 rfl hl.1.1 rfl (Nat.le_of_ble_eq_true rfl) dX6_doReachedStops_38 ⟨Nat.le_of_ble_eq_true rfl, Nat.le_of_ble_eq_true rfl⟩ (fun x2 σ2 H2 locs2 hp2 hW2 hz2 hS2 => ?_)
            refine W.eq (g2 := F0 m 41 ls []) rfl ?_
            refine zz_iinc (lv' := [(3, .int (zi (((i : Nat) : Int) + 1))), (0, zr ad 0 ((0 : Nat) : Int)), (1, zr ad 17 ((d : Nat) : Int)), (2, .int (zi ((n : Nat) : Int)))]) hx hb hl dX6_doReachedStops_41 (k0 := 3) rfl (by decide) rfl (fun ls hl => ?_)
            refine zz_goto (tgt := 10) hx hb dX6_doReachedStops_44 (by decide) ?_
            refine ih10 (i + 1) σ2 H2 locs2 ls ?_ (by omega) hW2 hS2 (zh_sub hl [1, 2, 3, 0] rfl)
            refine ⟨by omega, ?_, fun u hu => hi3 u ?_⟩
            · rw [show n - (i + 1) = k9 by omega]
              exact yRok_nx (hk9 ▸ hi2) hp2
            · rw [hk9]
              rw [show n - (i + 1) = k9 by omega] at hu
              exact Or.inl ⟨by omega, _, hp2, hu⟩
  refine hcut10 _ 0 σ s.heap [] ls ?_ (Nat.lt_succ_self _) hW0 hS0 (zh_sub hl [2, 3, 1, 0] rfl)
  exact ⟨Nat.zero_le _, hok, fun u hu => hu⟩

/-- the request q is sent to the driver d, ahead of what is reached at once -/
def ysd (σ v : zS) (d q : Nat) : Prop :=
  (v 18 d 3 = 2 ∧ (v 20 d 0 = σ 23 q 1 ∧ v 20 d 1 = σ 23 q 2) ∧ (v 21 d 0 = (q : Int) ∧ v 21 d 1 = (q : Int)) ∧ (v 22 d 0 = 0 ∧ v 22 d 1 = 1)) ∧ v 17 d 9 = σ 0 0 8 + σ 6 (σ 17 d 6).toNat (σ 23 q 1).toNat ∧ (v 23 q 6 = 1 ∧ v 23 q 7 = (d : Int) ∧ v 23 q 8 = σ 0 0 8 ∧ v 23 q 9 = σ 0 0 8 + σ 6 (σ 17 d 6).toNat (σ 23 q 1).toNat + σ 6 (σ 23 q 1).toNat (σ 23 q 2).toNat * 3 / 2) ∧ zfr (fun κ i k => (i = d ∧ (κ = 20 ∨ κ = 21 ∨ κ = 22 ∨ (κ = 18 ∧ k = 3))) ∨ (κ = 17 ∧ i = d ∧ k = 9) ∨ (κ = 23 ∧ i = q ∧ (k = 6 ∨ k = 7 ∨ k = 8 ∨ k = 9))) σ v

set_option maxHeartbeats 4000000 in
set_option maxRecDepth 100000 in
theorem c_X6_send (l : Launch) (G : zG) (ad : zA) (A : Nat → Prop) (N0 : Nat) (σ : zS) (nd nr : Nat) (hX : zX ad nd nr) (hnd : nd ≤ 8) (d : Nat) (hd : d < nd) (q : Nat) (hq : q < nr) (hnr : nr ≤ 60) (h18 : σ 18 d 3 = 0) (hpl : 0 ≤ σ 17 d 6 ∧ σ 17 d 6 < 10) (hf : 0 ≤ σ 23 q 1 ∧ σ 23 q 1 < 10) (ht : 0 ≤ σ 23 q 2 ∧ σ 23 q 2 < 10) (hw1 : 0 ≤ σ 6 (σ 17 d 6).toNat (σ 23 q 1).toNat ∧ σ 6 (σ 17 d 6).toNat (σ 23 q 1).toNat ≤ 20480) (hw2 : 0 ≤ σ 6 (σ 23 q 1).toNat (σ 23 q 2).toNat ∧ σ 6 (σ 23 q 1).toNat (σ 23 q 2).toNat ≤ 20480) (hpr : 0 ≤ σ 23 q 5 ∧ σ 23 q 5 ≤ 3000000) (hgt : 0 ≤ σ 0 0 9 ∧ σ 0 0 9 < 1900000000) (hnow : 0 ≤ σ 0 0 8 ∧ σ 0 0 8 ≤ 20000) (hdc : 0 ≤ σ 17 d 11 ∧ σ 17 d 11 ≤ 900) (hdp : 0 ≤ σ 17 d 12 ∧ σ 17 d 12 ≤ 900000000) : Met l yX6_send wsX6_send ({ frames := 4, cells := 0, slots := 0, locals := 90 }) (zP G ad A N0 σ [zr ad 0 ((0 : Nat) : Int), zr ad 17 ((d : Nat) : Int), zr ad 23 ((q : Nat) : Int)]) (zQ G ad A zrv (fun _ u => ∃ v, ysd σ v d q ∧ yDR d 2 v u)) 0 0 A := by
  refine zz_of (cc := cX6_send) (maxL := 4) (ret := none) (by decide) rfl ⟨rfl, rfl⟩ (List.forall_mem_cons.mpr ⟨zr_cat _ _ _, List.forall_mem_cons.mpr ⟨zr_cat _ _ _, List.forall_mem_cons.mpr ⟨zr_cat _ _ _, fun _ h => absurd h List.not_mem_nil⟩⟩⟩) (Nat.le_of_ble_eq_true rfl) ?_
  intro p e s m below meth c hx hb hr hml hts hown hlocks hsz hW0 hK ls hl
  have hS0 : va_S A s.heap s.heap [] := va_S.rf
  have hl : zh ls 4 [(0, zr ad 0 ((0 : Nat) : Int)), (1, zr ad 17 ((d : Nat) : Int)), (2, zr ad 23 ((q : Nat) : Int))] := hl
  have hinX1 : ∀ w ∈ u_ws RX1 TX1 13, w ∈ wsX6_send := by decide +kernel
  have hinX3 : ∀ w ∈ u_ws RX3 TX3 12, w ∈ wsX6_send := by decide +kernel
  have hinX6 : ∀ w ∈ u_ws RX6 TX6 10, w ∈ wsX6_send := by decide +kernel
  refine zz_aload_n hx hb hl 0 dX6_send_0 rfl rfl ?_
  refine zz_get (T := TX6) (N := 10) (k := 8) (κ := 0) (w := .int (zi (σ 0 0 8))) hx hb hts hinX6 hown hK hW0 (zlN (hX 0 0 rfl)) rfl rfl rfl (by decide) (hts (.fieldLink RX6 134 "HailCity" "now" "I") (by decide +kernel)) (fun _ h9 => h9) rfl dX6_send_1 ?_
  refine zz_aload_n hx hb hl 0 dX6_send_4 rfl rfl ?_
  refine zz_get (T := TX6) (N := 10) (k := 0) (κ := 0) (w := zr ad 1 ((0 : Nat) : Int)) hx hb hts hinX6 hown hK hW0 (zlN (hX 0 0 rfl)) rfl rfl rfl (by decide) (hts (.fieldLink RX6 10 "HailCity" "map" "LHailCity$CityMap;") (by decide +kernel)) (fun _ h9 => h9) rfl dX6_send_5 ?_
  refine zz_aload_n hx hb hl 1 dX6_send_8 rfl rfl ?_
  refine zz_getN (T := TX1) (N := 13) (k := 6) (κ := 17) (w := .int (zi (σ 17 d 6))) hx hb hts hinX1 hown hK hW0 (zlN (hX 17 d (decide_eq_true hd))) rfl rfl rfl (by decide) (host := "HailCity") (List.mem_of_getElem? (i := 15) rfl) (fun _ h9 => h9) rfl dX6_send_9 ?_
  refine zz_aload_n hx hb hl 2 dX6_send_12 rfl rfl ?_
  refine zz_getN (T := TX3) (N := 12) (k := 1) (κ := 23) (w := .int (zi (σ 23 q 1))) hx hb hts hinX3 hown hK hW0 (zlN (hX 23 q (decide_eq_true hq))) rfl rfl rfl (by decide) (host := "HailCity") (List.mem_of_getElem? (i := 26) rfl) (fun _ h9 => h9) rfl dX6_send_13 ?_
  refine zz_callV (T := TX0) (N := 5) (As := [.int (zi (σ 17 d 6)), .int (zi (σ 23 q 1))]) (rest := [.int (zi (σ 0 0 8))]) (v := ((0 : Nat) : Int)) (κ := 1) ⟨hx, hb, hml, hown, hts⟩ (c_X0_minutesBetween l G ad A N0 σ nd nr hX (σ 17 d 6) (σ 23 q 1) (hW0.2.2.1 _ _ _) (hW0.2.2.1 _ _ _)) (cwV 2 hts gX6_send_X0_minutesBetween rfl rfl rfl (by decide +kernel) ⟨Nat.le_of_ble_eq_true rfl, Nat.le_of_ble_eq_true rfl⟩) hK hW0 (zlN (hX 1 0 rfl)) rfl rfl (Nat.le_trans hsz hS0.1) hS0 rfl hl.1.1 rfl (Nat.le_of_ble_eq_true rfl) dX6_send_16 ⟨Nat.le_of_ble_eq_true rfl, Nat.le_of_ble_eq_true rfl⟩ (fun x1 σ1 H1 locs1 hp1 hW1 hz1 hS1 => ?_)
  obtain ⟨rfl, hx9⟩ := hp1
  rw [if_pos ⟨hpl, hf, by omega⟩] at hx9
  obtain rfl := hx9
  refine W.eq (g2 := F0 m 19 ls [.int (zi (σ 6 (σ 17 d 6).toNat (σ 23 q 1).toNat)), .int (zi (σ 0 0 8))]) rfl ?_
  refine zz_iadd hx hb dX6_send_19 ?_
  refine zz_istore_n (lv' := [(3, .int (zi ((σ 0 0 8) + (σ 6 (σ 17 d 6).toNat (σ 23 q 1).toNat)))), (0, zr ad 0 ((0 : Nat) : Int)), (1, zr ad 17 ((d : Nat) : Int)), (2, zr ad 23 ((q : Nat) : Int))]) hx hb hl dX6_send_20 rfl (by decide) rfl (fun ls hl => ?_)
  refine zz_aload_n hx hb hl 1 dX6_send_21 rfl rfl ?_
  refine zz_aload_n hx hb hl 3 dX6_send_22 rfl rfl ?_
  refine zz_aload_n hx hb hl 2 dX6_send_23 rfl rfl ?_
  refine zz_iload_n hx hb hl 0 dX6_send_24 rfl rfl ?_
  refine zz_callV (T := TX6) (N := 10) (As := [zr ad 23 ((q : Nat) : Int), zr ad 17 ((d : Nat) : Int), .int (zi ((σ 0 0 8) + (σ 6 (σ 17 d 6).toNat (σ 23 q 1).toNat)))]) (rest := []) (v := ((0 : Nat) : Int)) (κ := 0) ⟨hx, hb, hml, hown, hts⟩ (c_X6_tellSent l G ad A N0 σ nd nr hX hnd d hd q hq (σ 0 0 8 + σ 6 (σ 17 d 6).toNat (σ 23 q 1).toNat) ⟨by omega, by omega⟩ (by omega) hf ht hw2) (cwV 3 hts gX6_send_X6_tellSent rfl rfl rfl (by decide +kernel) ⟨Nat.le_of_ble_eq_true rfl, Nat.le_of_ble_eq_true rfl⟩) hK hW1 (zlN (hX 0 0 rfl)) rfl rfl (Nat.le_trans hsz hS1.1) hS1 rfl hl.1.1 rfl (Nat.le_of_ble_eq_true rfl) dX6_send_25 ⟨Nat.le_of_ble_eq_true rfl, Nat.le_of_ble_eq_true rfl⟩ (fun x2 σ2 H2 locs2 hp2 hW2 hz2 hS2 => ?_)
  have hf2 : zfr (fun κ i k => (i = d ∧ (κ = 20 ∨ κ = 21 ∨ κ = 22 ∨ (κ = 18 ∧ k = 3))) ∨ (κ = 17 ∧ i = d ∧ k = 9) ∨ (κ = 23 ∧ i = q ∧ (k = 6 ∨ k = 7 ∨ k = 8 ∨ k = 9))) σ σ2 := fun κ i k hn => by rw [← hp2, zu_ne (by omega), zu_ne (by omega), zu_ne (by omega), zu_ne (by omega)]
  have e2 : σ2 18 d 3 = 0 := by rw [← hp2, zu_ne (by omega), zu_ne (by omega), zu_ne (by omega), zu_ne (by omega)]; exact h18
  have t6 : σ2 23 q 6 = 1 := by rw [← hp2, zu_s (by decide), zu_s (by decide), zu_s (by decide), zu_same]
  have t7 : σ2 23 q 7 = (d : Int) := by rw [← hp2, zu_s (by decide), zu_s (by decide), zu_same]
  have t8 : σ2 23 q 8 = σ 0 0 8 := by rw [← hp2, zu_s (by decide), zu_same]
  have t9 : σ2 23 q 9 = σ 0 0 8 + σ 6 (σ 17 d 6).toNat (σ 23 q 1).toNat + σ 6 (σ 23 q 1).toNat (σ 23 q 2).toNat * 3 / 2 := by rw [← hp2, zu_same]
  refine W.eq (g2 := F0 m 28 ls []) rfl ?_
  refine zz_aload_n hx hb hl 2 dX6_send_28 rfl rfl ?_
  refine zz_getN (T := TX1) (N := 13) (k := 1) (κ := 17) (w := zr ad 18 ((d : Nat) : Int)) hx hb hts hinX1 hown hK hW2 (zlN (hX 17 d (decide_eq_true hd))) rfl rfl rfl (by decide) (host := "HailCity") (List.mem_of_getElem? (i := 12) rfl) (fun _ h9 => h9) rfl dX6_send_29 ?_
  refine zz_iconst hx hb dX6_send_32 ?_
  refine zz_aload_n hx hb hl 3 dX6_send_33 rfl rfl ?_
  refine zz_getN (T := TX3) (N := 12) (k := 1) (κ := 23) (w := .int (zi (σ 23 q 1))) hx hb hts hinX3 hown hK hW2 (zlN (hX 23 q (decide_eq_true hq))) rfl rfl rfl (by decide) (host := "HailCity") (List.mem_of_getElem? (i := 26) rfl) (fun _ h9 => h9) (congrArg (fun z => Value.int (zi z)) (show σ2 23 q 1 = σ 23 q 1 from by rw [hf2 23 q 1 (by omega)])) dX6_send_34 ?_
  refine zz_aload_n hx hb hl 3 dX6_send_37 rfl rfl ?_
  refine zz_iconst hx hb dX6_send_38 ?_
  refine zz_callV (T := TX4) (N := 4) (As := [.int (zi 0), .int (zi (σ 23 q 1)), zr ad 23 ((q : Nat) : Int), .int (zi 0)]) (rest := []) (v := ((d : Nat) : Int)) (κ := 18) ⟨hx, hb, hml, hown, hts⟩ (c_X4_put l G ad A N0 σ2 nd nr hX d hd 0 (σ 23 q 1) ((q : Nat) : Int) 0 ⟨by decide, by decide⟩ (hW0.2.2.1 _ _ _) ⟨by omega, by omega⟩ (Or.inr (zlN (hX 23 q (decide_eq_true hq)))) (Or.inl rfl) (by decide) (by rw [e2]; exact Int.le_refl _) (by rw [e2]; decide)) (cwV 4 hts gX6_send_X4_put rfl rfl rfl (by decide +kernel) ⟨Nat.le_of_ble_eq_true rfl, Nat.le_of_ble_eq_true rfl⟩) hK hW2 (zlN (hX 18 d (decide_eq_true hd))) rfl rfl (Nat.le_trans hsz hS2.1) hS2 rfl hl.1.1 rfl (Nat.le_of_ble_eq_true rfl) dX6_send_39 ⟨Nat.le_of_ble_eq_true rfl, Nat.le_of_ble_eq_true rfl⟩ (fun x3 σ3 H3 locs3 hp3 hW3 hz3 hS3 => ?_)
  obtain ⟨a1, a2, a3⟩ := hp3
  rw [e2] at a1 a2
  have hf3 : zfr (fun κ i k => (i = d ∧ (κ = 20 ∨ κ = 21 ∨ κ = 22 ∨ (κ = 18 ∧ k = 3))) ∨ (κ = 17 ∧ i = d ∧ k = 9) ∨ (κ = 23 ∧ i = q ∧ (k = 6 ∨ k = 7 ∨ k = 8 ∨ k = 9))) σ σ3 := fun κ i k hn => by rw [a3 κ i k (by omega)]; exact hf2 κ i k hn
  have a20 := (a2 0 (Int.le_refl _)).1
  have a21 := (a2 0 (Int.le_refl _)).2.1
  have a22 := (a2 0 (Int.le_refl _)).2.2
  refine W.eq (g2 := F0 m 42 ls []) rfl ?_
  refine zz_aload_n hx hb hl 2 dX6_send_42 rfl rfl ?_
  refine zz_getN (T := TX1) (N := 13) (k := 1) (κ := 17) (w := zr ad 18 ((d : Nat) : Int)) hx hb hts hinX1 hown hK hW3 (zlN (hX 17 d (decide_eq_true hd))) rfl rfl rfl (by decide) (host := "HailCity") (List.mem_of_getElem? (i := 12) rfl) (fun _ h9 => h9) rfl dX6_send_43 ?_
  refine zz_iconst hx hb dX6_send_46 ?_
  refine zz_aload_n hx hb hl 3 dX6_send_47 rfl rfl ?_
  refine zz_getN (T := TX3) (N := 12) (k := 2) (κ := 23) (w := .int (zi (σ 23 q 2))) hx hb hts hinX3 hown hK hW3 (zlN (hX 23 q (decide_eq_true hq))) rfl rfl rfl (by decide) (host := "HailCity") (List.mem_of_getElem? (i := 29) rfl) (fun _ h9 => h9) (congrArg (fun z => Value.int (zi z)) (show σ3 23 q 2 = σ 23 q 2 from by rw [hf3 23 q 2 (by omega)])) dX6_send_48 ?_
  refine zz_aload_n hx hb hl 3 dX6_send_51 rfl rfl ?_
  refine zz_iconst hx hb dX6_send_52 ?_
  refine zz_callV (T := TX4) (N := 4) (As := [.int (zi 1), .int (zi (σ 23 q 2)), zr ad 23 ((q : Nat) : Int), .int (zi 1)]) (rest := []) (v := ((d : Nat) : Int)) (κ := 18) ⟨hx, hb, hml, hown, hts⟩ (c_X4_put l G ad A N0 σ3 nd nr hX d hd 1 (σ 23 q 2) ((q : Nat) : Int) 1 ⟨by decide, by decide⟩ (hW0.2.2.1 _ _ _) ⟨by omega, by omega⟩ (Or.inr (zlN (hX 23 q (decide_eq_true hq)))) (Or.inr rfl) (by decide) (by rw [a1]; decide) (by rw [a1]; decide)) (cwV 4 hts gX6_send_X4_put rfl rfl rfl (by decide +kernel) ⟨Nat.le_of_ble_eq_true rfl, Nat.le_of_ble_eq_true rfl⟩) hK hW3 (zlN (hX 18 d (decide_eq_true hd))) rfl rfl (Nat.le_trans hsz hS3.1) hS3 rfl hl.1.1 rfl (Nat.le_of_ble_eq_true rfl) dX6_send_53 ⟨Nat.le_of_ble_eq_true rfl, Nat.le_of_ble_eq_true rfl⟩ (fun x4 σ4 H4 locs4 hp4 hW4 hz4 hS4 => ?_)
  obtain ⟨b1, b2, b3⟩ := hp4
  rw [a1] at b1 b2
  have hf4 : zfr (fun κ i k => (i = d ∧ (κ = 20 ∨ κ = 21 ∨ κ = 22 ∨ (κ = 18 ∧ k = 3))) ∨ (κ = 17 ∧ i = d ∧ k = 9) ∨ (κ = 23 ∧ i = q ∧ (k = 6 ∨ k = 7 ∨ k = 8 ∨ k = 9))) σ σ4 := fun κ i k hn => by rw [b3 κ i k (by omega)]; exact hf3 κ i k hn
  obtain ⟨b20, b21, b22⟩ := b2 1 (by decide)
  obtain ⟨c20, c21, c22⟩ := b2 0 (by decide)
  refine W.eq (g2 := F0 m 56 ls []) rfl ?_
  refine zz_aload_n hx hb hl 2 dX6_send_56 rfl rfl ?_
  refine zz_iload_n hx hb hl 0 dX6_send_57 rfl rfl ?_
  refine zz_putN (T := TX1) (N := 13) (k := 9) (κ := 17) (v := ((d : Nat) : Int)) (x := ((σ 0 0 8) + (σ 6 (σ 17 d 6).toNat (σ 23 q 1).toNat))) (ty := .int) hx hb hts hinX1 tyX1 tyX1_ok nmX1 hown hK hW4 hS4 (zlN (hX 17 d (decide_eq_true hd))) rfl rfl rfl (by decide) (host := "HailCity") (List.mem_of_getElem? (i := 19) rfl) (fun _ h9 => h9) rfl (by decide +kernel) rfl rfl rfl ⟨by omega, by omega⟩ (fun h9 _ => absurd h9 (by decide)) (fun h9 => absurd h9 (by decide)) dX6_send_58 (fun H5 locs5 hW5' hS5 => ?_)
  obtain ⟨σ5, hs5⟩ : ∃ z, z = zu σ4 17 d 9 ((σ 0 0 8) + (σ 6 (σ 17 d 6).toNat (σ 23 q 1).toNat)) := ⟨_, rfl⟩
  have hW5 : ZW G ad A σ5 H5 := by rw [hs5]; exact hW5'
  have hv : ysd σ σ5 d q := by
    refine ⟨⟨?_, ⟨?_, ?_⟩, ⟨?_, ?_⟩, ?_, ?_⟩, ?_, ⟨?_, ?_, ?_, ?_⟩, fun κ i k hn => ?_⟩
    · rw [hs5, zu_ne (by omega), b1]; decide
    · rw [hs5, zu_ne (by omega), c20]; exact a20
    · rw [hs5, zu_ne (by omega), b20]; rfl
    · rw [hs5, zu_ne (by omega), c21]; exact a21
    · rw [hs5, zu_ne (by omega), b21]; rfl
    · rw [hs5, zu_ne (by omega), c22]; exact a22
    · rw [hs5, zu_ne (by omega), b22]; rfl
    · rw [hs5, zu_same]
    · rw [hs5, zu_ne (by omega), b3 _ _ _ (by omega), a3 _ _ _ (by omega)]; exact t6
    · rw [hs5, zu_ne (by omega), b3 _ _ _ (by omega), a3 _ _ _ (by omega)]; exact t7
    · rw [hs5, zu_ne (by omega), b3 _ _ _ (by omega), a3 _ _ _ (by omega)]; exact t8
    · rw [hs5, zu_ne (by omega), b3 _ _ _ (by omega), a3 _ _ _ (by omega)]; exact t9
    · rw [hs5, zu_ne (by omega)]; exact hf4 κ i k hn
  have hyk : (∀ d' q' : Nat, yRok σ5 d 2) ∧ True := by
    obtain ⟨⟨v1, ⟨v2, v3⟩, ⟨v4, v5⟩, v6, v7⟩, v8, -, hz⟩ := hv
    refine ⟨fun _ _ => ⟨v1, by decide, fun j hj => ?_, fun j hj => ?_, fun j hj h0 => ?_, ?_, ?_, ?_, ?_⟩, trivial⟩
    · rcases show j = 0 ∨ j = 1 by omega with rfl | rfl
      · rw [v2]; exact hf
      · rw [v3]; exact ht
    · obtain rfl : j = 0 := by omega
      rw [hz 6 _ _ (by omega), v2, v3]
      exact hw2
    · have e1 : σ5 21 d j = (q : Int) := by
        rcases show j = 0 ∨ j = 1 by omega with rfl | rfl
        · exact v4
        · exact v5
      rw [e1, hz 23 _ 5 (by omega)]
      exact hpr
    · rw [hz 0 0 9 (by omega)]; omega
    · rw [hz 0 0 8 (by omega)]; exact hnow
    · rw [hz 17 d 11 (by omega)]; omega
    · rw [hz 17 d 12 (by omega)]; omega
  refine zz_aload_n hx hb hl 1 dX6_send_61 rfl rfl ?_
  refine zz_aload_n hx hb hl 2 dX6_send_62 rfl rfl ?_
  refine zz_callV (T := TX6) (N := 10) (As := [zr ad 17 ((d : Nat) : Int)]) (rest := []) (v := ((0 : Nat) : Int)) (κ := 0) ⟨hx, hb, hml, hown, hts⟩ (c_X6_doReachedStops l G ad A N0 σ5 nd nr hX d hd 2 (hyk.1 d q)) (cwV 1 hts gX6_send_X6_doReachedStops rfl rfl rfl (by decide +kernel) ⟨Nat.le_of_ble_eq_true rfl, Nat.le_of_ble_eq_true rfl⟩) hK hW5 (zlN (hX 0 0 rfl)) rfl rfl (Nat.le_trans hsz hS5.1) hS5 rfl hl.1.1 rfl (Nat.le_of_ble_eq_true rfl) dX6_send_63 ⟨Nat.le_of_ble_eq_true rfl, Nat.le_of_ble_eq_true rfl⟩ (fun x6 σ6 H6 locs6 hp6 hW6 hz6 hS6 => ?_)
  refine W.eq (g2 := F0 m 66 ls []) rfl ?_
  refine W.eq (g2 := F0 m 66 ls []) rfl ?_
  refine zz_retv hx hb hr hlocks hW6 hS6 ?_ dX6_send_66
  exact ⟨_, hv, hp6⟩
