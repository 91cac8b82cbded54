/-! reached stops -/
def yRok (σ : zS) (d n : Nat) : Prop :=
  σ 18 d 3 = (n : Int) ∧ n ≤ 8 ∧ (∀ j, j < n → 0 ≤ σ 20 d j ∧ σ 20 d j < 10) ∧ (∀ j, j + 1 < n → 0 ≤ σ 6 (σ 20 d j).toNat (σ 20 d (j + 1)).toNat ∧ σ 6 (σ 20 d j).toNat (σ 20 d (j + 1)).toNat ≤ 20480) ∧ (∀ j, j < n → 0 ≤ σ 21 d j → 0 ≤ σ 23 (σ 21 d j).toNat 5 ∧ σ 23 (σ 21 d j).toNat 5 ≤ 3000000) ∧ (0 ≤ σ 0 0 9 ∧ σ 0 0 9 + n < 2000000000) ∧ (0 ≤ σ 0 0 8 ∧ σ 0 0 8 ≤ 20000) ∧ (0 ≤ σ 17 d 11 ∧ σ 17 d 11 + n ≤ 1000) ∧ (0 ≤ σ 17 d 12 ∧ σ 17 d 12 + 3000000 * n ≤ 1000000000)
def yNX (σ v : zS) (d : Nat) : Prop := ∃ u1, yrd (yns σ d) u1 d ∧ ynx u1 d = v
def yDR (d : Nat) : Nat → zS → zS → Prop
  | 0, σ, u => σ = u
  | n + 1, σ, u => (σ 17 d 9 ≤ σ 0 0 8 ∧ ∃ v, yNX σ v d ∧ yDR d n v u) ∨ (¬ (σ 17 d 9 ≤ σ 0 0 8) ∧ σ = u)
theorem ynx_fr {u : zS} {d κ i k : Nat} (h : ¬ (κ = 17 ∧ i = d ∧ (k = 8 ∨ k = 9))) (h2 : ¬ (κ = 0 ∧ i = 0 ∧ k = 9)) : ynx u d κ i k = u κ i k := by
  unfold ynx yqf
  split
  · rw [zu_ne (by omega)]
  · split
    · rw [zu_ne (by omega), zu_ne (by omega)]
    · rfl
theorem ynx_g (u : zS) (d : Nat) : u 0 0 9 ≤ ynx u d 0 0 9 ∧ ynx u d 0 0 9 ≤ u 0 0 9 + 1 := by
  unfold ynx yqf
  split
  · rw [zu_ne (by omega)]; omega
  · split
    · rw [zu_same]; omega
    · omega
theorem yns_fr2 {σ : zS} {d κ i k : Nat} (h : ¬ (κ = 23 ∧ (k = 6 ∨ k = 10))) (h2 : ¬ (κ = 17 ∧ i = d ∧ (k = 11 ∨ k = 12 ∨ k = 6))) : yns σ d κ i k = σ κ i k := by
  unfold yns
  rw [zu_ne (by omega)]
  split
  · rw [zu_ne (by omega), zu_ne (by omega), zu_ne (by omega), zu_ne (by omega)]
  · split
    · rw [zu_ne (by omega)]
    · rfl
theorem yns_11 (σ : zS) (d : Nat) : yns σ d 17 d 11 = σ 17 d 11 ∨ yns σ d 17 d 11 = σ 17 d 11 + 1 := by
  unfold yns
  rw [zu_ne (by omega)]
  split
  · right; rw [zu_ne (by omega), zu_same]
  · left
    split
    · rw [zu_ne (by omega)]
    · rfl
theorem yns_12 (σ : zS) (d : Nat) : yns σ d 17 d 12 = σ 17 d 12 ∨ (0 ≤ σ 21 d 0 ∧ yns σ d 17 d 12 = σ 17 d 12 + σ 23 (σ 21 d 0).toNat 5) := by
  unfold yns
  rw [zu_ne (by omega)]
  split
  · rename_i h
    right; exact ⟨h.1, zu_same⟩
  · left
    split
    · rw [zu_ne (by omega)]
    · rfl
theorem yRok_nx {σ v : zS} {d n : Nat} (h : yRok σ d (n + 1)) (hx : yNX σ v d) : yRok v d n := by
  obtain ⟨u1, ⟨b1, b2, b3⟩, rfl⟩ := hx
  obtain ⟨a1, a2, a3, a4, a5, a6, a7, a8, a9⟩ := h
  have e18 : yns σ d 18 d 3 = σ 18 d 3 := yns_fr2 (by omega) (by omega)
  rw [e18, a1] at b1 b2
  have c20 : ∀ j, j < n → ynx u1 d 20 d j = σ 20 d (j + 1) := fun j hj => by rw [ynx_fr (by omega) (by omega), (b2 j (by omega)).1, yns_fr2 (by omega) (by omega)]
  have c21 : ∀ j, j < n → ynx u1 d 21 d j = σ 21 d (j + 1) := fun j hj => by rw [ynx_fr (by omega) (by omega), (b2 j (by omega)).2.1, yns_fr2 (by omega) (by omega)]
  have c6 : ∀ a b, ynx u1 d 6 a b = σ 6 a b := fun a b => by rw [ynx_fr (by omega) (by omega), b3 6 a b (by omega), yns_fr2 (by omega) (by omega)]
  have c5 : ∀ q, ynx u1 d 23 q 5 = σ 23 q 5 := fun q => by rw [ynx_fr (by omega) (by omega), b3 23 q 5 (by omega), yns_fr2 (by omega) (by omega)]
  have c8 : ynx u1 d 0 0 8 = σ 0 0 8 := by rw [ynx_fr (by omega) (by omega), b3 0 0 8 (by omega), yns_fr2 (by omega) (by omega)]
  have c11 : ynx u1 d 17 d 11 = yns σ d 17 d 11 := by rw [ynx_fr (by omega) (by omega), b3 17 d 11 (by omega)]
  have c12 : ynx u1 d 17 d 12 = yns σ d 17 d 12 := by rw [ynx_fr (by omega) (by omega), b3 17 d 12 (by omega)]
  have c9 : u1 0 0 9 = σ 0 0 9 := by rw [b3 0 0 9 (by omega), yns_fr2 (by omega) (by omega)]
  have g9 := ynx_g u1 d
  have g11 := yns_11 σ d
  have g12 := yns_12 σ d
  have g5 := a5 0 (by omega)
  refine ⟨?_, by omega, fun j hj => ?_, fun j hj => ?_, fun j hj => ?_, ⟨by omega, by omega⟩, by rw [c8]; exact a7, ⟨by omega, by omega⟩, ?_⟩
  · rw [ynx_fr (by omega) (by omega), b1]; omega
  · rw [c20 j hj]; exact a3 _ (by omega)
  · rw [c20 j (by omega), c20 (j + 1) (by omega), c6]; exact a4 _ (by omega)
  · rw [c21 j hj, c5]; exact a5 _ (by omega)
  · rw [c12]
    rcases g12 with h | ⟨h0, h⟩
    · rw [h]; omega
    · have := g5 h0
      rw [h]; omega

set_option maxHeartbeats 4000000 in
set_option maxRecDepth 100000 in
theorem c_X6_doReachedStops (l : Launch) (G : zG) (ad : zA) (A : Nat → Prop) (N0 : Nat) (σ : zS) (nd nr : Nat) (hX : zX ad nd nr) (d : Nat) (hd : d < nd) (n : Nat) (hok : yRok σ d n) : Met l yX6_doReachedStops wsX6_doReachedStops ({ frames := 3, cells := 0, slots := 0, locals := 67 }) (zP G ad A N0 σ [zr ad 0 ((0 : Nat) : Int), zr ad 17 ((d : Nat) : Int)]) (zQ G ad A zrv (fun _ u => yDR d n σ u)) 0 0 A := by
  refine zz_of (cc := cX6_doReachedStops) (maxL := 4) (ret := none) (by decide) rfl ⟨rfl, rfl⟩ (List.forall_mem_cons.mpr ⟨zr_cat _ _ _, List.forall_mem_cons.mpr ⟨zr_cat _ _ _, fun _ h => absurd h List.not_mem_nil⟩⟩) (Nat.le_of_ble_eq_true rfl) ?_
  intro p e s m below meth c hx hb hr hml hts hown hlocks hsz hW0 hK ls hl
  have hS0 : va_S A s.heap s.heap [] := va_S.rf
  have hl : zh ls 4 [(0, zr ad 0 ((0 : Nat) : Int)), (1, zr ad 17 ((d : Nat) : Int))] := hl
  have hinX1 : ∀ w ∈ u_ws RX1 TX1 13, w ∈ wsX6_doReachedStops := by decide +kernel
  have hinX4 : ∀ w ∈ u_ws RX4 TX4 4, w ∈ wsX6_doReachedStops := by decide +kernel
  have hinX6 : ∀ w ∈ u_ws RX6 TX6 10, w ∈ wsX6_doReachedStops := by decide +kernel
  have hn8 := hok.2.1
  refine zz_aload_n hx hb hl 1 dX6_doReachedStops_0 rfl rfl ?_
  refine zz_getN (T := TX1) (N := 13) (k := 1) (κ := 17) (w := zr ad 18 ((d : Nat) : Int)) hx hb hts hinX1 hown hK hW0 (zlN (hX 17 d (decide_eq_true hd))) rfl rfl rfl (by decide) (host := "HailCity") (List.mem_of_getElem? (i := 12) rfl) (fun _ h9 => h9) rfl dX6_doReachedStops_1 ?_
  refine zz_getN (T := TX4) (N := 4) (k := 3) (κ := 18) (w := .int (zi ((n : Nat) : Int))) hx hb hts hinX4 hown hK hW0 (zlN (hX 18 d (decide_eq_true hd))) rfl rfl rfl (by decide) (host := "HailCity") (List.mem_of_getElem? (i := 9) rfl) (fun _ h9 => h9) (congrArg (fun z => Value.int (zi z)) (show σ 18 d 3 = ((n : Nat) : Int) from by rw [hok.1])) dX6_doReachedStops_4 ?_
  refine zz_istore_n (lv' := [(2, .int (zi ((n : Nat) : Int))), (0, zr ad 0 ((0 : Nat) : Int)), (1, zr ad 17 ((d : Nat) : Int))]) hx hb hl dX6_doReachedStops_7 rfl (by decide) rfl (fun ls hl => ?_)
  refine zz_iconst hx hb dX6_doReachedStops_8 ?_
  refine zz_istore_n (lv' := [(3, .int (zi 0)), (2, .int (zi ((n : Nat) : Int))), (0, zr ad 0 ((0 : Nat) : Int)), (1, zr ad 17 ((d : Nat) : Int))]) hx hb hl dX6_doReachedStops_9 rfl (by decide) rfl (fun ls hl => ?_)
  have hcut10 : ∀ (n9 : Nat) (i : Nat)  (σ9 : zS) (H9 : Heap) (locs9 : List Loc) (ls : Array Slot), (i ≤ n ∧ yRok σ9 d (n - i) ∧ (∀ u, yDR d (n - i) σ9 u → yDR d n σ u)) → (n - i) < n9 → ZW G ad A σ9 H9 → va_S A s.heap H9 locs9 → zh ls 4 [(0, zr ad 0 ((0 : Nat) : Int)), (1, zr ad 17 ((d : Nat) : Int)), (2, .int (zi ((n : Nat) : Int))), (3, .int (zi ((i : Nat) : Int)))] → W p l e ({ frames := 3, cells := 0, slots := 0, locals := 67 }) s m ([zr ad 0 ((0 : Nat) : Int), zr ad 17 ((d : Nat) : Int)] : List Value).toArray below meth c H9 locs9 0 0 (MQ below (zQ G ad A zrv (fun _ u => yDR d n σ u)) ([zr ad 0 ((0 : Nat) : Int), zr ad 17 ((d : Nat) : Int)] : List Value).toArray s 0 0 A) (F0 m 10 ls []) := by
    intro n9
    induction n9 with
    | zero =>
      intro i σ1 H1 locs1 ls hI10 hm10 hW1 hS1 hl
      exact absurd hm10 (Nat.not_lt_zero _)
    | succ n9 ih10 =>
      intro i σ1 H1 locs1 ls hI10 hm10 hW1 hS1 hl
      obtain ⟨hi1, hi2, hi3⟩ := hI10
      refine zz_iload_n hx hb hl 3 dX6_doReachedStops_10 rfl rfl ?_
      refine zz_iload_n hx hb hl 2 dX6_doReachedStops_11 rfl rfl ?_
      refine zz_icmp_ge (tgt := 47) hx hb dX6_doReachedStops_12 (by decide) ⟨by omega, by omega⟩ ⟨by omega, by omega⟩ (fun hc12 => ?_) (fun hc12 => ?_)
      · refine W.eq (g2 := F0 m 47 ls []) rfl ?_
        refine zz_retv hx hb hr hlocks hW1 hS1 ?_ dX6_doReachedStops_47
        refine hi3 _ ?_
        rcases Nat.eq_zero_or_pos (n - i) with h9 | h9
        · rw [h9]; rfl
        · obtain ⟨k9, hk9⟩ : ∃ k9, n - i = k9 + 1 := ⟨n - i - 1, by omega⟩
          rw [hk9]
          first
            | exact Or.inr ⟨by omega, rfl⟩
            | (exfalso; omega)
      · refine zz_aload_n hx hb hl 1 dX6_doReachedStops_15 rfl rfl ?_
        refine zz_getN (T := TX1) (N := 13) (k := 1) (κ := 17) (w := zr ad 18 ((d : Nat) : Int)) hx hb hts hinX1 hown hK hW1 (zlN (hX 17 d (decide_eq_true hd))) rfl rfl rfl (by decide) (host := "HailCity") (List.mem_of_getElem? (i := 12) rfl) (fun _ h9 => h9) rfl dX6_doReachedStops_16 ?_
        refine zz_getN (T := TX4) (N := 4) (k := 3) (κ := 18) (w := .int (zi ((n - i : Nat) : Int))) hx hb hts hinX4 hown hK hW1 (zlN (hX 18 d (decide_eq_true hd))) rfl rfl rfl (by decide) (host := "HailCity") (List.mem_of_getElem? (i := 9) rfl) (fun _ h9 => h9) (congrArg (fun z => Value.int (zi z)) (show σ1 18 d 3 = ((n - i : Nat) : Int) from by rw [hi2.1])) dX6_doReachedStops_19 ?_
        refine zz_if_le (tgt := 47) hx hb dX6_doReachedStops_22 (by decide) ⟨by omega, by omega⟩ (fun hc22 => ?_) (fun hc22 => ?_)
        · refine W.eq (g2 := F0 m 47 ls []) rfl ?_
          refine zz_retv hx hb hr hlocks hW1 hS1 ?_ dX6_doReachedStops_47
          refine hi3 _ ?_
          rcases Nat.eq_zero_or_pos (n - i) with h9 | h9
          · rw [h9]; rfl
          · obtain ⟨k9, hk9⟩ : ∃ k9, n - i = k9 + 1 := ⟨n - i - 1, by omega⟩
            rw [hk9]
            first
              | exact Or.inr ⟨by omega, rfl⟩
              | (exfalso; omega)
        · refine zz_aload_n hx hb hl 1 dX6_doReachedStops_25 rfl rfl ?_
          refine zz_getN (T := TX1) (N := 13) (k := 9) (κ := 17) (w := .int (zi (σ1 17 d 9))) hx hb hts hinX1 hown hK hW1 (zlN (hX 17 d (decide_eq_true hd))) rfl rfl rfl (by decide) (host := "HailCity") (List.mem_of_getElem? (i := 19) rfl) (fun _ h9 => h9) rfl dX6_doReachedStops_26 ?_
          refine zz_aload_n hx hb hl 0 dX6_doReachedStops_29 rfl rfl ?_
          refine zz_get (T := TX6) (N := 10) (k := 8) (κ := 0) (w := .int (zi (σ1 0 0 8))) hx hb hts hinX6 hown hK hW1 (zlN (hX 0 0 rfl)) rfl rfl rfl (by decide) (hts (.fieldLink RX6 134 "HailCity" "now" "I") (by decide +kernel)) (fun _ h9 => h9) rfl dX6_doReachedStops_30 ?_
          refine zz_icmp_gt (tgt := 47) hx hb dX6_doReachedStops_33 (by decide) (hW1.2.2.1 _ _ _) (hW1.2.2.1 _ _ _) (fun hc33 => ?_) (fun hc33 => ?_)
          · refine W.eq (g2 := F0 m 47 ls []) rfl ?_
            refine zz_retv hx hb hr hlocks hW1 hS1 ?_ dX6_doReachedStops_47
            refine hi3 _ ?_
            rcases Nat.eq_zero_or_pos (n - i) with h9 | h9
            · rw [h9]; rfl
            · obtain ⟨k9, hk9⟩ : ∃ k9, n - i = k9 + 1 := ⟨n - i - 1, by omega⟩
              rw [hk9]
              first
                | exact Or.inr ⟨by omega, rfl⟩
                | (exfalso; omega)
          · have hi2k := hi2
            obtain ⟨k9, hk9⟩ : ∃ k9, n - i = k9 + 1 := ⟨n - i - 1, by omega⟩
            rw [hk9] at hi2k
            obtain ⟨q1, q2, q3, q4, q5, q6, q7, q8, q9⟩ := hi2k
            refine zz_aload_n hx hb hl 0 dX6_doReachedStops_36 rfl rfl ?_
            refine zz_aload_n hx hb hl 1 dX6_doReachedStops_37 rfl rfl ?_
            refine zz_callV (T := TX6) (N := 10) (As := [zr ad 17 ((d : Nat) : Int)]) (rest := []) (v := ((0 : Nat) : Int)) (κ := 0) ⟨hx, hb, hml, hown, hts⟩ (c_X6_doNextStop l G ad A N0 σ1 nd nr hX d hd k9 q1 q2 q3 (fun j hj => q4 j (by omega)) ⟨q6.1, by omega⟩ q7 ⟨q8.1, by omega⟩ ⟨q9.1, by omega⟩ (fun h => q5 0 (by omega) h)) (cwV 1 hts gX6_doReachedStops_X6_doNextStop rfl rfl rfl (by decide +kernel) ⟨Nat.le_of_ble_eq_true rfl, Nat.le_of_ble_eq_true rfl⟩) hK hW1 (zlN (hX 0 0 rfl)) rfl rfl (Nat.le_trans hsz hS1.1) hS1 rfl hl.1.1 rfl (Nat.le_of_ble_eq_true rfl) dX6_doReachedStops_38 ⟨Nat.le_of_ble_eq_true rfl, Nat.le_of_ble_eq_true rfl⟩ (fun x2 σ2 H2 locs2 hp2 hW2 hz2 hS2 => ?_)
            refine W.eq (g2 := F0 m 41 ls []) rfl ?_
            refine zz_iinc (lv' := [(3, .int (zi (((i : Nat) : Int) + 1))), (0, zr ad 0 ((0 : Nat) : Int)), (1, zr ad 17 ((d : Nat) : Int)), (2, .int (zi ((n : Nat) : Int)))]) hx hb hl dX6_doReachedStops_41 (k0 := 3) rfl (by decide) rfl (fun ls hl => ?_)
            refine zz_goto (tgt := 10) hx hb dX6_doReachedStops_44 (by decide) ?_
            refine ih10 (i + 1) σ2 H2 locs2 ls ?_ (by omega) hW2 hS2 (zh_sub hl [1, 2, 3, 0] rfl)
            refine ⟨by omega, ?_, fun u hu => hi3 u ?_⟩
            · rw [show n - (i + 1) = k9 by omega]
              exact yRok_nx (hk9 ▸ hi2) hp2
            · rw [hk9]
              rw [show n - (i + 1) = k9 by omega] at hu
              exact Or.inl ⟨by omega, _, hp2, hu⟩
  refine hcut10 _ 0 σ s.heap [] ls ?_ (Nat.lt_succ_self _) hW0 hS0 (zh_sub hl [2, 3, 1, 0] rfl)
  exact ⟨Nat.zero_le _, hok, fun u hu => hu⟩
