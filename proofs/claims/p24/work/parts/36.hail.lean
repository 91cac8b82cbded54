set_option maxHeartbeats 4000000 in
set_option maxRecDepth 100000 in
theorem c_X6_zoneOf (l : Launch) (G : zG) (ad : zA) (A : Nat → Prop) (N0 : Nat) (σ : zS) (a : Int) (ga : zg a) (ha : 0 ≤ a) : Met l yX6_zoneOf wsX6_zoneOf ({ frames := 0, cells := 0, slots := 0, locals := 0 }) (zP G ad A N0 σ [.int (zi a)]) (zQ G ad A zri (fun r u => σ = u ∧ a / 3 = r)) 0 0 A := by
  refine zz_of (cc := cX6_zoneOf) (maxL := 1) (ret := (some .int)) (by decide) rfl ⟨rfl, rfl⟩ (List.forall_mem_cons.mpr ⟨rfl, fun _ h => absurd h List.not_mem_nil⟩) (Nat.le_of_ble_eq_true rfl) ?_
  intro p e s m below meth c hx hb hr hml hts hown hlocks hsz hW0 hK ls hl
  have hS0 : va_S A s.heap s.heap [] := va_S.rf
  have hl : zh ls 1 [(0, .int (zi a))] := hl
  refine zz_iload_n hx hb hl 0 dX6_zoneOf_0 rfl rfl ?_
  refine zz_iconst hx hb dX6_zoneOf_1 ?_
  refine zz_idiv hx hb dX6_zoneOf_2 ga ⟨by decide, by decide⟩ (by omega) (by omega) ?_
  refine W.eq (g2 := F0 m 3 ls [.int (zi (a / 3))]) rfl ?_
  refine zz_reti hx hb hr hlocks hW0 hS0 ?_ dX6_zoneOf_3
  exact ⟨rfl, rfl⟩

/-- the driver d is FREE -/
def yfr (σ : zS) (d : Nat) : Prop := σ 18 d 3 = 0 ∧ σ 17 d 7 = 0 ∧ σ 17 d 5 = 0
noncomputable def yqf (σ : zS) (d : Nat) (w : Int) : zS := @ite zS (w = 0 ∧ yfr σ d) (Classical.propDecidable _) (zu (zu σ 17 d 8 (σ 0 0 9)) 0 0 9 (σ 0 0 9 + 1)) σ
/-- who is first in the airport's queue among n drivers, or -1 -/
noncomputable def yfq (σ : zS) : Nat → Int
  | 0 => -1
  | d + 1 => @ite Int (yfr σ d ∧ σ 17 d 6 = 0 ∧ (yfq σ d < 0 ∨ σ 17 d 8 < σ 17 (yfq σ d).toNat 8)) (Classical.propDecidable _) (d : Int) (yfq σ d)
theorem yfq_rg (σ : zS) : ∀ n, -1 ≤ yfq σ n ∧ yfq σ n < n
  | 0 => ⟨Int.le_refl _, by show (-1 : Int) < (0 : Nat); omega⟩
  | n + 1 => by
    have h := yfq_rg σ n
    unfold yfq
    split <;> omega
/-- sums -/
def yhs (f : Nat → Int) : Nat → Int
  | 0 => 0
  | n + 1 => yhs f n + f n
theorem yhs_rg {f : Nat → Int} {M : Int} (h : ∀ j, 0 ≤ f j ∧ f j ≤ M) : ∀ n, 0 ≤ yhs f n ∧ yhs f n ≤ M * n
  | 0 => ⟨Int.le_refl _, by show (0 : Int) ≤ M * (0 : Nat); simp⟩
  | n + 1 => by
    have h1 := yhs_rg h n
    have h2 := h n
    have h3 : M * ((n + 1 : Nat) : Int) = M * n + M := by rw [Int.natCast_add, Int.mul_add]; simp
    show 0 ≤ yhs f n + f n ∧ yhs f n + f n ≤ _
    omega
noncomputable def yh1 (σ : zS) (z : Int) (j : Nat) : Int := 25 * zb (σ 23 j 6 = 0 ∧ σ 23 j 1 / 3 = z)
noncomputable def yh2 (σ : zS) (z : Int) (j : Nat) : Int := 25 * zb (yfr σ j ∧ σ 17 j 6 / 3 = z)
theorem yh1_rg (σ : zS) (z : Int) (j : Nat) : 0 ≤ yh1 σ z j ∧ yh1 σ z j ≤ 25 := by
  unfold yh1
  rcases zb_01 (σ 23 j 6 = 0 ∧ σ 23 j 1 / 3 = z) with h | h <;> rw [h] <;> decide
theorem yh2_rg (σ : zS) (z : Int) (j : Nat) : 0 ≤ yh2 σ z j ∧ yh2 σ z j ≤ 25 := by
  unfold yh2
  rcases zb_01 (yfr σ j ∧ σ 17 j 6 / 3 = z) with h | h <;> rw [h] <;> decide

set_option maxHeartbeats 4000000 in
set_option maxRecDepth 100000 in
theorem c_X6_queueIfNowFree (l : Launch) (G : zG) (ad : zA) (A : Nat → Prop) (N0 : Nat) (σ : zS) (nd nr : Nat) (hX : zX ad nd nr) (d : Nat) (hd : d < nd) (w : Int) (hw : w = 0 ∨ w = 1) (hgt : 0 ≤ σ 0 0 9 ∧ σ 0 0 9 < 2000000000) : Met l yX6_queueIfNowFree wsX6_queueIfNowFree ({ frames := 1, cells := 0, slots := 0, locals := 20 }) (zP G ad A N0 σ [zr ad 0 ((0 : Nat) : Int), zr ad 17 ((d : Nat) : Int), .int (zi w)]) (zQ G ad A zrv (fun _ u => yqf σ d w = u)) 0 0 A := by
  refine zz_of (cc := cX6_queueIfNowFree) (maxL := 3) (ret := none) (by decide) rfl ⟨rfl, rfl⟩ (List.forall_mem_cons.mpr ⟨zr_cat _ _ _, List.forall_mem_cons.mpr ⟨zr_cat _ _ _, List.forall_mem_cons.mpr ⟨rfl, fun _ h => absurd h List.not_mem_nil⟩⟩⟩) (Nat.le_of_ble_eq_true rfl) ?_
  intro p e s m below meth c hx hb hr hml hts hown hlocks hsz hW0 hK ls hl
  have hS0 : va_S A s.heap s.heap [] := va_S.rf
  have hl : zh ls 3 [(0, zr ad 0 ((0 : Nat) : Int)), (1, zr ad 17 ((d : Nat) : Int)), (2, .int (zi w))] := hl
  have hinX1 : ∀ w ∈ u_ws RX1 TX1 13, w ∈ wsX6_queueIfNowFree := by decide +kernel
  have hinX6 : ∀ w ∈ u_ws RX6 TX6 10, w ∈ wsX6_queueIfNowFree := by decide +kernel
  refine zz_iload_n hx hb hl 2 dX6_queueIfNowFree_0 rfl rfl ?_
  refine zz_if_ne (tgt := 29) hx hb dX6_queueIfNowFree_1 (by decide) (zg_01 hw) (fun hc1 => ?_) (fun hc1 => ?_)
  · refine W.eq (g2 := F0 m 29 ls []) rfl ?_
    refine zz_retv hx hb hr hlocks hW0 hS0 ?_ dX6_queueIfNowFree_29
    exact if_neg (fun q => hc1 q.1)
  · refine zz_aload_n hx hb hl 1 dX6_queueIfNowFree_4 rfl rfl ?_
    refine zz_callV (T := TX1) (N := 13) (As := []) (rest := []) (v := ((d : Nat) : Int)) (κ := 17) ⟨hx, hb, hml, hown, hts⟩ (c_X1_isFree l G ad A N0 σ nd nr hX d hd) (cwV 0 hts gX6_queueIfNowFree_X1_isFree rfl rfl rfl (by decide +kernel) ⟨Nat.le_of_ble_eq_true rfl, Nat.le_of_ble_eq_true rfl⟩) hK hW0 (zlN (hX 17 d (decide_eq_true hd))) rfl rfl (Nat.le_trans hsz hS0.1) hS0 rfl hl.1.1 rfl (Nat.le_of_ble_eq_true rfl) dX6_queueIfNowFree_5 ⟨Nat.le_of_ble_eq_true rfl, Nat.le_of_ble_eq_true rfl⟩ (fun x1 σ1 H1 locs1 hp1 hW1 hz1 hS1 => ?_)
    obtain ⟨rfl, rfl⟩ := hp1
    refine W.eq (g2 := F0 m 8 ls [.int (zi (zb (σ 18 d 3 = 0 ∧ σ 17 d 7 = 0 ∧ σ 17 d 5 = 0)))]) rfl ?_
    refine zz_if_eqb (tgt := 29) hx hb dX6_queueIfNowFree_8 (by decide) (fun hc8 => ?_) (fun hc8 => ?_)
    · refine W.eq (g2 := F0 m 29 ls []) rfl ?_
      refine zz_retv hx hb hr hlocks hW1 hS1 ?_ dX6_queueIfNowFree_29
      refine if_neg (fun (q : w = 0 ∧ yfr σ d) => ?_)
      exact hc8 q.2
    · refine zz_aload_n hx hb hl 1 dX6_queueIfNowFree_11 rfl rfl ?_
      refine zz_aload_n hx hb hl 0 dX6_queueIfNowFree_12 rfl rfl ?_
      refine zz_get (T := TX6) (N := 10) (k := 9) (κ := 0) (w := .int (zi (σ 0 0 9))) hx hb hts hinX6 hown hK hW1 (zlN (hX 0 0 rfl)) rfl rfl rfl (by decide) (hts (.fieldLink RX6 284 "HailCity" "timesFree" "I") (by decide +kernel)) (fun _ h9 => h9) rfl dX6_queueIfNowFree_13 ?_
      refine zz_putN (T := TX1) (N := 13) (k := 8) (κ := 17) (v := ((d : Nat) : Int)) (x := (σ 0 0 9)) (ty := .int) hx hb hts hinX1 tyX1 tyX1_ok nmX1 hown hK hW1 hS1 (zlN (hX 17 d (decide_eq_true hd))) rfl rfl rfl (by decide) (host := "HailCity") (List.mem_of_getElem? (i := 17) rfl) (fun _ h9 => h9) rfl (by decide +kernel) rfl rfl rfl (hW1.2.2.1 _ _ _) (fun h9 _ => absurd h9 (by decide)) (fun h9 => absurd h9 (by decide)) dX6_queueIfNowFree_16 (fun H2 locs2 hW2' hS2 => ?_)
      obtain ⟨σ2, hs2⟩ : ∃ z, z = zu σ 17 d 8 (σ 0 0 9) := ⟨_, rfl⟩
      have hW2 : ZW G ad A σ2 H2 := by rw [hs2]; exact hW2'
      refine zz_aload_n hx hb hl 0 dX6_queueIfNowFree_19 rfl rfl ?_
      refine lv_dup hx hb dX6_queueIfNowFree_20 (zr_cat _ _ _) ?_
      refine zz_get (T := TX6) (N := 10) (k := 9) (κ := 0) (w := .int (zi (σ 0 0 9))) hx hb hts hinX6 hown hK hW2 (zlN (hX 0 0 rfl)) rfl rfl rfl (by decide) (hts (.fieldLink RX6 284 "HailCity" "timesFree" "I") (by decide +kernel)) (fun _ h9 => h9) (congrArg (fun z => Value.int (zi z)) (show σ2 0 0 9 = σ 0 0 9 from by rw [hs2, zu_k (by decide)])) dX6_queueIfNowFree_21 ?_
      refine zz_iconst hx hb dX6_queueIfNowFree_24 ?_
      refine zz_iadd hx hb dX6_queueIfNowFree_25 ?_
      refine zz_put (T := TX6) (N := 10) (k := 9) (κ := 0) (v := ((0 : Nat) : Int)) (x := ((σ 0 0 9) + 1)) (ty := .int) hx hb hts hinX6 tyX6 tyX6_ok nmX6 hown hK hW2 hS2 (zlN (hX 0 0 rfl)) rfl rfl rfl (by decide) (hts (.fieldLink RX6 284 "HailCity" "timesFree" "I") (by decide +kernel)) (fun _ h9 => h9) rfl (by decide +kernel) rfl rfl rfl ⟨by omega, by omega⟩ (fun h9 _ => absurd h9 (by decide)) (fun h9 => absurd h9 (by decide)) dX6_queueIfNowFree_26 (fun H3 locs3 hW3' hS3 => ?_)
      obtain ⟨σ3, hs3⟩ : ∃ z, z = zu σ2 0 0 9 ((σ 0 0 9) + 1) := ⟨_, rfl⟩
      have hW3 : ZW G ad A σ3 H3 := by rw [hs3]; exact hW3'
      refine W.eq (g2 := F0 m 29 ls []) rfl ?_
      refine zz_retv hx hb hr hlocks hW3 hS3 ?_ dX6_queueIfNowFree_29
      exact (if_pos (show w = 0 ∧ yfr σ d from ⟨hc1, hc8⟩)).trans (by rw [hs3, hs2])

set_option maxHeartbeats 4000000 in
set_option maxRecDepth 100000 in
theorem c_X6_firstInQueue (l : Launch) (G : zG) (ad : zA) (A : Nat → Prop) (N0 : Nat) (σ : zS) (nd nr : Nat) (hX : zX ad nd nr) (hnd : nd ≤ 8) (hnr : nr ≤ 60) (h5 : σ 0 0 5 = (nd : Int)) (h6 : σ 0 0 6 = (nr : Int)) (hD : ∀ i, i < nd → σ 15 0 i = (i : Int)) (hQ : ∀ i, i < nr → σ 16 0 i = (i : Int)) : Met l yX6_firstInQueue wsX6_firstInQueue ({ frames := 1, cells := 0, slots := 0, locals := 20 }) (zP G ad A N0 σ [zr ad 0 ((0 : Nat) : Int)]) (zQ G ad A (zrr ad 17) (fun r u => σ = u ∧ yfq σ nd = r)) 0 0 A := by
  refine zz_of (cc := cX6_firstInQueue) (maxL := 4) (ret := (some (.object "HailCity$Driver"))) (by decide) rfl ⟨rfl, rfl⟩ (List.forall_mem_cons.mpr ⟨zr_cat _ _ _, fun _ h => absurd h List.not_mem_nil⟩) (Nat.le_of_ble_eq_true rfl) ?_
  intro p e s m below meth c hx hb hr hml hts hown hlocks hsz hW0 hK ls hl
  have hS0 : va_S A s.heap s.heap [] := va_S.rf
  have hl : zh ls 4 [(0, zr ad 0 ((0 : Nat) : Int))] := hl
  have hinX1 : ∀ w ∈ u_ws RX1 TX1 13, w ∈ wsX6_firstInQueue := by decide +kernel
  have hinX6 : ∀ w ∈ u_ws RX6 TX6 10, w ∈ wsX6_firstInQueue := by decide +kernel
  refine zz_null hx hb dX6_firstInQueue_0 ad 17 ?_
  refine zz_astore_n (lv' := [(1, zr ad 17 (-1)), (0, zr ad 0 ((0 : Nat) : Int))]) hx hb hl dX6_firstInQueue_1 rfl (by decide) rfl (fun ls hl => ?_)
  refine zz_iconst hx hb dX6_firstInQueue_2 ?_
  refine zz_istore_n (lv' := [(2, .int (zi 0)), (1, zr ad 17 (-1)), (0, zr ad 0 ((0 : Nat) : Int))]) hx hb hl dX6_firstInQueue_3 rfl (by decide) rfl (fun ls hl => ?_)
  have hcut4 : ∀ (n9 : Nat) (i : Nat)  (H9 : Heap) (locs9 : List Loc) (ls : Array Slot), (i ≤ nd) → (nd - i) < n9 → ZW G ad A σ H9 → va_S A s.heap H9 locs9 → zh ls 4 [(0, zr ad 0 ((0 : Nat) : Int)), (1, zr ad 17 (yfq σ i)), (2, .int (zi ((i : Nat) : Int)))] → W p l e ({ frames := 1, cells := 0, slots := 0, locals := 20 }) s m ([zr ad 0 ((0 : Nat) : Int)] : List Value).toArray below meth c H9 locs9 0 0 (MQ below (zQ G ad A (zrr ad 17) (fun r u => σ = u ∧ yfq σ nd = r)) ([zr ad 0 ((0 : Nat) : Int)] : List Value).toArray s 0 0 A) (F0 m 4 ls []) := by
    intro n9
    induction n9 with
    | zero =>
      intro i H1 locs1 ls hI4 hm4 hW1 hS1 hl
      exact absurd hm4 (Nat.not_lt_zero _)
    | succ n9 ih4 =>
      intro i H1 locs1 ls hI4 hm4 hW1 hS1 hl
      have hyf := yfq_rg σ i
      have hzf : zln ad 17 (yfq σ i) := by
        rcases Int.lt_or_le (yfq σ i) 0 with h | h
        · exact Or.inl h
        · exact Or.inr ⟨h, hX 17 _ (decide_eq_true (by omega))⟩
      refine zz_iload_n hx hb hl 2 dX6_firstInQueue_4 rfl rfl ?_
      refine zz_aload_n hx hb hl 0 dX6_firstInQueue_5 rfl rfl ?_
      refine zz_get (T := TX6) (N := 10) (k := 5) (κ := 0) (w := .int (zi ((nd : Nat) : Int))) hx hb hts hinX6 hown hK hW1 (zlN (hX 0 0 rfl)) rfl rfl rfl (by decide) (hts (.fieldLink RX6 87 "HailCity" "driverCount" "I") (by decide +kernel)) (fun _ h9 => h9) (congrArg (fun z => Value.int (zi z)) (show σ 0 0 5 = ((nd : Nat) : Int) from by rw [h5])) dX6_firstInQueue_6 ?_
      refine zz_icmp_ge (tgt := 56) hx hb dX6_firstInQueue_9 (by decide) ⟨by omega, by omega⟩ ⟨by omega, by omega⟩ (fun hc9 => ?_) (fun hc9 => ?_)
      · refine zz_aload_n hx hb hl 1 dX6_firstInQueue_56 rfl rfl ?_
        refine W.eq (g2 := F0 m 57 ls [zr ad 17 (yfq σ i)]) rfl ?_
        refine zz_reta hx hb hr hlocks hW1 hS1 ?_ dX6_firstInQueue_57
        exact ⟨rfl, by rw [show nd = i by omega]⟩
      · refine zz_aload_n hx hb hl 0 dX6_firstInQueue_12 rfl rfl ?_
        refine zz_get (T := TX6) (N := 10) (k := 1) (κ := 0) (w := zr ad 15 ((0 : Nat) : Int)) hx hb hts hinX6 hown hK hW1 (zlN (hX 0 0 rfl)) rfl rfl rfl (by decide) (hts (.fieldLink RX6 18 "HailCity" "drivers" "[LHailCity$Driver;") (by decide +kernel)) (fun _ h9 => h9) rfl dX6_firstInQueue_13 ?_
        refine zz_iload_n hx hb hl 2 dX6_firstInQueue_16 rfl rfl ?_
        refine zz_aald (w := zr ad 17 ((i : Nat) : Int)) hx hb hK hW1 (zlN (hX 15 0 rfl)) rfl rfl (by show (0 : Int) ≤ ((i : Nat) : Int); omega) (by show ((i : Nat) : Int) < (8 : Int); omega) ((zv_r (Nat.le_of_ble_eq_true rfl) (Nat.le_of_ble_eq_true rfl)).trans (congrArg (zr ad 17) (show σ 15 0 i = ((i : Nat) : Int) from by rw [hD i (by omega)]))) dX6_firstInQueue_17 ?_
        refine zz_astore_n (lv' := [(3, zr ad 17 ((i : Nat) : Int)), (0, zr ad 0 ((0 : Nat) : Int)), (1, zr ad 17 (yfq σ i)), (2, .int (zi ((i : Nat) : Int)))]) hx hb hl dX6_firstInQueue_18 rfl (by decide) rfl (fun ls hl => ?_)
        refine zz_aload_n hx hb hl 0 dX6_firstInQueue_19 rfl rfl ?_
        refine zz_callV (T := TX1) (N := 13) (As := []) (rest := []) (v := ((i : Nat) : Int)) (κ := 17) ⟨hx, hb, hml, hown, hts⟩ (c_X1_isFree l G ad A N0 σ nd nr hX i (by omega)) (cwV 0 hts gX6_firstInQueue_X1_isFree rfl rfl rfl (by decide +kernel) ⟨Nat.le_of_ble_eq_true rfl, Nat.le_of_ble_eq_true rfl⟩) hK hW1 (zlN (hX 17 i (decide_eq_true (by omega)))) rfl rfl (Nat.le_trans hsz hS1.1) hS1 rfl hl.1.1 rfl (Nat.le_of_ble_eq_true rfl) dX6_firstInQueue_20 ⟨Nat.le_of_ble_eq_true rfl, Nat.le_of_ble_eq_true rfl⟩ (fun x2 σ2 H2 locs2 hp2 hW2 hz2 hS2 => ?_)
        obtain ⟨rfl, rfl⟩ := hp2
        refine W.eq (g2 := F0 m 23 ls [.int (zi (zb (σ 18 i 3 = 0 ∧ σ 17 i 7 = 0 ∧ σ 17 i 5 = 0)))]) rfl ?_
        refine zz_if_eqb (tgt := 50) hx hb dX6_firstInQueue_23 (by decide) (fun hc23 => ?_) (fun hc23 => ?_)
        · refine zz_iinc (lv' := [(2, .int (zi (((i : Nat) : Int) + 1))), (3, zr ad 17 ((i : Nat) : Int)), (0, zr ad 0 ((0 : Nat) : Int)), (1, zr ad 17 (yfq σ i))]) hx hb hl dX6_firstInQueue_50 (k0 := 3) rfl (by decide) rfl (fun ls hl => ?_)
          refine zz_goto (tgt := 4) hx hb dX6_firstInQueue_53 (by decide) ?_
          refine ih4 (i + 1) H2 locs2 ls ?_ (by omega) hW2 hS2 (zh_sub hl [2, 3, 0] (by
                    have e9 : yfq σ (i + 1) = yfq σ i := by
                      first | exact if_pos (show yfr σ i ∧ σ 17 i 6 = 0 ∧ (yfq σ i < 0 ∨ σ 17 i 8 < σ 17 (yfq σ i).toNat 8) from ⟨hc23, hc30, by first | exact Or.inl hc34 | exact Or.inr (by omega)⟩) | exact if_neg (fun q => hc23 q.1) | exact if_neg (fun q => hc30 q.2.1) | (refine if_neg (fun q => ?_); have h1 := hc34.1; have h2 := q.2.2; omega)
                    rw [e9]; rfl))
          omega
        · refine zz_aload_n hx hb hl 0 dX6_firstInQueue_26 rfl rfl ?_
          refine zz_getN (T := TX1) (N := 13) (k := 6) (κ := 17) (w := .int (zi (σ 17 i 6))) hx hb hts hinX1 hown hK hW2 (zlN (hX 17 i (decide_eq_true (by omega)))) rfl rfl rfl (by decide) (host := "HailCity") (List.mem_of_getElem? (i := 15) rfl) (fun _ h9 => h9) rfl dX6_firstInQueue_27 ?_
          refine zz_if_ne (tgt := 50) hx hb dX6_firstInQueue_30 (by decide) (hW2.2.2.1 _ _ _) (fun hc30 => ?_) (fun hc30 => ?_)
          · refine zz_iinc (lv' := [(2, .int (zi (((i : Nat) : Int) + 1))), (3, zr ad 17 ((i : Nat) : Int)), (0, zr ad 0 ((0 : Nat) : Int)), (1, zr ad 17 (yfq σ i))]) hx hb hl dX6_firstInQueue_50 (k0 := 3) rfl (by decide) rfl (fun ls hl => ?_)
            refine zz_goto (tgt := 4) hx hb dX6_firstInQueue_53 (by decide) ?_
            refine ih4 (i + 1) H2 locs2 ls ?_ (by omega) hW2 hS2 (zh_sub hl [2, 3, 0] (by
                      have e9 : yfq σ (i + 1) = yfq σ i := by
                        first | exact if_pos (show yfr σ i ∧ σ 17 i 6 = 0 ∧ (yfq σ i < 0 ∨ σ 17 i 8 < σ 17 (yfq σ i).toNat 8) from ⟨hc23, hc30, by first | exact Or.inl hc34 | exact Or.inr (by omega)⟩) | exact if_neg (fun q => hc23 q.1) | exact if_neg (fun q => hc30 q.2.1) | (refine if_neg (fun q => ?_); have h1 := hc34.1; have h2 := q.2.2; omega)
                      rw [e9]; rfl))
            omega
          · refine zz_aload_n hx hb hl 2 dX6_firstInQueue_33 rfl rfl ?_
            refine zz_ifnull (tgt := 48) hx hb hzf dX6_firstInQueue_34 (by decide) (fun hc34 => ?_) (fun hc34 => ?_)
            · refine zz_aload_n hx hb hl 0 dX6_firstInQueue_48 rfl rfl ?_
              refine zz_astore_n (lv' := [(1, zr ad 17 ((i : Nat) : Int)), (3, zr ad 17 ((i : Nat) : Int)), (0, zr ad 0 ((0 : Nat) : Int)), (2, .int (zi ((i : Nat) : Int)))]) hx hb hl dX6_firstInQueue_49 rfl (by decide) rfl (fun ls hl => ?_)
              refine zz_iinc (lv' := [(2, .int (zi (((i : Nat) : Int) + 1))), (1, zr ad 17 ((i : Nat) : Int)), (3, zr ad 17 ((i : Nat) : Int)), (0, zr ad 0 ((0 : Nat) : Int))]) hx hb hl dX6_firstInQueue_50 (k0 := 3) rfl (by decide) rfl (fun ls hl => ?_)
              refine zz_goto (tgt := 4) hx hb dX6_firstInQueue_53 (by decide) ?_
              refine ih4 (i + 1) H2 locs2 ls ?_ (by omega) hW2 hS2 (zh_sub hl [3, 1, 0] (by
                        have e9 : yfq σ (i + 1) = ((i : Nat) : Int) := by
                          first | exact if_pos (show yfr σ i ∧ σ 17 i 6 = 0 ∧ (yfq σ i < 0 ∨ σ 17 i 8 < σ 17 (yfq σ i).toNat 8) from ⟨hc23, hc30, by first | exact Or.inl hc34 | exact Or.inr (by omega)⟩) | exact if_neg (fun q => hc23 q.1) | exact if_neg (fun q => hc30 q.2.1) | (refine if_neg (fun q => ?_); have h1 := hc34.1; have h2 := q.2.2; omega)
                        rw [e9]; rfl))
              omega
            · refine zz_aload_n hx hb hl 0 dX6_firstInQueue_37 rfl rfl ?_
              refine zz_getN (T := TX1) (N := 13) (k := 8) (κ := 17) (w := .int (zi (σ 17 i 8))) hx hb hts hinX1 hown hK hW2 (zlN (hX 17 i (decide_eq_true (by omega)))) rfl rfl rfl (by decide) (host := "HailCity") (List.mem_of_getElem? (i := 17) rfl) (fun _ h9 => h9) rfl dX6_firstInQueue_38 ?_
              refine zz_aload_n hx hb hl 2 dX6_firstInQueue_41 rfl rfl ?_
              refine zz_getN (T := TX1) (N := 13) (k := 8) (κ := 17) (w := .int (zi (σ 17 ((yfq σ i).toNat) 8))) hx hb hts hinX1 hown hK hW2 hc34 rfl rfl rfl (by decide) (host := "HailCity") (List.mem_of_getElem? (i := 17) rfl) (fun _ h9 => h9) rfl dX6_firstInQueue_42 ?_
              refine zz_icmp_ge (tgt := 50) hx hb dX6_firstInQueue_45 (by decide) (hW2.2.2.1 _ _ _) (hW2.2.2.1 _ _ _) (fun hc45 => ?_) (fun hc45 => ?_)
              · refine zz_iinc (lv' := [(2, .int (zi (((i : Nat) : Int) + 1))), (3, zr ad 17 ((i : Nat) : Int)), (0, zr ad 0 ((0 : Nat) : Int)), (1, zr ad 17 (yfq σ i))]) hx hb hl dX6_firstInQueue_50 (k0 := 3) rfl (by decide) rfl (fun ls hl => ?_)
                refine zz_goto (tgt := 4) hx hb dX6_firstInQueue_53 (by decide) ?_
                refine ih4 (i + 1) H2 locs2 ls ?_ (by omega) hW2 hS2 (zh_sub hl [2, 3, 0] (by
                          have e9 : yfq σ (i + 1) = yfq σ i := by
                            first | exact if_pos (show yfr σ i ∧ σ 17 i 6 = 0 ∧ (yfq σ i < 0 ∨ σ 17 i 8 < σ 17 (yfq σ i).toNat 8) from ⟨hc23, hc30, by first | exact Or.inl hc34 | exact Or.inr (by omega)⟩) | exact if_neg (fun q => hc23 q.1) | exact if_neg (fun q => hc30 q.2.1) | (refine if_neg (fun q => ?_); have h1 := hc34.1; have h2 := q.2.2; omega)
                          rw [e9]; rfl))
                omega
              · refine zz_aload_n hx hb hl 0 dX6_firstInQueue_48 rfl rfl ?_
                refine zz_astore_n (lv' := [(1, zr ad 17 ((i : Nat) : Int)), (3, zr ad 17 ((i : Nat) : Int)), (0, zr ad 0 ((0 : Nat) : Int)), (2, .int (zi ((i : Nat) : Int)))]) hx hb hl dX6_firstInQueue_49 rfl (by decide) rfl (fun ls hl => ?_)
                refine zz_iinc (lv' := [(2, .int (zi (((i : Nat) : Int) + 1))), (1, zr ad 17 ((i : Nat) : Int)), (3, zr ad 17 ((i : Nat) : Int)), (0, zr ad 0 ((0 : Nat) : Int))]) hx hb hl dX6_firstInQueue_50 (k0 := 3) rfl (by decide) rfl (fun ls hl => ?_)
                refine zz_goto (tgt := 4) hx hb dX6_firstInQueue_53 (by decide) ?_
                refine ih4 (i + 1) H2 locs2 ls ?_ (by omega) hW2 hS2 (zh_sub hl [3, 1, 0] (by
                          have e9 : yfq σ (i + 1) = ((i : Nat) : Int) := by
                            first | exact if_pos (show yfr σ i ∧ σ 17 i 6 = 0 ∧ (yfq σ i < 0 ∨ σ 17 i 8 < σ 17 (yfq σ i).toNat 8) from ⟨hc23, hc30, by first | exact Or.inl hc34 | exact Or.inr (by omega)⟩) | exact if_neg (fun q => hc23 q.1) | exact if_neg (fun q => hc30 q.2.1) | (refine if_neg (fun q => ?_); have h1 := hc34.1; have h2 := q.2.2; omega)
                          rw [e9]; rfl))
                omega
  refine hcut4 _ 0 s.heap [] ls ?_ (Nat.lt_succ_self _) hW0 hS0 (zh_sub hl [2, 1, 0] rfl)
  exact Nat.zero_le _

set_option maxHeartbeats 4000000 in
set_option maxRecDepth 100000 in
theorem c_X6_heightOf (l : Launch) (G : zG) (ad : zA) (A : Nat → Prop) (N0 : Nat) (σ : zS) (nd nr : Nat) (hX : zX ad nd nr) (hnd : nd ≤ 8) (hnr : nr ≤ 60) (h5 : σ 0 0 5 = (nd : Int)) (h6 : σ 0 0 6 = (nr : Int)) (hD : ∀ i, i < nd → σ 15 0 i = (i : Int)) (hQ : ∀ i, i < nr → σ 16 0 i = (i : Int)) (z : Int) (gz : zg z) (hrp : ∀ i, i < nr → 0 ≤ σ 23 i 1) (hdp : ∀ i, i < nd → 0 ≤ σ 17 i 6) : Met l yX6_heightOf wsX6_heightOf ({ frames := 1, cells := 0, slots := 0, locals := 21 }) (zP G ad A N0 σ [zr ad 0 ((0 : Nat) : Int), .int (zi z)]) (zQ G ad A zri (fun r u => σ = u ∧ min (max (100 + yhs (yh1 σ z) nr - yhs (yh2 σ z) nd) 100) (σ 0 0 7) = r)) 0 0 A := by
  refine zz_of (cc := cX6_heightOf) (maxL := 4) (ret := (some .int)) (by decide) rfl ⟨rfl, rfl⟩ (List.forall_mem_cons.mpr ⟨zr_cat _ _ _, List.forall_mem_cons.mpr ⟨rfl, fun _ h => absurd h List.not_mem_nil⟩⟩) (Nat.le_of_ble_eq_true rfl) ?_
  intro p e s m below meth c hx hb hr hml hts hown hlocks hsz hW0 hK ls hl
  have hS0 : va_S A s.heap s.heap [] := va_S.rf
  have hl : zh ls 4 [(0, zr ad 0 ((0 : Nat) : Int)), (1, .int (zi z))] := hl
  have hinX1 : ∀ w ∈ u_ws RX1 TX1 13, w ∈ wsX6_heightOf := by decide +kernel
  have hinX3 : ∀ w ∈ u_ws RX3 TX3 12, w ∈ wsX6_heightOf := by decide +kernel
  have hinX6 : ∀ w ∈ u_ws RX6 TX6 10, w ∈ wsX6_heightOf := by decide +kernel
  have hy1 := fun n => yhs_rg (yh1_rg σ z) n
  have hy2 := fun n => yhs_rg (yh2_rg σ z) n
  have hy1r := hy1 nr
  refine zz_bipush hx hb dX6_heightOf_0 (by decide +kernel) ?_
  refine zz_istore_n (lv' := [(2, .int (zi 100)), (0, zr ad 0 ((0 : Nat) : Int)), (1, .int (zi z))]) hx hb hl dX6_heightOf_2 rfl (by decide) rfl (fun ls hl => ?_)
  refine zz_iconst hx hb dX6_heightOf_3 ?_
  refine zz_istore_n (lv' := [(3, .int (zi 0)), (2, .int (zi 100)), (0, zr ad 0 ((0 : Nat) : Int)), (1, .int (zi z))]) hx hb hl dX6_heightOf_4 rfl (by decide) rfl (fun ls hl => ?_)
  have hcut5 : ∀ (n9 : Nat) (i : Nat)  (H9 : Heap) (locs9 : List Loc) (ls : Array Slot), (i ≤ nr) → (nr - i) < n9 → ZW G ad A σ H9 → va_S A s.heap H9 locs9 → zh ls 4 [(0, zr ad 0 ((0 : Nat) : Int)), (1, .int (zi z)), (2, .int (zi (100 + yhs (yh1 σ z) i))), (3, .int (zi ((i : Nat) : Int)))] → W p l e ({ frames := 1, cells := 0, slots := 0, locals := 21 }) s m ([zr ad 0 ((0 : Nat) : Int), .int (zi z)] : List Value).toArray below meth c H9 locs9 0 0 (MQ below (zQ G ad A zri (fun r u => σ = u ∧ min (max (100 + yhs (yh1 σ z) nr - yhs (yh2 σ z) nd) 100) (σ 0 0 7) = r)) ([zr ad 0 ((0 : Nat) : Int), .int (zi z)] : List Value).toArray s 0 0 A) (F0 m 5 ls []) := by
    intro n9
    induction n9 with
    | zero =>
      intro i H1 locs1 ls hI5 hm5 hW1 hS1 hl
      exact absurd hm5 (Nat.not_lt_zero _)
    | succ n9 ih5 =>
      intro i H1 locs1 ls hI5 hm5 hW1 hS1 hl
      have hyi := hy1 i
      refine zz_iload_n hx hb hl 3 dX6_heightOf_5 rfl rfl ?_
      refine zz_aload_n hx hb hl 0 dX6_heightOf_6 rfl rfl ?_
      refine zz_get (T := TX6) (N := 10) (k := 6) (κ := 0) (w := .int (zi ((nr : Nat) : Int))) hx hb hts hinX6 hown hK hW1 (zlN (hX 0 0 rfl)) rfl rfl rfl (by decide) (hts (.fieldLink RX6 146 "HailCity" "requestCount" "I") (by decide +kernel)) (fun _ h9 => h9) (congrArg (fun z => Value.int (zi z)) (show σ 0 0 6 = ((nr : Nat) : Int) from by rw [h6])) dX6_heightOf_7 ?_
      refine zz_icmp_ge (tgt := 50) hx hb dX6_heightOf_10 (by decide) ⟨by omega, by omega⟩ ⟨by omega, by omega⟩ (fun hc10 => ?_) (fun hc10 => ?_)
      · refine zz_iconst hx hb dX6_heightOf_50 ?_
        refine zz_istore_n (lv' := [(3, .int (zi 0)), (0, zr ad 0 ((0 : Nat) : Int)), (1, .int (zi z)), (2, .int (zi (100 + yhs (yh1 σ z) i)))]) hx hb hl dX6_heightOf_51 rfl (by decide) rfl (fun ls hl => ?_)
        have hcut52 : ∀ (n9 : Nat) (i : Nat)  (H9 : Heap) (locs9 : List Loc) (ls : Array Slot), (i ≤ nd) → (nd - i) < n9 → ZW G ad A σ H9 → va_S A s.heap H9 locs9 → zh ls 4 [(0, zr ad 0 ((0 : Nat) : Int)), (1, .int (zi z)), (2, .int (zi (100 + yhs (yh1 σ z) nr - yhs (yh2 σ z) i))), (3, .int (zi ((i : Nat) : Int)))] → W p l e ({ frames := 1, cells := 0, slots := 0, locals := 21 }) s m ([zr ad 0 ((0 : Nat) : Int), .int (zi z)] : List Value).toArray below meth c H9 locs9 0 0 (MQ below (zQ G ad A zri (fun r u => σ = u ∧ min (max (100 + yhs (yh1 σ z) nr - yhs (yh2 σ z) nd) 100) (σ 0 0 7) = r)) ([zr ad 0 ((0 : Nat) : Int), .int (zi z)] : List Value).toArray s 0 0 A) (F0 m 52 ls []) := by
          intro n9
          induction n9 with
          | zero =>
            intro i H2 locs2 ls hI52 hm52 hW2 hS2 hl
            exact absurd hm52 (Nat.not_lt_zero _)
          | succ n9 ih52 =>
            intro i H2 locs2 ls hI52 hm52 hW2 hS2 hl
            have hyi := hy2 i
            refine zz_iload_n hx hb hl 3 dX6_heightOf_52 rfl rfl ?_
            refine zz_aload_n hx hb hl 0 dX6_heightOf_53 rfl rfl ?_
            refine zz_get (T := TX6) (N := 10) (k := 5) (κ := 0) (w := .int (zi ((nd : Nat) : Int))) hx hb hts hinX6 hown hK hW2 (zlN (hX 0 0 rfl)) rfl rfl rfl (by decide) (hts (.fieldLink RX6 87 "HailCity" "driverCount" "I") (by decide +kernel)) (fun _ h9 => h9) (congrArg (fun z => Value.int (zi z)) (show σ 0 0 5 = ((nd : Nat) : Int) from by rw [h5])) dX6_heightOf_54 ?_
            refine zz_icmp_ge (tgt := 97) hx hb dX6_heightOf_57 (by decide) ⟨by omega, by omega⟩ ⟨by omega, by omega⟩ (fun hc57 => ?_) (fun hc57 => ?_)
            · refine zz_iload_n hx hb hl 2 dX6_heightOf_97 rfl rfl ?_
              refine zz_bipush hx hb dX6_heightOf_98 (by decide +kernel) ?_
              refine zz_mmax hx hb (hml.trans hl.1.1.symm) hown (hts (.methodLink RX6 260 Lib.Math.max.name) (by decide +kernel)) (hts (.static Lib.Math.max.name) (by decide +kernel)) (hts (.initialized "java/lang/Math") (by decide +kernel)) (hts (.code Lib.Math.max.name Lib.Math.max.code 2 (some .int)) (by decide +kernel)) (Nat.le_of_ble_eq_true rfl) (Nat.le_of_ble_eq_true rfl) (Nat.le_of_ble_eq_true rfl) (Nat.le_of_ble_eq_true rfl) ⟨by omega, by omega⟩ ⟨by decide, by decide⟩ dX6_heightOf_100 ?_
              refine zz_aload_n hx hb hl 0 dX6_heightOf_103 rfl rfl ?_
              refine zz_get (T := TX6) (N := 10) (k := 7) (κ := 0) (w := .int (zi (σ 0 0 7))) hx hb hts hinX6 hown hK hW2 (zlN (hX 0 0 rfl)) rfl rfl rfl (by decide) (hts (.fieldLink RX6 44 "HailCity" "heightCap" "I") (by decide +kernel)) (fun _ h9 => h9) rfl dX6_heightOf_104 ?_
              refine zz_mmin hx hb (hml.trans hl.1.1.symm) hown (hts (.methodLink RX6 281 Lib.Math.min.name) (by decide +kernel)) (hts (.static Lib.Math.min.name) (by decide +kernel)) (hts (.initialized "java/lang/Math") (by decide +kernel)) (hts (.code Lib.Math.min.name Lib.Math.min.code 2 (some .int)) (by decide +kernel)) (Nat.le_of_ble_eq_true rfl) (Nat.le_of_ble_eq_true rfl) (Nat.le_of_ble_eq_true rfl) (Nat.le_of_ble_eq_true rfl) (zg_max ⟨by omega, by omega⟩ ⟨by decide, by decide⟩) (hW2.2.2.1 _ _ _) dX6_heightOf_107 ?_
              refine W.eq (g2 := F0 m 110 ls [.int (zi (min (max (100 + yhs (yh1 σ z) nr - yhs (yh2 σ z) i) 100) (σ 0 0 7)))]) rfl ?_
              refine zz_reti hx hb hr hlocks hW2 hS2 ?_ dX6_heightOf_110
              exact ⟨rfl, by rw [show nd = i by omega]⟩
            · refine zz_aload_n hx hb hl 0 dX6_heightOf_60 rfl rfl ?_
              refine zz_get (T := TX6) (N := 10) (k := 1) (κ := 0) (w := zr ad 15 ((0 : Nat) : Int)) hx hb hts hinX6 hown hK hW2 (zlN (hX 0 0 rfl)) rfl rfl rfl (by decide) (hts (.fieldLink RX6 18 "HailCity" "drivers" "[LHailCity$Driver;") (by decide +kernel)) (fun _ h9 => h9) rfl dX6_heightOf_61 ?_
              refine zz_iload_n hx hb hl 3 dX6_heightOf_64 rfl rfl ?_
              refine zz_aald (w := zr ad 17 ((i : Nat) : Int)) hx hb hK hW2 (zlN (hX 15 0 rfl)) rfl rfl (by show (0 : Int) ≤ ((i : Nat) : Int); omega) (by show ((i : Nat) : Int) < (8 : Int); omega) ((zv_r (Nat.le_of_ble_eq_true rfl) (Nat.le_of_ble_eq_true rfl)).trans (congrArg (zr ad 17) (show σ 15 0 i = ((i : Nat) : Int) from by rw [hD i (by omega)]))) dX6_heightOf_65 ?_
              refine zz_callV (T := TX1) (N := 13) (As := []) (rest := []) (v := ((i : Nat) : Int)) (κ := 17) ⟨hx, hb, hml, hown, hts⟩ (c_X1_isFree l G ad A N0 σ nd nr hX i (by omega)) (cwV 0 hts gX6_heightOf_X1_isFree rfl rfl rfl (by decide +kernel) ⟨Nat.le_of_ble_eq_true rfl, Nat.le_of_ble_eq_true rfl⟩) hK hW2 (zlN (hX 17 i (decide_eq_true (by omega)))) rfl rfl (Nat.le_trans hsz hS2.1) hS2 rfl hl.1.1 rfl (Nat.le_of_ble_eq_true rfl) dX6_heightOf_66 ⟨Nat.le_of_ble_eq_true rfl, Nat.le_of_ble_eq_true rfl⟩ (fun x3 σ3 H3 locs3 hp3 hW3 hz3 hS3 => ?_)
              obtain ⟨rfl, rfl⟩ := hp3
              refine W.eq (g2 := F0 m 69 ls [.int (zi (zb (σ 18 i 3 = 0 ∧ σ 17 i 7 = 0 ∧ σ 17 i 5 = 0)))]) rfl ?_
              refine zz_if_eqb (tgt := 91) hx hb dX6_heightOf_69 (by decide) (fun hc69 => ?_) (fun hc69 => ?_)
              · refine zz_iinc (lv' := [(3, .int (zi (((i : Nat) : Int) + 1))), (0, zr ad 0 ((0 : Nat) : Int)), (1, .int (zi z)), (2, .int (zi (100 + yhs (yh1 σ z) nr - yhs (yh2 σ z) i)))]) hx hb hl dX6_heightOf_91 (k0 := 3) rfl (by decide) rfl (fun ls hl => ?_)
                refine zz_goto (tgt := 52) hx hb dX6_heightOf_94 (by decide) ?_
                refine ih52 (i + 1) H3 locs3 ls ?_ (by omega) hW3 hS3 (zh_sub hl [1, 2, 3, 0] (by
                          have e9 : 100 + yhs (yh1 σ z) nr - yhs (yh2 σ z) (i + 1) = 100 + yhs (yh1 σ z) nr - yhs (yh2 σ z) i := by
                            show 100 + yhs (yh1 σ z) nr - (yhs (yh2 σ z) i + 25 * zb (yfr σ i ∧ σ 17 i 6 / 3 = z)) = _
                            first | rw [zb_t ⟨hc69, by omega⟩]; omega | (rw [zb_f (fun q => hc69 q.1)]; omega) | (rw [zb_f (fun q => by have := q.2; omega)]; omega)
                          rw [e9]; rfl))
                omega
              · refine zz_aload_n hx hb hl 0 dX6_heightOf_72 rfl rfl ?_
                refine zz_get (T := TX6) (N := 10) (k := 1) (κ := 0) (w := zr ad 15 ((0 : Nat) : Int)) hx hb hts hinX6 hown hK hW3 (zlN (hX 0 0 rfl)) rfl rfl rfl (by decide) (hts (.fieldLink RX6 18 "HailCity" "drivers" "[LHailCity$Driver;") (by decide +kernel)) (fun _ h9 => h9) rfl dX6_heightOf_73 ?_
                refine zz_iload_n hx hb hl 3 dX6_heightOf_76 rfl rfl ?_
                refine zz_aald (w := zr ad 17 ((i : Nat) : Int)) hx hb hK hW3 (zlN (hX 15 0 rfl)) rfl rfl (by show (0 : Int) ≤ ((i : Nat) : Int); omega) (by show ((i : Nat) : Int) < (8 : Int); omega) ((zv_r (Nat.le_of_ble_eq_true rfl) (Nat.le_of_ble_eq_true rfl)).trans (congrArg (zr ad 17) (show σ 15 0 i = ((i : Nat) : Int) from by rw [hD i (by omega)]))) dX6_heightOf_77 ?_
                refine zz_getN (T := TX1) (N := 13) (k := 6) (κ := 17) (w := .int (zi (σ 17 i 6))) hx hb hts hinX1 hown hK hW3 (zlN (hX 17 i (decide_eq_true (by omega)))) rfl rfl rfl (by decide) (host := "HailCity") (List.mem_of_getElem? (i := 15) rfl) (fun _ h9 => h9) rfl dX6_heightOf_78 ?_
                have hdpi := hdp i (by omega)
                refine zz_callS (As := [.int (zi (σ 17 i 6))]) (rest := []) ⟨hx, hb, hml, hown, hts⟩ (c_X6_zoneOf l G ad A N0 σ (σ 17 i 6) (hW0.2.2.1 _ _ _) hdpi) (va_cwS 1 hts gX6_heightOf_X6_zoneOf rfl rfl rfl (by decide +kernel) ⟨Nat.le_of_ble_eq_true rfl, Nat.le_of_ble_eq_true rfl⟩) hK hW3 (Nat.le_trans hsz hS3.1) hS3 rfl hl.1.1 rfl (Nat.le_of_ble_eq_true rfl) dX6_heightOf_81 ⟨Nat.le_of_ble_eq_true rfl, Nat.le_of_ble_eq_true rfl⟩ (fun x4 σ4 H4 locs4 hp4 hW4 hz4 hS4 => ?_)
                obtain ⟨rfl, rfl⟩ := hp4
                refine W.eq (g2 := F0 m 84 ls [.int (zi (σ 17 i 6 / 3))]) rfl ?_
                refine zz_iload_n hx hb hl 1 dX6_heightOf_84 rfl rfl ?_
                refine zz_icmp_ne (tgt := 91) hx hb dX6_heightOf_85 (by decide) ⟨by have := hW0.2.2.1 17 i 6; have h9 := this.2; omega, by have := hW0.2.2.1 17 i 6; have h9 := this.2; omega⟩ gz (fun hc85 => ?_) (fun hc85 => ?_)
                · refine zz_iinc (lv' := [(3, .int (zi (((i : Nat) : Int) + 1))), (0, zr ad 0 ((0 : Nat) : Int)), (1, .int (zi z)), (2, .int (zi (100 + yhs (yh1 σ z) nr - yhs (yh2 σ z) i)))]) hx hb hl dX6_heightOf_91 (k0 := 3) rfl (by decide) rfl (fun ls hl => ?_)
                  refine zz_goto (tgt := 52) hx hb dX6_heightOf_94 (by decide) ?_
                  refine ih52 (i + 1) H4 locs4 ls ?_ (by omega) hW4 hS4 (zh_sub hl [1, 2, 3, 0] (by
                            have e9 : 100 + yhs (yh1 σ z) nr - yhs (yh2 σ z) (i + 1) = 100 + yhs (yh1 σ z) nr - yhs (yh2 σ z) i := by
                              show 100 + yhs (yh1 σ z) nr - (yhs (yh2 σ z) i + 25 * zb (yfr σ i ∧ σ 17 i 6 / 3 = z)) = _
                              first | rw [zb_t ⟨hc69, by omega⟩]; omega | (rw [zb_f (fun q => hc69 q.1)]; omega) | (rw [zb_f (fun q => by have := q.2; omega)]; omega)
                            rw [e9]; rfl))
                  omega
                · refine zz_iinc (lv' := [(2, .int (zi ((100 + yhs (yh1 σ z) nr - yhs (yh2 σ z) i) + (-25)))), (0, zr ad 0 ((0 : Nat) : Int)), (1, .int (zi z)), (3, .int (zi ((i : Nat) : Int)))]) hx hb hl dX6_heightOf_88 (k0 := 2) rfl (by decide) rfl (fun ls hl => ?_)
                  refine zz_iinc (lv' := [(3, .int (zi (((i : Nat) : Int) + 1))), (2, .int (zi ((100 + yhs (yh1 σ z) nr - yhs (yh2 σ z) i) + (-25)))), (0, zr ad 0 ((0 : Nat) : Int)), (1, .int (zi z))]) hx hb hl dX6_heightOf_91 (k0 := 3) rfl (by decide) rfl (fun ls hl => ?_)
                  refine zz_goto (tgt := 52) hx hb dX6_heightOf_94 (by decide) ?_
                  refine ih52 (i + 1) H4 locs4 ls ?_ (by omega) hW4 hS4 (zh_sub hl [2, 3, 1, 0] (by
                            have e9 : 100 + yhs (yh1 σ z) nr - yhs (yh2 σ z) (i + 1) = (100 + yhs (yh1 σ z) nr - yhs (yh2 σ z) i) + (-25) := by
                              show 100 + yhs (yh1 σ z) nr - (yhs (yh2 σ z) i + 25 * zb (yfr σ i ∧ σ 17 i 6 / 3 = z)) = _
                              first | rw [zb_t ⟨hc69, by omega⟩]; omega | (rw [zb_f (fun q => hc69 q.1)]; omega) | (rw [zb_f (fun q => by have := q.2; omega)]; omega)
                            rw [e9]; rfl))
                  omega
        refine hcut52 _ 0 H1 locs1 ls ?_ (Nat.lt_succ_self _) hW1 hS1 (zh_sub hl [1, 2, 3, 0] (by rw [show 100 + yhs (yh1 σ z) nr - yhs (yh2 σ z) 0 = 100 + yhs (yh1 σ z) i by rw [show i = nr by omega]; exact Int.sub_zero _]; rfl))
        exact Nat.zero_le _
      · refine zz_aload_n hx hb hl 0 dX6_heightOf_13 rfl rfl ?_
        refine zz_get (T := TX6) (N := 10) (k := 2) (κ := 0) (w := zr ad 16 ((0 : Nat) : Int)) hx hb hts hinX6 hown hK hW1 (zlN (hX 0 0 rfl)) rfl rfl rfl (by decide) (hts (.fieldLink RX6 24 "HailCity" "requests" "[LHailCity$Request;") (by decide +kernel)) (fun _ h9 => h9) rfl dX6_heightOf_14 ?_
        refine zz_iload_n hx hb hl 3 dX6_heightOf_17 rfl rfl ?_
        refine zz_aald (w := zr ad 23 ((i : Nat) : Int)) hx hb hK hW1 (zlN (hX 16 0 rfl)) rfl rfl (by show (0 : Int) ≤ ((i : Nat) : Int); omega) (by show ((i : Nat) : Int) < (60 : Int); omega) ((zv_r (Nat.le_of_ble_eq_true rfl) (Nat.le_of_ble_eq_true rfl)).trans (congrArg (zr ad 23) (show σ 16 0 i = ((i : Nat) : Int) from by rw [hQ i (by omega)]))) dX6_heightOf_18 ?_
        refine zz_getN (T := TX3) (N := 12) (k := 6) (κ := 23) (w := .int (zi (σ 23 i 6))) hx hb hts hinX3 hown hK hW1 (zlN (hX 23 i (decide_eq_true (by omega)))) rfl rfl rfl (by decide) (host := "HailCity") (List.mem_of_getElem? (i := 35) rfl) (fun _ h9 => h9) rfl dX6_heightOf_19 ?_
        refine zz_if_ne (tgt := 44) hx hb dX6_heightOf_22 (by decide) (hW1.2.2.1 _ _ _) (fun hc22 => ?_) (fun hc22 => ?_)
        · refine zz_iinc (lv' := [(3, .int (zi (((i : Nat) : Int) + 1))), (0, zr ad 0 ((0 : Nat) : Int)), (1, .int (zi z)), (2, .int (zi (100 + yhs (yh1 σ z) i)))]) hx hb hl dX6_heightOf_44 (k0 := 3) rfl (by decide) rfl (fun ls hl => ?_)
          refine zz_goto (tgt := 5) hx hb dX6_heightOf_47 (by decide) ?_
          refine ih5 (i + 1) H1 locs1 ls ?_ (by omega) hW1 hS1 (zh_sub hl [1, 2, 3, 0] (by
                    have e9 : 100 + yhs (yh1 σ z) (i + 1) = 100 + yhs (yh1 σ z) i := by
                      show 100 + (yhs (yh1 σ z) i + 25 * zb (σ 23 i 6 = 0 ∧ σ 23 i 1 / 3 = z)) = _
                      first | rw [zb_t (by omega)]; omega | rw [zb_f (by omega)]; omega
                    rw [e9]; rfl))
          omega
        · refine zz_aload_n hx hb hl 0 dX6_heightOf_25 rfl rfl ?_
          refine zz_get (T := TX6) (N := 10) (k := 2) (κ := 0) (w := zr ad 16 ((0 : Nat) : Int)) hx hb hts hinX6 hown hK hW1 (zlN (hX 0 0 rfl)) rfl rfl rfl (by decide) (hts (.fieldLink RX6 24 "HailCity" "requests" "[LHailCity$Request;") (by decide +kernel)) (fun _ h9 => h9) rfl dX6_heightOf_26 ?_
          refine zz_iload_n hx hb hl 3 dX6_heightOf_29 rfl rfl ?_
          refine zz_aald (w := zr ad 23 ((i : Nat) : Int)) hx hb hK hW1 (zlN (hX 16 0 rfl)) rfl rfl (by show (0 : Int) ≤ ((i : Nat) : Int); omega) (by show ((i : Nat) : Int) < (60 : Int); omega) ((zv_r (Nat.le_of_ble_eq_true rfl) (Nat.le_of_ble_eq_true rfl)).trans (congrArg (zr ad 23) (show σ 16 0 i = ((i : Nat) : Int) from by rw [hQ i (by omega)]))) dX6_heightOf_30 ?_
          have hrpi := hrp i (by omega)
          refine zz_getN (T := TX3) (N := 12) (k := 1) (κ := 23) (w := .int (zi (σ 23 i 1))) hx hb hts hinX3 hown hK hW1 (zlN (hX 23 i (decide_eq_true (by omega)))) rfl rfl rfl (by decide) (host := "HailCity") (List.mem_of_getElem? (i := 26) rfl) (fun _ h9 => h9) rfl dX6_heightOf_31 ?_
          
          refine zz_callS (As := [.int (zi (σ 23 i 1))]) (rest := []) ⟨hx, hb, hml, hown, hts⟩ (c_X6_zoneOf l G ad A N0 σ (σ 23 i 1) (hW0.2.2.1 _ _ _) hrpi) (va_cwS 1 hts gX6_heightOf_X6_zoneOf rfl rfl rfl (by decide +kernel) ⟨Nat.le_of_ble_eq_true rfl, Nat.le_of_ble_eq_true rfl⟩) hK hW1 (Nat.le_trans hsz hS1.1) hS1 rfl hl.1.1 rfl (Nat.le_of_ble_eq_true rfl) dX6_heightOf_34 ⟨Nat.le_of_ble_eq_true rfl, Nat.le_of_ble_eq_true rfl⟩ (fun x5 σ5 H5 locs5 hp5 hW5 hz5 hS5 => ?_)
          obtain ⟨rfl, rfl⟩ := hp5
          refine W.eq (g2 := F0 m 37 ls [.int (zi (σ 23 i 1 / 3))]) rfl ?_
          refine zz_iload_n hx hb hl 1 dX6_heightOf_37 rfl rfl ?_
          refine zz_icmp_ne (tgt := 44) hx hb dX6_heightOf_38 (by decide) ⟨by have := hW0.2.2.1 23 i 1; have h9 := this.2; omega, by have := hW0.2.2.1 23 i 1; have h9 := this.2; omega⟩ gz (fun hc38 => ?_) (fun hc38 => ?_)
          · refine zz_iinc (lv' := [(3, .int (zi (((i : Nat) : Int) + 1))), (0, zr ad 0 ((0 : Nat) : Int)), (1, .int (zi z)), (2, .int (zi (100 + yhs (yh1 σ z) i)))]) hx hb hl dX6_heightOf_44 (k0 := 3) rfl (by decide) rfl (fun ls hl => ?_)
            refine zz_goto (tgt := 5) hx hb dX6_heightOf_47 (by decide) ?_
            refine ih5 (i + 1) H5 locs5 ls ?_ (by omega) hW5 hS5 (zh_sub hl [1, 2, 3, 0] (by
                      have e9 : 100 + yhs (yh1 σ z) (i + 1) = 100 + yhs (yh1 σ z) i := by
                        show 100 + (yhs (yh1 σ z) i + 25 * zb (σ 23 i 6 = 0 ∧ σ 23 i 1 / 3 = z)) = _
                        first | rw [zb_t (by omega)]; omega | rw [zb_f (by omega)]; omega
                      rw [e9]; rfl))
            omega
          · refine zz_iinc (lv' := [(2, .int (zi ((100 + yhs (yh1 σ z) i) + 25))), (0, zr ad 0 ((0 : Nat) : Int)), (1, .int (zi z)), (3, .int (zi ((i : Nat) : Int)))]) hx hb hl dX6_heightOf_41 (k0 := 2) rfl (by decide) rfl (fun ls hl => ?_)
            refine zz_iinc (lv' := [(3, .int (zi (((i : Nat) : Int) + 1))), (2, .int (zi ((100 + yhs (yh1 σ z) i) + 25))), (0, zr ad 0 ((0 : Nat) : Int)), (1, .int (zi z))]) hx hb hl dX6_heightOf_44 (k0 := 3) rfl (by decide) rfl (fun ls hl => ?_)
            refine zz_goto (tgt := 5) hx hb dX6_heightOf_47 (by decide) ?_
            refine ih5 (i + 1) H5 locs5 ls ?_ (by omega) hW5 hS5 (zh_sub hl [2, 3, 1, 0] (by
                      have e9 : 100 + yhs (yh1 σ z) (i + 1) = (100 + yhs (yh1 σ z) i) + 25 := by
                        show 100 + (yhs (yh1 σ z) i + 25 * zb (σ 23 i 6 = 0 ∧ σ 23 i 1 / 3 = z)) = _
                        first | rw [zb_t (by omega)]; omega | rw [zb_f (by omega)]; omega
                      rw [e9]; rfl))
            omega
  refine hcut5 _ 0 s.heap [] ls ?_ (Nat.lt_succ_self _) hW0 hS0 (zh_sub hl [2, 3, 1, 0] rfl)
  exact Nat.zero_le _

set_option maxHeartbeats 4000000 in
set_option maxRecDepth 100000 in
theorem c_X6_tellSent (l : Launch) (G : zG) (ad : zA) (A : Nat → Prop) (N0 : Nat) (σ : zS) (nd nr : Nat) (hX : zX ad nd nr) (hnd : nd ≤ 8) (d : Nat) (hd : d < nd) (q : Nat) (hq : q < nr) (a : Int) (ga : zg a) (ha : 0 ≤ a ∧ a ≤ 100000) (hf : 0 ≤ σ 23 q 1 ∧ σ 23 q 1 < 10) (ht : 0 ≤ σ 23 q 2 ∧ σ 23 q 2 < 10) (hw : 0 ≤ σ 6 (σ 23 q 1).toNat (σ 23 q 2).toNat ∧ σ 6 (σ 23 q 1).toNat (σ 23 q 2).toNat ≤ 20480) : Met l yX6_tellSent wsX6_tellSent ({ frames := 3, cells := 0, slots := 0, locals := 64 }) (zP G ad A N0 σ [zr ad 0 ((0 : Nat) : Int), zr ad 23 ((q : Nat) : Int), zr ad 17 ((d : Nat) : Int), .int (zi a)]) (zQ G ad A zrv (fun _ u => zu (zu (zu (zu σ 23 q 6 1) 23 q 7 ((d : Nat) : Int)) 23 q 8 (σ 0 0 8)) 23 q 9 (a + σ 6 (σ 23 q 1).toNat (σ 23 q 2).toNat * 3 / 2) = u)) 0 0 A := by
  refine zz_of (cc := cX6_tellSent) (maxL := 4) (ret := none) (by decide) rfl ⟨rfl, rfl⟩ (List.forall_mem_cons.mpr ⟨zr_cat _ _ _, List.forall_mem_cons.mpr ⟨zr_cat _ _ _, List.forall_mem_cons.mpr ⟨zr_cat _ _ _, List.forall_mem_cons.mpr ⟨rfl, fun _ h => absurd h List.not_mem_nil⟩⟩⟩⟩) (Nat.le_of_ble_eq_true rfl) ?_
  intro p e s m below meth c hx hb hr hml hts hown hlocks hsz hW0 hK ls hl
  have hS0 : va_S A s.heap s.heap [] := va_S.rf
  have hl : zh ls 4 [(0, zr ad 0 ((0 : Nat) : Int)), (1, zr ad 23 ((q : Nat) : Int)), (2, zr ad 17 ((d : Nat) : Int)), (3, .int (zi a))] := hl
  have hinX3 : ∀ w ∈ u_ws RX3 TX3 12, w ∈ wsX6_tellSent := by decide +kernel
  have hinX6 : ∀ w ∈ u_ws RX6 TX6 10, w ∈ wsX6_tellSent := by decide +kernel
  refine zz_aload_n hx hb hl 1 dX6_tellSent_0 rfl rfl ?_
  refine zz_iconst hx hb dX6_tellSent_1 ?_
  refine zz_putN (T := TX3) (N := 12) (k := 6) (κ := 23) (v := ((q : Nat) : Int)) (x := 1) (ty := .int) hx hb hts hinX3 tyX3 tyX3_ok nmX3 hown hK hW0 hS0 (zlN (hX 23 q (decide_eq_true hq))) rfl rfl rfl (by decide) (host := "HailCity") (List.mem_of_getElem? (i := 35) rfl) (fun _ h9 => h9) rfl (by decide +kernel) rfl rfl rfl ⟨by decide, by decide⟩ (fun h9 _ => absurd h9 (by decide)) (fun h9 => absurd h9 (by decide)) dX6_tellSent_2 (fun H1 locs1 hW1' hS1 => ?_)
  obtain ⟨σ1, hs1⟩ : ∃ z, z = zu σ 23 q 6 1 := ⟨_, rfl⟩
  have hW1 : ZW G ad A σ1 H1 := by rw [hs1]; exact hW1'
  refine zz_aload_n hx hb hl 1 dX6_tellSent_5 rfl rfl ?_
  refine zz_aload_n hx hb hl 2 dX6_tellSent_6 rfl rfl ?_
  refine zz_putN (T := TX3) (N := 12) (k := 7) (κ := 23) (v := ((q : Nat) : Int)) (x := ((d : Nat) : Int)) (ty := (.object "HailCity$Driver")) hx hb hts hinX3 tyX3 tyX3_ok nmX3 hown hK hW1 hS1 (zlN (hX 23 q (decide_eq_true hq))) rfl rfl rfl (by decide) (host := "HailCity") (List.mem_of_getElem? (i := 36) rfl) (fun _ h9 => h9) rfl (by decide +kernel) (znar_r _ _ _ _) (zfit_r _ _ _ _) (zv_r (by decide) (by decide)) ⟨by omega, by omega⟩ (fun _ _ => (Or.inr (zlN (hX 17 d (decide_eq_true hd))))) (fun h9 => absurd h9 (by decide)) dX6_tellSent_7 (fun H2 locs2 hW2' hS2 => ?_)
  obtain ⟨σ2, hs2⟩ : ∃ z, z = zu σ1 23 q 7 ((d : Nat) : Int) := ⟨_, rfl⟩
  have hW2 : ZW G ad A σ2 H2 := by rw [hs2]; exact hW2'
  refine zz_aload_n hx hb hl 1 dX6_tellSent_10 rfl rfl ?_
  refine zz_aload_n hx hb hl 0 dX6_tellSent_11 rfl rfl ?_
  refine zz_get (T := TX6) (N := 10) (k := 8) (κ := 0) (w := .int (zi (σ 0 0 8))) hx hb hts hinX6 hown hK hW2 (zlN (hX 0 0 rfl)) rfl rfl rfl (by decide) (hts (.fieldLink RX6 134 "HailCity" "now" "I") (by decide +kernel)) (fun _ h9 => h9) (congrArg (fun z => Value.int (zi z)) (show σ2 0 0 8 = σ 0 0 8 from by rw [hs2, zu_k (by decide), hs1, zu_k (by decide)])) dX6_tellSent_12 ?_
  refine zz_putN (T := TX3) (N := 12) (k := 8) (κ := 23) (v := ((q : Nat) : Int)) (x := (σ 0 0 8)) (ty := .int) hx hb hts hinX3 tyX3 tyX3_ok nmX3 hown hK hW2 hS2 (zlN (hX 23 q (decide_eq_true hq))) rfl rfl rfl (by decide) (host := "HailCity") (List.mem_of_getElem? (i := 37) rfl) (fun _ h9 => h9) rfl (by decide +kernel) rfl rfl rfl (hW0.2.2.1 _ _ _) (fun h9 _ => absurd h9 (by decide)) (fun h9 => absurd h9 (by decide)) dX6_tellSent_15 (fun H3 locs3 hW3' hS3 => ?_)
  obtain ⟨σ3, hs3⟩ : ∃ z, z = zu σ2 23 q 8 (σ 0 0 8) := ⟨_, rfl⟩
  have hW3 : ZW G ad A σ3 H3 := by rw [hs3]; exact hW3'
  have e1 : σ3 23 q 1 = σ 23 q 1 := by rw [hs3, zu_s (by decide), hs2, zu_s (by decide), hs1, zu_s (by decide)]
  have e2 : σ3 23 q 2 = σ 23 q 2 := by rw [hs3, zu_s (by decide), hs2, zu_s (by decide), hs1, zu_s (by decide)]
  have e6 : ∀ a b, σ3 6 a b = σ 6 a b := fun a b => by rw [hs3, zu_k (by decide), hs2, zu_k (by decide), hs1, zu_k (by decide)]
  refine zz_aload_n hx hb hl 1 dX6_tellSent_18 rfl rfl ?_
  refine zz_aload_n hx hb hl 0 dX6_tellSent_19 rfl rfl ?_
  refine zz_get (T := TX6) (N := 10) (k := 0) (κ := 0) (w := zr ad 1 ((0 : Nat) : Int)) hx hb hts hinX6 hown hK hW3 (zlN (hX 0 0 rfl)) rfl rfl rfl (by decide) (hts (.fieldLink RX6 10 "HailCity" "map" "LHailCity$CityMap;") (by decide +kernel)) (fun _ h9 => h9) rfl dX6_tellSent_20 ?_
  refine zz_aload_n hx hb hl 1 dX6_tellSent_23 rfl rfl ?_
  refine zz_iload_n hx hb hl 3 dX6_tellSent_24 rfl rfl ?_
  refine zz_callV (T := TX0) (N := 5) (As := [zr ad 23 ((q : Nat) : Int), .int (zi a)]) (rest := [zr ad 23 ((q : Nat) : Int)]) (v := ((0 : Nat) : Int)) (κ := 1) ⟨hx, hb, hml, hown, hts⟩ (c_X0_promiseOf l G ad A N0 σ3 nd nr hX q hq a ga (by rw [e1]; exact hf) (by rw [e2]; exact ht) (by rw [e1, e2, e6]; omega)) (cwV 2 hts gX6_tellSent_X0_promiseOf rfl rfl rfl (by decide +kernel) ⟨Nat.le_of_ble_eq_true rfl, Nat.le_of_ble_eq_true rfl⟩) hK hW3 (zlN (hX 1 0 rfl)) rfl rfl (Nat.le_trans hsz hS3.1) hS3 rfl hl.1.1 rfl (by simp [zr_cat, zcat_i]) dX6_tellSent_25 ⟨Nat.le_of_ble_eq_true rfl, Nat.le_of_ble_eq_true rfl⟩ (fun x4 σ4 H4 locs4 hp4 hW4 hz4 hS4 => ?_)
  obtain ⟨rfl, hx9⟩ := hp4
  rw [e1, e2, e6] at hx9
  obtain rfl := hx9
  refine W.eq (g2 := F0 m 28 ls [.int (zi (a + σ 6 (σ 23 q 1).toNat (σ 23 q 2).toNat * 3 / 2)), zr ad 23 ((q : Nat) : Int)]) rfl ?_
  refine zz_putN (T := TX3) (N := 12) (k := 9) (κ := 23) (v := ((q : Nat) : Int)) (x := (a + σ 6 (σ 23 q 1).toNat (σ 23 q 2).toNat * 3 / 2)) (ty := .int) hx hb hts hinX3 tyX3 tyX3_ok nmX3 hown hK hW4 hS4 (zlN (hX 23 q (decide_eq_true hq))) rfl rfl rfl (by decide) (host := "HailCity") (List.mem_of_getElem? (i := 39) rfl) (fun _ h9 => h9) rfl (by decide +kernel) rfl rfl rfl ⟨by omega, by omega⟩ (fun h9 _ => absurd h9 (by decide)) (fun h9 => absurd h9 (by decide)) dX6_tellSent_28 (fun H5 locs5 hW5' hS5 => ?_)
  obtain ⟨σ5, hs5⟩ : ∃ z, z = zu σ3 23 q 9 (a + σ 6 (σ 23 q 1).toNat (σ 23 q 2).toNat * 3 / 2) := ⟨_, rfl⟩
  have hW5 : ZW G ad A σ5 H5 := by rw [hs5]; exact hW5'
  refine W.eq (g2 := F0 m 31 ls []) rfl ?_
  refine zz_retv hx hb hr hlocks hW5 hS5 ?_ dX6_tellSent_31
  rw [hs5, hs3, hs2, hs1]

/-- a stop is done: what it does to its rider and the driver, ahead of the row -/
noncomputable def yns (σ : zS) (d : Nat) : zS := zu (if 0 ≤ σ 21 d 0 ∧ σ 22 d 0 = 1 then zu (zu (zu (zu σ 23 (σ 21 d 0).toNat 6 3) 23 (σ 21 d 0).toNat 10 (σ 0 0 8)) 17 d 11 (σ 17 d 11 + 1)) 17 d 12 (σ 17 d 12 + σ 23 (σ 21 d 0).toNat 5) else if 0 ≤ σ 21 d 0 then zu σ 23 (σ 21 d 0).toNat 6 2 else σ) 17 d 6 (σ 20 d 0)
/-- the row without its first stop -/
def yrd (σ u : zS) (d : Nat) : Prop := u 18 d 3 = σ 18 d 3 - 1 ∧ (∀ j : Nat, (j : Int) < σ 18 d 3 - 1 → u 20 d j = σ 20 d (j + 1) ∧ u 21 d j = σ 21 d (j + 1) ∧ u 22 d j = σ 22 d (j + 1)) ∧ zfr (fun κ i k => i = d ∧ (κ = 20 ∨ κ = 21 ∨ κ = 22 ∨ (κ = 18 ∧ k = 3))) σ u
noncomputable def ynx (u : zS) (d : Nat) : zS := if 0 < u 18 d 3 then zu u 17 d 9 (u 0 0 8 + u 6 (u 17 d 6).toNat (u 20 d 0).toNat) else yqf u d 0
theorem yns_fr {σ : zS} {d κ i k : Nat} (h : κ ≠ 23) (h2 : ¬ (κ = 17 ∧ i = d ∧ (k = 11 ∨ k = 12 ∨ k = 6))) : yns σ d κ i k = σ κ i k := by
  unfold yns
  rw [zu_ne (by omega)]
  split
  · rw [zu_ne (by omega), zu_ne (by omega), zu_ne (by omega), zu_ne (by omega)]
  · split
    · rw [zu_ne (by omega)]
    · rfl

set_option maxHeartbeats 4000000 in
set_option maxRecDepth 100000 in
theorem c_X6_doNextStop (l : Launch) (G : zG) (ad : zA) (A : Nat → Prop) (N0 : Nat) (σ : zS) (nd nr : Nat) (hX : zX ad nd nr) (d : Nat) (hd : d < nd) (n : Nat) (hn : σ 18 d 3 = ((n + 1 : Nat) : Int)) (hn8 : n + 1 ≤ 8) (hP : ∀ j, j < n + 1 → 0 ≤ σ 20 d j ∧ σ 20 d j < 10) (hw : ∀ j, j < n → 0 ≤ σ 6 (σ 20 d j).toNat (σ 20 d (j + 1)).toNat ∧ σ 6 (σ 20 d j).toNat (σ 20 d (j + 1)).toNat ≤ 20480) (hgt : 0 ≤ σ 0 0 9 ∧ σ 0 0 9 < 2000000000) (hnow : 0 ≤ σ 0 0 8 ∧ σ 0 0 8 ≤ 20000) (hdc : 0 ≤ σ 17 d 11 ∧ σ 17 d 11 ≤ 1000) (hdp : 0 ≤ σ 17 d 12 ∧ σ 17 d 12 ≤ 1000000000) (hpr : 0 ≤ σ 21 d 0 → 0 ≤ σ 23 (σ 21 d 0).toNat 5 ∧ σ 23 (σ 21 d 0).toNat 5 ≤ 3000000) : Met l yX6_doNextStop wsX6_doNextStop ({ frames := 2, cells := 0, slots := 0, locals := 44 }) (zP G ad A N0 σ [zr ad 0 ((0 : Nat) : Int), zr ad 17 ((d : Nat) : Int)]) (zQ G ad A zrv (fun _ u => ∃ u1, yrd (yns σ d) u1 d ∧ ynx u1 d = u)) 0 0 A := by
  refine zz_of (cc := cX6_doNextStop) (maxL := 4) (ret := none) (by decide) rfl ⟨rfl, rfl⟩ (List.forall_mem_cons.mpr ⟨zr_cat _ _ _, List.forall_mem_cons.mpr ⟨zr_cat _ _ _, fun _ h => absurd h List.not_mem_nil⟩⟩) (Nat.le_of_ble_eq_true rfl) ?_
  intro p e s m below meth c hx hb hr hml hts hown hlocks hsz hW0 hK ls hl
  have hS0 : va_S A s.heap s.heap [] := va_S.rf
  have hl : zh ls 4 [(0, zr ad 0 ((0 : Nat) : Int)), (1, zr ad 17 ((d : Nat) : Int))] := hl
  have hinX1 : ∀ w ∈ u_ws RX1 TX1 13, w ∈ wsX6_doNextStop := by decide +kernel
  have hinX3 : ∀ w ∈ u_ws RX3 TX3 12, w ∈ wsX6_doNextStop := by decide +kernel
  have hinX4 : ∀ w ∈ u_ws RX4 TX4 4, w ∈ wsX6_doNextStop := by decide +kernel
  have hinX6 : ∀ w ∈ u_ws RX6 TX6 10, w ∈ wsX6_doNextStop := by decide +kernel
  have hp0 := hP 0 (by omega)
  refine zz_aload_n hx hb hl 1 dX6_doNextStop_0 rfl rfl ?_
  refine zz_getN (T := TX1) (N := 13) (k := 1) (κ := 17) (w := zr ad 18 ((d : Nat) : Int)) hx hb hts hinX1 hown hK hW0 (zlN (hX 17 d (decide_eq_true hd))) rfl rfl rfl (by decide) (host := "HailCity") (List.mem_of_getElem? (i := 12) rfl) (fun _ h9 => h9) rfl dX6_doNextStop_1 ?_
  refine zz_astore_n (lv' := [(2, zr ad 18 ((d : Nat) : Int)), (0, zr ad 0 ((0 : Nat) : Int)), (1, zr ad 17 ((d : Nat) : Int))]) hx hb hl dX6_doNextStop_4 rfl (by decide) rfl (fun ls hl => ?_)
  refine zz_aload_n hx hb hl 0 dX6_doNextStop_5 rfl rfl ?_
  refine zz_iconst hx hb dX6_doNextStop_6 ?_
  refine zz_callV (T := TX4) (N := 4) (As := [.int (zi 0)]) (rest := []) (v := ((d : Nat) : Int)) (κ := 18) ⟨hx, hb, hml, hown, hts⟩ (c_X4_riderAt l G ad A N0 σ nd nr hX d hd (0 : Int) ⟨by decide, by decide⟩ (by omega) (by omega)) (cwV 1 hts gX6_doNextStop_X4_riderAt rfl rfl rfl (by decide +kernel) ⟨Nat.le_of_ble_eq_true rfl, Nat.le_of_ble_eq_true rfl⟩) hK hW0 (zlN (hX 18 d (decide_eq_true hd))) rfl rfl (Nat.le_trans hsz hS0.1) hS0 rfl hl.1.1 rfl (Nat.le_of_ble_eq_true rfl) dX6_doNextStop_7 ⟨Nat.le_of_ble_eq_true rfl, Nat.le_of_ble_eq_true rfl⟩ (fun x1 σ1 H1 locs1 hp1 hW1 hz1 hS1 => ?_)
  obtain ⟨rfl, hx9⟩ := hp1
  rw [if_pos (by omega)] at hx9
  obtain rfl := hx9
  refine W.eq (g2 := F0 m 10 ls [zr ad 23 (σ 21 d 0)]) rfl ?_
  refine zz_astore_n (lv' := [(3, zr ad 23 (σ 21 d 0)), (2, zr ad 18 ((d : Nat) : Int)), (0, zr ad 0 ((0 : Nat) : Int)), (1, zr ad 17 ((d : Nat) : Int))]) hx hb hl dX6_doNextStop_10 rfl (by decide) rfl (fun ls hl => ?_)
  refine zz_aload_n hx hb hl 0 dX6_doNextStop_11 rfl rfl ?_
  refine zz_ifnull (tgt := 62) hx hb (hW1.2.2.2.1 21 d 0 (hX 21 d (decide_eq_true hd)) (Nat.le_of_ble_eq_true rfl) (Nat.le_of_ble_eq_true rfl)) dX6_doNextStop_12 (by decide) (fun hc12 => ?_) (fun hc12 => ?_)
  · refine zz_aload_n hx hb hl 0 dX6_doNextStop_62 rfl rfl ?_
    refine zz_ifnull (tgt := 71) hx hb (hW1.2.2.2.1 21 d 0 (hX 21 d (decide_eq_true hd)) (Nat.le_of_ble_eq_true rfl) (Nat.le_of_ble_eq_true rfl)) dX6_doNextStop_63 (by decide) (fun hc63 => ?_) (fun hc63 => ?_)
    · have e18 : σ 18 d 3 = ((n + 1 : Nat) : Int) := by rw [hn]
      refine zz_aload_n hx hb hl 3 dX6_doNextStop_71 rfl rfl ?_
      refine zz_aload_n hx hb hl 1 dX6_doNextStop_72 rfl rfl ?_
      refine zz_iconst hx hb dX6_doNextStop_73 ?_
      refine zz_callV (T := TX4) (N := 4) (As := [.int (zi 0)]) (rest := [zr ad 17 ((d : Nat) : Int)]) (v := ((d : Nat) : Int)) (κ := 18) ⟨hx, hb, hml, hown, hts⟩ (c_X4_placeAt l G ad A N0 σ nd nr hX d hd (0 : Int) ⟨by decide, by decide⟩ (by rw [e18]; omega) (by rw [e18]; omega)) (cwV 1 hts gX6_doNextStop_X4_placeAt rfl rfl rfl (by decide +kernel) ⟨Nat.le_of_ble_eq_true rfl, Nat.le_of_ble_eq_true rfl⟩) hK hW1 (zlN (hX 18 d (decide_eq_true hd))) rfl rfl (Nat.le_trans hsz hS1.1) hS1 rfl hl.1.1 rfl (by simp [zr_cat, zcat_i]) dX6_doNextStop_74 ⟨Nat.le_of_ble_eq_true rfl, Nat.le_of_ble_eq_true rfl⟩ (fun x2 σ2 H2 locs2 hp2 hW2 hz2 hS2 => ?_)
      obtain ⟨rfl, hx9⟩ := hp2
      rw [if_pos (by rw [e18]; omega), show σ 20 d (0 : Int).toNat = σ 20 d 0 from rfl] at hx9
      obtain rfl := hx9
      refine W.eq (g2 := F0 m 77 ls [.int (zi (σ 20 d 0)), zr ad 17 ((d : Nat) : Int)]) rfl ?_
      refine zz_putN (T := TX1) (N := 13) (k := 6) (κ := 17) (v := ((d : Nat) : Int)) (x := (σ 20 d 0)) (ty := .int) hx hb hts hinX1 tyX1 tyX1_ok nmX1 hown hK hW2 hS2 (zlN (hX 17 d (decide_eq_true hd))) rfl rfl rfl (by decide) (host := "HailCity") (List.mem_of_getElem? (i := 15) rfl) (fun _ h9 => h9) rfl (by decide +kernel) rfl rfl rfl (hW0.2.2.1 _ _ _) (fun h9 _ => absurd h9 (by decide)) (fun h9 => absurd h9 (by decide)) dX6_doNextStop_77 (fun H3 locs3 hW3' hS3 => ?_)
      obtain ⟨σ3, hs3⟩ : ∃ z, z = zu σ 17 d 6 (σ 20 d 0) := ⟨_, rfl⟩
      have hW3 : ZW G ad A σ3 H3 := by rw [hs3]; exact hW3'
      have e18 : σ3 18 d 3 = ((n + 1 : Nat) : Int) := by rw [hs3, zu_k (by decide), hn]
      refine zz_aload_n hx hb hl 1 dX6_doNextStop_80 rfl rfl ?_
      refine zz_iconst hx hb dX6_doNextStop_81 ?_
      refine zz_callV (T := TX4) (N := 4) (As := [.int (zi 0)]) (rest := []) (v := ((d : Nat) : Int)) (κ := 18) ⟨hx, hb, hml, hown, hts⟩ (c_X4_take l G ad A N0 σ3 nd nr hX d hd (0 : Int) ⟨by decide, by decide⟩ (by decide) (by rw [e18]; omega) (by rw [e18]; omega)) (cwV 1 hts gX6_doNextStop_X4_take rfl rfl rfl (by decide +kernel) ⟨Nat.le_of_ble_eq_true rfl, Nat.le_of_ble_eq_true rfl⟩) hK hW3 (zlN (hX 18 d (decide_eq_true hd))) rfl rfl (Nat.le_trans hsz hS3.1) hS3 rfl hl.1.1 rfl (Nat.le_of_ble_eq_true rfl) dX6_doNextStop_82 ⟨Nat.le_of_ble_eq_true rfl, Nat.le_of_ble_eq_true rfl⟩ (fun x4 σ4 H4 locs4 hp4 hW4 hz4 hS4 => ?_)
      have hrd : yrd (yns σ d) σ4 d := by
        have hyn : σ3 = yns σ d := by unfold yns; rw [if_neg (fun q => by omega), if_neg (by omega), hs3]
        rw [← hyn]
        refine ⟨hp4.1, fun j hj => ?_, hp4.2.2⟩
        exact hp4.2.1 j hj
      refine W.eq (g2 := F0 m 85 ls []) rfl ?_
      refine zz_aload_n hx hb hl 1 dX6_doNextStop_85 rfl rfl ?_
      refine zz_getN (T := TX4) (N := 4) (k := 3) (κ := 18) (w := .int (zi (σ4 18 d 3))) hx hb hts hinX4 hown hK hW4 (zlN (hX 18 d (decide_eq_true hd))) rfl rfl rfl (by decide) (host := "HailCity") (List.mem_of_getElem? (i := 5) rfl) (fun _ h9 => h9) rfl dX6_doNextStop_86 ?_
      refine zz_if_le (tgt := 120) hx hb dX6_doNextStop_89 (by decide) (hW4.2.2.1 _ _ _) (fun hc89 => ?_) (fun hc89 => ?_)
      · refine zz_aload_n hx hb hl 2 dX6_doNextStop_120 rfl rfl ?_
        refine zz_aload_n hx hb hl 3 dX6_doNextStop_121 rfl rfl ?_
        refine zz_iconst hx hb dX6_doNextStop_122 ?_
        refine zz_callV (T := TX6) (N := 10) (As := [zr ad 17 ((d : Nat) : Int), .int (zi 0)]) (rest := []) (v := ((0 : Nat) : Int)) (κ := 0) ⟨hx, hb, hml, hown, hts⟩ (c_X6_queueIfNowFree l G ad A N0 σ4 nd nr hX d hd 0 (Or.inl rfl) (by rw [hrd.2.2 _ _ _ (by omega), yns_fr (by decide) (by omega)]; exact hgt)) (cwV 2 hts gX6_doNextStop_X6_queueIfNowFree rfl rfl rfl (by decide +kernel) ⟨Nat.le_of_ble_eq_true rfl, Nat.le_of_ble_eq_true rfl⟩) hK hW4 (zlN (hX 0 0 rfl)) rfl rfl (Nat.le_trans hsz hS4.1) hS4 rfl hl.1.1 rfl (Nat.le_of_ble_eq_true rfl) dX6_doNextStop_123 ⟨Nat.le_of_ble_eq_true rfl, Nat.le_of_ble_eq_true rfl⟩ (fun x5 σ5 H5 locs5 hp5 hW5 hz5 hS5 => ?_)
        refine W.eq (g2 := F0 m 126 ls []) rfl ?_
        refine W.eq (g2 := F0 m 126 ls []) rfl ?_
        refine zz_retv hx hb hr hlocks hW5 hS5 ?_ dX6_doNextStop_126
        refine ⟨_, hrd, ?_⟩
        unfold ynx
        rw [if_neg (by omega)]
        exact hp5
      · have e6 : σ4 6 = σ 6 := funext fun a => funext fun b => by rw [hrd.2.2 _ _ _ (by omega), yns_fr (by decide) (by omega)]
        have e17 : σ4 17 d 6 = σ 20 d 0 := by
          rw [hrd.2.2 17 d 6 (by omega)]
          unfold yns
          rw [zu_same]
        have e20 : σ4 20 d 0 = σ 20 d 1 := by
          rw [(hrd.2.1 0 (by have := hrd.1; omega)).1, yns_fr (by decide) (by omega)]
        have e8 : σ4 0 0 8 = σ 0 0 8 := by rw [hrd.2.2 _ _ _ (by omega), yns_fr (by decide) (by omega)]
        have hnn : 1 ≤ n := by
          have h1 := hrd.1
          rw [yns_fr (by decide) (by omega)] at h1
          omega
        have hp1 := hP 1 (by omega)
        have hw0 : 0 ≤ σ 6 (σ 20 d 0).toNat (σ 20 d 1).toNat ∧ σ 6 (σ 20 d 0).toNat (σ 20 d 1).toNat ≤ 20480 := hw 0 (by omega)
        have hwq : (0 ≤ σ4 17 d 6 ∧ σ4 17 d 6 < 10) ∧ (0 ≤ σ4 20 d 0 ∧ σ4 20 d 0 < 10) ∧ σ4 6 (σ4 17 d 6).toNat (σ4 20 d 0).toNat < 1000000 := by
          rw [e6, e17, e20]
          exact ⟨hp0, hp1, by omega⟩
        have hgw : σ4 6 (σ4 17 d 6).toNat (σ4 20 d 0).toNat ≤ 20480 ∧ 0 ≤ σ4 6 (σ4 17 d 6).toNat (σ4 20 d 0).toNat := by
          rw [e6, e17, e20]
          exact ⟨hw0.2, hw0.1⟩
        refine zz_aload_n hx hb hl 3 dX6_doNextStop_92 rfl rfl ?_
        refine zz_aload_n hx hb hl 2 dX6_doNextStop_93 rfl rfl ?_
        refine zz_get (T := TX6) (N := 10) (k := 8) (κ := 0) (w := .int (zi (σ4 0 0 8))) hx hb hts hinX6 hown hK hW4 (zlN (hX 0 0 rfl)) rfl rfl rfl (by decide) (hts (.fieldLink RX6 134 "HailCity" "now" "I") (by decide +kernel)) (fun _ h9 => h9) rfl dX6_doNextStop_94 ?_
        refine zz_aload_n hx hb hl 2 dX6_doNextStop_97 rfl rfl ?_
        refine zz_get (T := TX6) (N := 10) (k := 0) (κ := 0) (w := zr ad 1 ((0 : Nat) : Int)) hx hb hts hinX6 hown hK hW4 (zlN (hX 0 0 rfl)) rfl rfl rfl (by decide) (hts (.fieldLink RX6 10 "HailCity" "map" "LHailCity$CityMap;") (by decide +kernel)) (fun _ h9 => h9) rfl dX6_doNextStop_98 ?_
        refine zz_aload_n hx hb hl 3 dX6_doNextStop_101 rfl rfl ?_
        refine zz_getN (T := TX1) (N := 13) (k := 6) (κ := 17) (w := .int (zi (σ4 17 d 6))) hx hb hts hinX1 hown hK hW4 (zlN (hX 17 d (decide_eq_true hd))) rfl rfl rfl (by decide) (host := "HailCity") (List.mem_of_getElem? (i := 15) rfl) (fun _ h9 => h9) rfl dX6_doNextStop_102 ?_
        refine zz_aload_n hx hb hl 1 dX6_doNextStop_105 rfl rfl ?_
        refine zz_iconst hx hb dX6_doNextStop_106 ?_
        refine zz_callV (T := TX4) (N := 4) (As := [.int (zi 0)]) (rest := [.int (zi (σ4 17 d 6)), zr ad 1 ((0 : Nat) : Int), .int (zi (σ4 0 0 8)), zr ad 17 ((d : Nat) : Int)]) (v := ((d : Nat) : Int)) (κ := 18) ⟨hx, hb, hml, hown, hts⟩ (c_X4_placeAt l G ad A N0 σ4 nd nr hX d hd (0 : Int) ⟨by decide, by decide⟩ (by omega) (by rw [hrd.1, yns_fr (by decide) (by omega)]; omega)) (cwV 1 hts gX6_doNextStop_X4_placeAt rfl rfl rfl (by decide +kernel) ⟨Nat.le_of_ble_eq_true rfl, Nat.le_of_ble_eq_true rfl⟩) hK hW4 (zlN (hX 18 d (decide_eq_true hd))) rfl rfl (Nat.le_trans hsz hS4.1) hS4 rfl hl.1.1 rfl (by simp [zr_cat, zcat_i]) dX6_doNextStop_107 ⟨Nat.le_of_ble_eq_true rfl, Nat.le_of_ble_eq_true rfl⟩ (fun x6 σ6 H6 locs6 hp6 hW6 hz6 hS6 => ?_)
        obtain ⟨rfl, hx9⟩ := hp6
        rw [if_pos (by omega)] at hx9
        obtain rfl := hx9
        refine W.eq (g2 := F0 m 110 ls [.int (zi (σ4 20 d 0)), .int (zi (σ4 17 d 6)), zr ad 1 ((0 : Nat) : Int), .int (zi (σ4 0 0 8)), zr ad 17 ((d : Nat) : Int)]) rfl ?_
        refine zz_callV (T := TX0) (N := 5) (As := [.int (zi (σ4 17 d 6)), .int (zi (σ4 20 d 0))]) (rest := [.int (zi (σ4 0 0 8)), zr ad 17 ((d : Nat) : Int)]) (v := ((0 : Nat) : Int)) (κ := 1) ⟨hx, hb, hml, hown, hts⟩ (c_X0_minutesBetween l G ad A N0 σ4 nd nr hX (σ4 17 d 6) (σ4 20 d 0) (hW6.2.2.1 _ _ _) (hW6.2.2.1 _ _ _)) (cwV 2 hts gX6_doNextStop_X0_minutesBetween rfl rfl rfl (by decide +kernel) ⟨Nat.le_of_ble_eq_true rfl, Nat.le_of_ble_eq_true rfl⟩) hK hW6 (zlN (hX 1 0 rfl)) rfl rfl (Nat.le_trans hsz hS6.1) hS6 rfl hl.1.1 rfl (by simp [zr_cat, zcat_i]) dX6_doNextStop_110 ⟨Nat.le_of_ble_eq_true rfl, Nat.le_of_ble_eq_true rfl⟩ (fun x7 σ7 H7 locs7 hp7 hW7 hz7 hS7 => ?_)
        obtain ⟨rfl, hx9⟩ := hp7
        rw [if_pos hwq] at hx9
        obtain rfl := hx9
        refine W.eq (g2 := F0 m 113 ls [.int (zi (σ4 6 (σ4 17 d 6).toNat (σ4 20 d 0).toNat)), .int (zi (σ4 0 0 8)), zr ad 17 ((d : Nat) : Int)]) rfl ?_
        refine zz_iadd hx hb dX6_doNextStop_113 ?_
        refine zz_putN (T := TX1) (N := 13) (k := 9) (κ := 17) (v := ((d : Nat) : Int)) (x := ((σ4 0 0 8) + (σ4 6 (σ4 17 d 6).toNat (σ4 20 d 0).toNat))) (ty := .int) hx hb hts hinX1 tyX1 tyX1_ok nmX1 hown hK hW7 hS7 (zlN (hX 17 d (decide_eq_true hd))) rfl rfl rfl (by decide) (host := "HailCity") (List.mem_of_getElem? (i := 19) rfl) (fun _ h9 => h9) rfl (by decide +kernel) rfl rfl rfl ⟨by omega, by omega⟩ (fun h9 _ => absurd h9 (by decide)) (fun h9 => absurd h9 (by decide)) dX6_doNextStop_114 (fun H8 locs8 hW8' hS8 => ?_)
        obtain ⟨σ8, hs8⟩ : ∃ z, z = zu σ4 17 d 9 ((σ4 0 0 8) + (σ4 6 (σ4 17 d 6).toNat (σ4 20 d 0).toNat)) := ⟨_, rfl⟩
        have hW8 : ZW G ad A σ8 H8 := by rw [hs8]; exact hW8'
        refine zz_goto (tgt := 126) hx hb dX6_doNextStop_117 (by decide) ?_
        refine W.eq (g2 := F0 m 126 ls []) rfl ?_
        refine zz_retv hx hb hr hlocks hW8 hS8 ?_ dX6_doNextStop_126
        refine ⟨_, hrd, ?_⟩
        unfold ynx
        rw [if_pos (by omega), hs8]
    · exfalso; have h99 := hc63.1; omega
  · refine zz_aload_n hx hb hl 1 dX6_doNextStop_15 rfl rfl ?_
    refine zz_iconst hx hb dX6_doNextStop_16 ?_
    refine zz_callV (T := TX4) (N := 4) (As := [.int (zi 0)]) (rest := []) (v := ((d : Nat) : Int)) (κ := 18) ⟨hx, hb, hml, hown, hts⟩ (c_X4_isLetOutAt l G ad A N0 σ nd nr hX d hd (0 : Int) ⟨by decide, by decide⟩ (by omega) (by omega)) (cwV 1 hts gX6_doNextStop_X4_isLetOutAt rfl rfl rfl (by decide +kernel) ⟨Nat.le_of_ble_eq_true rfl, Nat.le_of_ble_eq_true rfl⟩) hK hW1 (zlN (hX 18 d (decide_eq_true hd))) rfl rfl (Nat.le_trans hsz hS1.1) hS1 rfl hl.1.1 rfl (Nat.le_of_ble_eq_true rfl) dX6_doNextStop_17 ⟨Nat.le_of_ble_eq_true rfl, Nat.le_of_ble_eq_true rfl⟩ (fun x9 σ9 H9 locs9 hp9 hW9 hz9 hS9 => ?_)
    obtain ⟨rfl, rfl⟩ := hp9
    refine W.eq (g2 := F0 m 20 ls [.int (zi (zb ((0 ≤ (0 : Int) ∧ (0 : Int) < σ 18 d 3) ∧ σ 22 d 0 = 1)))]) rfl ?_
    refine zz_if_eqb (tgt := 62) hx hb dX6_doNextStop_20 (by decide) (fun hc20 => ?_) (fun hc20 => ?_)
    · refine zz_aload_n hx hb hl 0 dX6_doNextStop_62 rfl rfl ?_
      refine zz_ifnull (tgt := 71) hx hb (hW1.2.2.2.1 21 d 0 (hX 21 d (decide_eq_true hd)) (Nat.le_of_ble_eq_true rfl) (Nat.le_of_ble_eq_true rfl)) dX6_doNextStop_63 (by decide) (fun hc63 => ?_) (fun hc63 => ?_)
      · have e18 : σ 18 d 3 = ((n + 1 : Nat) : Int) := by rw [hn]
        refine zz_aload_n hx hb hl 3 dX6_doNextStop_71 rfl rfl ?_
        refine zz_aload_n hx hb hl 1 dX6_doNextStop_72 rfl rfl ?_
        refine zz_iconst hx hb dX6_doNextStop_73 ?_
        refine zz_callV (T := TX4) (N := 4) (As := [.int (zi 0)]) (rest := [zr ad 17 ((d : Nat) : Int)]) (v := ((d : Nat) : Int)) (κ := 18) ⟨hx, hb, hml, hown, hts⟩ (c_X4_placeAt l G ad A N0 σ nd nr hX d hd (0 : Int) ⟨by decide, by decide⟩ (by rw [e18]; omega) (by rw [e18]; omega)) (cwV 1 hts gX6_doNextStop_X4_placeAt rfl rfl rfl (by decide +kernel) ⟨Nat.le_of_ble_eq_true rfl, Nat.le_of_ble_eq_true rfl⟩) hK hW9 (zlN (hX 18 d (decide_eq_true hd))) rfl rfl (Nat.le_trans hsz hS9.1) hS9 rfl hl.1.1 rfl (by simp [zr_cat, zcat_i]) dX6_doNextStop_74 ⟨Nat.le_of_ble_eq_true rfl, Nat.le_of_ble_eq_true rfl⟩ (fun x10 σ10 H10 locs10 hp10 hW10 hz10 hS10 => ?_)
        obtain ⟨rfl, hx9⟩ := hp10
        rw [if_pos (by rw [e18]; omega), show σ 20 d (0 : Int).toNat = σ 20 d 0 from rfl] at hx9
        obtain rfl := hx9
        refine W.eq (g2 := F0 m 77 ls [.int (zi (σ 20 d 0)), zr ad 17 ((d : Nat) : Int)]) rfl ?_
        refine zz_putN (T := TX1) (N := 13) (k := 6) (κ := 17) (v := ((d : Nat) : Int)) (x := (σ 20 d 0)) (ty := .int) hx hb hts hinX1 tyX1 tyX1_ok nmX1 hown hK hW10 hS10 (zlN (hX 17 d (decide_eq_true hd))) rfl rfl rfl (by decide) (host := "HailCity") (List.mem_of_getElem? (i := 15) rfl) (fun _ h9 => h9) rfl (by decide +kernel) rfl rfl rfl (hW0.2.2.1 _ _ _) (fun h9 _ => absurd h9 (by decide)) (fun h9 => absurd h9 (by decide)) dX6_doNextStop_77 (fun H11 locs11 hW11' hS11 => ?_)
        obtain ⟨σ11, hs11⟩ : ∃ z, z = zu σ 17 d 6 (σ 20 d 0) := ⟨_, rfl⟩
        have hW11 : ZW G ad A σ11 H11 := by rw [hs11]; exact hW11'
        have e18 : σ11 18 d 3 = ((n + 1 : Nat) : Int) := by rw [hs11, zu_k (by decide), hn]
        refine zz_aload_n hx hb hl 1 dX6_doNextStop_80 rfl rfl ?_
        refine zz_iconst hx hb dX6_doNextStop_81 ?_
        refine zz_callV (T := TX4) (N := 4) (As := [.int (zi 0)]) (rest := []) (v := ((d : Nat) : Int)) (κ := 18) ⟨hx, hb, hml, hown, hts⟩ (c_X4_take l G ad A N0 σ11 nd nr hX d hd (0 : Int) ⟨by decide, by decide⟩ (by decide) (by rw [e18]; omega) (by rw [e18]; omega)) (cwV 1 hts gX6_doNextStop_X4_take rfl rfl rfl (by decide +kernel) ⟨Nat.le_of_ble_eq_true rfl, Nat.le_of_ble_eq_true rfl⟩) hK hW11 (zlN (hX 18 d (decide_eq_true hd))) rfl rfl (Nat.le_trans hsz hS11.1) hS11 rfl hl.1.1 rfl (Nat.le_of_ble_eq_true rfl) dX6_doNextStop_82 ⟨Nat.le_of_ble_eq_true rfl, Nat.le_of_ble_eq_true rfl⟩ (fun x12 σ12 H12 locs12 hp12 hW12 hz12 hS12 => ?_)
        have hrd : yrd (yns σ d) σ12 d := by
          have hyn : σ11 = yns σ d := by unfold yns; rw [if_neg (fun q => by omega), if_neg (by omega), hs11]
          rw [← hyn]
          refine ⟨hp12.1, fun j hj => ?_, hp12.2.2⟩
          exact hp12.2.1 j hj
        refine W.eq (g2 := F0 m 85 ls []) rfl ?_
        refine zz_aload_n hx hb hl 1 dX6_doNextStop_85 rfl rfl ?_
        refine zz_getN (T := TX4) (N := 4) (k := 3) (κ := 18) (w := .int (zi (σ12 18 d 3))) hx hb hts hinX4 hown hK hW12 (zlN (hX 18 d (decide_eq_true hd))) rfl rfl rfl (by decide) (host := "HailCity") (List.mem_of_getElem? (i := 5) rfl) (fun _ h9 => h9) rfl dX6_doNextStop_86 ?_
        refine zz_if_le (tgt := 120) hx hb dX6_doNextStop_89 (by decide) (hW12.2.2.1 _ _ _) (fun hc89 => ?_) (fun hc89 => ?_)
        · refine zz_aload_n hx hb hl 2 dX6_doNextStop_120 rfl rfl ?_
          refine zz_aload_n hx hb hl 3 dX6_doNextStop_121 rfl rfl ?_
          refine zz_iconst hx hb dX6_doNextStop_122 ?_
          refine zz_callV (T := TX6) (N := 10) (As := [zr ad 17 ((d : Nat) : Int), .int (zi 0)]) (rest := []) (v := ((0 : Nat) : Int)) (κ := 0) ⟨hx, hb, hml, hown, hts⟩ (c_X6_queueIfNowFree l G ad A N0 σ12 nd nr hX d hd 0 (Or.inl rfl) (by rw [hrd.2.2 _ _ _ (by omega), yns_fr (by decide) (by omega)]; exact hgt)) (cwV 2 hts gX6_doNextStop_X6_queueIfNowFree rfl rfl rfl (by decide +kernel) ⟨Nat.le_of_ble_eq_true rfl, Nat.le_of_ble_eq_true rfl⟩) hK hW12 (zlN (hX 0 0 rfl)) rfl rfl (Nat.le_trans hsz hS12.1) hS12 rfl hl.1.1 rfl (Nat.le_of_ble_eq_true rfl) dX6_doNextStop_123 ⟨Nat.le_of_ble_eq_true rfl, Nat.le_of_ble_eq_true rfl⟩ (fun x13 σ13 H13 locs13 hp13 hW13 hz13 hS13 => ?_)
          refine W.eq (g2 := F0 m 126 ls []) rfl ?_
          refine W.eq (g2 := F0 m 126 ls []) rfl ?_
          refine zz_retv hx hb hr hlocks hW13 hS13 ?_ dX6_doNextStop_126
          refine ⟨_, hrd, ?_⟩
          unfold ynx
          rw [if_neg (by omega)]
          exact hp13
        · have e6 : σ12 6 = σ 6 := funext fun a => funext fun b => by rw [hrd.2.2 _ _ _ (by omega), yns_fr (by decide) (by omega)]
          have e17 : σ12 17 d 6 = σ 20 d 0 := by
            rw [hrd.2.2 17 d 6 (by omega)]
            unfold yns
            rw [zu_same]
          have e20 : σ12 20 d 0 = σ 20 d 1 := by
            rw [(hrd.2.1 0 (by have := hrd.1; omega)).1, yns_fr (by decide) (by omega)]
          have e8 : σ12 0 0 8 = σ 0 0 8 := by rw [hrd.2.2 _ _ _ (by omega), yns_fr (by decide) (by omega)]
          have hnn : 1 ≤ n := by
            have h1 := hrd.1
            rw [yns_fr (by decide) (by omega)] at h1
            omega
          have hp1 := hP 1 (by omega)
          have hw0 : 0 ≤ σ 6 (σ 20 d 0).toNat (σ 20 d 1).toNat ∧ σ 6 (σ 20 d 0).toNat (σ 20 d 1).toNat ≤ 20480 := hw 0 (by omega)
          have hwq : (0 ≤ σ12 17 d 6 ∧ σ12 17 d 6 < 10) ∧ (0 ≤ σ12 20 d 0 ∧ σ12 20 d 0 < 10) ∧ σ12 6 (σ12 17 d 6).toNat (σ12 20 d 0).toNat < 1000000 := by
            rw [e6, e17, e20]
            exact ⟨hp0, hp1, by omega⟩
          have hgw : σ12 6 (σ12 17 d 6).toNat (σ12 20 d 0).toNat ≤ 20480 ∧ 0 ≤ σ12 6 (σ12 17 d 6).toNat (σ12 20 d 0).toNat := by
            rw [e6, e17, e20]
            exact ⟨hw0.2, hw0.1⟩
          refine zz_aload_n hx hb hl 3 dX6_doNextStop_92 rfl rfl ?_
          refine zz_aload_n hx hb hl 2 dX6_doNextStop_93 rfl rfl ?_
          refine zz_get (T := TX6) (N := 10) (k := 8) (κ := 0) (w := .int (zi (σ12 0 0 8))) hx hb hts hinX6 hown hK hW12 (zlN (hX 0 0 rfl)) rfl rfl rfl (by decide) (hts (.fieldLink RX6 134 "HailCity" "now" "I") (by decide +kernel)) (fun _ h9 => h9) rfl dX6_doNextStop_94 ?_
          refine zz_aload_n hx hb hl 2 dX6_doNextStop_97 rfl rfl ?_
          refine zz_get (T := TX6) (N := 10) (k := 0) (κ := 0) (w := zr ad 1 ((0 : Nat) : Int)) hx hb hts hinX6 hown hK hW12 (zlN (hX 0 0 rfl)) rfl rfl rfl (by decide) (hts (.fieldLink RX6 10 "HailCity" "map" "LHailCity$CityMap;") (by decide +kernel)) (fun _ h9 => h9) rfl dX6_doNextStop_98 ?_
          refine zz_aload_n hx hb hl 3 dX6_doNextStop_101 rfl rfl ?_
          refine zz_getN (T := TX1) (N := 13) (k := 6) (κ := 17) (w := .int (zi (σ12 17 d 6))) hx hb hts hinX1 hown hK hW12 (zlN (hX 17 d (decide_eq_true hd))) rfl rfl rfl (by decide) (host := "HailCity") (List.mem_of_getElem? (i := 15) rfl) (fun _ h9 => h9) rfl dX6_doNextStop_102 ?_
          refine zz_aload_n hx hb hl 1 dX6_doNextStop_105 rfl rfl ?_
          refine zz_iconst hx hb dX6_doNextStop_106 ?_
          refine zz_callV (T := TX4) (N := 4) (As := [.int (zi 0)]) (rest := [.int (zi (σ12 17 d 6)), zr ad 1 ((0 : Nat) : Int), .int (zi (σ12 0 0 8)), zr ad 17 ((d : Nat) : Int)]) (v := ((d : Nat) : Int)) (κ := 18) ⟨hx, hb, hml, hown, hts⟩ (c_X4_placeAt l G ad A N0 σ12 nd nr hX d hd (0 : Int) ⟨by decide, by decide⟩ (by omega) (by rw [hrd.1, yns_fr (by decide) (by omega)]; omega)) (cwV 1 hts gX6_doNextStop_X4_placeAt rfl rfl rfl (by decide +kernel) ⟨Nat.le_of_ble_eq_true rfl, Nat.le_of_ble_eq_true rfl⟩) hK hW12 (zlN (hX 18 d (decide_eq_true hd))) rfl rfl (Nat.le_trans hsz hS12.1) hS12 rfl hl.1.1 rfl (by simp [zr_cat, zcat_i]) dX6_doNextStop_107 ⟨Nat.le_of_ble_eq_true rfl, Nat.le_of_ble_eq_true rfl⟩ (fun x14 σ14 H14 locs14 hp14 hW14 hz14 hS14 => ?_)
          obtain ⟨rfl, hx9⟩ := hp14
          rw [if_pos (by omega)] at hx9
          obtain rfl := hx9
          refine W.eq (g2 := F0 m 110 ls [.int (zi (σ12 20 d 0)), .int (zi (σ12 17 d 6)), zr ad 1 ((0 : Nat) : Int), .int (zi (σ12 0 0 8)), zr ad 17 ((d : Nat) : Int)]) rfl ?_
          refine zz_callV (T := TX0) (N := 5) (As := [.int (zi (σ12 17 d 6)), .int (zi (σ12 20 d 0))]) (rest := [.int (zi (σ12 0 0 8)), zr ad 17 ((d : Nat) : Int)]) (v := ((0 : Nat) : Int)) (κ := 1) ⟨hx, hb, hml, hown, hts⟩ (c_X0_minutesBetween l G ad A N0 σ12 nd nr hX (σ12 17 d 6) (σ12 20 d 0) (hW14.2.2.1 _ _ _) (hW14.2.2.1 _ _ _)) (cwV 2 hts gX6_doNextStop_X0_minutesBetween rfl rfl rfl (by decide +kernel) ⟨Nat.le_of_ble_eq_true rfl, Nat.le_of_ble_eq_true rfl⟩) hK hW14 (zlN (hX 1 0 rfl)) rfl rfl (Nat.le_trans hsz hS14.1) hS14 rfl hl.1.1 rfl (by simp [zr_cat, zcat_i]) dX6_doNextStop_110 ⟨Nat.le_of_ble_eq_true rfl, Nat.le_of_ble_eq_true rfl⟩ (fun x15 σ15 H15 locs15 hp15 hW15 hz15 hS15 => ?_)
          obtain ⟨rfl, hx9⟩ := hp15
          rw [if_pos hwq] at hx9
          obtain rfl := hx9
          refine W.eq (g2 := F0 m 113 ls [.int (zi (σ12 6 (σ12 17 d 6).toNat (σ12 20 d 0).toNat)), .int (zi (σ12 0 0 8)), zr ad 17 ((d : Nat) : Int)]) rfl ?_
          refine zz_iadd hx hb dX6_doNextStop_113 ?_
          refine zz_putN (T := TX1) (N := 13) (k := 9) (κ := 17) (v := ((d : Nat) : Int)) (x := ((σ12 0 0 8) + (σ12 6 (σ12 17 d 6).toNat (σ12 20 d 0).toNat))) (ty := .int) hx hb hts hinX1 tyX1 tyX1_ok nmX1 hown hK hW15 hS15 (zlN (hX 17 d (decide_eq_true hd))) rfl rfl rfl (by decide) (host := "HailCity") (List.mem_of_getElem? (i := 19) rfl) (fun _ h9 => h9) rfl (by decide +kernel) rfl rfl rfl ⟨by omega, by omega⟩ (fun h9 _ => absurd h9 (by decide)) (fun h9 => absurd h9 (by decide)) dX6_doNextStop_114 (fun H16 locs16 hW16' hS16 => ?_)
          obtain ⟨σ16, hs16⟩ : ∃ z, z = zu σ12 17 d 9 ((σ12 0 0 8) + (σ12 6 (σ12 17 d 6).toNat (σ12 20 d 0).toNat)) := ⟨_, rfl⟩
          have hW16 : ZW G ad A σ16 H16 := by rw [hs16]; exact hW16'
          refine zz_goto (tgt := 126) hx hb dX6_doNextStop_117 (by decide) ?_
          refine W.eq (g2 := F0 m 126 ls []) rfl ?_
          refine zz_retv hx hb hr hlocks hW16 hS16 ?_ dX6_doNextStop_126
          refine ⟨_, hrd, ?_⟩
          unfold ynx
          rw [if_pos (by omega), hs16]
      · refine zz_aload_n hx hb hl 0 dX6_doNextStop_66 rfl rfl ?_
        refine zz_iconst hx hb dX6_doNextStop_67 ?_
        refine zz_putN (T := TX3) (N := 12) (k := 6) (κ := 23) (v := (σ 21 d 0)) (x := 2) (ty := .int) hx hb hts hinX3 tyX3 tyX3_ok nmX3 hown hK hW9 hS9 hc63 rfl rfl rfl (by decide) (host := "HailCity") (List.mem_of_getElem? (i := 35) rfl) (fun _ h9 => h9) rfl (by decide +kernel) rfl rfl rfl ⟨by decide, by decide⟩ (fun h9 _ => absurd h9 (by decide)) (fun h9 => absurd h9 (by decide)) dX6_doNextStop_68 (fun H17 locs17 hW17' hS17 => ?_)
        obtain ⟨σ17, hs17⟩ : ∃ z, z = zu σ 23 ((σ 21 d 0).toNat) 6 2 := ⟨_, rfl⟩
        have hW17 : ZW G ad A σ17 H17 := by rw [hs17]; exact hW17'
        have e18 : σ17 18 d 3 = ((n + 1 : Nat) : Int) := by rw [hs17, zu_k (by decide), hn]
        refine zz_aload_n hx hb hl 3 dX6_doNextStop_71 rfl rfl ?_
        refine zz_aload_n hx hb hl 1 dX6_doNextStop_72 rfl rfl ?_
        refine zz_iconst hx hb dX6_doNextStop_73 ?_
        refine zz_callV (T := TX4) (N := 4) (As := [.int (zi 0)]) (rest := [zr ad 17 ((d : Nat) : Int)]) (v := ((d : Nat) : Int)) (κ := 18) ⟨hx, hb, hml, hown, hts⟩ (c_X4_placeAt l G ad A N0 σ17 nd nr hX d hd (0 : Int) ⟨by decide, by decide⟩ (by rw [e18]; omega) (by rw [e18]; omega)) (cwV 1 hts gX6_doNextStop_X4_placeAt rfl rfl rfl (by decide +kernel) ⟨Nat.le_of_ble_eq_true rfl, Nat.le_of_ble_eq_true rfl⟩) hK hW17 (zlN (hX 18 d (decide_eq_true hd))) rfl rfl (Nat.le_trans hsz hS17.1) hS17 rfl hl.1.1 rfl (by simp [zr_cat, zcat_i]) dX6_doNextStop_74 ⟨Nat.le_of_ble_eq_true rfl, Nat.le_of_ble_eq_true rfl⟩ (fun x18 σ18 H18 locs18 hp18 hW18 hz18 hS18 => ?_)
        obtain ⟨rfl, hx9⟩ := hp18
        rw [if_pos (by rw [e18]; omega), show σ17 20 d (0 : Int).toNat = σ 20 d 0 from by show σ17 20 d 0 = σ 20 d 0; rw [hs17, zu_k (by decide)]] at hx9
        obtain rfl := hx9
        refine W.eq (g2 := F0 m 77 ls [.int (zi (σ 20 d 0)), zr ad 17 ((d : Nat) : Int)]) rfl ?_
        refine zz_putN (T := TX1) (N := 13) (k := 6) (κ := 17) (v := ((d : Nat) : Int)) (x := (σ 20 d 0)) (ty := .int) hx hb hts hinX1 tyX1 tyX1_ok nmX1 hown hK hW18 hS18 (zlN (hX 17 d (decide_eq_true hd))) rfl rfl rfl (by decide) (host := "HailCity") (List.mem_of_getElem? (i := 15) rfl) (fun _ h9 => h9) rfl (by decide +kernel) rfl rfl rfl (hW0.2.2.1 _ _ _) (fun h9 _ => absurd h9 (by decide)) (fun h9 => absurd h9 (by decide)) dX6_doNextStop_77 (fun H19 locs19 hW19' hS19 => ?_)
        obtain ⟨σ19, hs19⟩ : ∃ z, z = zu σ17 17 d 6 (σ 20 d 0) := ⟨_, rfl⟩
        have hW19 : ZW G ad A σ19 H19 := by rw [hs19]; exact hW19'
        have e18 : σ19 18 d 3 = ((n + 1 : Nat) : Int) := by rw [hs19, zu_k (by decide), hs17, zu_k (by decide), hn]
        refine zz_aload_n hx hb hl 1 dX6_doNextStop_80 rfl rfl ?_
        refine zz_iconst hx hb dX6_doNextStop_81 ?_
        refine zz_callV (T := TX4) (N := 4) (As := [.int (zi 0)]) (rest := []) (v := ((d : Nat) : Int)) (κ := 18) ⟨hx, hb, hml, hown, hts⟩ (c_X4_take l G ad A N0 σ19 nd nr hX d hd (0 : Int) ⟨by decide, by decide⟩ (by decide) (by rw [e18]; omega) (by rw [e18]; omega)) (cwV 1 hts gX6_doNextStop_X4_take rfl rfl rfl (by decide +kernel) ⟨Nat.le_of_ble_eq_true rfl, Nat.le_of_ble_eq_true rfl⟩) hK hW19 (zlN (hX 18 d (decide_eq_true hd))) rfl rfl (Nat.le_trans hsz hS19.1) hS19 rfl hl.1.1 rfl (Nat.le_of_ble_eq_true rfl) dX6_doNextStop_82 ⟨Nat.le_of_ble_eq_true rfl, Nat.le_of_ble_eq_true rfl⟩ (fun x20 σ20 H20 locs20 hp20 hW20 hz20 hS20 => ?_)
        have hrd : yrd (yns σ d) σ20 d := by
          have hyn : σ19 = yns σ d := by unfold yns; rw [if_neg (fun q => hc20 ⟨⟨by omega, by omega⟩, q.2⟩), if_pos hc63.1, hs19, hs17]
          rw [← hyn]
          refine ⟨hp20.1, fun j hj => ?_, hp20.2.2⟩
          exact hp20.2.1 j hj
        refine W.eq (g2 := F0 m 85 ls []) rfl ?_
        refine zz_aload_n hx hb hl 1 dX6_doNextStop_85 rfl rfl ?_
        refine zz_getN (T := TX4) (N := 4) (k := 3) (κ := 18) (w := .int (zi (σ20 18 d 3))) hx hb hts hinX4 hown hK hW20 (zlN (hX 18 d (decide_eq_true hd))) rfl rfl rfl (by decide) (host := "HailCity") (List.mem_of_getElem? (i := 5) rfl) (fun _ h9 => h9) rfl dX6_doNextStop_86 ?_
        refine zz_if_le (tgt := 120) hx hb dX6_doNextStop_89 (by decide) (hW20.2.2.1 _ _ _) (fun hc89 => ?_) (fun hc89 => ?_)
        · refine zz_aload_n hx hb hl 2 dX6_doNextStop_120 rfl rfl ?_
          refine zz_aload_n hx hb hl 3 dX6_doNextStop_121 rfl rfl ?_
          refine zz_iconst hx hb dX6_doNextStop_122 ?_
          refine zz_callV (T := TX6) (N := 10) (As := [zr ad 17 ((d : Nat) : Int), .int (zi 0)]) (rest := []) (v := ((0 : Nat) : Int)) (κ := 0) ⟨hx, hb, hml, hown, hts⟩ (c_X6_queueIfNowFree l G ad A N0 σ20 nd nr hX d hd 0 (Or.inl rfl) (by rw [hrd.2.2 _ _ _ (by omega), yns_fr (by decide) (by omega)]; exact hgt)) (cwV 2 hts gX6_doNextStop_X6_queueIfNowFree rfl rfl rfl (by decide +kernel) ⟨Nat.le_of_ble_eq_true rfl, Nat.le_of_ble_eq_true rfl⟩) hK hW20 (zlN (hX 0 0 rfl)) rfl rfl (Nat.le_trans hsz hS20.1) hS20 rfl hl.1.1 rfl (Nat.le_of_ble_eq_true rfl) dX6_doNextStop_123 ⟨Nat.le_of_ble_eq_true rfl, Nat.le_of_ble_eq_true rfl⟩ (fun x21 σ21 H21 locs21 hp21 hW21 hz21 hS21 => ?_)
          refine W.eq (g2 := F0 m 126 ls []) rfl ?_
          refine W.eq (g2 := F0 m 126 ls []) rfl ?_
          refine zz_retv hx hb hr hlocks hW21 hS21 ?_ dX6_doNextStop_126
          refine ⟨_, hrd, ?_⟩
          unfold ynx
          rw [if_neg (by omega)]
          exact hp21
        · have e6 : σ20 6 = σ 6 := funext fun a => funext fun b => by rw [hrd.2.2 _ _ _ (by omega), yns_fr (by decide) (by omega)]
          have e17 : σ20 17 d 6 = σ 20 d 0 := by
            rw [hrd.2.2 17 d 6 (by omega)]
            unfold yns
            rw [zu_same]
          have e20 : σ20 20 d 0 = σ 20 d 1 := by
            rw [(hrd.2.1 0 (by have := hrd.1; omega)).1, yns_fr (by decide) (by omega)]
          have e8 : σ20 0 0 8 = σ 0 0 8 := by rw [hrd.2.2 _ _ _ (by omega), yns_fr (by decide) (by omega)]
          have hnn : 1 ≤ n := by
            have h1 := hrd.1
            rw [yns_fr (by decide) (by omega)] at h1
            omega
          have hp1 := hP 1 (by omega)
          have hw0 : 0 ≤ σ 6 (σ 20 d 0).toNat (σ 20 d 1).toNat ∧ σ 6 (σ 20 d 0).toNat (σ 20 d 1).toNat ≤ 20480 := hw 0 (by omega)
          have hwq : (0 ≤ σ20 17 d 6 ∧ σ20 17 d 6 < 10) ∧ (0 ≤ σ20 20 d 0 ∧ σ20 20 d 0 < 10) ∧ σ20 6 (σ20 17 d 6).toNat (σ20 20 d 0).toNat < 1000000 := by
            rw [e6, e17, e20]
            exact ⟨hp0, hp1, by omega⟩
          have hgw : σ20 6 (σ20 17 d 6).toNat (σ20 20 d 0).toNat ≤ 20480 ∧ 0 ≤ σ20 6 (σ20 17 d 6).toNat (σ20 20 d 0).toNat := by
            rw [e6, e17, e20]
            exact ⟨hw0.2, hw0.1⟩
          refine zz_aload_n hx hb hl 3 dX6_doNextStop_92 rfl rfl ?_
          refine zz_aload_n hx hb hl 2 dX6_doNextStop_93 rfl rfl ?_
          refine zz_get (T := TX6) (N := 10) (k := 8) (κ := 0) (w := .int (zi (σ20 0 0 8))) hx hb hts hinX6 hown hK hW20 (zlN (hX 0 0 rfl)) rfl rfl rfl (by decide) (hts (.fieldLink RX6 134 "HailCity" "now" "I") (by decide +kernel)) (fun _ h9 => h9) rfl dX6_doNextStop_94 ?_
          refine zz_aload_n hx hb hl 2 dX6_doNextStop_97 rfl rfl ?_
          refine zz_get (T := TX6) (N := 10) (k := 0) (κ := 0) (w := zr ad 1 ((0 : Nat) : Int)) hx hb hts hinX6 hown hK hW20 (zlN (hX 0 0 rfl)) rfl rfl rfl (by decide) (hts (.fieldLink RX6 10 "HailCity" "map" "LHailCity$CityMap;") (by decide +kernel)) (fun _ h9 => h9) rfl dX6_doNextStop_98 ?_
          refine zz_aload_n hx hb hl 3 dX6_doNextStop_101 rfl rfl ?_
          refine zz_getN (T := TX1) (N := 13) (k := 6) (κ := 17) (w := .int (zi (σ20 17 d 6))) hx hb hts hinX1 hown hK hW20 (zlN (hX 17 d (decide_eq_true hd))) rfl rfl rfl (by decide) (host := "HailCity") (List.mem_of_getElem? (i := 15) rfl) (fun _ h9 => h9) rfl dX6_doNextStop_102 ?_
          refine zz_aload_n hx hb hl 1 dX6_doNextStop_105 rfl rfl ?_
          refine zz_iconst hx hb dX6_doNextStop_106 ?_
          refine zz_callV (T := TX4) (N := 4) (As := [.int (zi 0)]) (rest := [.int (zi (σ20 17 d 6)), zr ad 1 ((0 : Nat) : Int), .int (zi (σ20 0 0 8)), zr ad 17 ((d : Nat) : Int)]) (v := ((d : Nat) : Int)) (κ := 18) ⟨hx, hb, hml, hown, hts⟩ (c_X4_placeAt l G ad A N0 σ20 nd nr hX d hd (0 : Int) ⟨by decide, by decide⟩ (by omega) (by rw [hrd.1, yns_fr (by decide) (by omega)]; omega)) (cwV 1 hts gX6_doNextStop_X4_placeAt rfl rfl rfl (by decide +kernel) ⟨Nat.le_of_ble_eq_true rfl, Nat.le_of_ble_eq_true rfl⟩) hK hW20 (zlN (hX 18 d (decide_eq_true hd))) rfl rfl (Nat.le_trans hsz hS20.1) hS20 rfl hl.1.1 rfl (by simp [zr_cat, zcat_i]) dX6_doNextStop_107 ⟨Nat.le_of_ble_eq_true rfl, Nat.le_of_ble_eq_true rfl⟩ (fun x22 σ22 H22 locs22 hp22 hW22 hz22 hS22 => ?_)
          obtain ⟨rfl, hx9⟩ := hp22
          rw [if_pos (by omega)] at hx9
          obtain rfl := hx9
          refine W.eq (g2 := F0 m 110 ls [.int (zi (σ20 20 d 0)), .int (zi (σ20 17 d 6)), zr ad 1 ((0 : Nat) : Int), .int (zi (σ20 0 0 8)), zr ad 17 ((d : Nat) : Int)]) rfl ?_
          refine zz_callV (T := TX0) (N := 5) (As := [.int (zi (σ20 17 d 6)), .int (zi (σ20 20 d 0))]) (rest := [.int (zi (σ20 0 0 8)), zr ad 17 ((d : Nat) : Int)]) (v := ((0 : Nat) : Int)) (κ := 1) ⟨hx, hb, hml, hown, hts⟩ (c_X0_minutesBetween l G ad A N0 σ20 nd nr hX (σ20 17 d 6) (σ20 20 d 0) (hW22.2.2.1 _ _ _) (hW22.2.2.1 _ _ _)) (cwV 2 hts gX6_doNextStop_X0_minutesBetween rfl rfl rfl (by decide +kernel) ⟨Nat.le_of_ble_eq_true rfl, Nat.le_of_ble_eq_true rfl⟩) hK hW22 (zlN (hX 1 0 rfl)) rfl rfl (Nat.le_trans hsz hS22.1) hS22 rfl hl.1.1 rfl (by simp [zr_cat, zcat_i]) dX6_doNextStop_110 ⟨Nat.le_of_ble_eq_true rfl, Nat.le_of_ble_eq_true rfl⟩ (fun x23 σ23 H23 locs23 hp23 hW23 hz23 hS23 => ?_)
          obtain ⟨rfl, hx9⟩ := hp23
          rw [if_pos hwq] at hx9
          obtain rfl := hx9
          refine W.eq (g2 := F0 m 113 ls [.int (zi (σ20 6 (σ20 17 d 6).toNat (σ20 20 d 0).toNat)), .int (zi (σ20 0 0 8)), zr ad 17 ((d : Nat) : Int)]) rfl ?_
          refine zz_iadd hx hb dX6_doNextStop_113 ?_
          refine zz_putN (T := TX1) (N := 13) (k := 9) (κ := 17) (v := ((d : Nat) : Int)) (x := ((σ20 0 0 8) + (σ20 6 (σ20 17 d 6).toNat (σ20 20 d 0).toNat))) (ty := .int) hx hb hts hinX1 tyX1 tyX1_ok nmX1 hown hK hW23 hS23 (zlN (hX 17 d (decide_eq_true hd))) rfl rfl rfl (by decide) (host := "HailCity") (List.mem_of_getElem? (i := 19) rfl) (fun _ h9 => h9) rfl (by decide +kernel) rfl rfl rfl ⟨by omega, by omega⟩ (fun h9 _ => absurd h9 (by decide)) (fun h9 => absurd h9 (by decide)) dX6_doNextStop_114 (fun H24 locs24 hW24' hS24 => ?_)
          obtain ⟨σ24, hs24⟩ : ∃ z, z = zu σ20 17 d 9 ((σ20 0 0 8) + (σ20 6 (σ20 17 d 6).toNat (σ20 20 d 0).toNat)) := ⟨_, rfl⟩
          have hW24 : ZW G ad A σ24 H24 := by rw [hs24]; exact hW24'
          refine zz_goto (tgt := 126) hx hb dX6_doNextStop_117 (by decide) ?_
          refine W.eq (g2 := F0 m 126 ls []) rfl ?_
          refine zz_retv hx hb hr hlocks hW24 hS24 ?_ dX6_doNextStop_126
          refine ⟨_, hrd, ?_⟩
          unfold ynx
          rw [if_pos (by omega), hs24]
    · refine zz_aload_n hx hb hl 0 dX6_doNextStop_23 rfl rfl ?_
      refine zz_iconst hx hb dX6_doNextStop_24 ?_
      refine zz_putN (T := TX3) (N := 12) (k := 6) (κ := 23) (v := (σ 21 d 0)) (x := 3) (ty := .int) hx hb hts hinX3 tyX3 tyX3_ok nmX3 hown hK hW9 hS9 hc12 rfl rfl rfl (by decide) (host := "HailCity") (List.mem_of_getElem? (i := 35) rfl) (fun _ h9 => h9) rfl (by decide +kernel) rfl rfl rfl ⟨by decide, by decide⟩ (fun h9 _ => absurd h9 (by decide)) (fun h9 => absurd h9 (by decide)) dX6_doNextStop_25 (fun H25 locs25 hW25' hS25 => ?_)
      obtain ⟨σ25, hs25⟩ : ∃ z, z = zu σ 23 ((σ 21 d 0).toNat) 6 3 := ⟨_, rfl⟩
      have hW25 : ZW G ad A σ25 H25 := by rw [hs25]; exact hW25'
      refine zz_aload_n hx hb hl 0 dX6_doNextStop_28 rfl rfl ?_
      refine zz_aload_n hx hb hl 2 dX6_doNextStop_29 rfl rfl ?_
      refine zz_get (T := TX6) (N := 10) (k := 8) (κ := 0) (w := .int (zi (σ 0 0 8))) hx hb hts hinX6 hown hK hW25 (zlN (hX 0 0 rfl)) rfl rfl rfl (by decide) (hts (.fieldLink RX6 134 "HailCity" "now" "I") (by decide +kernel)) (fun _ h9 => h9) (congrArg (fun z => Value.int (zi z)) (show σ25 0 0 8 = σ 0 0 8 from by rw [hs25, zu_k (by decide)])) dX6_doNextStop_30 ?_
      refine zz_putN (T := TX3) (N := 12) (k := 10) (κ := 23) (v := (σ 21 d 0)) (x := (σ 0 0 8)) (ty := .int) hx hb hts hinX3 tyX3 tyX3_ok nmX3 hown hK hW25 hS25 hc12 rfl rfl rfl (by decide) (host := "HailCity") (List.mem_of_getElem? (i := 40) rfl) (fun _ h9 => h9) rfl (by decide +kernel) rfl rfl rfl (hW9.2.2.1 _ _ _) (fun h9 _ => absurd h9 (by decide)) (fun h9 => absurd h9 (by decide)) dX6_doNextStop_33 (fun H26 locs26 hW26' hS26 => ?_)
      obtain ⟨σ26, hs26⟩ : ∃ z, z = zu σ25 23 ((σ 21 d 0).toNat) 10 (σ 0 0 8) := ⟨_, rfl⟩
      have hW26 : ZW G ad A σ26 H26 := by rw [hs26]; exact hW26'
      have hpr2 := hpr hc12.1
      refine zz_aload_n hx hb hl 3 dX6_doNextStop_36 rfl rfl ?_
      refine lv_dup hx hb dX6_doNextStop_37 (zr_cat _ _ _) ?_
      refine zz_getN (T := TX1) (N := 13) (k := 11) (κ := 17) (w := .int (zi (σ 17 d 11))) hx hb hts hinX1 hown hK hW26 (zlN (hX 17 d (decide_eq_true hd))) rfl rfl rfl (by decide) (host := "HailCity") (List.mem_of_getElem? (i := 21) rfl) (fun _ h9 => h9) (congrArg (fun z => Value.int (zi z)) (show σ26 17 d 11 = σ 17 d 11 from by rw [hs26, zu_k (by decide), hs25, zu_k (by decide)])) dX6_doNextStop_38 ?_
      refine zz_iconst hx hb dX6_doNextStop_41 ?_
      refine zz_iadd hx hb dX6_doNextStop_42 ?_
      refine zz_putN (T := TX1) (N := 13) (k := 11) (κ := 17) (v := ((d : Nat) : Int)) (x := ((σ 17 d 11) + 1)) (ty := .int) hx hb hts hinX1 tyX1 tyX1_ok nmX1 hown hK hW26 hS26 (zlN (hX 17 d (decide_eq_true hd))) rfl rfl rfl (by decide) (host := "HailCity") (List.mem_of_getElem? (i := 21) rfl) (fun _ h9 => h9) rfl (by decide +kernel) rfl rfl rfl ⟨by omega, by omega⟩ (fun h9 _ => absurd h9 (by decide)) (fun h9 => absurd h9 (by decide)) dX6_doNextStop_43 (fun H27 locs27 hW27' hS27 => ?_)
      obtain ⟨σ27, hs27⟩ : ∃ z, z = zu σ26 17 d 11 ((σ 17 d 11) + 1) := ⟨_, rfl⟩
      have hW27 : ZW G ad A σ27 H27 := by rw [hs27]; exact hW27'
      refine zz_aload_n hx hb hl 3 dX6_doNextStop_46 rfl rfl ?_
      refine lv_dup hx hb dX6_doNextStop_47 (zr_cat _ _ _) ?_
      refine zz_getN (T := TX1) (N := 13) (k := 12) (κ := 17) (w := .int (zi (σ 17 d 12))) hx hb hts hinX1 hown hK hW27 (zlN (hX 17 d (decide_eq_true hd))) rfl rfl rfl (by decide) (host := "HailCity") (List.mem_of_getElem? (i := 22) rfl) (fun _ h9 => h9) (congrArg (fun z => Value.int (zi z)) (show σ27 17 d 12 = σ 17 d 12 from by rw [hs27, zu_s (by decide), hs26, zu_k (by decide), hs25, zu_k (by decide)])) dX6_doNextStop_48 ?_
      refine zz_aload_n hx hb hl 0 dX6_doNextStop_51 rfl rfl ?_
      refine zz_getN (T := TX3) (N := 12) (k := 5) (κ := 23) (w := .int (zi (σ 23 ((σ 21 d 0).toNat) 5))) hx hb hts hinX3 hown hK hW27 hc12 rfl rfl rfl (by decide) (host := "HailCity") (List.mem_of_getElem? (i := 34) rfl) (fun _ h9 => h9) (congrArg (fun z => Value.int (zi z)) (show σ27 23 ((σ 21 d 0).toNat) 5 = σ 23 ((σ 21 d 0).toNat) 5 from by rw [hs27, zu_k (by decide), hs26, zu_s (by decide), hs25, zu_s (by decide)])) dX6_doNextStop_52 ?_
      refine zz_iadd hx hb dX6_doNextStop_55 ?_
      refine zz_putN (T := TX1) (N := 13) (k := 12) (κ := 17) (v := ((d : Nat) : Int)) (x := ((σ 17 d 12) + (σ 23 ((σ 21 d 0).toNat) 5))) (ty := .int) hx hb hts hinX1 tyX1 tyX1_ok nmX1 hown hK hW27 hS27 (zlN (hX 17 d (decide_eq_true hd))) rfl rfl rfl (by decide) (host := "HailCity") (List.mem_of_getElem? (i := 22) rfl) (fun _ h9 => h9) rfl (by decide +kernel) rfl rfl rfl ⟨by omega, by omega⟩ (fun h9 _ => absurd h9 (by decide)) (fun h9 => absurd h9 (by decide)) dX6_doNextStop_56 (fun H28 locs28 hW28' hS28 => ?_)
      obtain ⟨σ28, hs28⟩ : ∃ z, z = zu σ27 17 d 12 ((σ 17 d 12) + (σ 23 ((σ 21 d 0).toNat) 5)) := ⟨_, rfl⟩
      have hW28 : ZW G ad A σ28 H28 := by rw [hs28]; exact hW28'
      refine zz_goto (tgt := 71) hx hb dX6_doNextStop_59 (by decide) ?_
      have e18 : σ28 18 d 3 = ((n + 1 : Nat) : Int) := by rw [hs28, zu_k (by decide), hs27, zu_k (by decide), hs26, zu_k (by decide), hs25, zu_k (by decide), hn]
      refine zz_aload_n hx hb hl 3 dX6_doNextStop_71 rfl rfl ?_
      refine zz_aload_n hx hb hl 1 dX6_doNextStop_72 rfl rfl ?_
      refine zz_iconst hx hb dX6_doNextStop_73 ?_
      refine zz_callV (T := TX4) (N := 4) (As := [.int (zi 0)]) (rest := [zr ad 17 ((d : Nat) : Int)]) (v := ((d : Nat) : Int)) (κ := 18) ⟨hx, hb, hml, hown, hts⟩ (c_X4_placeAt l G ad A N0 σ28 nd nr hX d hd (0 : Int) ⟨by decide, by decide⟩ (by rw [e18]; omega) (by rw [e18]; omega)) (cwV 1 hts gX6_doNextStop_X4_placeAt rfl rfl rfl (by decide +kernel) ⟨Nat.le_of_ble_eq_true rfl, Nat.le_of_ble_eq_true rfl⟩) hK hW28 (zlN (hX 18 d (decide_eq_true hd))) rfl rfl (Nat.le_trans hsz hS28.1) hS28 rfl hl.1.1 rfl (by simp [zr_cat, zcat_i]) dX6_doNextStop_74 ⟨Nat.le_of_ble_eq_true rfl, Nat.le_of_ble_eq_true rfl⟩ (fun x29 σ29 H29 locs29 hp29 hW29 hz29 hS29 => ?_)
      obtain ⟨rfl, hx9⟩ := hp29
      rw [if_pos (by rw [e18]; omega), show σ28 20 d (0 : Int).toNat = σ 20 d 0 from by show σ28 20 d 0 = σ 20 d 0; rw [hs28, zu_k (by decide), hs27, zu_k (by decide), hs26, zu_k (by decide), hs25, zu_k (by decide)]] at hx9
      obtain rfl := hx9
      refine W.eq (g2 := F0 m 77 ls [.int (zi (σ 20 d 0)), zr ad 17 ((d : Nat) : Int)]) rfl ?_
      refine zz_putN (T := TX1) (N := 13) (k := 6) (κ := 17) (v := ((d : Nat) : Int)) (x := (σ 20 d 0)) (ty := .int) hx hb hts hinX1 tyX1 tyX1_ok nmX1 hown hK hW29 hS29 (zlN (hX 17 d (decide_eq_true hd))) rfl rfl rfl (by decide) (host := "HailCity") (List.mem_of_getElem? (i := 15) rfl) (fun _ h9 => h9) rfl (by decide +kernel) rfl rfl rfl (hW0.2.2.1 _ _ _) (fun h9 _ => absurd h9 (by decide)) (fun h9 => absurd h9 (by decide)) dX6_doNextStop_77 (fun H30 locs30 hW30' hS30 => ?_)
      obtain ⟨σ30, hs30⟩ : ∃ z, z = zu σ28 17 d 6 (σ 20 d 0) := ⟨_, rfl⟩
      have hW30 : ZW G ad A σ30 H30 := by rw [hs30]; exact hW30'
      have e18 : σ30 18 d 3 = ((n + 1 : Nat) : Int) := by rw [hs30, zu_k (by decide), hs28, zu_k (by decide), hs27, zu_k (by decide), hs26, zu_k (by decide), hs25, zu_k (by decide), hn]
      refine zz_aload_n hx hb hl 1 dX6_doNextStop_80 rfl rfl ?_
      refine zz_iconst hx hb dX6_doNextStop_81 ?_
      refine zz_callV (T := TX4) (N := 4) (As := [.int (zi 0)]) (rest := []) (v := ((d : Nat) : Int)) (κ := 18) ⟨hx, hb, hml, hown, hts⟩ (c_X4_take l G ad A N0 σ30 nd nr hX d hd (0 : Int) ⟨by decide, by decide⟩ (by decide) (by rw [e18]; omega) (by rw [e18]; omega)) (cwV 1 hts gX6_doNextStop_X4_take rfl rfl rfl (by decide +kernel) ⟨Nat.le_of_ble_eq_true rfl, Nat.le_of_ble_eq_true rfl⟩) hK hW30 (zlN (hX 18 d (decide_eq_true hd))) rfl rfl (Nat.le_trans hsz hS30.1) hS30 rfl hl.1.1 rfl (Nat.le_of_ble_eq_true rfl) dX6_doNextStop_82 ⟨Nat.le_of_ble_eq_true rfl, Nat.le_of_ble_eq_true rfl⟩ (fun x31 σ31 H31 locs31 hp31 hW31 hz31 hS31 => ?_)
      have hrd : yrd (yns σ d) σ31 d := by
        have hyn : σ30 = yns σ d := by unfold yns; rw [if_pos ⟨hc12.1, hc20.2⟩, hs30, hs28, hs27, hs26, hs25]
        rw [← hyn]
        refine ⟨hp31.1, fun j hj => ?_, hp31.2.2⟩
        exact hp31.2.1 j hj
      refine W.eq (g2 := F0 m 85 ls []) rfl ?_
      refine zz_aload_n hx hb hl 1 dX6_doNextStop_85 rfl rfl ?_
      refine zz_getN (T := TX4) (N := 4) (k := 3) (κ := 18) (w := .int (zi (σ31 18 d 3))) hx hb hts hinX4 hown hK hW31 (zlN (hX 18 d (decide_eq_true hd))) rfl rfl rfl (by decide) (host := "HailCity") (List.mem_of_getElem? (i := 5) rfl) (fun _ h9 => h9) rfl dX6_doNextStop_86 ?_
      refine zz_if_le (tgt := 120) hx hb dX6_doNextStop_89 (by decide) (hW31.2.2.1 _ _ _) (fun hc89 => ?_) (fun hc89 => ?_)
      · refine zz_aload_n hx hb hl 2 dX6_doNextStop_120 rfl rfl ?_
        refine zz_aload_n hx hb hl 3 dX6_doNextStop_121 rfl rfl ?_
        refine zz_iconst hx hb dX6_doNextStop_122 ?_
        refine zz_callV (T := TX6) (N := 10) (As := [zr ad 17 ((d : Nat) : Int), .int (zi 0)]) (rest := []) (v := ((0 : Nat) : Int)) (κ := 0) ⟨hx, hb, hml, hown, hts⟩ (c_X6_queueIfNowFree l G ad A N0 σ31 nd nr hX d hd 0 (Or.inl rfl) (by rw [hrd.2.2 _ _ _ (by omega), yns_fr (by decide) (by omega)]; exact hgt)) (cwV 2 hts gX6_doNextStop_X6_queueIfNowFree rfl rfl rfl (by decide +kernel) ⟨Nat.le_of_ble_eq_true rfl, Nat.le_of_ble_eq_true rfl⟩) hK hW31 (zlN (hX 0 0 rfl)) rfl rfl (Nat.le_trans hsz hS31.1) hS31 rfl hl.1.1 rfl (Nat.le_of_ble_eq_true rfl) dX6_doNextStop_123 ⟨Nat.le_of_ble_eq_true rfl, Nat.le_of_ble_eq_true rfl⟩ (fun x32 σ32 H32 locs32 hp32 hW32 hz32 hS32 => ?_)
        refine W.eq (g2 := F0 m 126 ls []) rfl ?_
        refine W.eq (g2 := F0 m 126 ls []) rfl ?_
        refine zz_retv hx hb hr hlocks hW32 hS32 ?_ dX6_doNextStop_126
        refine ⟨_, hrd, ?_⟩
        unfold ynx
        rw [if_neg (by omega)]
        exact hp32
      · have e6 : σ31 6 = σ 6 := funext fun a => funext fun b => by rw [hrd.2.2 _ _ _ (by omega), yns_fr (by decide) (by omega)]
        have e17 : σ31 17 d 6 = σ 20 d 0 := by
          rw [hrd.2.2 17 d 6 (by omega)]
          unfold yns
          rw [zu_same]
        have e20 : σ31 20 d 0 = σ 20 d 1 := by
          rw [(hrd.2.1 0 (by have := hrd.1; omega)).1, yns_fr (by decide) (by omega)]
        have e8 : σ31 0 0 8 = σ 0 0 8 := by rw [hrd.2.2 _ _ _ (by omega), yns_fr (by decide) (by omega)]
        have hnn : 1 ≤ n := by
          have h1 := hrd.1
          rw [yns_fr (by decide) (by omega)] at h1
          omega
        have hp1 := hP 1 (by omega)
        have hw0 : 0 ≤ σ 6 (σ 20 d 0).toNat (σ 20 d 1).toNat ∧ σ 6 (σ 20 d 0).toNat (σ 20 d 1).toNat ≤ 20480 := hw 0 (by omega)
        have hwq : (0 ≤ σ31 17 d 6 ∧ σ31 17 d 6 < 10) ∧ (0 ≤ σ31 20 d 0 ∧ σ31 20 d 0 < 10) ∧ σ31 6 (σ31 17 d 6).toNat (σ31 20 d 0).toNat < 1000000 := by
          rw [e6, e17, e20]
          exact ⟨hp0, hp1, by omega⟩
        have hgw : σ31 6 (σ31 17 d 6).toNat (σ31 20 d 0).toNat ≤ 20480 ∧ 0 ≤ σ31 6 (σ31 17 d 6).toNat (σ31 20 d 0).toNat := by
          rw [e6, e17, e20]
          exact ⟨hw0.2, hw0.1⟩
        refine zz_aload_n hx hb hl 3 dX6_doNextStop_92 rfl rfl ?_
        refine zz_aload_n hx hb hl 2 dX6_doNextStop_93 rfl rfl ?_
        refine zz_get (T := TX6) (N := 10) (k := 8) (κ := 0) (w := .int (zi (σ31 0 0 8))) hx hb hts hinX6 hown hK hW31 (zlN (hX 0 0 rfl)) rfl rfl rfl (by decide) (hts (.fieldLink RX6 134 "HailCity" "now" "I") (by decide +kernel)) (fun _ h9 => h9) rfl dX6_doNextStop_94 ?_
        refine zz_aload_n hx hb hl 2 dX6_doNextStop_97 rfl rfl ?_
        refine zz_get (T := TX6) (N := 10) (k := 0) (κ := 0) (w := zr ad 1 ((0 : Nat) : Int)) hx hb hts hinX6 hown hK hW31 (zlN (hX 0 0 rfl)) rfl rfl rfl (by decide) (hts (.fieldLink RX6 10 "HailCity" "map" "LHailCity$CityMap;") (by decide +kernel)) (fun _ h9 => h9) rfl dX6_doNextStop_98 ?_
        refine zz_aload_n hx hb hl 3 dX6_doNextStop_101 rfl rfl ?_
        refine zz_getN (T := TX1) (N := 13) (k := 6) (κ := 17) (w := .int (zi (σ31 17 d 6))) hx hb hts hinX1 hown hK hW31 (zlN (hX 17 d (decide_eq_true hd))) rfl rfl rfl (by decide) (host := "HailCity") (List.mem_of_getElem? (i := 15) rfl) (fun _ h9 => h9) rfl dX6_doNextStop_102 ?_
        refine zz_aload_n hx hb hl 1 dX6_doNextStop_105 rfl rfl ?_
        refine zz_iconst hx hb dX6_doNextStop_106 ?_
        refine zz_callV (T := TX4) (N := 4) (As := [.int (zi 0)]) (rest := [.int (zi (σ31 17 d 6)), zr ad 1 ((0 : Nat) : Int), .int (zi (σ31 0 0 8)), zr ad 17 ((d : Nat) : Int)]) (v := ((d : Nat) : Int)) (κ := 18) ⟨hx, hb, hml, hown, hts⟩ (c_X4_placeAt l G ad A N0 σ31 nd nr hX d hd (0 : Int) ⟨by decide, by decide⟩ (by omega) (by rw [hrd.1, yns_fr (by decide) (by omega)]; omega)) (cwV 1 hts gX6_doNextStop_X4_placeAt rfl rfl rfl (by decide +kernel) ⟨Nat.le_of_ble_eq_true rfl, Nat.le_of_ble_eq_true rfl⟩) hK hW31 (zlN (hX 18 d (decide_eq_true hd))) rfl rfl (Nat.le_trans hsz hS31.1) hS31 rfl hl.1.1 rfl (by simp [zr_cat, zcat_i]) dX6_doNextStop_107 ⟨Nat.le_of_ble_eq_true rfl, Nat.le_of_ble_eq_true rfl⟩ (fun x33 σ33 H33 locs33 hp33 hW33 hz33 hS33 => ?_)
        obtain ⟨rfl, hx9⟩ := hp33
        rw [if_pos (by omega)] at hx9
        obtain rfl := hx9
        refine W.eq (g2 := F0 m 110 ls [.int (zi (σ31 20 d 0)), .int (zi (σ31 17 d 6)), zr ad 1 ((0 : Nat) : Int), .int (zi (σ31 0 0 8)), zr ad 17 ((d : Nat) : Int)]) rfl ?_
        refine zz_callV (T := TX0) (N := 5) (As := [.int (zi (σ31 17 d 6)), .int (zi (σ31 20 d 0))]) (rest := [.int (zi (σ31 0 0 8)), zr ad 17 ((d : Nat) : Int)]) (v := ((0 : Nat) : Int)) (κ := 1) ⟨hx, hb, hml, hown, hts⟩ (c_X0_minutesBetween l G ad A N0 σ31 nd nr hX (σ31 17 d 6) (σ31 20 d 0) (hW33.2.2.1 _ _ _) (hW33.2.2.1 _ _ _)) (cwV 2 hts gX6_doNextStop_X0_minutesBetween rfl rfl rfl (by decide +kernel) ⟨Nat.le_of_ble_eq_true rfl, Nat.le_of_ble_eq_true rfl⟩) hK hW33 (zlN (hX 1 0 rfl)) rfl rfl (Nat.le_trans hsz hS33.1) hS33 rfl hl.1.1 rfl (by simp [zr_cat, zcat_i]) dX6_doNextStop_110 ⟨Nat.le_of_ble_eq_true rfl, Nat.le_of_ble_eq_true rfl⟩ (fun x34 σ34 H34 locs34 hp34 hW34 hz34 hS34 => ?_)
        obtain ⟨rfl, hx9⟩ := hp34
        rw [if_pos hwq] at hx9
        obtain rfl := hx9
        refine W.eq (g2 := F0 m 113 ls [.int (zi (σ31 6 (σ31 17 d 6).toNat (σ31 20 d 0).toNat)), .int (zi (σ31 0 0 8)), zr ad 17 ((d : Nat) : Int)]) rfl ?_
        refine zz_iadd hx hb dX6_doNextStop_113 ?_
        refine zz_putN (T := TX1) (N := 13) (k := 9) (κ := 17) (v := ((d : Nat) : Int)) (x := ((σ31 0 0 8) + (σ31 6 (σ31 17 d 6).toNat (σ31 20 d 0).toNat))) (ty := .int) hx hb hts hinX1 tyX1 tyX1_ok nmX1 hown hK hW34 hS34 (zlN (hX 17 d (decide_eq_true hd))) rfl rfl rfl (by decide) (host := "HailCity") (List.mem_of_getElem? (i := 19) rfl) (fun _ h9 => h9) rfl (by decide +kernel) rfl rfl rfl ⟨by omega, by omega⟩ (fun h9 _ => absurd h9 (by decide)) (fun h9 => absurd h9 (by decide)) dX6_doNextStop_114 (fun H35 locs35 hW35' hS35 => ?_)
        obtain ⟨σ35, hs35⟩ : ∃ z, z = zu σ31 17 d 9 ((σ31 0 0 8) + (σ31 6 (σ31 17 d 6).toNat (σ31 20 d 0).toNat)) := ⟨_, rfl⟩
        have hW35 : ZW G ad A σ35 H35 := by rw [hs35]; exact hW35'
        refine zz_goto (tgt := 126) hx hb dX6_doNextStop_117 (by decide) ?_
        refine W.eq (g2 := F0 m 126 ls []) rfl ?_
        refine zz_retv hx hb hr hlocks hW35 hS35 ?_ dX6_doNextStop_126
        refine ⟨_, hrd, ?_⟩
        unfold ynx
        rw [if_pos (by omega), hs35]
