set_option maxHeartbeats 4000000 in
set_option maxRecDepth 100000 in
theorem c_X6_zoneOf (l : Launch) (G : zG) (ad : zA) (A : Nat → Prop) (N0 : Nat) (σ : zS) (a : Int) (ga : zg a) (ha : 0 ≤ a) : Met l yX6_zoneOf wsX6_zoneOf ({ frames := 0, cells := 0, slots := 0, locals := 0 }) (zP G ad A N0 σ [.int (zi a)]) (zQ G ad A zri (fun r u => σ = u ∧ a / 3 = r)) 0 0 A := by
  refine zz_of (cc := cX6_zoneOf) (maxL := 1) (ret := (some .int)) (by decide) rfl ⟨rfl, rfl⟩ (List.forall_mem_cons.mpr ⟨rfl, fun _ h => absurd h List.not_mem_nil⟩) (Nat.le_of_ble_eq_true rfl) ?_
  intro p e s m below meth c hx hb hr hml hts hown hlocks hsz hW0 hK ls hl
  have hS0 : va_S A s.heap s.heap [] := va_S.rf
  have hl : zh ls 1 [(0, .int (zi a))] := hl
  refine zz_iload_n hx hb hl 0 dX6_zoneOf_0 rfl rfl ?_
  refine zz_iconst hx hb dX6_zoneOf_1 ?_
  refine zz_idiv hx hb dX6_zoneOf_2 ga ⟨by decide, by decide⟩ (by omega) (by omega) ?_
  refine W.eq (g2 := F0 m 3 ls [.int (zi (a / 3))]) rfl ?_
  refine zz_reti hx hb hr hlocks hW0 hS0 ?_ dX6_zoneOf_3
  exact ⟨rfl, rfl⟩

/-- the driver d is FREE -/
def yfr (σ : zS) (d : Nat) : Prop := σ 18 d 3 = 0 ∧ σ 17 d 7 = 0 ∧ σ 17 d 5 = 0
noncomputable def yqf (σ : zS) (d : Nat) (was : Prop) : zS := @ite zS (¬ was ∧ yfr σ d) (Classical.propDecidable _) (zu (zu σ 17 d 8 (σ 0 0 9)) 0 0 9 (σ 0 0 9 + 1)) σ
/-- who is first in the airport's queue among n drivers, or -1 -/
noncomputable def yfq (σ : zS) : Nat → Int
  | 0 => -1
  | d + 1 => @ite Int (yfr σ d ∧ σ 17 d 6 = 0 ∧ (yfq σ d < 0 ∨ σ 17 d 8 < σ 17 (yfq σ d).toNat 8)) (Classical.propDecidable _) (d : Int) (yfq σ d)
theorem yfq_rg (σ : zS) : ∀ n, -1 ≤ yfq σ n ∧ yfq σ n < n
  | 0 => ⟨Int.le_refl _, by show (-1 : Int) < (0 : Nat); omega⟩
  | n + 1 => by
    have h := yfq_rg σ n
    unfold yfq
    split <;> omega
/-- sums -/
def yhs (f : Nat → Int) : Nat → Int
  | 0 => 0
  | n + 1 => yhs f n + f n
theorem yhs_rg {f : Nat → Int} {M : Int} (h : ∀ j, 0 ≤ f j ∧ f j ≤ M) : ∀ n, 0 ≤ yhs f n ∧ yhs f n ≤ M * n
  | 0 => ⟨Int.le_refl _, by show (0 : Int) ≤ M * (0 : Nat); simp⟩
  | n + 1 => by
    have h1 := yhs_rg h n
    have h2 := h n
    have h3 : M * ((n + 1 : Nat) : Int) = M * n + M := by rw [Int.natCast_add, Int.mul_add]; simp
    show 0 ≤ yhs f n + f n ∧ yhs f n + f n ≤ _
    omega
noncomputable def yh1 (σ : zS) (z : Int) (j : Nat) : Int := 25 * zb (σ 23 j 6 = 0 ∧ σ 23 j 1 / 3 = z)
noncomputable def yh2 (σ : zS) (z : Int) (j : Nat) : Int := 25 * zb (yfr σ j ∧ σ 17 j 6 / 3 = z)
theorem yh1_rg (σ : zS) (z : Int) (j : Nat) : 0 ≤ yh1 σ z j ∧ yh1 σ z j ≤ 25 := by
  unfold yh1
  rcases zb_01 (σ 23 j 6 = 0 ∧ σ 23 j 1 / 3 = z) with h | h <;> rw [h] <;> decide
theorem yh2_rg (σ : zS) (z : Int) (j : Nat) : 0 ≤ yh2 σ z j ∧ yh2 σ z j ≤ 25 := by
  unfold yh2
  rcases zb_01 (yfr σ j ∧ σ 17 j 6 / 3 = z) with h | h <;> rw [h] <;> decide

set_option maxHeartbeats 4000000 in
set_option maxRecDepth 100000 in
theorem c_X6_queueIfNowFree (l : Launch) (G : zG) (ad : zA) (A : Nat → Prop) (N0 : Nat) (σ : zS) (nd nr : Nat) (hX : zX ad nd nr) (d : Nat) (hd : d < nd) (was : Prop) (hgt : 0 ≤ σ 0 0 9 ∧ σ 0 0 9 < 2000000000) : Met l yX6_queueIfNowFree wsX6_queueIfNowFree ({ frames := 1, cells := 0, slots := 0, locals := 20 }) (zP G ad A N0 σ [zr ad 0 ((0 : Nat) : Int), zr ad 17 ((d : Nat) : Int), .int (zi (zb was))]) (zQ G ad A zrv (fun _ u => yqf σ d was = u)) 0 0 A := by
  refine zz_of (cc := cX6_queueIfNowFree) (maxL := 3) (ret := none) (by decide) rfl ⟨rfl, rfl⟩ (List.forall_mem_cons.mpr ⟨zr_cat _ _ _, List.forall_mem_cons.mpr ⟨zr_cat _ _ _, List.forall_mem_cons.mpr ⟨rfl, fun _ h => absurd h List.not_mem_nil⟩⟩⟩) (Nat.le_of_ble_eq_true rfl) ?_
  intro p e s m below meth c hx hb hr hml hts hown hlocks hsz hW0 hK ls hl
  have hS0 : va_S A s.heap s.heap [] := va_S.rf
  have hl : zh ls 3 [(0, zr ad 0 ((0 : Nat) : Int)), (1, zr ad 17 ((d : Nat) : Int)), (2, .int (zi (zb was)))] := hl
  have hinX1 : ∀ w ∈ u_ws RX1 TX1 13, w ∈ wsX6_queueIfNowFree := by decide +kernel
  have hinX6 : ∀ w ∈ u_ws RX6 TX6 10, w ∈ wsX6_queueIfNowFree := by decide +kernel
  refine zz_iload_n hx hb hl 2 dX6_queueIfNowFree_0 rfl rfl ?_
  refine zz_if_neb (tgt := 29) hx hb dX6_queueIfNowFree_1 (by decide) (fun hc1 => ?_) (fun hc1 => ?_)
  · refine W.eq (g2 := F0 m 29 ls []) rfl ?_
    refine zz_retv hx hb hr hlocks hW0 hS0 ?_ dX6_queueIfNowFree_29
    exact if_neg (fun q => q.1 hc1)
  · refine zz_aload_n hx hb hl 1 dX6_queueIfNowFree_4 rfl rfl ?_
    refine zz_callV (T := TX1) (N := 13) (As := []) (rest := []) (v := ((d : Nat) : Int)) (κ := 17) ⟨hx, hb, hml, hown, hts⟩ (c_X1_isFree l G ad A N0 σ nd nr hX d hd) (cwV 0 hts gX6_queueIfNowFree_X1_isFree rfl rfl rfl (by decide +kernel) ⟨Nat.le_of_ble_eq_true rfl, Nat.le_of_ble_eq_true rfl⟩) hK hW0 (zlN (hX 17 d (decide_eq_true hd))) rfl rfl (Nat.le_trans hsz hS0.1) hS0 rfl hl.1.1 rfl (Nat.le_of_ble_eq_true rfl) dX6_queueIfNowFree_5 ⟨Nat.le_of_ble_eq_true rfl, Nat.le_of_ble_eq_true rfl⟩ (fun x1 σ1 H1 locs1 hp1 hW1 hz1 hS1 => ?_)
    obtain ⟨rfl, rfl⟩ := hp1
    refine W.eq (g2 := F0 m 8 ls [.int (zi (zb (σ 18 d 3 = 0 ∧ σ 17 d 7 = 0 ∧ σ 17 d 5 = 0)))]) rfl ?_
    refine zz_if_eqb (tgt := 29) hx hb dX6_queueIfNowFree_8 (by decide) (fun hc8 => ?_) (fun hc8 => ?_)
    · refine W.eq (g2 := F0 m 29 ls []) rfl ?_
      refine zz_retv hx hb hr hlocks hW1 hS1 ?_ dX6_queueIfNowFree_29
      refine if_neg (fun (q : ¬ was ∧ yfr σ d) => ?_)
      exact hc8 q.2
    · refine zz_aload_n hx hb hl 1 dX6_queueIfNowFree_11 rfl rfl ?_
      refine zz_aload_n hx hb hl 0 dX6_queueIfNowFree_12 rfl rfl ?_
      refine zz_get (T := TX6) (N := 10) (k := 9) (κ := 0) (w := .int (zi (σ 0 0 9))) hx hb hts hinX6 hown hK hW1 (zlN (hX 0 0 rfl)) rfl rfl rfl (by decide) (hts (.fieldLink RX6 284 "HailCity" "timesFree" "I") (by decide +kernel)) (fun _ h9 => h9) rfl dX6_queueIfNowFree_13 ?_
      refine zz_putN (T := TX1) (N := 13) (k := 8) (κ := 17) (v := ((d : Nat) : Int)) (x := (σ 0 0 9)) (ty := .int) hx hb hts hinX1 tyX1 tyX1_ok nmX1 hown hK hW1 hS1 (zlN (hX 17 d (decide_eq_true hd))) rfl rfl rfl (by decide) (host := "HailCity") (List.mem_of_getElem? (i := 17) rfl) (fun _ h9 => h9) rfl (by decide +kernel) rfl rfl rfl (hW1.2.2.1 _ _ _) (fun h9 _ => absurd h9 (by decide)) (fun h9 => absurd h9 (by decide)) dX6_queueIfNowFree_16 (fun H2 locs2 hW2' hS2 => ?_)
      obtain ⟨σ2, hs2⟩ : ∃ z, z = zu σ 17 d 8 (σ 0 0 9) := ⟨_, rfl⟩
      have hW2 : ZW G ad A σ2 H2 := by rw [hs2]; exact hW2'
      refine zz_aload_n hx hb hl 0 dX6_queueIfNowFree_19 rfl rfl ?_
      refine lv_dup hx hb dX6_queueIfNowFree_20 (zr_cat _ _ _) ?_
      refine zz_get (T := TX6) (N := 10) (k := 9) (κ := 0) (w := .int (zi (σ 0 0 9))) hx hb hts hinX6 hown hK hW2 (zlN (hX 0 0 rfl)) rfl rfl rfl (by decide) (hts (.fieldLink RX6 284 "HailCity" "timesFree" "I") (by decide +kernel)) (fun _ h9 => h9) (congrArg (fun z => Value.int (zi z)) (show σ2 0 0 9 = σ 0 0 9 from by rw [hs2, zu_k (by decide)])) dX6_queueIfNowFree_21 ?_
      refine zz_iconst hx hb dX6_queueIfNowFree_24 ?_
      refine zz_iadd hx hb dX6_queueIfNowFree_25 ?_
      refine zz_put (T := TX6) (N := 10) (k := 9) (κ := 0) (v := ((0 : Nat) : Int)) (x := ((σ 0 0 9) + 1)) (ty := .int) hx hb hts hinX6 tyX6 tyX6_ok nmX6 hown hK hW2 hS2 (zlN (hX 0 0 rfl)) rfl rfl rfl (by decide) (hts (.fieldLink RX6 284 "HailCity" "timesFree" "I") (by decide +kernel)) (fun _ h9 => h9) rfl (by decide +kernel) rfl rfl rfl ⟨by omega, by omega⟩ (fun h9 _ => absurd h9 (by decide)) (fun h9 => absurd h9 (by decide)) dX6_queueIfNowFree_26 (fun H3 locs3 hW3' hS3 => ?_)
      obtain ⟨σ3, hs3⟩ : ∃ z, z = zu σ2 0 0 9 ((σ 0 0 9) + 1) := ⟨_, rfl⟩
      have hW3 : ZW G ad A σ3 H3 := by rw [hs3]; exact hW3'
      refine W.eq (g2 := F0 m 29 ls []) rfl ?_
      refine zz_retv hx hb hr hlocks hW3 hS3 ?_ dX6_queueIfNowFree_29
      exact (if_pos (show ¬ was ∧ yfr σ d from ⟨hc1, hc8⟩)).trans (by rw [hs3, hs2])

set_option maxHeartbeats 4000000 in
set_option maxRecDepth 100000 in
theorem c_X6_firstInQueue (l : Launch) (G : zG) (ad : zA) (A : Nat → Prop) (N0 : Nat) (σ : zS) (nd nr : Nat) (hX : zX ad nd nr) (hnd : nd ≤ 8) (hnr : nr ≤ 60) (h5 : σ 0 0 5 = (nd : Int)) (h6 : σ 0 0 6 = (nr : Int)) (hD : ∀ i, i < nd → σ 15 0 i = (i : Int)) (hQ : ∀ i, i < nr → σ 16 0 i = (i : Int)) : Met l yX6_firstInQueue wsX6_firstInQueue ({ frames := 1, cells := 0, slots := 0, locals := 20 }) (zP G ad A N0 σ [zr ad 0 ((0 : Nat) : Int)]) (zQ G ad A (zrr ad 17) (fun r u => σ = u ∧ yfq σ nd = r)) 0 0 A := by
  refine zz_of (cc := cX6_firstInQueue) (maxL := 4) (ret := (some (.object "HailCity$Driver"))) (by decide) rfl ⟨rfl, rfl⟩ (List.forall_mem_cons.mpr ⟨zr_cat _ _ _, fun _ h => absurd h List.not_mem_nil⟩) (Nat.le_of_ble_eq_true rfl) ?_
  intro p e s m below meth c hx hb hr hml hts hown hlocks hsz hW0 hK ls hl
  have hS0 : va_S A s.heap s.heap [] := va_S.rf
  have hl : zh ls 4 [(0, zr ad 0 ((0 : Nat) : Int))] := hl
  have hinX1 : ∀ w ∈ u_ws RX1 TX1 13, w ∈ wsX6_firstInQueue := by decide +kernel
  have hinX6 : ∀ w ∈ u_ws RX6 TX6 10, w ∈ wsX6_firstInQueue := by decide +kernel
  refine zz_null hx hb dX6_firstInQueue_0 ad 17 ?_
  refine zz_astore_n (lv' := [(1, zr ad 17 (-1)), (0, zr ad 0 ((0 : Nat) : Int))]) hx hb hl dX6_firstInQueue_1 rfl (by decide) rfl (fun ls hl => ?_)
  refine zz_iconst hx hb dX6_firstInQueue_2 ?_
  refine zz_istore_n (lv' := [(2, .int (zi 0)), (1, zr ad 17 (-1)), (0, zr ad 0 ((0 : Nat) : Int))]) hx hb hl dX6_firstInQueue_3 rfl (by decide) rfl (fun ls hl => ?_)
  have hcut4 : ∀ (n9 : Nat) (i : Nat)  (H9 : Heap) (locs9 : List Loc) (ls : Array Slot), (i ≤ nd) → (nd - i) < n9 → ZW G ad A σ H9 → va_S A s.heap H9 locs9 → zh ls 4 [(0, zr ad 0 ((0 : Nat) : Int)), (1, zr ad 17 (yfq σ i)), (2, .int (zi ((i : Nat) : Int)))] → W p l e ({ frames := 1, cells := 0, slots := 0, locals := 20 }) s m ([zr ad 0 ((0 : Nat) : Int)] : List Value).toArray below meth c H9 locs9 0 0 (MQ below (zQ G ad A (zrr ad 17) (fun r u => σ = u ∧ yfq σ nd = r)) ([zr ad 0 ((0 : Nat) : Int)] : List Value).toArray s 0 0 A) (F0 m 4 ls []) := by
    intro n9
    induction n9 with
    | zero =>
      intro i H1 locs1 ls hI4 hm4 hW1 hS1 hl
      exact absurd hm4 (Nat.not_lt_zero _)
    | succ n9 ih4 =>
      intro i H1 locs1 ls hI4 hm4 hW1 hS1 hl
      have hyf := yfq_rg σ i
      have hzf : zln ad 17 (yfq σ i) := by
        rcases Int.lt_or_le (yfq σ i) 0 with h | h
        · exact Or.inl h
        · exact Or.inr ⟨h, hX 17 _ (decide_eq_true (by omega))⟩
      refine zz_iload_n hx hb hl 2 dX6_firstInQueue_4 rfl rfl ?_
      refine zz_aload_n hx hb hl 0 dX6_firstInQueue_5 rfl rfl ?_
      refine zz_get (T := TX6) (N := 10) (k := 5) (κ := 0) (w := .int (zi ((nd : Nat) : Int))) hx hb hts hinX6 hown hK hW1 (zlN (hX 0 0 rfl)) rfl rfl rfl (by decide) (hts (.fieldLink RX6 87 "HailCity" "driverCount" "I") (by decide +kernel)) (fun _ h9 => h9) (congrArg (fun z => Value.int (zi z)) (show σ 0 0 5 = ((nd : Nat) : Int) from by rw [h5])) dX6_firstInQueue_6 ?_
      refine zz_icmp_ge (tgt := 56) hx hb dX6_firstInQueue_9 (by decide) ⟨by omega, by omega⟩ ⟨by omega, by omega⟩ (fun hc9 => ?_) (fun hc9 => ?_)
      · refine zz_aload_n hx hb hl 1 dX6_firstInQueue_56 rfl rfl ?_
        refine W.eq (g2 := F0 m 57 ls [zr ad 17 (yfq σ i)]) rfl ?_
        refine zz_reta hx hb hr hlocks hW1 hS1 ?_ dX6_firstInQueue_57
        exact ⟨rfl, by rw [show nd = i by omega]⟩
      · refine zz_aload_n hx hb hl 0 dX6_firstInQueue_12 rfl rfl ?_
        refine zz_get (T := TX6) (N := 10) (k := 1) (κ := 0) (w := zr ad 15 ((0 : Nat) : Int)) hx hb hts hinX6 hown hK hW1 (zlN (hX 0 0 rfl)) rfl rfl rfl (by decide) (hts (.fieldLink RX6 18 "HailCity" "drivers" "[LHailCity$Driver;") (by decide +kernel)) (fun _ h9 => h9) rfl dX6_firstInQueue_13 ?_
        refine zz_iload_n hx hb hl 2 dX6_firstInQueue_16 rfl rfl ?_
        refine zz_aald (w := zr ad 17 ((i : Nat) : Int)) hx hb hK hW1 (zlN (hX 15 0 rfl)) rfl rfl (by show (0 : Int) ≤ ((i : Nat) : Int); omega) (by show ((i : Nat) : Int) < (8 : Int); omega) ((zv_r (Nat.le_of_ble_eq_true rfl) (Nat.le_of_ble_eq_true rfl)).trans (congrArg (zr ad 17) (show σ 15 0 i = ((i : Nat) : Int) from by rw [hD i (by omega)]))) dX6_firstInQueue_17 ?_
        refine zz_astore_n (lv' := [(3, zr ad 17 ((i : Nat) : Int)), (0, zr ad 0 ((0 : Nat) : Int)), (1, zr ad 17 (yfq σ i)), (2, .int (zi ((i : Nat) : Int)))]) hx hb hl dX6_firstInQueue_18 rfl (by decide) rfl (fun ls hl => ?_)
        refine zz_aload_n hx hb hl 0 dX6_firstInQueue_19 rfl rfl ?_
        refine zz_callV (T := TX1) (N := 13) (As := []) (rest := []) (v := ((i : Nat) : Int)) (κ := 17) ⟨hx, hb, hml, hown, hts⟩ (c_X1_isFree l G ad A N0 σ nd nr hX i (by omega)) (cwV 0 hts gX6_firstInQueue_X1_isFree rfl rfl rfl (by decide +kernel) ⟨Nat.le_of_ble_eq_true rfl, Nat.le_of_ble_eq_true rfl⟩) hK hW1 (zlN (hX 17 i (decide_eq_true (by omega)))) rfl rfl (Nat.le_trans hsz hS1.1) hS1 rfl hl.1.1 rfl (Nat.le_of_ble_eq_true rfl) dX6_firstInQueue_20 ⟨Nat.le_of_ble_eq_true rfl, Nat.le_of_ble_eq_true rfl⟩ (fun x2 σ2 H2 locs2 hp2 hW2 hz2 hS2 => ?_)
        obtain ⟨rfl, rfl⟩ := hp2
        refine W.eq (g2 := F0 m 23 ls [.int (zi (zb (σ 18 i 3 = 0 ∧ σ 17 i 7 = 0 ∧ σ 17 i 5 = 0)))]) rfl ?_
        refine zz_if_eqb (tgt := 50) hx hb dX6_firstInQueue_23 (by decide) (fun hc23 => ?_) (fun hc23 => ?_)
        · refine zz_iinc (lv' := [(2, .int (zi (((i : Nat) : Int) + 1))), (3, zr ad 17 ((i : Nat) : Int)), (0, zr ad 0 ((0 : Nat) : Int)), (1, zr ad 17 (yfq σ i))]) hx hb hl dX6_firstInQueue_50 (k0 := 3) rfl (by decide) rfl (fun ls hl => ?_)
          refine zz_goto (tgt := 4) hx hb dX6_firstInQueue_53 (by decide) ?_
          refine ih4 (i + 1) H2 locs2 ls ?_ (by omega) hW2 hS2 (zh_sub hl [2, 3, 0] (by
                    have e9 : yfq σ (i + 1) = yfq σ i := by
                      first | exact if_pos (show yfr σ i ∧ σ 17 i 6 = 0 ∧ (yfq σ i < 0 ∨ σ 17 i 8 < σ 17 (yfq σ i).toNat 8) from ⟨hc23, hc30, by first | exact Or.inl hc34 | exact Or.inr (by omega)⟩) | exact if_neg (fun q => hc23 q.1) | exact if_neg (fun q => hc30 q.2.1) | (refine if_neg (fun q => ?_); have h1 := hc34.1; have h2 := q.2.2; omega)
                    rw [e9]; rfl))
          omega
        · refine zz_aload_n hx hb hl 0 dX6_firstInQueue_26 rfl rfl ?_
          refine zz_getN (T := TX1) (N := 13) (k := 6) (κ := 17) (w := .int (zi (σ 17 i 6))) hx hb hts hinX1 hown hK hW2 (zlN (hX 17 i (decide_eq_true (by omega)))) rfl rfl rfl (by decide) (host := "HailCity") (List.mem_of_getElem? (i := 15) rfl) (fun _ h9 => h9) rfl dX6_firstInQueue_27 ?_
          refine zz_if_ne (tgt := 50) hx hb dX6_firstInQueue_30 (by decide) (hW2.2.2.1 _ _ _) (fun hc30 => ?_) (fun hc30 => ?_)
          · refine zz_iinc (lv' := [(2, .int (zi (((i : Nat) : Int) + 1))), (3, zr ad 17 ((i : Nat) : Int)), (0, zr ad 0 ((0 : Nat) : Int)), (1, zr ad 17 (yfq σ i))]) hx hb hl dX6_firstInQueue_50 (k0 := 3) rfl (by decide) rfl (fun ls hl => ?_)
            refine zz_goto (tgt := 4) hx hb dX6_firstInQueue_53 (by decide) ?_
            refine ih4 (i + 1) H2 locs2 ls ?_ (by omega) hW2 hS2 (zh_sub hl [2, 3, 0] (by
                      have e9 : yfq σ (i + 1) = yfq σ i := by
                        first | exact if_pos (show yfr σ i ∧ σ 17 i 6 = 0 ∧ (yfq σ i < 0 ∨ σ 17 i 8 < σ 17 (yfq σ i).toNat 8) from ⟨hc23, hc30, by first | exact Or.inl hc34 | exact Or.inr (by omega)⟩) | exact if_neg (fun q => hc23 q.1) | exact if_neg (fun q => hc30 q.2.1) | (refine if_neg (fun q => ?_); have h1 := hc34.1; have h2 := q.2.2; omega)
                      rw [e9]; rfl))
            omega
          · refine zz_aload_n hx hb hl 2 dX6_firstInQueue_33 rfl rfl ?_
            refine zz_ifnull (tgt := 48) hx hb hzf dX6_firstInQueue_34 (by decide) (fun hc34 => ?_) (fun hc34 => ?_)
            · refine zz_aload_n hx hb hl 0 dX6_firstInQueue_48 rfl rfl ?_
              refine zz_astore_n (lv' := [(1, zr ad 17 ((i : Nat) : Int)), (3, zr ad 17 ((i : Nat) : Int)), (0, zr ad 0 ((0 : Nat) : Int)), (2, .int (zi ((i : Nat) : Int)))]) hx hb hl dX6_firstInQueue_49 rfl (by decide) rfl (fun ls hl => ?_)
              refine zz_iinc (lv' := [(2, .int (zi (((i : Nat) : Int) + 1))), (1, zr ad 17 ((i : Nat) : Int)), (3, zr ad 17 ((i : Nat) : Int)), (0, zr ad 0 ((0 : Nat) : Int))]) hx hb hl dX6_firstInQueue_50 (k0 := 3) rfl (by decide) rfl (fun ls hl => ?_)
              refine zz_goto (tgt := 4) hx hb dX6_firstInQueue_53 (by decide) ?_
              refine ih4 (i + 1) H2 locs2 ls ?_ (by omega) hW2 hS2 (zh_sub hl [3, 1, 0] (by
                        have e9 : yfq σ (i + 1) = ((i : Nat) : Int) := by
                          first | exact if_pos (show yfr σ i ∧ σ 17 i 6 = 0 ∧ (yfq σ i < 0 ∨ σ 17 i 8 < σ 17 (yfq σ i).toNat 8) from ⟨hc23, hc30, by first | exact Or.inl hc34 | exact Or.inr (by omega)⟩) | exact if_neg (fun q => hc23 q.1) | exact if_neg (fun q => hc30 q.2.1) | (refine if_neg (fun q => ?_); have h1 := hc34.1; have h2 := q.2.2; omega)
                        rw [e9]; rfl))
              omega
            · refine zz_aload_n hx hb hl 0 dX6_firstInQueue_37 rfl rfl ?_
              refine zz_getN (T := TX1) (N := 13) (k := 8) (κ := 17) (w := .int (zi (σ 17 i 8))) hx hb hts hinX1 hown hK hW2 (zlN (hX 17 i (decide_eq_true (by omega)))) rfl rfl rfl (by decide) (host := "HailCity") (List.mem_of_getElem? (i := 17) rfl) (fun _ h9 => h9) rfl dX6_firstInQueue_38 ?_
              refine zz_aload_n hx hb hl 2 dX6_firstInQueue_41 rfl rfl ?_
              refine zz_getN (T := TX1) (N := 13) (k := 8) (κ := 17) (w := .int (zi (σ 17 ((yfq σ i).toNat) 8))) hx hb hts hinX1 hown hK hW2 hc34 rfl rfl rfl (by decide) (host := "HailCity") (List.mem_of_getElem? (i := 17) rfl) (fun _ h9 => h9) rfl dX6_firstInQueue_42 ?_
              refine zz_icmp_ge (tgt := 50) hx hb dX6_firstInQueue_45 (by decide) (hW2.2.2.1 _ _ _) (hW2.2.2.1 _ _ _) (fun hc45 => ?_) (fun hc45 => ?_)
              · refine zz_iinc (lv' := [(2, .int (zi (((i : Nat) : Int) + 1))), (3, zr ad 17 ((i : Nat) : Int)), (0, zr ad 0 ((0 : Nat) : Int)), (1, zr ad 17 (yfq σ i))]) hx hb hl dX6_firstInQueue_50 (k0 := 3) rfl (by decide) rfl (fun ls hl => ?_)
                refine zz_goto (tgt := 4) hx hb dX6_firstInQueue_53 (by decide) ?_
                refine ih4 (i + 1) H2 locs2 ls ?_ (by omega) hW2 hS2 (zh_sub hl [2, 3, 0] (by
                          have e9 : yfq σ (i + 1) = yfq σ i := by
                            first | exact if_pos (show yfr σ i ∧ σ 17 i 6 = 0 ∧ (yfq σ i < 0 ∨ σ 17 i 8 < σ 17 (yfq σ i).toNat 8) from ⟨hc23, hc30, by first | exact Or.inl hc34 | exact Or.inr (by omega)⟩) | exact if_neg (fun q => hc23 q.1) | exact if_neg (fun q => hc30 q.2.1) | (refine if_neg (fun q => ?_); have h1 := hc34.1; have h2 := q.2.2; omega)
                          rw [e9]; rfl))
                omega
              · refine zz_aload_n hx hb hl 0 dX6_firstInQueue_48 rfl rfl ?_
                refine zz_astore_n (lv' := [(1, zr ad 17 ((i : Nat) : Int)), (3, zr ad 17 ((i : Nat) : Int)), (0, zr ad 0 ((0 : Nat) : Int)), (2, .int (zi ((i : Nat) : Int)))]) hx hb hl dX6_firstInQueue_49 rfl (by decide) rfl (fun ls hl => ?_)
                refine zz_iinc (lv' := [(2, .int (zi (((i : Nat) : Int) + 1))), (1, zr ad 17 ((i : Nat) : Int)), (3, zr ad 17 ((i : Nat) : Int)), (0, zr ad 0 ((0 : Nat) : Int))]) hx hb hl dX6_firstInQueue_50 (k0 := 3) rfl (by decide) rfl (fun ls hl => ?_)
                refine zz_goto (tgt := 4) hx hb dX6_firstInQueue_53 (by decide) ?_
                refine ih4 (i + 1) H2 locs2 ls ?_ (by omega) hW2 hS2 (zh_sub hl [3, 1, 0] (by
                          have e9 : yfq σ (i + 1) = ((i : Nat) : Int) := by
                            first | exact if_pos (show yfr σ i ∧ σ 17 i 6 = 0 ∧ (yfq σ i < 0 ∨ σ 17 i 8 < σ 17 (yfq σ i).toNat 8) from ⟨hc23, hc30, by first | exact Or.inl hc34 | exact Or.inr (by omega)⟩) | exact if_neg (fun q => hc23 q.1) | exact if_neg (fun q => hc30 q.2.1) | (refine if_neg (fun q => ?_); have h1 := hc34.1; have h2 := q.2.2; omega)
                          rw [e9]; rfl))
                omega
  refine hcut4 _ 0 s.heap [] ls ?_ (Nat.lt_succ_self _) hW0 hS0 (zh_sub hl [2, 1, 0] rfl)
  exact Nat.zero_le _
