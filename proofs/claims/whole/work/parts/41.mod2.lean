def yhr (σ : zS) (d i : Nat) : Prop := ∃ j, j < i ∧ σ 54 0 (8 * d + j) ≠ -1
theorem yhr_s {σ : zS} {d i : Nat} : yhr σ d (i + 1) ↔ yhr σ d i ∨ σ 54 0 (8 * d + i) ≠ -1 := by
  constructor
  · rintro ⟨j, h1, h2⟩
    rcases Nat.lt_or_ge j i with h | h
    · exact Or.inl ⟨j, h, h2⟩
    · rw [show j = i by omega] at h2
      exact Or.inr h2
  · rintro (⟨j, h1, h2⟩ | h)
    · exact ⟨j, by omega, h2⟩
    · exact ⟨i, by omega, h⟩
def yrt (σ : zS) (d : Nat) : Int := if min (σ 58 0 d) 10 = 0 then 500 else 100 * zsum (fun j => σ 59 0 (10 * d + j)) (min (σ 58 0 d) 10).toNat / min (σ 58 0 d) 10
def ywt (σ : zS) (k : Nat) : Prop := σ 64 0 k = 0 ∧ σ 65 0 k ≠ 0
noncomputable def ylc (σ : zS) : Nat → Nat
  | 0 => 0
  | n + 1 => @ite Nat (ywt σ n) (Classical.propDecidable _) (ylc σ n + 1) (ylc σ n)
theorem ylc_le (σ : zS) : ∀ n, ylc σ n ≤ n
  | 0 => Nat.le_refl _
  | n + 1 => by
    have h := ylc_le σ n
    unfold ylc
    split <;> omega
theorem ylc_t {σ : zS} {n : Nat} (h : ywt σ n) : ylc σ (n + 1) = ylc σ n + 1 := if_pos h
theorem ylc_f {σ : zS} {n : Nat} (h : ¬ ywt σ n) : ylc σ (n + 1) = ylc σ n := if_neg h
theorem ylc_mono {σ : zS} {a : Nat} : ∀ b, a ≤ b → ylc σ a ≤ ylc σ b
  | 0, h => by rw [show a = 0 by omega]; exact Nat.le_refl _
  | b + 1, h => by
    by_cases e : a = b + 1
    · rw [e]; exact Nat.le_refl _
    · have ih := ylc_mono (σ := σ) (a := a) b (by omega)
      have : ylc σ b ≤ ylc σ (b + 1) := by
        rcases Classical.em (ywt σ b) with h9 | h9
        · rw [ylc_t h9]; omega
        · rw [ylc_f h9]; exact Nat.le_refl _
      omega
noncomputable def ym1 (σ : zS) (z : Int) (j : Nat) : Int := 25 * zb (σ 64 0 j = 0 ∧ σ 65 0 j / 3 = z)
noncomputable def ym2 (σ : zS) (z : Int) (j : Nat) : Int := 25 * zb (ymf σ j ∧ σ 49 0 j / 3 = z)
theorem ym1_rg (σ : zS) (z : Int) (j : Nat) : 0 ≤ ym1 σ z j ∧ ym1 σ z j ≤ 25 := by
  unfold ym1
  rcases zb_01 (σ 64 0 j = 0 ∧ σ 65 0 j / 3 = z) with h | h <;> rw [h] <;> decide
theorem ym2_rg (σ : zS) (z : Int) (j : Nat) : 0 ≤ ym2 σ z j ∧ ym2 σ z j ≤ 25 := by
  unfold ym2
  rcases zb_01 (ymf σ j ∧ σ 49 0 j / 3 = z) with h | h <;> rw [h] <;> decide

set_option maxHeartbeats 4000000 in
set_option maxRecDepth 100000 in
theorem c_X7_hasRider (l : Launch) (G : zG) (ad : zA) (A : Nat → Prop) (N0 : Nat) (σ : zS) (hM : zMm ad) (d : Nat) (hd : d < 8) (n : Nat) (hn : σ 52 0 d = (n : Int)) (hn8 : n ≤ 8) : Met l yX7_hasRider wsX7_hasRider ({ frames := 0, cells := 0, slots := 0, locals := 0 }) (zP G ad A N0 σ [zr ad 30 ((0 : Nat) : Int), .int (zi ((d : Nat) : Int))]) (zQ G ad A zri (fun r u => σ = u ∧ zb (yhr σ d n) = r)) 0 0 A := by
  refine zz_of (cc := cX7_hasRider) (maxL := 4) (ret := (some .boolean)) (by decide) rfl ⟨rfl, rfl⟩ (List.forall_mem_cons.mpr ⟨zr_cat _ _ _, List.forall_mem_cons.mpr ⟨rfl, fun _ h => absurd h List.not_mem_nil⟩⟩) (Nat.le_of_ble_eq_true rfl) ?_
  intro p e s m below meth c hx hb hr hml hts hown hlocks hsz hW0 hK ls hl
  have hS0 : va_S A s.heap s.heap [] := va_S.rf
  have hl : zh ls 4 [(0, zr ad 30 ((0 : Nat) : Int)), (1, .int (zi ((d : Nat) : Int)))] := hl
  have hinX7 : ∀ w ∈ u_ws RX7 TX7 42, w ∈ wsX7_hasRider := by decide +kernel
  refine zz_iconst hx hb dX7_hasRider_0 ?_
  refine zz_istore_n (lv' := [(2, .int (zi 0)), (0, zr ad 30 ((0 : Nat) : Int)), (1, .int (zi ((d : Nat) : Int)))]) hx hb hl dX7_hasRider_1 rfl (by decide) rfl (fun ls hl => ?_)
  refine zz_bipush hx hb dX7_hasRider_2 (by decide +kernel) ?_
  refine zz_iload_n hx hb hl 2 dX7_hasRider_4 rfl rfl ?_
  refine zz_imul hx hb dX7_hasRider_5 ?_
  refine zz_istore_n (lv' := [(3, .int (zi ((8 * d : Nat) : Int))), (2, .int (zi 0)), (0, zr ad 30 ((0 : Nat) : Int)), (1, .int (zi ((d : Nat) : Int)))]) hx hb hl dX7_hasRider_6 rfl (by decide) rfl (fun ls hl => ?_)
  have hcut7 : ∀ (n9 : Nat) (i : Nat)  (H9 : Heap) (locs9 : List Loc) (ls : Array Slot), (i ≤ n) → (n - i) < n9 → ZW G ad A σ H9 → va_S A s.heap H9 locs9 → zh ls 4 [(0, zr ad 30 ((0 : Nat) : Int)), (1, .int (zi ((d : Nat) : Int))), (2, .int (zi (zb (yhr σ d i)))), (3, .int (zi ((8 * d + i : Nat) : Int)))] → W p l e ({ frames := 0, cells := 0, slots := 0, locals := 0 }) s m ([zr ad 30 ((0 : Nat) : Int), .int (zi ((d : Nat) : Int))] : List Value).toArray below meth c H9 locs9 0 0 (MQ below (zQ G ad A zri (fun r u => σ = u ∧ zb (yhr σ d n) = r)) ([zr ad 30 ((0 : Nat) : Int), .int (zi ((d : Nat) : Int))] : List Value).toArray s 0 0 A) (F0 m 7 ls []) := by
    intro n9
    induction n9 with
    | zero =>
      intro i H1 locs1 ls hI7 hm7 hW1 hS1 hl
      exact absurd hm7 (Nat.not_lt_zero _)
    | succ n9 ih7 =>
      intro i H1 locs1 ls hI7 hm7 hW1 hS1 hl
      refine zz_iload_n hx hb hl 3 dX7_hasRider_7 rfl rfl ?_
      refine zz_bipush hx hb dX7_hasRider_8 (by decide +kernel) ?_
      refine zz_iload_n hx hb hl 1 dX7_hasRider_10 rfl rfl ?_
      refine zz_imul hx hb dX7_hasRider_11 ?_
      refine zz_aload_n hx hb hl 0 dX7_hasRider_12 rfl rfl ?_
      refine zz_get (T := TX7) (N := 42) (k := 12) (κ := 30) (w := zr ad 52 ((0 : Nat) : Int)) hx hb hts hinX7 hown hK hW1 (zlN (hM 30 rfl)) rfl rfl rfl (by decide) (hts (.fieldLink RX7 36 "HailCityModel" "stops" "[I") (by decide +kernel)) (fun _ h9 => h9) rfl dX7_hasRider_13 ?_
      refine zz_iload_n hx hb hl 1 dX7_hasRider_16 rfl rfl ?_
      refine zz_iald (w := ((n : Nat) : Int)) hx hb hK hW1 (zlN (hM 52 rfl)) rfl rfl rfl (by show (0 : Int) ≤ ((d : Nat) : Int); omega) (by show ((d : Nat) : Int) < (8 : Int); omega) (show σ 52 0 d = ((n : Nat) : Int) from by rw [hn]) dX7_hasRider_17 ?_
      refine zz_iadd hx hb dX7_hasRider_18 ?_
      refine zz_icmp_ge (tgt := 48) hx hb dX7_hasRider_19 (by decide) ⟨by omega, by omega⟩ ⟨by omega, by omega⟩ (fun hc19 => ?_) (fun hc19 => ?_)
      · refine zz_iload_n hx hb hl 2 dX7_hasRider_48 rfl rfl ?_
        refine W.eq (g2 := F0 m 49 ls [.int (zi (zb (yhr σ d i)))]) rfl ?_
        refine zz_retz hx hb hr hlocks hW1 hS1 (zb_01 _) ?_ dX7_hasRider_49
        exact ⟨rfl, by rw [show n = i by omega]⟩
      · refine zz_iload_n hx hb hl 2 dX7_hasRider_22 rfl rfl ?_
        refine zz_if_neb (tgt := 36) hx hb dX7_hasRider_23 (by decide) (fun hc23 => ?_) (fun hc23 => ?_)
        · refine zz_iconst hx hb dX7_hasRider_36 ?_
          refine zz_goto (tgt := 41) hx hb dX7_hasRider_37 (by decide) ?_
          refine zz_istore_n (lv' := [(2, .int (zi 1)), (0, zr ad 30 ((0 : Nat) : Int)), (1, .int (zi ((d : Nat) : Int))), (3, .int (zi ((8 * d + i : Nat) : Int)))]) hx hb hl dX7_hasRider_41 rfl (by decide) rfl (fun ls hl => ?_)
          refine zz_iinc (lv' := [(3, .int (zi (((8 * d + i) + 1 : Nat) : Int))), (2, .int (zi 1)), (0, zr ad 30 ((0 : Nat) : Int)), (1, .int (zi ((d : Nat) : Int)))]) hx hb hl dX7_hasRider_42 (k0 := 3) rfl (by decide) rfl (fun ls hl => ?_)
          refine zz_goto (tgt := 7) hx hb dX7_hasRider_45 (by decide) ?_
          refine ih7 (i + 1) H1 locs1 ls ?_ (by omega) hW1 hS1 (zh_sub hl [2, 3, 1, 0] (by rw [zb_t (P := yhr σ d (i + 1)) (yhr_s.mpr (by first | exact Or.inl hc23 | exact Or.inr hc33))]; rfl))
          omega
        · refine zz_aload_n hx hb hl 0 dX7_hasRider_26 rfl rfl ?_
          refine zz_get (T := TX7) (N := 42) (k := 14) (κ := 30) (w := zr ad 54 ((0 : Nat) : Int)) hx hb hts hinX7 hown hK hW1 (zlN (hM 30 rfl)) rfl rfl rfl (by decide) (hts (.fieldLink RX7 42 "HailCityModel" "stopWhom" "[I") (by decide +kernel)) (fun _ h9 => h9) rfl dX7_hasRider_27 ?_
          refine zz_iload_n hx hb hl 3 dX7_hasRider_30 rfl rfl ?_
          refine zz_iald (w := σ 54 0 (8 * d + i)) hx hb hK hW1 (zlN (hM 54 rfl)) rfl rfl rfl (by show (0 : Int) ≤ ((8 * d + i : Nat) : Int); omega) (by show ((8 * d + i : Nat) : Int) < (64 : Int); omega) rfl dX7_hasRider_31 ?_
          refine zz_iconst hx hb dX7_hasRider_32 ?_
          refine zz_icmp_eq (tgt := 40) hx hb dX7_hasRider_33 (by decide) (hW1.2.2.1 _ _ _) ⟨by decide, by decide⟩ (fun hc33 => ?_) (fun hc33 => ?_)
          · refine zz_iconst hx hb dX7_hasRider_40 ?_
            refine zz_istore_n (lv' := [(2, .int (zi 0)), (0, zr ad 30 ((0 : Nat) : Int)), (1, .int (zi ((d : Nat) : Int))), (3, .int (zi ((8 * d + i : Nat) : Int)))]) hx hb hl dX7_hasRider_41 rfl (by decide) rfl (fun ls hl => ?_)
            refine zz_iinc (lv' := [(3, .int (zi (((8 * d + i) + 1 : Nat) : Int))), (2, .int (zi 0)), (0, zr ad 30 ((0 : Nat) : Int)), (1, .int (zi ((d : Nat) : Int)))]) hx hb hl dX7_hasRider_42 (k0 := 3) rfl (by decide) rfl (fun ls hl => ?_)
            refine zz_goto (tgt := 7) hx hb dX7_hasRider_45 (by decide) ?_
            refine ih7 (i + 1) H1 locs1 ls ?_ (by omega) hW1 hS1 (zh_sub hl [2, 3, 1, 0] (by rw [zb_f (P := yhr σ d (i + 1)) (fun q => by rcases yhr_s.mp q with q | q; exact hc23 q; exact q hc33)]; rfl))
            omega
          · refine zz_iconst hx hb dX7_hasRider_36 ?_
            refine zz_goto (tgt := 41) hx hb dX7_hasRider_37 (by decide) ?_
            refine zz_istore_n (lv' := [(2, .int (zi 1)), (0, zr ad 30 ((0 : Nat) : Int)), (1, .int (zi ((d : Nat) : Int))), (3, .int (zi ((8 * d + i : Nat) : Int)))]) hx hb hl dX7_hasRider_41 rfl (by decide) rfl (fun ls hl => ?_)
            refine zz_iinc (lv' := [(3, .int (zi (((8 * d + i) + 1 : Nat) : Int))), (2, .int (zi 1)), (0, zr ad 30 ((0 : Nat) : Int)), (1, .int (zi ((d : Nat) : Int)))]) hx hb hl dX7_hasRider_42 (k0 := 3) rfl (by decide) rfl (fun ls hl => ?_)
            refine zz_goto (tgt := 7) hx hb dX7_hasRider_45 (by decide) ?_
            refine ih7 (i + 1) H1 locs1 ls ?_ (by omega) hW1 hS1 (zh_sub hl [2, 3, 1, 0] (by rw [zb_t (P := yhr σ d (i + 1)) (yhr_s.mpr (by first | exact Or.inl hc23 | exact Or.inr hc33))]; rfl))
            omega
  refine hcut7 _ 0 s.heap [] ls ?_ (Nat.lt_succ_self _) hW0 hS0 (zh_sub hl [2, 3, 1, 0] (by rw [zb_f (P := yhr σ d 0) (fun q => by obtain ⟨j, q1, q2⟩ := q; omega)]; rfl))
  exact Nat.zero_le _

set_option maxHeartbeats 4000000 in
set_option maxRecDepth 100000 in
theorem c_X7_ratingOf (l : Launch) (G : zG) (ad : zA) (A : Nat → Prop) (N0 : Nat) (σ : zS) (hM : zMm ad) (d : Nat) (hd : d < 8) (hrt : 0 ≤ σ 58 0 d ∧ σ 58 0 d ≤ 1000) (hst : ∀ j, j < 10 → 0 ≤ σ 59 0 (10 * d + j) ∧ σ 59 0 (10 * d + j) ≤ 5) : Met l yX7_ratingOf wsX7_ratingOf ({ frames := 0, cells := 0, slots := 0, locals := 0 }) (zP G ad A N0 σ [zr ad 30 ((0 : Nat) : Int), .int (zi ((d : Nat) : Int))]) (zQ G ad A zri (fun r u => σ = u ∧ yrt σ d = r)) 0 0 A := by
  refine zz_of (cc := cX7_ratingOf) (maxL := 5) (ret := (some .int)) (by decide) rfl ⟨rfl, rfl⟩ (List.forall_mem_cons.mpr ⟨zr_cat _ _ _, List.forall_mem_cons.mpr ⟨rfl, fun _ h => absurd h List.not_mem_nil⟩⟩) (Nat.le_of_ble_eq_true rfl) ?_
  intro p e s m below meth c hx hb hr hml hts hown hlocks hsz hW0 hK ls hl
  have hS0 : va_S A s.heap s.heap [] := va_S.rf
  have hl : zh ls 5 [(0, zr ad 30 ((0 : Nat) : Int)), (1, .int (zi ((d : Nat) : Int)))] := hl
  have hinX7 : ∀ w ∈ u_ws RX7 TX7 42, w ∈ wsX7_ratingOf := by decide +kernel
  have hzr := fun n hn => zsum_rg (f := fun j => σ 59 0 (10 * d + j)) (N := 10) hst n hn
  have hcut22 : ∀  (H9 : Heap) (locs9 : List Loc) (ls : Array Slot), (True) → ZW G ad A σ H9 → va_S A s.heap H9 locs9 → zh ls 5 [(0, zr ad 30 ((0 : Nat) : Int)), (1, .int (zi ((d : Nat) : Int)))] → W p l e ({ frames := 0, cells := 0, slots := 0, locals := 0 }) s m ([zr ad 30 ((0 : Nat) : Int), .int (zi ((d : Nat) : Int))] : List Value).toArray below meth c H9 locs9 0 0 (MQ below (zQ G ad A zri (fun r u => σ = u ∧ yrt σ d = r)) ([zr ad 30 ((0 : Nat) : Int), .int (zi ((d : Nat) : Int))] : List Value).toArray s 0 0 A) (F0 m 22 ls [.int (zi (min (σ 58 0 d) 10))]) := by
    intro  H1 locs1 ls hI22 hW1 hS1 hl
    refine zz_istore_n (lv' := [(2, .int (zi (min (σ 58 0 d) 10))), (0, zr ad 30 ((0 : Nat) : Int)), (1, .int (zi ((d : Nat) : Int)))]) hx hb hl dX7_ratingOf_22 rfl (by decide) rfl (fun ls hl => ?_)
    refine zz_iconst hx hb dX7_ratingOf_23 ?_
    refine zz_istore_n (lv' := [(3, .int (zi 0)), (2, .int (zi (min (σ 58 0 d) 10))), (0, zr ad 30 ((0 : Nat) : Int)), (1, .int (zi ((d : Nat) : Int)))]) hx hb hl dX7_ratingOf_24 rfl (by decide) rfl (fun ls hl => ?_)
    refine zz_iconst hx hb dX7_ratingOf_25 ?_
    refine zz_istore (lv' := [(4, .int (zi 0)), (3, .int (zi 0)), (2, .int (zi (min (σ 58 0 d) 10))), (0, zr ad 30 ((0 : Nat) : Int)), (1, .int (zi ((d : Nat) : Int)))]) hx hb hl dX7_ratingOf_26 (by decide) rfl (fun ls hl => ?_)
    have hcut28 : ∀ (n9 : Nat) (i : Nat)  (H9 : Heap) (locs9 : List Loc) (ls : Array Slot), ((i : Int) ≤ min (σ 58 0 d) 10) → (10 - i) < n9 → ZW G ad A σ H9 → va_S A s.heap H9 locs9 → zh ls 5 [(0, zr ad 30 ((0 : Nat) : Int)), (1, .int (zi ((d : Nat) : Int))), (2, .int (zi (min (σ 58 0 d) 10))), (3, .int (zi (zsum (fun j => σ 59 0 (10 * d + j)) i))), (4, .int (zi ((i : Nat) : Int)))] → W p l e ({ frames := 0, cells := 0, slots := 0, locals := 0 }) s m ([zr ad 30 ((0 : Nat) : Int), .int (zi ((d : Nat) : Int))] : List Value).toArray below meth c H9 locs9 0 0 (MQ below (zQ G ad A zri (fun r u => σ = u ∧ yrt σ d = r)) ([zr ad 30 ((0 : Nat) : Int), .int (zi ((d : Nat) : Int))] : List Value).toArray s 0 0 A) (F0 m 28 ls []) := by
      intro n9
      induction n9 with
      | zero =>
        intro i H2 locs2 ls hI28 hm28 hW2 hS2 hl
        exact absurd hm28 (Nat.not_lt_zero _)
      | succ n9 ih28 =>
        intro i H2 locs2 ls hI28 hm28 hW2 hS2 hl
        have hzi := hzr i (by omega)
        refine zz_iload hx hb hl 4 dX7_ratingOf_28 rfl ?_
        refine zz_iload_n hx hb hl 2 dX7_ratingOf_30 rfl rfl ?_
        refine zz_icmp_ge (tgt := 55) hx hb dX7_ratingOf_31 (by decide) ⟨by omega, by omega⟩ ⟨by omega, by omega⟩ (fun hc31 => ?_) (fun hc31 => ?_)
        · refine zz_iload_n hx hb hl 2 dX7_ratingOf_55 rfl rfl ?_
          refine zz_if_ne (tgt := 65) hx hb dX7_ratingOf_56 (by decide) ⟨by omega, by omega⟩ (fun hc56 => ?_) (fun hc56 => ?_)
          · refine zz_bipush hx hb dX7_ratingOf_65 (by decide +kernel) ?_
            refine zz_iload_n hx hb hl 3 dX7_ratingOf_67 rfl rfl ?_
            refine zz_imul hx hb dX7_ratingOf_68 ?_
            refine zz_iload_n hx hb hl 2 dX7_ratingOf_69 rfl rfl ?_
            refine zz_idiv hx hb dX7_ratingOf_70 ⟨by omega, by omega⟩ ⟨by omega, by omega⟩ (by omega) (by omega) ?_
            refine W.eq (g2 := F0 m 71 ls [.int (zi ((100 * (zsum (fun j => σ 59 0 (10 * d + j)) i)) / (min (σ 58 0 d) 10)))]) rfl ?_
            refine zz_reti hx hb hr hlocks hW2 hS2 ?_ dX7_ratingOf_71
            refine ⟨rfl, ?_⟩
            unfold yrt
            first | exact if_pos hc56 | (rw [if_neg hc56, show (min (σ 58 0 d) 10).toNat = i by omega])
          · refine zz_sipush hx hb dX7_ratingOf_59 (by decide +kernel) ?_
            refine zz_goto (tgt := 71) hx hb dX7_ratingOf_62 (by decide) ?_
            refine W.eq (g2 := F0 m 71 ls [.int (zi 500)]) rfl ?_
            refine zz_reti hx hb hr hlocks hW2 hS2 ?_ dX7_ratingOf_71
            refine ⟨rfl, ?_⟩
            unfold yrt
            first | exact if_pos hc56 | (rw [if_neg hc56, show (min (σ 58 0 d) 10).toNat = i by omega])
        · have hsti := hst i (by omega)
          refine zz_iload_n hx hb hl 3 dX7_ratingOf_34 rfl rfl ?_
          refine zz_aload_n hx hb hl 0 dX7_ratingOf_35 rfl rfl ?_
          refine zz_get (T := TX7) (N := 42) (k := 19) (κ := 30) (w := zr ad 59 ((0 : Nat) : Int)) hx hb hts hinX7 hown hK hW2 (zlN (hM 30 rfl)) rfl rfl rfl (by decide) (hts (.fieldLink RX7 54 "HailCityModel" "stars" "[I") (by decide +kernel)) (fun _ h9 => h9) rfl dX7_ratingOf_36 ?_
          refine zz_bipush hx hb dX7_ratingOf_39 (by decide +kernel) ?_
          refine zz_iload_n hx hb hl 1 dX7_ratingOf_41 rfl rfl ?_
          refine zz_imul hx hb dX7_ratingOf_42 ?_
          refine zz_iload hx hb hl 4 dX7_ratingOf_43 rfl ?_
          refine zz_iadd hx hb dX7_ratingOf_45 ?_
          refine zz_iald (w := σ 59 0 ((10 * d) + i)) hx hb hK hW2 (zlN (hM 59 rfl)) rfl rfl rfl (by show (0 : Int) ≤ (((10 * d) + i : Nat) : Int); omega) (by show (((10 * d) + i : Nat) : Int) < (80 : Int); omega) rfl dX7_ratingOf_46 ?_
          refine zz_iadd hx hb dX7_ratingOf_47 ?_
          refine zz_istore_n (lv' := [(3, .int (zi ((zsum (fun j => σ 59 0 (10 * d + j)) i) + (σ 59 0 ((10 * d) + i))))), (0, zr ad 30 ((0 : Nat) : Int)), (1, .int (zi ((d : Nat) : Int))), (2, .int (zi (min (σ 58 0 d) 10))), (4, .int (zi ((i : Nat) : Int)))]) hx hb hl dX7_ratingOf_48 rfl (by decide) rfl (fun ls hl => ?_)
          refine zz_iinc (lv' := [(4, .int (zi ((i + 1 : Nat) : Int))), (3, .int (zi ((zsum (fun j => σ 59 0 (10 * d + j)) i) + (σ 59 0 ((10 * d) + i))))), (0, zr ad 30 ((0 : Nat) : Int)), (1, .int (zi ((d : Nat) : Int))), (2, .int (zi (min (σ 58 0 d) 10)))]) hx hb hl dX7_ratingOf_49 (k0 := 4) rfl (by decide) rfl (fun ls hl => ?_)
          refine zz_goto (tgt := 28) hx hb dX7_ratingOf_52 (by decide) ?_
          refine ih28 (i + 1) H2 locs2 ls ?_ (by omega) hW2 hS2 (zh_sub hl [2, 3, 4, 1, 0] rfl)
          show ((i + 1 : Nat) : Int) ≤ _; omega
    refine hcut28 _ 0 H1 locs1 ls ?_ (Nat.lt_succ_self _) hW1 hS1 (zh_sub hl [3, 4, 2, 1, 0] rfl)
    show (0 : Int) ≤ _; omega
  refine zz_aload_n hx hb hl 0 dX7_ratingOf_0 rfl rfl ?_
  refine zz_get (T := TX7) (N := 42) (k := 18) (κ := 30) (w := zr ad 58 ((0 : Nat) : Int)) hx hb hts hinX7 hown hK hW0 (zlN (hM 30 rfl)) rfl rfl rfl (by decide) (hts (.fieldLink RX7 51 "HailCityModel" "ratings" "[I") (by decide +kernel)) (fun _ h9 => h9) rfl dX7_ratingOf_1 ?_
  refine zz_iload_n hx hb hl 1 dX7_ratingOf_4 rfl rfl ?_
  refine zz_iald (w := σ 58 0 d) hx hb hK hW0 (zlN (hM 58 rfl)) rfl rfl rfl (by show (0 : Int) ≤ ((d : Nat) : Int); omega) (by show ((d : Nat) : Int) < (8 : Int); omega) rfl dX7_ratingOf_5 ?_
  refine zz_bipush hx hb dX7_ratingOf_6 (by decide +kernel) ?_
  refine zz_icmp_ge (tgt := 20) hx hb dX7_ratingOf_8 (by decide) (hW0.2.2.1 _ _ _) ⟨by decide, by decide⟩ (fun hc8 => ?_) (fun hc8 => ?_)
  · refine zz_bipush hx hb dX7_ratingOf_20 (by decide +kernel) ?_
    refine W.eq (g2 := F0 m 22 ls [.int (zi (min (σ 58 0 d) 10))]) (congrArg (fun z9 => F0 m 22 ls [Value.int (zi z9)]) (show 10 = min (σ 58 0 d) 10 from by omega)) ?_
    refine hcut22  s.heap [] ls ?_ hW0 hS0 (zh_sub hl [0, 1] rfl)
    trivial
  · refine zz_aload_n hx hb hl 0 dX7_ratingOf_11 rfl rfl ?_
    refine zz_get (T := TX7) (N := 42) (k := 18) (κ := 30) (w := zr ad 58 ((0 : Nat) : Int)) hx hb hts hinX7 hown hK hW0 (zlN (hM 30 rfl)) rfl rfl rfl (by decide) (hts (.fieldLink RX7 51 "HailCityModel" "ratings" "[I") (by decide +kernel)) (fun _ h9 => h9) rfl dX7_ratingOf_12 ?_
    refine zz_iload_n hx hb hl 1 dX7_ratingOf_15 rfl rfl ?_
    refine zz_iald (w := σ 58 0 d) hx hb hK hW0 (zlN (hM 58 rfl)) rfl rfl rfl (by show (0 : Int) ≤ ((d : Nat) : Int); omega) (by show ((d : Nat) : Int) < (8 : Int); omega) rfl dX7_ratingOf_16 ?_
    refine zz_goto (tgt := 22) hx hb dX7_ratingOf_17 (by decide) ?_
    refine W.eq (g2 := F0 m 22 ls [.int (zi (min (σ 58 0 d) 10))]) (congrArg (fun z9 => F0 m 22 ls [Value.int (zi z9)]) (show σ 58 0 d = min (σ 58 0 d) 10 from by omega)) ?_
    refine hcut22  s.heap [] ls ?_ hW0 hS0 (zh_sub hl [0, 1] rfl)
    trivial

set_option maxHeartbeats 4000000 in
set_option maxRecDepth 100000 in
theorem c_X7_lay (l : Launch) (G : zG) (ad : zA) (A : Nat → Prop) (N0 : Nat) (σ : zS) (hM : zMm ad) (nd nr : Nat) (hnd : nd ≤ 8) (hnr : nr ≤ 60) (h8 : σ 30 0 8 = (nd : Int)) (h23 : σ 30 0 23 = (nr : Int)) : Met l yX7_lay wsX7_lay ({ frames := 0, cells := 0, slots := 0, locals := 0 }) (zP G ad A N0 σ [zr ad 30 ((0 : Nat) : Int)]) (zQ G ad A zri (fun r u => (ylc σ nr : Int) = r ∧ (∀ k, k < nr → ywt σ k → ylc σ k < 5 → u 75 0 (ylc σ k) = (k : Int)) ∧ zfr (fun κ _ _ => κ = 75) σ u)) 0 0 A := by
  refine zz_of (cc := cX7_lay) (maxL := 3) (ret := (some .int)) (by decide) rfl ⟨rfl, rfl⟩ (List.forall_mem_cons.mpr ⟨zr_cat _ _ _, fun _ h => absurd h List.not_mem_nil⟩) (Nat.le_of_ble_eq_true rfl) ?_
  intro p e s m below meth c hx hb hr hml hts hown hlocks hsz hW0 hK ls hl
  have hS0 : va_S A s.heap s.heap [] := va_S.rf
  have hl : zh ls 3 [(0, zr ad 30 ((0 : Nat) : Int))] := hl
  have hinX7 : ∀ w ∈ u_ws RX7 TX7 42, w ∈ wsX7_lay := by decide +kernel
  refine zz_iconst hx hb dX7_lay_0 ?_
  refine zz_istore_n (lv' := [(1, .int (zi 0)), (0, zr ad 30 ((0 : Nat) : Int))]) hx hb hl dX7_lay_1 rfl (by decide) rfl (fun ls hl => ?_)
  refine zz_iconst hx hb dX7_lay_2 ?_
  refine zz_istore_n (lv' := [(2, .int (zi 0)), (1, .int (zi 0)), (0, zr ad 30 ((0 : Nat) : Int))]) hx hb hl dX7_lay_3 rfl (by decide) rfl (fun ls hl => ?_)
  have hcut4 : ∀ (n9 : Nat) (i : Nat)  (σ9 : zS) (H9 : Heap) (locs9 : List Loc) (ls : Array Slot), (i ≤ nr ∧ (∀ k, k < i → ywt σ k → ylc σ k < 5 → σ9 75 0 (ylc σ k) = (k : Int)) ∧ zfr (fun κ _ _ => κ = 75) σ σ9) → (nr - i) < n9 → ZW G ad A σ9 H9 → va_S A s.heap H9 locs9 → zh ls 3 [(0, zr ad 30 ((0 : Nat) : Int)), (1, .int (zi ((ylc σ i : Nat) : Int))), (2, .int (zi ((i : Nat) : Int)))] → W p l e ({ frames := 0, cells := 0, slots := 0, locals := 0 }) s m ([zr ad 30 ((0 : Nat) : Int)] : List Value).toArray below meth c H9 locs9 0 0 (MQ below (zQ G ad A zri (fun r u => (ylc σ nr : Int) = r ∧ (∀ k, k < nr → ywt σ k → ylc σ k < 5 → u 75 0 (ylc σ k) = (k : Int)) ∧ zfr (fun κ _ _ => κ = 75) σ u)) ([zr ad 30 ((0 : Nat) : Int)] : List Value).toArray s 0 0 A) (F0 m 4 ls []) := by
    intro n9
    induction n9 with
    | zero =>
      intro i σ1 H1 locs1 ls hI4 hm4 hW1 hS1 hl
      exact absurd hm4 (Nat.not_lt_zero _)
    | succ n9 ih4 =>
      intro i σ1 H1 locs1 ls hI4 hm4 hW1 hS1 hl
      obtain ⟨hi1, hi2, hi3⟩ := hI4
      refine zz_iload_n hx hb hl 2 dX7_lay_4 rfl rfl ?_
      refine zz_aload_n hx hb hl 0 dX7_lay_5 rfl rfl ?_
      refine zz_get (T := TX7) (N := 42) (k := 23) (κ := 30) (w := .int (zi ((nr : Nat) : Int))) hx hb hts hinX7 hown hK hW1 (zlN (hM 30 rfl)) rfl rfl rfl (by decide) (hts (.fieldLink RX7 130 "HailCityModel" "requests" "I") (by decide +kernel)) (fun _ h9 => h9) (congrArg (fun z => Value.int (zi z)) (show σ1 30 0 23 = ((nr : Nat) : Int) from by rw [hi3 30 0 23 (by omega), h23])) dX7_lay_6 ?_
      refine zz_icmp_ge (tgt := 51) hx hb dX7_lay_9 (by decide) ⟨by omega, by omega⟩ ⟨by omega, by omega⟩ (fun hc9 => ?_) (fun hc9 => ?_)
      · refine zz_iload_n hx hb hl 1 dX7_lay_51 rfl rfl ?_
        refine W.eq (g2 := F0 m 52 ls [.int (zi ((ylc σ i : Nat) : Int))]) rfl ?_
        refine zz_reti hx hb hr hlocks hW1 hS1 ?_ dX7_lay_52
        exact ⟨by rw [show nr = i by omega], fun k hk => hi2 k (by omega), hi3⟩
      · have hlc := ylc_le σ i
        refine zz_aload_n hx hb hl 0 dX7_lay_12 rfl rfl ?_
        refine zz_get (T := TX7) (N := 42) (k := 24) (κ := 30) (w := zr ad 64 ((0 : Nat) : Int)) hx hb hts hinX7 hown hK hW1 (zlN (hM 30 rfl)) rfl rfl rfl (by decide) (hts (.fieldLink RX7 66 "HailCityModel" "state" "[I") (by decide +kernel)) (fun _ h9 => h9) rfl dX7_lay_13 ?_
        refine zz_iload_n hx hb hl 2 dX7_lay_16 rfl rfl ?_
        refine zz_iald (w := σ 64 0 i) hx hb hK hW1 (zlN (hM 64 rfl)) rfl rfl rfl (by show (0 : Int) ≤ ((i : Nat) : Int); omega) (by show ((i : Nat) : Int) < (60 : Int); omega) (show σ1 64 0 i = σ 64 0 i from by rw [hi3 64 0 i (by omega)]) dX7_lay_17 ?_
        refine zz_if_ne (tgt := 45) hx hb dX7_lay_18 (by decide) (hW0.2.2.1 _ _ _) (fun hc18 => ?_) (fun hc18 => ?_)
        · refine zz_iinc (lv' := [(2, .int (zi ((i + 1 : Nat) : Int))), (0, zr ad 30 ((0 : Nat) : Int)), (1, .int (zi ((ylc σ i : Nat) : Int)))]) hx hb hl dX7_lay_45 (k0 := 2) rfl (by decide) rfl (fun ls hl => ?_)
          refine zz_goto (tgt := 4) hx hb dX7_lay_48 (by decide) ?_
          refine ih4 (i + 1) σ1 H1 locs1 ls ?_ (by omega) hW1 hS1 (zh_sub hl [1, 2, 0] (by rw [ylc_f (show ¬ ywt σ i from fun q => by first | exact hc18 q.1 | exact q.2 hc27)]; rfl))
          refine ⟨by omega, fun k hk hw9 h5 => ?_, hi3⟩
          rcases Nat.lt_or_ge k i with h | h
          · exact hi2 k h hw9 h5
          · exfalso
            have hki : k = i := by omega
            subst hki
            first | exact hc18 hw9.1 | exact hw9.2 hc27 | omega
        · refine zz_aload_n hx hb hl 0 dX7_lay_21 rfl rfl ?_
          refine zz_get (T := TX7) (N := 42) (k := 25) (κ := 30) (w := zr ad 65 ((0 : Nat) : Int)) hx hb hts hinX7 hown hK hW1 (zlN (hM 30 rfl)) rfl rfl rfl (by decide) (hts (.fieldLink RX7 69 "HailCityModel" "from" "[I") (by decide +kernel)) (fun _ h9 => h9) rfl dX7_lay_22 ?_
          refine zz_iload_n hx hb hl 2 dX7_lay_25 rfl rfl ?_
          refine zz_iald (w := σ 65 0 i) hx hb hK hW1 (zlN (hM 65 rfl)) rfl rfl rfl (by show (0 : Int) ≤ ((i : Nat) : Int); omega) (by show ((i : Nat) : Int) < (60 : Int); omega) (show σ1 65 0 i = σ 65 0 i from by rw [hi3 65 0 i (by omega)]) dX7_lay_26 ?_
          refine zz_if_eq (tgt := 45) hx hb dX7_lay_27 (by decide) (hW0.2.2.1 _ _ _) (fun hc27 => ?_) (fun hc27 => ?_)
          · refine zz_iinc (lv' := [(2, .int (zi ((i + 1 : Nat) : Int))), (0, zr ad 30 ((0 : Nat) : Int)), (1, .int (zi ((ylc σ i : Nat) : Int)))]) hx hb hl dX7_lay_45 (k0 := 2) rfl (by decide) rfl (fun ls hl => ?_)
            refine zz_goto (tgt := 4) hx hb dX7_lay_48 (by decide) ?_
            refine ih4 (i + 1) σ1 H1 locs1 ls ?_ (by omega) hW1 hS1 (zh_sub hl [1, 2, 0] (by rw [ylc_f (show ¬ ywt σ i from fun q => by first | exact hc18 q.1 | exact q.2 hc27)]; rfl))
            refine ⟨by omega, fun k hk hw9 h5 => ?_, hi3⟩
            rcases Nat.lt_or_ge k i with h | h
            · exact hi2 k h hw9 h5
            · exfalso
              have hki : k = i := by omega
              subst hki
              first | exact hc18 hw9.1 | exact hw9.2 hc27 | omega
          · refine zz_iload_n hx hb hl 1 dX7_lay_30 rfl rfl ?_
            refine zz_iconst hx hb dX7_lay_31 ?_
            refine zz_icmp_ge (tgt := 42) hx hb dX7_lay_32 (by decide) ⟨by omega, by omega⟩ ⟨by decide, by decide⟩ (fun hc32 => ?_) (fun hc32 => ?_)
            · refine zz_iinc (lv' := [(1, .int (zi (((ylc σ i) + 1 : Nat) : Int))), (0, zr ad 30 ((0 : Nat) : Int)), (2, .int (zi ((i : Nat) : Int)))]) hx hb hl dX7_lay_42 (k0 := 1) rfl (by decide) rfl (fun ls hl => ?_)
              refine zz_iinc (lv' := [(2, .int (zi ((i + 1 : Nat) : Int))), (1, .int (zi (((ylc σ i) + 1 : Nat) : Int))), (0, zr ad 30 ((0 : Nat) : Int))]) hx hb hl dX7_lay_45 (k0 := 2) rfl (by decide) rfl (fun ls hl => ?_)
              refine zz_goto (tgt := 4) hx hb dX7_lay_48 (by decide) ?_
              refine ih4 (i + 1) σ1 H1 locs1 ls ?_ (by omega) hW1 hS1 (zh_sub hl [2, 1, 0] (by rw [ylc_t (show ywt σ i from ⟨hc18, hc27⟩)]; rfl))
              refine ⟨by omega, fun k hk hw9 h5 => ?_, hi3⟩
              rcases Nat.lt_or_ge k i with h | h
              · exact hi2 k h hw9 h5
              · exfalso
                have hki : k = i := by omega
                subst hki
                first | exact hc18 hw9.1 | exact hw9.2 hc27 | omega
            · refine zz_aload_n hx hb hl 0 dX7_lay_35 rfl rfl ?_
              refine zz_get (T := TX7) (N := 42) (k := 35) (κ := 30) (w := zr ad 75 ((0 : Nat) : Int)) hx hb hts hinX7 hown hK hW1 (zlN (hM 30 rfl)) rfl rfl rfl (by decide) (hts (.fieldLink RX7 99 "HailCityModel" "asked" "[I") (by decide +kernel)) (fun _ h9 => h9) rfl dX7_lay_36 ?_
              refine zz_iload_n hx hb hl 1 dX7_lay_39 rfl rfl ?_
              refine zz_iload_n hx hb hl 2 dX7_lay_40 rfl rfl ?_
              refine zz_iast (y := ((i : Nat) : Int)) hx hb hK hW1 hS1 (zlN (hM 75 rfl)) rfl rfl rfl (by show (0 : Int) ≤ ((ylc σ i : Nat) : Int); omega) (by show ((ylc σ i : Nat) : Int) < (5 : Int); omega) ⟨by omega, by omega⟩ dX7_lay_41 (fun H2 locs2 hW2' hS2 => ?_)
              obtain ⟨σ2, hs2⟩ : ∃ z, z = zu σ1 75 0 (ylc σ i) ((i : Nat) : Int) := ⟨_, rfl⟩
              have hW2 : ZW G ad A σ2 H2 := by rw [hs2]; exact hW2'
              refine zz_iinc (lv' := [(1, .int (zi (((ylc σ i) + 1 : Nat) : Int))), (0, zr ad 30 ((0 : Nat) : Int)), (2, .int (zi ((i : Nat) : Int)))]) hx hb hl dX7_lay_42 (k0 := 1) rfl (by decide) rfl (fun ls hl => ?_)
              refine zz_iinc (lv' := [(2, .int (zi ((i + 1 : Nat) : Int))), (1, .int (zi (((ylc σ i) + 1 : Nat) : Int))), (0, zr ad 30 ((0 : Nat) : Int))]) hx hb hl dX7_lay_45 (k0 := 2) rfl (by decide) rfl (fun ls hl => ?_)
              refine zz_goto (tgt := 4) hx hb dX7_lay_48 (by decide) ?_
              refine ih4 (i + 1) σ2 H2 locs2 ls ?_ (by omega) hW2 hS2 (zh_sub hl [2, 1, 0] (by rw [ylc_t (show ywt σ i from ⟨hc18, hc27⟩)]; rfl))
              refine ⟨by omega, fun k hk hw9 h5 => ?_, fun κ i' k' hn => ?_⟩
              · rw [hs2]
                rcases Nat.lt_or_ge k i with h | h
                · have h1 := ylc_mono (σ := σ) (a := k + 1) i h
                  rw [ylc_t hw9] at h1
                  rw [zu_s (by omega)]
                  exact hi2 k h hw9 h5
                · rw [show k = i by omega, zu_same]
              · rw [hs2, zu_ne (by omega)]
                exact hi3 _ _ _ hn
  refine hcut4 _ 0 σ s.heap [] ls ?_ (Nat.lt_succ_self _) hW0 hS0 (zh_sub hl [2, 1, 0] rfl)
  exact ⟨Nat.zero_le _, fun k hk => absurd hk (Nat.not_lt_zero k), fun _ _ _ _ => rfl⟩

set_option maxHeartbeats 4000000 in
set_option maxRecDepth 100000 in
theorem c_X7_heightOf (l : Launch) (G : zG) (ad : zA) (A : Nat → Prop) (N0 : Nat) (σ : zS) (hM : zMm ad) (nd nr : Nat) (hnd : nd ≤ 8) (hnr : nr ≤ 60) (h8 : σ 30 0 8 = (nd : Int)) (h23 : σ 30 0 23 = (nr : Int)) (z : Int) (gz : zg z) (hrp : ∀ i, i < nr → 0 ≤ σ 65 0 i) (hdp : ∀ i, i < nd → 0 ≤ σ 49 0 i) : Met l yX7_heightOf wsX7_heightOf ({ frames := 1, cells := 0, slots := 0, locals := 21 }) (zP G ad A N0 σ [zr ad 30 ((0 : Nat) : Int), .int (zi z)]) (zQ G ad A zri (fun r u => σ = u ∧ min (max (100 + yhs (ym1 σ z) nr - yhs (ym2 σ z) nd) 100) (σ 30 0 2) = r)) 0 0 A := by
  refine zz_of (cc := cX7_heightOf) (maxL := 4) (ret := (some .int)) (by decide) rfl ⟨rfl, rfl⟩ (List.forall_mem_cons.mpr ⟨zr_cat _ _ _, List.forall_mem_cons.mpr ⟨rfl, fun _ h => absurd h List.not_mem_nil⟩⟩) (Nat.le_of_ble_eq_true rfl) ?_
  intro p e s m below meth c hx hb hr hml hts hown hlocks hsz hW0 hK ls hl
  have hS0 : va_S A s.heap s.heap [] := va_S.rf
  have hl : zh ls 4 [(0, zr ad 30 ((0 : Nat) : Int)), (1, .int (zi z))] := hl
  have hinX7 : ∀ w ∈ u_ws RX7 TX7 42, w ∈ wsX7_heightOf := by decide +kernel
  have hy1 := fun n => yhs_rg (ym1_rg σ z) n
  have hy2 := fun n => yhs_rg (ym2_rg σ z) n
  have hy1r := hy1 nr
  have hy2r := hy2 nd
  have hgcp : zg (σ 30 0 2) := hW0.2.2.1 _ _ _
  refine zz_bipush hx hb dX7_heightOf_0 (by decide +kernel) ?_
  refine zz_istore_n (lv' := [(2, .int (zi 100)), (0, zr ad 30 ((0 : Nat) : Int)), (1, .int (zi z))]) hx hb hl dX7_heightOf_2 rfl (by decide) rfl (fun ls hl => ?_)
  refine zz_iconst hx hb dX7_heightOf_3 ?_
  refine zz_istore_n (lv' := [(3, .int (zi 0)), (2, .int (zi 100)), (0, zr ad 30 ((0 : Nat) : Int)), (1, .int (zi z))]) hx hb hl dX7_heightOf_4 rfl (by decide) rfl (fun ls hl => ?_)
  have hcut5 : ∀ (n9 : Nat) (i : Nat)  (H9 : Heap) (locs9 : List Loc) (ls : Array Slot), (i ≤ nr) → (nr - i) < n9 → ZW G ad A σ H9 → va_S A s.heap H9 locs9 → zh ls 4 [(0, zr ad 30 ((0 : Nat) : Int)), (1, .int (zi z)), (2, .int (zi (100 + yhs (ym1 σ z) i))), (3, .int (zi ((i : Nat) : Int)))] → W p l e ({ frames := 1, cells := 0, slots := 0, locals := 21 }) s m ([zr ad 30 ((0 : Nat) : Int), .int (zi z)] : List Value).toArray below meth c H9 locs9 0 0 (MQ below (zQ G ad A zri (fun r u => σ = u ∧ min (max (100 + yhs (ym1 σ z) nr - yhs (ym2 σ z) nd) 100) (σ 30 0 2) = r)) ([zr ad 30 ((0 : Nat) : Int), .int (zi z)] : List Value).toArray s 0 0 A) (F0 m 5 ls []) := by
    intro n9
    induction n9 with
    | zero =>
      intro i H1 locs1 ls hI5 hm5 hW1 hS1 hl
      exact absurd hm5 (Nat.not_lt_zero _)
    | succ n9 ih5 =>
      intro i H1 locs1 ls hI5 hm5 hW1 hS1 hl
      have hyi := hy1 i
      refine zz_iload_n hx hb hl 3 dX7_heightOf_5 rfl rfl ?_
      refine zz_aload_n hx hb hl 0 dX7_heightOf_6 rfl rfl ?_
      refine zz_get (T := TX7) (N := 42) (k := 23) (κ := 30) (w := .int (zi ((nr : Nat) : Int))) hx hb hts hinX7 hown hK hW1 (zlN (hM 30 rfl)) rfl rfl rfl (by decide) (hts (.fieldLink RX7 130 "HailCityModel" "requests" "I") (by decide +kernel)) (fun _ h9 => h9) (congrArg (fun z => Value.int (zi z)) (show σ 30 0 23 = ((nr : Nat) : Int) from by rw [h23])) dX7_heightOf_7 ?_
      refine zz_icmp_ge (tgt := 49) hx hb dX7_heightOf_10 (by decide) ⟨by omega, by omega⟩ ⟨by omega, by omega⟩ (fun hc10 => ?_) (fun hc10 => ?_)
      · refine zz_iconst hx hb dX7_heightOf_49 ?_
        refine zz_istore_n (lv' := [(3, .int (zi 0)), (0, zr ad 30 ((0 : Nat) : Int)), (1, .int (zi z)), (2, .int (zi (100 + yhs (ym1 σ z) i)))]) hx hb hl dX7_heightOf_50 rfl (by decide) rfl (fun ls hl => ?_)
        have hcut51 : ∀ (n9 : Nat) (i : Nat)  (H9 : Heap) (locs9 : List Loc) (ls : Array Slot), (i ≤ nd) → (nd - i) < n9 → ZW G ad A σ H9 → va_S A s.heap H9 locs9 → zh ls 4 [(0, zr ad 30 ((0 : Nat) : Int)), (1, .int (zi z)), (2, .int (zi (100 + yhs (ym1 σ z) nr - yhs (ym2 σ z) i))), (3, .int (zi ((i : Nat) : Int)))] → W p l e ({ frames := 1, cells := 0, slots := 0, locals := 21 }) s m ([zr ad 30 ((0 : Nat) : Int), .int (zi z)] : List Value).toArray below meth c H9 locs9 0 0 (MQ below (zQ G ad A zri (fun r u => σ = u ∧ min (max (100 + yhs (ym1 σ z) nr - yhs (ym2 σ z) nd) 100) (σ 30 0 2) = r)) ([zr ad 30 ((0 : Nat) : Int), .int (zi z)] : List Value).toArray s 0 0 A) (F0 m 51 ls []) := by
          intro n9
          induction n9 with
          | zero =>
            intro i H2 locs2 ls hI51 hm51 hW2 hS2 hl
            exact absurd hm51 (Nat.not_lt_zero _)
          | succ n9 ih51 =>
            intro i H2 locs2 ls hI51 hm51 hW2 hS2 hl
            have hyi := hy2 i
            refine zz_iload_n hx hb hl 3 dX7_heightOf_51 rfl rfl ?_
            refine zz_aload_n hx hb hl 0 dX7_heightOf_52 rfl rfl ?_
            refine zz_get (T := TX7) (N := 42) (k := 8) (κ := 30) (w := .int (zi ((nd : Nat) : Int))) hx hb hts hinX7 hown hK hW2 (zlN (hM 30 rfl)) rfl rfl rfl (by decide) (hts (.fieldLink RX7 127 "HailCityModel" "drivers" "I") (by decide +kernel)) (fun _ h9 => h9) (congrArg (fun z => Value.int (zi z)) (show σ 30 0 8 = ((nd : Nat) : Int) from by rw [h8])) dX7_heightOf_53 ?_
            refine zz_icmp_ge (tgt := 94) hx hb dX7_heightOf_56 (by decide) ⟨by omega, by omega⟩ ⟨by omega, by omega⟩ (fun hc56 => ?_) (fun hc56 => ?_)
            · refine zz_iload_n hx hb hl 2 dX7_heightOf_94 rfl rfl ?_
              refine zz_bipush hx hb dX7_heightOf_95 (by decide +kernel) ?_
              refine zz_icmp_ge (tgt := 105) hx hb dX7_heightOf_97 (by decide) ⟨by omega, by omega⟩ ⟨by decide, by decide⟩ (fun hc97 => ?_) (fun hc97 => ?_)
              · refine zz_iload_n hx hb hl 2 dX7_heightOf_105 rfl rfl ?_
                refine zz_istore_n (lv' := [(2, .int (zi (100 + yhs (ym1 σ z) nr - yhs (ym2 σ z) i))), (0, zr ad 30 ((0 : Nat) : Int)), (1, .int (zi z)), (3, .int (zi ((i : Nat) : Int)))]) hx hb hl dX7_heightOf_106 rfl (by decide) rfl (fun ls hl => ?_)
                refine zz_iload_n hx hb hl 0 dX7_heightOf_107 rfl rfl ?_
                refine zz_aload_n hx hb hl 1 dX7_heightOf_108 rfl rfl ?_
                refine zz_get (T := TX7) (N := 42) (k := 2) (κ := 30) (w := .int (zi (σ 30 0 2))) hx hb hts hinX7 hown hK hW2 (zlN (hM 30 rfl)) rfl rfl rfl (by decide) (hts (.fieldLink RX7 7 "HailCityModel" "cap" "I") (by decide +kernel)) (fun _ h9 => h9) rfl dX7_heightOf_109 ?_
                refine zz_icmp_le (tgt := 122) hx hb dX7_heightOf_112 (by decide) ⟨by omega, by omega⟩ (hW2.2.2.1 _ _ _) (fun hc112 => ?_) (fun hc112 => ?_)
                · refine zz_iload_n hx hb hl 0 dX7_heightOf_122 rfl rfl ?_
                  refine W.eq (g2 := F0 m 123 ls [.int (zi (100 + yhs (ym1 σ z) nr - yhs (ym2 σ z) i))]) rfl ?_
                  refine zz_reti hx hb hr hlocks hW2 hS2 ?_ dX7_heightOf_123
                  have e9 : yhs (ym2 σ z) nd = yhs (ym2 σ z) i := by rw [show nd = i by omega]
                  exact ⟨rfl, by omega⟩
                · refine zz_aload_n hx hb hl 1 dX7_heightOf_115 rfl rfl ?_
                  refine zz_get (T := TX7) (N := 42) (k := 2) (κ := 30) (w := .int (zi (σ 30 0 2))) hx hb hts hinX7 hown hK hW2 (zlN (hM 30 rfl)) rfl rfl rfl (by decide) (hts (.fieldLink RX7 7 "HailCityModel" "cap" "I") (by decide +kernel)) (fun _ h9 => h9) rfl dX7_heightOf_116 ?_
                  refine zz_goto (tgt := 123) hx hb dX7_heightOf_119 (by decide) ?_
                  refine W.eq (g2 := F0 m 123 ls [.int (zi (σ 30 0 2))]) rfl ?_
                  refine zz_reti hx hb hr hlocks hW2 hS2 ?_ dX7_heightOf_123
                  have e9 : yhs (ym2 σ z) nd = yhs (ym2 σ z) i := by rw [show nd = i by omega]
                  exact ⟨rfl, by omega⟩
              · refine zz_bipush hx hb dX7_heightOf_100 (by decide +kernel) ?_
                refine zz_goto (tgt := 106) hx hb dX7_heightOf_102 (by decide) ?_
                refine zz_istore_n (lv' := [(2, .int (zi 100)), (0, zr ad 30 ((0 : Nat) : Int)), (1, .int (zi z)), (3, .int (zi ((i : Nat) : Int)))]) hx hb hl dX7_heightOf_106 rfl (by decide) rfl (fun ls hl => ?_)
                refine zz_iload_n hx hb hl 0 dX7_heightOf_107 rfl rfl ?_
                refine zz_aload_n hx hb hl 1 dX7_heightOf_108 rfl rfl ?_
                refine zz_get (T := TX7) (N := 42) (k := 2) (κ := 30) (w := .int (zi (σ 30 0 2))) hx hb hts hinX7 hown hK hW2 (zlN (hM 30 rfl)) rfl rfl rfl (by decide) (hts (.fieldLink RX7 7 "HailCityModel" "cap" "I") (by decide +kernel)) (fun _ h9 => h9) rfl dX7_heightOf_109 ?_
                refine zz_icmp_le (tgt := 122) hx hb dX7_heightOf_112 (by decide) ⟨by decide, by decide⟩ (hW2.2.2.1 _ _ _) (fun hc112 => ?_) (fun hc112 => ?_)
                · refine zz_iload_n hx hb hl 0 dX7_heightOf_122 rfl rfl ?_
                  refine W.eq (g2 := F0 m 123 ls [.int (zi 100)]) rfl ?_
                  refine zz_reti hx hb hr hlocks hW2 hS2 ?_ dX7_heightOf_123
                  have e9 : yhs (ym2 σ z) nd = yhs (ym2 σ z) i := by rw [show nd = i by omega]
                  exact ⟨rfl, by omega⟩
                · refine zz_aload_n hx hb hl 1 dX7_heightOf_115 rfl rfl ?_
                  refine zz_get (T := TX7) (N := 42) (k := 2) (κ := 30) (w := .int (zi (σ 30 0 2))) hx hb hts hinX7 hown hK hW2 (zlN (hM 30 rfl)) rfl rfl rfl (by decide) (hts (.fieldLink RX7 7 "HailCityModel" "cap" "I") (by decide +kernel)) (fun _ h9 => h9) rfl dX7_heightOf_116 ?_
                  refine zz_goto (tgt := 123) hx hb dX7_heightOf_119 (by decide) ?_
                  refine W.eq (g2 := F0 m 123 ls [.int (zi (σ 30 0 2))]) rfl ?_
                  refine zz_reti hx hb hr hlocks hW2 hS2 ?_ dX7_heightOf_123
                  have e9 : yhs (ym2 σ z) nd = yhs (ym2 σ z) i := by rw [show nd = i by omega]
                  exact ⟨rfl, by omega⟩
            · have hcut86 : ∀  (H9 : Heap) (locs9 : List Loc) (ls : Array Slot), (True) → ZW G ad A σ H9 → va_S A s.heap H9 locs9 → zh ls 4 [(0, zr ad 30 ((0 : Nat) : Int)), (1, .int (zi z)), (3, .int (zi ((i : Nat) : Int)))] → W p l e ({ frames := 1, cells := 0, slots := 0, locals := 21 }) s m ([zr ad 30 ((0 : Nat) : Int), .int (zi z)] : List Value).toArray below meth c H9 locs9 0 0 (MQ below (zQ G ad A zri (fun r u => σ = u ∧ min (max (100 + yhs (ym1 σ z) nr - yhs (ym2 σ z) nd) 100) (σ 30 0 2) = r)) ([zr ad 30 ((0 : Nat) : Int), .int (zi z)] : List Value).toArray s 0 0 A) (F0 m 86 ls [.int (zi (ym2 σ z i)), .int (zi (100 + yhs (ym1 σ z) nr - yhs (ym2 σ z) i))]) := by
                intro  H3 locs3 ls hI86 hW3 hS3 hl
                have hyi2 := ym2_rg σ z i
                refine zz_isub hx hb dX7_heightOf_86 ?_
                refine zz_istore_n (lv' := [(2, .int (zi ((100 + yhs (ym1 σ z) nr - yhs (ym2 σ z) i) - (ym2 σ z i)))), (0, zr ad 30 ((0 : Nat) : Int)), (1, .int (zi z)), (3, .int (zi ((i : Nat) : Int)))]) hx hb hl dX7_heightOf_87 rfl (by decide) rfl (fun ls hl => ?_)
                refine zz_iinc (lv' := [(3, .int (zi ((i + 1 : Nat) : Int))), (2, .int (zi ((100 + yhs (ym1 σ z) nr - yhs (ym2 σ z) i) - (ym2 σ z i)))), (0, zr ad 30 ((0 : Nat) : Int)), (1, .int (zi z))]) hx hb hl dX7_heightOf_88 (k0 := 3) rfl (by decide) rfl (fun ls hl => ?_)
                refine zz_goto (tgt := 51) hx hb dX7_heightOf_91 (by decide) ?_
                refine ih51 (i + 1) H3 locs3 ls ?_ (by omega) hW3 hS3 (zh_sub hl [2, 3, 1, 0] (by rw [show 100 + yhs (ym1 σ z) nr - yhs (ym2 σ z) (i + 1) = 100 + yhs (ym1 σ z) nr - yhs (ym2 σ z) i - ym2 σ z i from by show _ - (yhs (ym2 σ z) i + ym2 σ z i) = _; omega]; rfl))
                omega
              refine zz_iload_n hx hb hl 2 dX7_heightOf_59 rfl rfl ?_
              refine zz_aload_n hx hb hl 0 dX7_heightOf_60 rfl rfl ?_
              refine zz_iload_n hx hb hl 3 dX7_heightOf_61 rfl rfl ?_
              refine zz_callV (T := TX7) (N := 42) (As := [.int (zi ((i : Nat) : Int))]) (rest := [.int (zi (100 + yhs (ym1 σ z) nr - yhs (ym2 σ z) i))]) (v := ((0 : Nat) : Int)) (κ := 30) ⟨hx, hb, hml, hown, hts⟩ (c_X7_isFree l G ad A N0 σ hM i (by omega)) (cwV 1 hts gX7_heightOf_X7_isFree rfl rfl rfl (by decide +kernel) ⟨Nat.le_of_ble_eq_true rfl, Nat.le_of_ble_eq_true rfl⟩) hK hW2 (zlN (hM 30 rfl)) rfl rfl (Nat.le_trans hsz hS2.1) hS2 rfl hl.1.1 rfl (Nat.le_of_ble_eq_true rfl) dX7_heightOf_62 ⟨Nat.le_of_ble_eq_true rfl, Nat.le_of_ble_eq_true rfl⟩ (fun x4 σ4 H4 locs4 hp4 hW4 hz4 hS4 => ?_)
              obtain ⟨rfl, rfl⟩ := hp4
              refine W.eq (g2 := F0 m 65 ls [.int (zi (zb (ymf σ i))), .int (zi (100 + yhs (ym1 σ z) nr - yhs (ym2 σ z) i))]) rfl ?_
              refine zz_if_eqb (tgt := 85) hx hb dX7_heightOf_65 (by decide) (fun hc65 => ?_) (fun hc65 => ?_)
              · refine zz_iconst hx hb dX7_heightOf_85 ?_
                refine W.eq (g2 := F0 m 86 ls [.int (zi (ym2 σ z i)), .int (zi (100 + yhs (ym1 σ z) nr - yhs (ym2 σ z) i))]) (congrArg (fun z9 => F0 m 86 ls (Value.int (zi z9) :: [.int (zi (100 + yhs (ym1 σ z) nr - yhs (ym2 σ z) i))])) (show 0 = ym2 σ z i from by show _ = 25 * zb (ymf σ i ∧ σ 49 0 i / 3 = z); first | (rw [zb_t ⟨hc65, by omega⟩]; rfl) | (rw [zb_f (fun q => hc65 q.1)]; rfl) | (rw [zb_f (fun q => by have := q.2; omega)]; rfl))) ?_
                refine hcut86  H4 locs4 ls ?_ hW4 hS4 (zh_sub hl [0, 1, 3] rfl)
                trivial
              · have hdpi := hdp i (by omega)
                have hg49 : σ 49 0 i < 2147483648 := (hW0.2.2.1 49 0 i).2
                refine zz_aload_n hx hb hl 0 dX7_heightOf_68 rfl rfl ?_
                refine zz_get (T := TX7) (N := 42) (k := 9) (κ := 30) (w := zr ad 49 ((0 : Nat) : Int)) hx hb hts hinX7 hown hK hW4 (zlN (hM 30 rfl)) rfl rfl rfl (by decide) (hts (.fieldLink RX7 26 "HailCityModel" "place" "[I") (by decide +kernel)) (fun _ h9 => h9) rfl dX7_heightOf_69 ?_
                refine zz_iload_n hx hb hl 3 dX7_heightOf_72 rfl rfl ?_
                refine zz_iald (w := σ 49 0 i) hx hb hK hW4 (zlN (hM 49 rfl)) rfl rfl rfl (by show (0 : Int) ≤ ((i : Nat) : Int); omega) (by show ((i : Nat) : Int) < (8 : Int); omega) rfl dX7_heightOf_73 ?_
                refine zz_iconst hx hb dX7_heightOf_74 ?_
                refine zz_idiv hx hb dX7_heightOf_75 (hW4.2.2.1 _ _ _) ⟨by decide, by decide⟩ (by omega) (by omega) ?_
                refine zz_iload_n hx hb hl 1 dX7_heightOf_76 rfl rfl ?_
                refine zz_icmp_ne (tgt := 85) hx hb dX7_heightOf_77 (by decide) ⟨by omega, by omega⟩ gz (fun hc77 => ?_) (fun hc77 => ?_)
                · refine zz_iconst hx hb dX7_heightOf_85 ?_
                  refine W.eq (g2 := F0 m 86 ls [.int (zi (ym2 σ z i)), .int (zi (100 + yhs (ym1 σ z) nr - yhs (ym2 σ z) i))]) (congrArg (fun z9 => F0 m 86 ls (Value.int (zi z9) :: [.int (zi (100 + yhs (ym1 σ z) nr - yhs (ym2 σ z) i))])) (show 0 = ym2 σ z i from by show _ = 25 * zb (ymf σ i ∧ σ 49 0 i / 3 = z); first | (rw [zb_t ⟨hc65, by omega⟩]; rfl) | (rw [zb_f (fun q => hc65 q.1)]; rfl) | (rw [zb_f (fun q => by have := q.2; omega)]; rfl))) ?_
                  refine hcut86  H4 locs4 ls ?_ hW4 hS4 (zh_sub hl [0, 1, 3] rfl)
                  trivial
                · refine zz_bipush hx hb dX7_heightOf_80 (by decide +kernel) ?_
                  refine zz_goto (tgt := 86) hx hb dX7_heightOf_82 (by decide) ?_
                  refine W.eq (g2 := F0 m 86 ls [.int (zi (ym2 σ z i)), .int (zi (100 + yhs (ym1 σ z) nr - yhs (ym2 σ z) i))]) (congrArg (fun z9 => F0 m 86 ls (Value.int (zi z9) :: [.int (zi (100 + yhs (ym1 σ z) nr - yhs (ym2 σ z) i))])) (show 25 = ym2 σ z i from by show _ = 25 * zb (ymf σ i ∧ σ 49 0 i / 3 = z); first | (rw [zb_t ⟨hc65, by omega⟩]; rfl) | (rw [zb_f (fun q => hc65 q.1)]; rfl) | (rw [zb_f (fun q => by have := q.2; omega)]; rfl))) ?_
                  refine hcut86  H4 locs4 ls ?_ hW4 hS4 (zh_sub hl [0, 1, 3] rfl)
                  trivial
        refine hcut51 _ 0 H1 locs1 ls ?_ (Nat.lt_succ_self _) hW1 hS1 (zh_sub hl [1, 2, 3, 0] (by rw [show 100 + yhs (ym1 σ z) nr - yhs (ym2 σ z) 0 = 100 + yhs (ym1 σ z) i by rw [show i = nr by omega]; exact Int.sub_zero _]; rfl))
        exact Nat.zero_le _
      · have hcut41 : ∀  (H9 : Heap) (locs9 : List Loc) (ls : Array Slot), (True) → ZW G ad A σ H9 → va_S A s.heap H9 locs9 → zh ls 4 [(0, zr ad 30 ((0 : Nat) : Int)), (1, .int (zi z)), (3, .int (zi ((i : Nat) : Int)))] → W p l e ({ frames := 1, cells := 0, slots := 0, locals := 21 }) s m ([zr ad 30 ((0 : Nat) : Int), .int (zi z)] : List Value).toArray below meth c H9 locs9 0 0 (MQ below (zQ G ad A zri (fun r u => σ = u ∧ min (max (100 + yhs (ym1 σ z) nr - yhs (ym2 σ z) nd) 100) (σ 30 0 2) = r)) ([zr ad 30 ((0 : Nat) : Int), .int (zi z)] : List Value).toArray s 0 0 A) (F0 m 41 ls [.int (zi (ym1 σ z i)), .int (zi (100 + yhs (ym1 σ z) i))]) := by
          intro  H5 locs5 ls hI41 hW5 hS5 hl
          have hyi1 := ym1_rg σ z i
          refine zz_iadd hx hb dX7_heightOf_41 ?_
          refine zz_istore_n (lv' := [(2, .int (zi ((100 + yhs (ym1 σ z) i) + (ym1 σ z i)))), (0, zr ad 30 ((0 : Nat) : Int)), (1, .int (zi z)), (3, .int (zi ((i : Nat) : Int)))]) hx hb hl dX7_heightOf_42 rfl (by decide) rfl (fun ls hl => ?_)
          refine zz_iinc (lv' := [(3, .int (zi ((i + 1 : Nat) : Int))), (2, .int (zi ((100 + yhs (ym1 σ z) i) + (ym1 σ z i)))), (0, zr ad 30 ((0 : Nat) : Int)), (1, .int (zi z))]) hx hb hl dX7_heightOf_43 (k0 := 3) rfl (by decide) rfl (fun ls hl => ?_)
          refine zz_goto (tgt := 5) hx hb dX7_heightOf_46 (by decide) ?_
          refine ih5 (i + 1) H5 locs5 ls ?_ (by omega) hW5 hS5 (zh_sub hl [2, 3, 1, 0] (by rw [show 100 + yhs (ym1 σ z) (i + 1) = 100 + yhs (ym1 σ z) i + ym1 σ z i from by show 100 + (yhs (ym1 σ z) i + ym1 σ z i) = _; omega]; rfl))
          omega
        refine zz_iload_n hx hb hl 2 dX7_heightOf_13 rfl rfl ?_
        refine zz_aload_n hx hb hl 0 dX7_heightOf_14 rfl rfl ?_
        refine zz_get (T := TX7) (N := 42) (k := 24) (κ := 30) (w := zr ad 64 ((0 : Nat) : Int)) hx hb hts hinX7 hown hK hW1 (zlN (hM 30 rfl)) rfl rfl rfl (by decide) (hts (.fieldLink RX7 66 "HailCityModel" "state" "[I") (by decide +kernel)) (fun _ h9 => h9) rfl dX7_heightOf_15 ?_
        refine zz_iload_n hx hb hl 3 dX7_heightOf_18 rfl rfl ?_
        refine zz_iald (w := σ 64 0 i) hx hb hK hW1 (zlN (hM 64 rfl)) rfl rfl rfl (by show (0 : Int) ≤ ((i : Nat) : Int); omega) (by show ((i : Nat) : Int) < (60 : Int); omega) rfl dX7_heightOf_19 ?_
        refine zz_if_ne (tgt := 40) hx hb dX7_heightOf_20 (by decide) (hW1.2.2.1 _ _ _) (fun hc20 => ?_) (fun hc20 => ?_)
        · refine zz_iconst hx hb dX7_heightOf_40 ?_
          refine W.eq (g2 := F0 m 41 ls [.int (zi (ym1 σ z i)), .int (zi (100 + yhs (ym1 σ z) i))]) (congrArg (fun z9 => F0 m 41 ls (Value.int (zi z9) :: [.int (zi (100 + yhs (ym1 σ z) i))])) (show 0 = ym1 σ z i from by show _ = 25 * zb (σ 64 0 i = 0 ∧ σ 65 0 i / 3 = z); first | rw [zb_t (by omega)]; rfl | rw [zb_f (by omega)]; rfl)) ?_
          refine hcut41  H1 locs1 ls ?_ hW1 hS1 (zh_sub hl [0, 1, 3] rfl)
          trivial
        · have hrpi := hrp i (by omega)
          have hg65 : σ 65 0 i < 2147483648 := (hW0.2.2.1 65 0 i).2
          refine zz_aload_n hx hb hl 0 dX7_heightOf_23 rfl rfl ?_
          refine zz_get (T := TX7) (N := 42) (k := 25) (κ := 30) (w := zr ad 65 ((0 : Nat) : Int)) hx hb hts hinX7 hown hK hW1 (zlN (hM 30 rfl)) rfl rfl rfl (by decide) (hts (.fieldLink RX7 69 "HailCityModel" "from" "[I") (by decide +kernel)) (fun _ h9 => h9) rfl dX7_heightOf_24 ?_
          refine zz_iload_n hx hb hl 3 dX7_heightOf_27 rfl rfl ?_
          refine zz_iald (w := σ 65 0 i) hx hb hK hW1 (zlN (hM 65 rfl)) rfl rfl rfl (by show (0 : Int) ≤ ((i : Nat) : Int); omega) (by show ((i : Nat) : Int) < (60 : Int); omega) rfl dX7_heightOf_28 ?_
          refine zz_iconst hx hb dX7_heightOf_29 ?_
          refine zz_idiv hx hb dX7_heightOf_30 (hW1.2.2.1 _ _ _) ⟨by decide, by decide⟩ (by omega) (by omega) ?_
          refine zz_iload_n hx hb hl 1 dX7_heightOf_31 rfl rfl ?_
          refine zz_icmp_ne (tgt := 40) hx hb dX7_heightOf_32 (by decide) ⟨by omega, by omega⟩ gz (fun hc32 => ?_) (fun hc32 => ?_)
          · refine zz_iconst hx hb dX7_heightOf_40 ?_
            refine W.eq (g2 := F0 m 41 ls [.int (zi (ym1 σ z i)), .int (zi (100 + yhs (ym1 σ z) i))]) (congrArg (fun z9 => F0 m 41 ls (Value.int (zi z9) :: [.int (zi (100 + yhs (ym1 σ z) i))])) (show 0 = ym1 σ z i from by show _ = 25 * zb (σ 64 0 i = 0 ∧ σ 65 0 i / 3 = z); first | rw [zb_t (by omega)]; rfl | rw [zb_f (by omega)]; rfl)) ?_
            refine hcut41  H1 locs1 ls ?_ hW1 hS1 (zh_sub hl [0, 1, 3] rfl)
            trivial
          · refine zz_bipush hx hb dX7_heightOf_35 (by decide +kernel) ?_
            refine zz_goto (tgt := 41) hx hb dX7_heightOf_37 (by decide) ?_
            refine W.eq (g2 := F0 m 41 ls [.int (zi (ym1 σ z i)), .int (zi (100 + yhs (ym1 σ z) i))]) (congrArg (fun z9 => F0 m 41 ls (Value.int (zi z9) :: [.int (zi (100 + yhs (ym1 σ z) i))])) (show 25 = ym1 σ z i from by show _ = 25 * zb (σ 64 0 i = 0 ∧ σ 65 0 i / 3 = z); first | rw [zb_t (by omega)]; rfl | rw [zb_f (by omega)]; rfl)) ?_
            refine hcut41  H1 locs1 ls ?_ hW1 hS1 (zh_sub hl [0, 1, 3] rfl)
            trivial
  refine hcut5 _ 0 s.heap [] ls ?_ (Nat.lt_succ_self _) hW0 hS0 (zh_sub hl [2, 3, 1, 0] rfl)
  exact Nat.zero_le _

def ycs (σ : zS) (d i : Nat) : Prop := (σ 51 0 d = 0 ∧ 0 < σ 52 0 d) ∧ ∀ j, j < i → σ 54 0 (8 * d + j) ≠ -1 ∧ σ 68 0 (σ 54 0 (8 * d + j) % 100).toNat = 1
theorem ycs_s {σ : zS} {d i : Nat} : ycs σ d (i + 1) ↔ ycs σ d i ∧ σ 54 0 (8 * d + i) ≠ -1 ∧ σ 68 0 (σ 54 0 (8 * d + i) % 100).toNat = 1 := by
  constructor
  · rintro ⟨h1, h2⟩
    exact ⟨⟨h1, fun j hj => h2 j (by omega)⟩, h2 i (by omega)⟩
  · rintro ⟨⟨h1, h2⟩, h3⟩
    refine ⟨h1, fun j hj => ?_⟩
    rcases Nat.lt_or_ge j i with h | h
    · exact h2 j h
    · rw [show j = i by omega]; exact h3
def ylo (σ : zS) (d : Nat) (j : Nat) : Int := if 100 ≤ σ 54 0 (8 * d + j) then 1 else 0
theorem ylo_rg (σ : zS) (d j : Nat) : 0 ≤ ylo σ d j ∧ ylo σ d j ≤ 1 := by
  unfold ylo
  split <;> omega

set_option maxHeartbeats 4000000 in
set_option maxRecDepth 100000 in
theorem c_X7_canShare (l : Launch) (G : zG) (ad : zA) (A : Nat → Prop) (N0 : Nat) (σ : zS) (hM : zMm ad) (d : Nat) (hd : d < 8) (n : Nat) (hn : σ 52 0 d = (n : Int)) (hn8 : n ≤ 8) (hwr : ∀ j, j < n → -1 ≤ σ 54 0 (8 * d + j) ∧ σ 54 0 (8 * d + j) < 160 ∧ (σ 54 0 (8 * d + j) < 100 → σ 54 0 (8 * d + j) < 60)) : Met l yX7_canShare wsX7_canShare ({ frames := 0, cells := 0, slots := 0, locals := 0 }) (zP G ad A N0 σ [zr ad 30 ((0 : Nat) : Int), .int (zi ((d : Nat) : Int))]) (zQ G ad A zri (fun r u => σ = u ∧ zb (ycs σ d n ∧ yhs (ylo σ d) n ≤ 3) = r)) 0 0 A := by
  refine zz_of (cc := cX7_canShare) (maxL := 6) (ret := (some .boolean)) (by decide) rfl ⟨rfl, rfl⟩ (List.forall_mem_cons.mpr ⟨zr_cat _ _ _, List.forall_mem_cons.mpr ⟨rfl, fun _ h => absurd h List.not_mem_nil⟩⟩) (Nat.le_of_ble_eq_true rfl) ?_
  intro p e s m below meth c hx hb hr hml hts hown hlocks hsz hW0 hK ls hl
  have hS0 : va_S A s.heap s.heap [] := va_S.rf
  have hl : zh ls 6 [(0, zr ad 30 ((0 : Nat) : Int)), (1, .int (zi ((d : Nat) : Int)))] := hl
  have hinX7 : ∀ w ∈ u_ws RX7 TX7 42, w ∈ wsX7_canShare := by decide +kernel
  have hy1 := fun n => yhs_rg (ylo_rg σ d) n
  refine zz_iconst hx hb dX7_canShare_0 ?_
  refine zz_istore_n (lv' := [(2, .int (zi 0)), (0, zr ad 30 ((0 : Nat) : Int)), (1, .int (zi ((d : Nat) : Int)))]) hx hb hl dX7_canShare_1 rfl (by decide) rfl (fun ls hl => ?_)
  have hcut25 : ∀  (H9 : Heap) (locs9 : List Loc) (ls : Array Slot), (True) → ZW G ad A σ H9 → va_S A s.heap H9 locs9 → zh ls 6 [(0, zr ad 30 ((0 : Nat) : Int)), (1, .int (zi ((d : Nat) : Int))), (2, .int (zi 0))] → W p l e ({ frames := 0, cells := 0, slots := 0, locals := 0 }) s m ([zr ad 30 ((0 : Nat) : Int), .int (zi ((d : Nat) : Int))] : List Value).toArray below meth c H9 locs9 0 0 (MQ below (zQ G ad A zri (fun r u => σ = u ∧ zb (ycs σ d n ∧ yhs (ylo σ d) n ≤ 3) = r)) ([zr ad 30 ((0 : Nat) : Int), .int (zi ((d : Nat) : Int))] : List Value).toArray s 0 0 A) (F0 m 25 ls [.int (zi (zb (ycs σ d 0)))]) := by
    intro  H1 locs1 ls hI25 hW1 hS1 hl
    refine zz_istore_n (lv' := [(3, .int (zi (zb (ycs σ d 0)))), (0, zr ad 30 ((0 : Nat) : Int)), (1, .int (zi ((d : Nat) : Int))), (2, .int (zi 0))]) hx hb hl dX7_canShare_25 rfl (by decide) rfl (fun ls hl => ?_)
    refine zz_bipush hx hb dX7_canShare_26 (by decide +kernel) ?_
    refine zz_iload_n hx hb hl 2 dX7_canShare_28 rfl rfl ?_
    refine zz_imul hx hb dX7_canShare_29 ?_
    refine zz_istore (lv' := [(4, .int (zi ((8 * d : Nat) : Int))), (3, .int (zi (zb (ycs σ d 0)))), (0, zr ad 30 ((0 : Nat) : Int)), (1, .int (zi ((d : Nat) : Int))), (2, .int (zi 0))]) hx hb hl dX7_canShare_30 (by decide) rfl (fun ls hl => ?_)
    have hcut32 : ∀ (n9 : Nat) (i : Nat)  (H9 : Heap) (locs9 : List Loc) (ls : Array Slot), (i ≤ n) → (n - i) < n9 → ZW G ad A σ H9 → va_S A s.heap H9 locs9 → zh ls 6 [(0, zr ad 30 ((0 : Nat) : Int)), (1, .int (zi ((d : Nat) : Int))), (2, .int (zi (yhs (ylo σ d) i))), (3, .int (zi (zb (ycs σ d i)))), (4, .int (zi ((8 * d + i : Nat) : Int)))] → W p l e ({ frames := 0, cells := 0, slots := 0, locals := 0 }) s m ([zr ad 30 ((0 : Nat) : Int), .int (zi ((d : Nat) : Int))] : List Value).toArray below meth c H9 locs9 0 0 (MQ below (zQ G ad A zri (fun r u => σ = u ∧ zb (ycs σ d n ∧ yhs (ylo σ d) n ≤ 3) = r)) ([zr ad 30 ((0 : Nat) : Int), .int (zi ((d : Nat) : Int))] : List Value).toArray s 0 0 A) (F0 m 32 ls []) := by
      intro n9
      induction n9 with
      | zero =>
        intro i H2 locs2 ls hI32 hm32 hW2 hS2 hl
        exact absurd hm32 (Nat.not_lt_zero _)
      | succ n9 ih32 =>
        intro i H2 locs2 ls hI32 hm32 hW2 hS2 hl
        have hyi := hy1 i
        refine zz_iload hx hb hl 4 dX7_canShare_32 rfl ?_
        refine zz_bipush hx hb dX7_canShare_34 (by decide +kernel) ?_
        refine zz_iload_n hx hb hl 1 dX7_canShare_36 rfl rfl ?_
        refine zz_imul hx hb dX7_canShare_37 ?_
        refine zz_aload_n hx hb hl 0 dX7_canShare_38 rfl rfl ?_
        refine zz_get (T := TX7) (N := 42) (k := 12) (κ := 30) (w := zr ad 52 ((0 : Nat) : Int)) hx hb hts hinX7 hown hK hW2 (zlN (hM 30 rfl)) rfl rfl rfl (by decide) (hts (.fieldLink RX7 36 "HailCityModel" "stops" "[I") (by decide +kernel)) (fun _ h9 => h9) rfl dX7_canShare_39 ?_
        refine zz_iload_n hx hb hl 1 dX7_canShare_42 rfl rfl ?_
        refine zz_iald (w := ((n : Nat) : Int)) hx hb hK hW2 (zlN (hM 52 rfl)) rfl rfl rfl (by show (0 : Int) ≤ ((d : Nat) : Int); omega) (by show ((d : Nat) : Int) < (8 : Int); omega) (show σ 52 0 d = ((n : Nat) : Int) from by rw [hn]) dX7_canShare_43 ?_
        refine zz_iadd hx hb dX7_canShare_44 ?_
        refine zz_icmp_ge (tgt := 107) hx hb dX7_canShare_45 (by decide) ⟨by omega, by omega⟩ ⟨by omega, by omega⟩ (fun hc45 => ?_) (fun hc45 => ?_)
        · refine zz_iload_n hx hb hl 3 dX7_canShare_107 rfl rfl ?_
          refine zz_if_eqb (tgt := 120) hx hb dX7_canShare_108 (by decide) (fun hc108 => ?_) (fun hc108 => ?_)
          · refine zz_iconst hx hb dX7_canShare_120 ?_
            refine W.eq (g2 := F0 m 121 ls [.int (zi 0)]) rfl ?_
            refine zz_retz hx hb hr hlocks hW2 hS2 (by decide) ?_ dX7_canShare_121
            first | exact ⟨rfl, zb_t ⟨by rw [show n = i by omega]; exact hc108, by rw [show n = i by omega]; omega⟩⟩ | exact ⟨rfl, zb_f (fun q => hc108 (by rw [← show n = i by omega]; exact q.1))⟩ | exact ⟨rfl, zb_f (fun q => by have q2 := q.2; rw [show n = i by omega] at q2; omega)⟩
          · refine zz_iload_n hx hb hl 2 dX7_canShare_111 rfl rfl ?_
            refine zz_iconst hx hb dX7_canShare_112 ?_
            refine zz_icmp_gt (tgt := 120) hx hb dX7_canShare_113 (by decide) ⟨by omega, by omega⟩ ⟨by decide, by decide⟩ (fun hc113 => ?_) (fun hc113 => ?_)
            · refine zz_iconst hx hb dX7_canShare_120 ?_
              refine W.eq (g2 := F0 m 121 ls [.int (zi 0)]) rfl ?_
              refine zz_retz hx hb hr hlocks hW2 hS2 (by decide) ?_ dX7_canShare_121
              first | exact ⟨rfl, zb_t ⟨by rw [show n = i by omega]; exact hc108, by rw [show n = i by omega]; omega⟩⟩ | exact ⟨rfl, zb_f (fun q => hc108 (by rw [← show n = i by omega]; exact q.1))⟩ | exact ⟨rfl, zb_f (fun q => by have q2 := q.2; rw [show n = i by omega] at q2; omega)⟩
            · refine zz_iconst hx hb dX7_canShare_116 ?_
              refine zz_goto (tgt := 121) hx hb dX7_canShare_117 (by decide) ?_
              refine W.eq (g2 := F0 m 121 ls [.int (zi 1)]) rfl ?_
              refine zz_retz hx hb hr hlocks hW2 hS2 (by decide) ?_ dX7_canShare_121
              first | exact ⟨rfl, zb_t ⟨by rw [show n = i by omega]; exact hc108, by rw [show n = i by omega]; omega⟩⟩ | exact ⟨rfl, zb_f (fun q => hc108 (by rw [← show n = i by omega]; exact q.1))⟩ | exact ⟨rfl, zb_f (fun q => by have q2 := q.2; rw [show n = i by omega] at q2; omega)⟩
        · have hwi := hwr i (by omega)
          have hyl := ylo_rg σ d i
          refine zz_aload_n hx hb hl 0 dX7_canShare_48 rfl rfl ?_
          refine zz_get (T := TX7) (N := 42) (k := 14) (κ := 30) (w := zr ad 54 ((0 : Nat) : Int)) hx hb hts hinX7 hown hK hW2 (zlN (hM 30 rfl)) rfl rfl rfl (by decide) (hts (.fieldLink RX7 42 "HailCityModel" "stopWhom" "[I") (by decide +kernel)) (fun _ h9 => h9) rfl dX7_canShare_49 ?_
          refine zz_iload hx hb hl 4 dX7_canShare_52 rfl ?_
          refine zz_iald (w := σ 54 0 (8 * d + i)) hx hb hK hW2 (zlN (hM 54 rfl)) rfl rfl rfl (by show (0 : Int) ≤ ((8 * d + i : Nat) : Int); omega) (by show ((8 * d + i : Nat) : Int) < (64 : Int); omega) rfl dX7_canShare_54 ?_
          refine zz_istore (lv' := [(5, .int (zi (σ 54 0 (8 * d + i)))), (0, zr ad 30 ((0 : Nat) : Int)), (1, .int (zi ((d : Nat) : Int))), (2, .int (zi (yhs (ylo σ d) i))), (3, .int (zi (zb (ycs σ d i)))), (4, .int (zi ((8 * d + i : Nat) : Int)))]) hx hb hl dX7_canShare_55 (by decide) rfl (fun ls hl => ?_)
          have hcut85 : ∀  (H9 : Heap) (locs9 : List Loc) (ls : Array Slot), (True) → ZW G ad A σ H9 → va_S A s.heap H9 locs9 → zh ls 6 [(0, zr ad 30 ((0 : Nat) : Int)), (1, .int (zi ((d : Nat) : Int))), (2, .int (zi (yhs (ylo σ d) i))), (4, .int (zi ((8 * d + i : Nat) : Int))), (5, .int (zi (σ 54 0 (8 * d + i))))] → W p l e ({ frames := 0, cells := 0, slots := 0, locals := 0 }) s m ([zr ad 30 ((0 : Nat) : Int), .int (zi ((d : Nat) : Int))] : List Value).toArray below meth c H9 locs9 0 0 (MQ below (zQ G ad A zri (fun r u => σ = u ∧ zb (ycs σ d n ∧ yhs (ylo σ d) n ≤ 3) = r)) ([zr ad 30 ((0 : Nat) : Int), .int (zi ((d : Nat) : Int))] : List Value).toArray s 0 0 A) (F0 m 85 ls [.int (zi (zb (ycs σ d (i + 1))))]) := by
            intro  H3 locs3 ls hI85 hW3 hS3 hl
            refine zz_istore_n (lv' := [(3, .int (zi (zb (ycs σ d (i + 1))))), (0, zr ad 30 ((0 : Nat) : Int)), (1, .int (zi ((d : Nat) : Int))), (2, .int (zi (yhs (ylo σ d) i))), (4, .int (zi ((8 * d + i : Nat) : Int))), (5, .int (zi (σ 54 0 (8 * d + i))))]) hx hb hl dX7_canShare_85 rfl (by decide) rfl (fun ls hl => ?_)
            have hcut99 : ∀  (H9 : Heap) (locs9 : List Loc) (ls : Array Slot), (True) → ZW G ad A σ H9 → va_S A s.heap H9 locs9 → zh ls 6 [(0, zr ad 30 ((0 : Nat) : Int)), (1, .int (zi ((d : Nat) : Int))), (3, .int (zi (zb (ycs σ d (i + 1))))), (4, .int (zi ((8 * d + i : Nat) : Int))), (5, .int (zi (σ 54 0 (8 * d + i))))] → W p l e ({ frames := 0, cells := 0, slots := 0, locals := 0 }) s m ([zr ad 30 ((0 : Nat) : Int), .int (zi ((d : Nat) : Int))] : List Value).toArray below meth c H9 locs9 0 0 (MQ below (zQ G ad A zri (fun r u => σ = u ∧ zb (ycs σ d n ∧ yhs (ylo σ d) n ≤ 3) = r)) ([zr ad 30 ((0 : Nat) : Int), .int (zi ((d : Nat) : Int))] : List Value).toArray s 0 0 A) (F0 m 99 ls [.int (zi (ylo σ d i)), .int (zi (yhs (ylo σ d) i))]) := by
              intro  H4 locs4 ls hI99 hW4 hS4 hl
              refine zz_iadd hx hb dX7_canShare_99 ?_
              refine zz_istore_n (lv' := [(2, .int (zi ((yhs (ylo σ d) i) + (ylo σ d i)))), (0, zr ad 30 ((0 : Nat) : Int)), (1, .int (zi ((d : Nat) : Int))), (3, .int (zi (zb (ycs σ d (i + 1))))), (4, .int (zi ((8 * d + i : Nat) : Int))), (5, .int (zi (σ 54 0 (8 * d + i))))]) hx hb hl dX7_canShare_100 rfl (by decide) rfl (fun ls hl => ?_)
              refine zz_iinc (lv' := [(4, .int (zi (((8 * d + i) + 1 : Nat) : Int))), (2, .int (zi ((yhs (ylo σ d) i) + (ylo σ d i)))), (0, zr ad 30 ((0 : Nat) : Int)), (1, .int (zi ((d : Nat) : Int))), (3, .int (zi (zb (ycs σ d (i + 1))))), (5, .int (zi (σ 54 0 (8 * d + i))))]) hx hb hl dX7_canShare_101 (k0 := 4) rfl (by decide) rfl (fun ls hl => ?_)
              refine zz_goto (tgt := 32) hx hb dX7_canShare_104 (by decide) ?_
              refine ih32 (i + 1) H4 locs4 ls ?_ (by omega) hW4 hS4 (zh_sub hl [2, 3, 1, 4, 0] rfl)
              omega
            refine zz_iload_n hx hb hl 3 dX7_canShare_86 rfl rfl ?_
            refine zz_iload hx hb hl 5 dX7_canShare_87 rfl ?_
            refine zz_bipush hx hb dX7_canShare_89 (by decide +kernel) ?_
            refine zz_icmp_lt (tgt := 98) hx hb dX7_canShare_91 (by decide) (hW0.2.2.1 _ _ _) ⟨by decide, by decide⟩ (fun hc91 => ?_) (fun hc91 => ?_)
            · refine zz_iconst hx hb dX7_canShare_98 ?_
              refine W.eq (g2 := F0 m 99 ls [.int (zi (ylo σ d i)), .int (zi (yhs (ylo σ d) i))]) (congrArg (fun z9 => F0 m 99 ls (Value.int (zi z9) :: [.int (zi (yhs (ylo σ d) i))])) (show 0 = ylo σ d i from by unfold ylo; split <;> first | rfl | omega)) ?_
              refine hcut99  H3 locs3 ls ?_ hW3 hS3 (zh_sub hl [1, 2, 0, 4, 5] rfl)
              trivial
            · refine zz_iconst hx hb dX7_canShare_94 ?_
              refine zz_goto (tgt := 99) hx hb dX7_canShare_95 (by decide) ?_
              refine W.eq (g2 := F0 m 99 ls [.int (zi (ylo σ d i)), .int (zi (yhs (ylo σ d) i))]) (congrArg (fun z9 => F0 m 99 ls (Value.int (zi z9) :: [.int (zi (yhs (ylo σ d) i))])) (show 1 = ylo σ d i from by unfold ylo; split <;> first | rfl | omega)) ?_
              refine hcut99  H3 locs3 ls ?_ hW3 hS3 (zh_sub hl [1, 2, 0, 4, 5] rfl)
              trivial
          refine zz_iload_n hx hb hl 4 dX7_canShare_57 rfl rfl ?_
          refine zz_if_eqb (tgt := 84) hx hb dX7_canShare_58 (by decide) (fun hc58 => ?_) (fun hc58 => ?_)
          · refine zz_iconst hx hb dX7_canShare_84 ?_
            refine W.eq (g2 := F0 m 85 ls [.int (zi (zb (ycs σ d (i + 1))))]) (congrArg (fun z9 => F0 m 85 ls (Value.int (zi z9) :: [])) (show (0 : Int) = zb (ycs σ d (i + 1)) from (zb_f (P := ycs σ d (i + 1)) (fun q => by have q2 := ycs_s.mp q; first | exact hc58 q2.1 | exact q2.2.1 hc64 | (have q3 := q2.2.2; omega))).symm)) ?_
            refine hcut85  H2 locs2 ls ?_ hW2 hS2 (zh_sub hl [1, 2, 3, 5, 0] rfl)
            trivial
          · refine zz_iload hx hb hl 0 dX7_canShare_61 rfl ?_
            refine zz_iconst hx hb dX7_canShare_63 ?_
            refine zz_icmp_eq (tgt := 84) hx hb dX7_canShare_64 (by decide) (hW2.2.2.1 _ _ _) ⟨by decide, by decide⟩ (fun hc64 => ?_) (fun hc64 => ?_)
            · refine zz_iconst hx hb dX7_canShare_84 ?_
              refine W.eq (g2 := F0 m 85 ls [.int (zi (zb (ycs σ d (i + 1))))]) (congrArg (fun z9 => F0 m 85 ls (Value.int (zi z9) :: [])) (show (0 : Int) = zb (ycs σ d (i + 1)) from (zb_f (P := ycs σ d (i + 1)) (fun q => by have q2 := ycs_s.mp q; first | exact hc58 q2.1 | exact q2.2.1 hc64 | (have q3 := q2.2.2; omega))).symm)) ?_
              refine hcut85  H2 locs2 ls ?_ hW2 hS2 (zh_sub hl [1, 2, 3, 5, 0] rfl)
              trivial
            · refine zz_aload_n hx hb hl 1 dX7_canShare_67 rfl rfl ?_
              refine zz_get (T := TX7) (N := 42) (k := 28) (κ := 30) (w := zr ad 68 ((0 : Nat) : Int)) hx hb hts hinX7 hown hK hW2 (zlN (hM 30 rfl)) rfl rfl rfl (by decide) (hts (.fieldLink RX7 78 "HailCityModel" "isShared" "[Z") (by decide +kernel)) (fun _ h9 => h9) rfl dX7_canShare_68 ?_
              refine zz_iload hx hb hl 0 dX7_canShare_71 rfl ?_
              refine zz_bipush hx hb dX7_canShare_73 (by decide +kernel) ?_
              refine zz_irem hx hb dX7_canShare_75 (hW2.2.2.1 _ _ _) ⟨by decide, by decide⟩ (by omega) (by omega) ?_
              have hb68 := hW2.2.2.2.2 68 0 (σ 54 0 (8 * d + i) % 100).toNat rfl
              refine zz_zald (w := σ 68 0 (((σ 54 0 (8 * d + i)) % 100).toNat)) hx hb hK hW2 (zlN (hM 68 rfl)) rfl rfl rfl (by show (0 : Int) ≤ (σ 54 0 (8 * d + i)) % 100; omega) (by show ((σ 54 0 (8 * d + i)) % 100) < (60 : Int); omega) rfl dX7_canShare_76 ?_
              refine zz_if_eq (tgt := 84) hx hb dX7_canShare_77 (by decide) (hW2.2.2.1 _ _ _) (fun hc77 => ?_) (fun hc77 => ?_)
              · refine zz_iconst hx hb dX7_canShare_84 ?_
                refine W.eq (g2 := F0 m 85 ls [.int (zi (zb (ycs σ d (i + 1))))]) (congrArg (fun z9 => F0 m 85 ls (Value.int (zi z9) :: [])) (show (0 : Int) = zb (ycs σ d (i + 1)) from (zb_f (P := ycs σ d (i + 1)) (fun q => by have q2 := ycs_s.mp q; first | exact hc58 q2.1 | exact q2.2.1 hc64 | (have q3 := q2.2.2; omega))).symm)) ?_
                refine hcut85  H2 locs2 ls ?_ hW2 hS2 (zh_sub hl [1, 2, 3, 5, 0] rfl)
                trivial
              · refine zz_iconst hx hb dX7_canShare_80 ?_
                refine zz_goto (tgt := 85) hx hb dX7_canShare_81 (by decide) ?_
                refine W.eq (g2 := F0 m 85 ls [.int (zi (zb (ycs σ d (i + 1))))]) (congrArg (fun z9 => F0 m 85 ls (Value.int (zi z9) :: [])) (show (1 : Int) = zb (ycs σ d (i + 1)) from (zb_t (P := ycs σ d (i + 1)) (ycs_s.mpr ⟨hc58, hc64, by omega⟩)).symm)) ?_
                refine hcut85  H2 locs2 ls ?_ hW2 hS2 (zh_sub hl [1, 2, 3, 5, 0] rfl)
                trivial
    refine hcut32 _ 0 H1 locs1 ls ?_ (Nat.lt_succ_self _) hW1 hS1 (zh_sub hl [2, 3, 4, 1, 0] rfl)
    exact Nat.zero_le _
  refine zz_aload_n hx hb hl 1 dX7_canShare_2 rfl rfl ?_
  refine zz_get (T := TX7) (N := 42) (k := 11) (κ := 30) (w := zr ad 51 ((0 : Nat) : Int)) hx hb hts hinX7 hown hK hW0 (zlN (hM 30 rfl)) rfl rfl rfl (by decide) (hts (.fieldLink RX7 33 "HailCityModel" "isBarred" "[Z") (by decide +kernel)) (fun _ h9 => h9) rfl dX7_canShare_3 ?_
  refine zz_iload_n hx hb hl 2 dX7_canShare_6 rfl rfl ?_
  refine zz_zald (w := σ 51 0 d) hx hb hK hW0 (zlN (hM 51 rfl)) rfl rfl rfl (by show (0 : Int) ≤ ((d : Nat) : Int); omega) (by show ((d : Nat) : Int) < (8 : Int); omega) rfl dX7_canShare_7 ?_
  have hb51 := hW0.2.2.2.2 51 0 d rfl
  refine zz_if_ne (tgt := 24) hx hb dX7_canShare_8 (by decide) (hW0.2.2.1 _ _ _) (fun hc8 => ?_) (fun hc8 => ?_)
  · refine zz_iconst hx hb dX7_canShare_24 ?_
    refine W.eq (g2 := F0 m 25 ls [.int (zi (zb (ycs σ d 0)))]) (congrArg (fun z9 => F0 m 25 ls (Value.int (zi z9) :: [])) (show (0 : Int) = zb (ycs σ d 0) from (zb_f (P := ycs σ d 0) (fun q => by have q1 := q.1.1; have q2 := q.1.2; omega)).symm)) ?_
    refine hcut25  s.heap [] ls ?_ hW0 hS0 (zh_sub hl [1, 2, 0] rfl)
    trivial
  · refine zz_aload_n hx hb hl 1 dX7_canShare_11 rfl rfl ?_
    refine zz_get (T := TX7) (N := 42) (k := 12) (κ := 30) (w := zr ad 52 ((0 : Nat) : Int)) hx hb hts hinX7 hown hK hW0 (zlN (hM 30 rfl)) rfl rfl rfl (by decide) (hts (.fieldLink RX7 36 "HailCityModel" "stops" "[I") (by decide +kernel)) (fun _ h9 => h9) rfl dX7_canShare_12 ?_
    refine zz_iload_n hx hb hl 2 dX7_canShare_15 rfl rfl ?_
    refine zz_iald (w := σ 52 0 d) hx hb hK hW0 (zlN (hM 52 rfl)) rfl rfl rfl (by show (0 : Int) ≤ ((d : Nat) : Int); omega) (by show ((d : Nat) : Int) < (8 : Int); omega) rfl dX7_canShare_16 ?_
    refine zz_if_le (tgt := 24) hx hb dX7_canShare_17 (by decide) (hW0.2.2.1 _ _ _) (fun hc17 => ?_) (fun hc17 => ?_)
    · refine zz_iconst hx hb dX7_canShare_24 ?_
      refine W.eq (g2 := F0 m 25 ls [.int (zi (zb (ycs σ d 0)))]) (congrArg (fun z9 => F0 m 25 ls (Value.int (zi z9) :: [])) (show (0 : Int) = zb (ycs σ d 0) from (zb_f (P := ycs σ d 0) (fun q => by have q1 := q.1.1; have q2 := q.1.2; omega)).symm)) ?_
      refine hcut25  s.heap [] ls ?_ hW0 hS0 (zh_sub hl [1, 2, 0] rfl)
      trivial
    · refine zz_iconst hx hb dX7_canShare_20 ?_
      refine zz_goto (tgt := 25) hx hb dX7_canShare_21 (by decide) ?_
      refine W.eq (g2 := F0 m 25 ls [.int (zi (zb (ycs σ d 0)))]) (congrArg (fun z9 => F0 m 25 ls (Value.int (zi z9) :: [])) (show (1 : Int) = zb (ycs σ d 0) from (zb_t (P := ycs σ d 0) ⟨⟨by omega, by omega⟩, fun j hj => absurd hj (Nat.not_lt_zero j)⟩).symm)) ?_
      refine hcut25  s.heap [] ls ?_ hW0 hS0 (zh_sub hl [1, 2, 0] rfl)
      trivial
