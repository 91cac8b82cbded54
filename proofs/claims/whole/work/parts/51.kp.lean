/-! the model's keeps -/
def ykp (σ : zS) (q : Nat) : Nat → Int
  | 0 => 0
  | i + 1 => if σ 80 0 i = (q : Int) then σ 81 0 i + σ 47 0 (10 * (σ 65 0 q).toNat + (σ 66 0 q).toNat) * 3 / 2 else ykp σ q i
def yko (σ : zS) (q i : Nat) : Prop := if σ 80 0 i = (q : Int) then σ 81 0 i ≤ σ 67 0 q else (100 ≤ σ 80 0 i → σ 81 0 i ≤ if σ 80 0 i - 100 = (q : Int) then ykp σ q i else σ 71 0 (σ 80 0 i - 100).toNat)
theorem yko_1 {σ : zS} {q i : Nat} (h : σ 80 0 i = (q : Int)) : yko σ q i ↔ σ 81 0 i ≤ σ 67 0 q := by
  unfold yko
  rw [if_pos h]
theorem yko_2 {σ : zS} {q i : Nat} (h : ¬ σ 80 0 i = (q : Int)) : yko σ q i ↔ (100 ≤ σ 80 0 i → (σ 80 0 i - 100 = (q : Int) → σ 81 0 i ≤ ykp σ q i) ∧ (¬ σ 80 0 i - 100 = (q : Int) → σ 81 0 i ≤ σ 71 0 (σ 80 0 i - 100).toNat)) := by
  unfold yko
  rw [if_neg h]
  split
  · rename_i h2
    exact ⟨fun h3 h4 => ⟨fun _ => h3 h4, fun h5 => absurd h2 h5⟩, fun h3 h4 => (h3 h4).1 h2⟩
  · rename_i h2
    exact ⟨fun h3 h4 => ⟨fun h5 => absurd h5 h2, fun _ => h3 h4⟩, fun h3 h4 => (h3 h4).2 h2⟩
def yka (σ : zS) (q i : Nat) : Prop := ∀ j, j < i → yko σ q j
theorem yka_s {σ : zS} {q i : Nat} : yka σ q (i + 1) ↔ yka σ q i ∧ yko σ q i := by
  constructor
  · intro h
    exact ⟨fun j hj => h j (by omega), h i (by omega)⟩
  · rintro ⟨h1, h2⟩ j hj
    rcases Nat.lt_or_ge j i with h | h
    · exact h1 j h
    · rw [show j = i by omega]; exact h2
theorem ykp_rg {σ : zS} {q : Nat} (hw : 0 ≤ σ 47 0 (10 * (σ 65 0 q).toNat + (σ 66 0 q).toNat) ∧ σ 47 0 (10 * (σ 65 0 q).toNat + (σ 66 0 q).toNat) ≤ 100000) : ∀ n, (∀ j, j < n → 0 ≤ σ 81 0 j ∧ σ 81 0 j ≤ 2000000) → 0 ≤ ykp σ q n ∧ ykp σ q n ≤ 3000000
  | 0, _ => ⟨Int.le_refl _, by show (0 : Int) ≤ 3000000; decide⟩
  | n + 1, h => by
    have h1 := ykp_rg hw n (fun j hj => h j (by omega))
    have h2 := h n (by omega)
    unfold ykp
    split <;> omega

set_option maxHeartbeats 4000000 in
set_option maxRecDepth 100000 in
theorem c_X7_keeps (l : Launch) (G : zG) (ad : zA) (A : Nat → Prop) (N0 : Nat) (σ : zS) (hM : zMm ad) (m9 q : Nat) (hm9 : m9 ≤ 8) (hq : q < 60) (hf : 0 ≤ σ 65 0 q ∧ σ 65 0 q < 10) (ht : 0 ≤ σ 66 0 q ∧ σ 66 0 q < 10) (hww : ∀ a b, a < 10 → b < 10 → 0 ≤ σ 47 0 (10 * a + b) ∧ σ 47 0 (10 * a + b) ≤ 100000) (hT : ∀ j, j < m9 → 0 ≤ σ 81 0 j ∧ σ 81 0 j ≤ 2000000) (hwr : ∀ j, j < m9 → -1 ≤ σ 80 0 j ∧ σ 80 0 j < 160) : Met l yX7_keeps wsX7_keeps ({ frames := 1, cells := 0, slots := 0, locals := 22 }) (zP G ad A N0 σ [zr ad 30 ((0 : Nat) : Int), .int (zi ((m9 : Nat) : Int)), .int (zi ((q : Nat) : Int))]) (zQ G ad A zri (fun r u => σ = u ∧ zb (yka σ q m9) = r)) 0 0 A := by
  refine zz_of (cc := cX7_keeps) (maxL := 7) (ret := (some .boolean)) (by decide) rfl ⟨rfl, rfl⟩ (List.forall_mem_cons.mpr ⟨zr_cat _ _ _, List.forall_mem_cons.mpr ⟨rfl, List.forall_mem_cons.mpr ⟨rfl, fun _ h => absurd h List.not_mem_nil⟩⟩⟩) (Nat.le_of_ble_eq_true rfl) ?_
  intro p e s m below meth c hx hb hr hml hts hown hlocks hsz hW0 hK ls hl
  have hS0 : va_S A s.heap s.heap [] := va_S.rf
  have hl : zh ls 7 [(0, zr ad 30 ((0 : Nat) : Int)), (1, .int (zi ((m9 : Nat) : Int))), (2, .int (zi ((q : Nat) : Int)))] := hl
  have hinX7 : ∀ w ∈ u_ws RX7 TX7 42, w ∈ wsX7_keeps := by decide +kernel
  have hwq := hww (σ 65 0 q).toNat (σ 66 0 q).toNat (by omega) (by omega)
  refine zz_iconst hx hb dX7_keeps_0 ?_
  refine zz_istore_n (lv' := [(3, .int (zi 0)), (0, zr ad 30 ((0 : Nat) : Int)), (1, .int (zi ((m9 : Nat) : Int))), (2, .int (zi ((q : Nat) : Int)))]) hx hb hl dX7_keeps_1 rfl (by decide) rfl (fun ls hl => ?_)
  refine zz_iconst hx hb dX7_keeps_2 ?_
  refine zz_istore (lv' := [(4, .int (zi 1)), (3, .int (zi 0)), (0, zr ad 30 ((0 : Nat) : Int)), (1, .int (zi ((m9 : Nat) : Int))), (2, .int (zi ((q : Nat) : Int)))]) hx hb hl dX7_keeps_3 (by decide) rfl (fun ls hl => ?_)
  refine zz_iconst hx hb dX7_keeps_5 ?_
  refine zz_istore (lv' := [(5, .int (zi 0)), (4, .int (zi 1)), (3, .int (zi 0)), (0, zr ad 30 ((0 : Nat) : Int)), (1, .int (zi ((m9 : Nat) : Int))), (2, .int (zi ((q : Nat) : Int)))]) hx hb hl dX7_keeps_6 (by decide) rfl (fun ls hl => ?_)
  have hcut8 : ∀ (n9 : Nat) (i : Nat)  (H9 : Heap) (locs9 : List Loc) (ls : Array Slot), (i ≤ m9) → (m9 - i) < n9 → ZW G ad A σ H9 → va_S A s.heap H9 locs9 → zh ls 7 [(0, zr ad 30 ((0 : Nat) : Int)), (1, .int (zi ((m9 : Nat) : Int))), (2, .int (zi ((q : Nat) : Int))), (3, .int (zi (ykp σ q i))), (4, .int (zi (zb (yka σ q i)))), (5, .int (zi ((i : Nat) : Int)))] → W p l e ({ frames := 1, cells := 0, slots := 0, locals := 22 }) s m ([zr ad 30 ((0 : Nat) : Int), .int (zi ((m9 : Nat) : Int)), .int (zi ((q : Nat) : Int))] : List Value).toArray below meth c H9 locs9 0 0 (MQ below (zQ G ad A zri (fun r u => σ = u ∧ zb (yka σ q m9) = r)) ([zr ad 30 ((0 : Nat) : Int), .int (zi ((m9 : Nat) : Int)), .int (zi ((q : Nat) : Int))] : List Value).toArray s 0 0 A) (F0 m 8 ls []) := by
    intro n9
    induction n9 with
    | zero =>
      intro i H1 locs1 ls hI8 hm8 hW1 hS1 hl
      exact absurd hm8 (Nat.not_lt_zero _)
    | succ n9 ih8 =>
      intro i H1 locs1 ls hI8 hm8 hW1 hS1 hl
      have hpg := ykp_rg (q := q) hwq i (fun j hj => hT j (by omega))
      refine zz_iload hx hb hl 5 dX7_keeps_8 rfl ?_
      refine zz_iload_n hx hb hl 1 dX7_keeps_10 rfl rfl ?_
      refine zz_icmp_ge (tgt := 154) hx hb dX7_keeps_11 (by decide) ⟨by omega, by omega⟩ ⟨by omega, by omega⟩ (fun hc11 => ?_) (fun hc11 => ?_)
      · refine zz_iload hx hb hl 4 dX7_keeps_154 rfl ?_
        refine W.eq (g2 := F0 m 156 ls [.int (zi (zb (yka σ q i)))]) rfl ?_
        refine zz_retz hx hb hr hlocks hW1 hS1 (zb_01 _) ?_ dX7_keeps_156
        exact ⟨rfl, by rw [show m9 = i by omega]⟩
      · have hTi := hT i (by omega)
        have hwi := hwr i (by omega)
        refine zz_aload_n hx hb hl 0 dX7_keeps_14 rfl rfl ?_
        refine zz_get (T := TX7) (N := 42) (k := 40) (κ := 30) (w := zr ad 80 ((0 : Nat) : Int)) hx hb hts hinX7 hown hK hW1 (zlN (hM 30 rfl)) rfl rfl rfl (by decide) (hts (.fieldLink RX7 111 "HailCityModel" "tryWhom" "[I") (by decide +kernel)) (fun _ h9 => h9) rfl dX7_keeps_15 ?_
        refine zz_iload hx hb hl 5 dX7_keeps_18 rfl ?_
        refine zz_iald (w := σ 80 0 i) hx hb hK hW1 (zlN (hM 80 rfl)) rfl rfl rfl (by show (0 : Int) ≤ ((i : Nat) : Int); omega) (by show ((i : Nat) : Int) < (10 : Int); omega) rfl dX7_keeps_20 ?_
        refine zz_iload_n hx hb hl 2 dX7_keeps_21 rfl rfl ?_
        refine zz_icmp_ne (tgt := 85) hx hb dX7_keeps_22 (by decide) (hW1.2.2.1 _ _ _) ⟨by omega, by omega⟩ (fun hc22 => ?_) (fun hc22 => ?_)
        · refine zz_aload_n hx hb hl 0 dX7_keeps_85 rfl rfl ?_
          refine zz_get (T := TX7) (N := 42) (k := 40) (κ := 30) (w := zr ad 80 ((0 : Nat) : Int)) hx hb hts hinX7 hown hK hW1 (zlN (hM 30 rfl)) rfl rfl rfl (by decide) (hts (.fieldLink RX7 111 "HailCityModel" "tryWhom" "[I") (by decide +kernel)) (fun _ h9 => h9) rfl dX7_keeps_86 ?_
          refine zz_iload hx hb hl 5 dX7_keeps_89 rfl ?_
          refine zz_iald (w := σ 80 0 i) hx hb hK hW1 (zlN (hM 80 rfl)) rfl rfl rfl (by show (0 : Int) ≤ ((i : Nat) : Int); omega) (by show ((i : Nat) : Int) < (10 : Int); omega) rfl dX7_keeps_91 ?_
          refine zz_bipush hx hb dX7_keeps_92 (by decide +kernel) ?_
          refine zz_icmp_lt (tgt := 148) hx hb dX7_keeps_94 (by decide) (hW1.2.2.1 _ _ _) ⟨by decide, by decide⟩ (fun hc94 => ?_) (fun hc94 => ?_)
          · refine zz_iinc (lv' := [(5, .int (zi ((i + 1 : Nat) : Int))), (0, zr ad 30 ((0 : Nat) : Int)), (1, .int (zi ((m9 : Nat) : Int))), (2, .int (zi ((q : Nat) : Int))), (3, .int (zi (ykp σ q i))), (4, .int (zi (zb (yka σ q i))))]) hx hb hl dX7_keeps_148 (k0 := 5) rfl (by decide) rfl (fun ls hl => ?_)
            refine zz_goto (tgt := 8) hx hb dX7_keeps_151 (by decide) ?_
            refine ih8 (i + 1) H1 locs1 ls ?_ (by omega) hW1 hS1 (zh_sub hl [1, 2, 3, 4, 5, 0] (by rw [show ykp σ q (i + 1) = ykp σ q i from if_neg hc22, show zb (yka σ q (i + 1)) = zb (yka σ q i) from congrArg (fun P => zb P) (propext ⟨fun h => (yka_s.mp h).1, fun h => yka_s.mpr ⟨h, (yko_2 hc22).mpr (fun q9 => absurd q9 (by omega))⟩⟩)]; rfl))
            omega
          · refine zz_aload_n hx hb hl 0 dX7_keeps_97 rfl rfl ?_
            refine zz_get (T := TX7) (N := 42) (k := 40) (κ := 30) (w := zr ad 80 ((0 : Nat) : Int)) hx hb hts hinX7 hown hK hW1 (zlN (hM 30 rfl)) rfl rfl rfl (by decide) (hts (.fieldLink RX7 111 "HailCityModel" "tryWhom" "[I") (by decide +kernel)) (fun _ h9 => h9) rfl dX7_keeps_98 ?_
            refine zz_iload hx hb hl 5 dX7_keeps_101 rfl ?_
            refine zz_iald (w := σ 80 0 i) hx hb hK hW1 (zlN (hM 80 rfl)) rfl rfl rfl (by show (0 : Int) ≤ ((i : Nat) : Int); omega) (by show ((i : Nat) : Int) < (10 : Int); omega) rfl dX7_keeps_103 ?_
            refine zz_bipush hx hb dX7_keeps_104 (by decide +kernel) ?_
            refine zz_isub hx hb dX7_keeps_106 ?_
            refine zz_istore (lv' := [(6, .int (zi ((σ 80 0 i) - 100))), (0, zr ad 30 ((0 : Nat) : Int)), (1, .int (zi ((m9 : Nat) : Int))), (2, .int (zi ((q : Nat) : Int))), (3, .int (zi (ykp σ q i))), (4, .int (zi (zb (yka σ q i)))), (5, .int (zi ((i : Nat) : Int)))]) hx hb hl dX7_keeps_107 (by decide) rfl (fun ls hl => ?_)
            refine zz_iload hx hb hl 5 dX7_keeps_109 rfl ?_
            refine zz_if_eqb (tgt := 145) hx hb dX7_keeps_111 (by decide) (fun hc111 => ?_) (fun hc111 => ?_)
            · refine zz_iconst hx hb dX7_keeps_145 ?_
              refine zz_istore (lv' := [(4, .int (zi 0)), (6, .int (zi ((σ 80 0 i) - 100))), (0, zr ad 30 ((0 : Nat) : Int)), (1, .int (zi ((m9 : Nat) : Int))), (2, .int (zi ((q : Nat) : Int))), (3, .int (zi (ykp σ q i))), (5, .int (zi ((i : Nat) : Int)))]) hx hb hl dX7_keeps_146 (by decide) rfl (fun ls hl => ?_)
              refine zz_iinc (lv' := [(5, .int (zi ((i + 1 : Nat) : Int))), (4, .int (zi 0)), (6, .int (zi ((σ 80 0 i) - 100))), (0, zr ad 30 ((0 : Nat) : Int)), (1, .int (zi ((m9 : Nat) : Int))), (2, .int (zi ((q : Nat) : Int))), (3, .int (zi (ykp σ q i)))]) hx hb hl dX7_keeps_148 (k0 := 6) rfl (by decide) rfl (fun ls hl => ?_)
              refine zz_goto (tgt := 8) hx hb dX7_keeps_151 (by decide) ?_
              refine ih8 (i + 1) H1 locs1 ls ?_ (by omega) hW1 hS1 (zh_sub hl [3, 4, 5, 6, 1, 0] (by rw [show ykp σ q (i + 1) = ykp σ q i from if_neg hc22, zb_f (P := yka σ q (i + 1)) (fun h => by first | exact hc111 (yka_s.mp h).1 | (have h9 := (yko_2 hc22).mp (yka_s.mp h).2 (by omega); omega))]; rfl))
              omega
            · refine zz_aload_n hx hb hl 1 dX7_keeps_114 rfl rfl ?_
              refine zz_get (T := TX7) (N := 42) (k := 41) (κ := 30) (w := zr ad 81 ((0 : Nat) : Int)) hx hb hts hinX7 hown hK hW1 (zlN (hM 30 rfl)) rfl rfl rfl (by decide) (hts (.fieldLink RX7 114 "HailCityModel" "tryTime" "[I") (by decide +kernel)) (fun _ h9 => h9) rfl dX7_keeps_115 ?_
              refine zz_iload hx hb hl 6 dX7_keeps_118 rfl ?_
              refine zz_iald (w := σ 81 0 i) hx hb hK hW1 (zlN (hM 81 rfl)) rfl rfl rfl (by show (0 : Int) ≤ ((i : Nat) : Int); omega) (by show ((i : Nat) : Int) < (10 : Int); omega) rfl dX7_keeps_120 ?_
              refine zz_iload hx hb hl 0 dX7_keeps_121 rfl ?_
              refine zz_iload_n hx hb hl 3 dX7_keeps_123 rfl rfl ?_
              refine zz_icmp_ne (tgt := 131) hx hb dX7_keeps_124 (by decide) ⟨by omega, by omega⟩ ⟨by omega, by omega⟩ (fun hc124 => ?_) (fun hc124 => ?_)
              · refine zz_aload_n hx hb hl 1 dX7_keeps_131 rfl rfl ?_
                refine zz_get (T := TX7) (N := 42) (k := 31) (κ := 30) (w := zr ad 71 ((0 : Nat) : Int)) hx hb hts hinX7 hown hK hW1 (zlN (hM 30 rfl)) rfl rfl rfl (by decide) (hts (.fieldLink RX7 87 "HailCityModel" "promise" "[I") (by decide +kernel)) (fun _ h9 => h9) rfl dX7_keeps_132 ?_
                refine zz_iload hx hb hl 0 dX7_keeps_135 rfl ?_
                refine zz_iald (w := σ 71 0 (((σ 80 0 i) - 100).toNat)) hx hb hK hW1 (zlN (hM 71 rfl)) rfl rfl rfl (by show (0 : Int) ≤ (σ 80 0 i) - 100; omega) (by show ((σ 80 0 i) - 100) < (60 : Int); omega) rfl dX7_keeps_137 ?_
                refine zz_icmp_gt (tgt := 145) hx hb dX7_keeps_138 (by decide) (hW1.2.2.1 _ _ _) (hW1.2.2.1 _ _ _) (fun hc138 => ?_) (fun hc138 => ?_)
                · refine zz_iconst hx hb dX7_keeps_145 ?_
                  refine zz_istore (lv' := [(4, .int (zi 0)), (6, .int (zi ((σ 80 0 i) - 100))), (0, zr ad 30 ((0 : Nat) : Int)), (1, .int (zi ((m9 : Nat) : Int))), (2, .int (zi ((q : Nat) : Int))), (3, .int (zi (ykp σ q i))), (5, .int (zi ((i : Nat) : Int)))]) hx hb hl dX7_keeps_146 (by decide) rfl (fun ls hl => ?_)
                  refine zz_iinc (lv' := [(5, .int (zi ((i + 1 : Nat) : Int))), (4, .int (zi 0)), (6, .int (zi ((σ 80 0 i) - 100))), (0, zr ad 30 ((0 : Nat) : Int)), (1, .int (zi ((m9 : Nat) : Int))), (2, .int (zi ((q : Nat) : Int))), (3, .int (zi (ykp σ q i)))]) hx hb hl dX7_keeps_148 (k0 := 6) rfl (by decide) rfl (fun ls hl => ?_)
                  refine zz_goto (tgt := 8) hx hb dX7_keeps_151 (by decide) ?_
                  refine ih8 (i + 1) H1 locs1 ls ?_ (by omega) hW1 hS1 (zh_sub hl [3, 4, 5, 6, 1, 0] (by rw [show ykp σ q (i + 1) = ykp σ q i from if_neg hc22, zb_f (P := yka σ q (i + 1)) (fun h => by first | exact hc111 (yka_s.mp h).1 | (have h9 := (yko_2 hc22).mp (yka_s.mp h).2 (by omega); omega))]; rfl))
                  omega
                · refine zz_iconst hx hb dX7_keeps_141 ?_
                  refine zz_goto (tgt := 146) hx hb dX7_keeps_142 (by decide) ?_
                  refine zz_istore (lv' := [(4, .int (zi 1)), (6, .int (zi ((σ 80 0 i) - 100))), (0, zr ad 30 ((0 : Nat) : Int)), (1, .int (zi ((m9 : Nat) : Int))), (2, .int (zi ((q : Nat) : Int))), (3, .int (zi (ykp σ q i))), (5, .int (zi ((i : Nat) : Int)))]) hx hb hl dX7_keeps_146 (by decide) rfl (fun ls hl => ?_)
                  refine zz_iinc (lv' := [(5, .int (zi ((i + 1 : Nat) : Int))), (4, .int (zi 1)), (6, .int (zi ((σ 80 0 i) - 100))), (0, zr ad 30 ((0 : Nat) : Int)), (1, .int (zi ((m9 : Nat) : Int))), (2, .int (zi ((q : Nat) : Int))), (3, .int (zi (ykp σ q i)))]) hx hb hl dX7_keeps_148 (k0 := 6) rfl (by decide) rfl (fun ls hl => ?_)
                  refine zz_goto (tgt := 8) hx hb dX7_keeps_151 (by decide) ?_
                  refine ih8 (i + 1) H1 locs1 ls ?_ (by omega) hW1 hS1 (zh_sub hl [3, 4, 5, 6, 1, 0] (by rw [show ykp σ q (i + 1) = ykp σ q i from if_neg hc22, zb_t (P := yka σ q (i + 1)) (yka_s.mpr ⟨hc111, (yko_2 hc22).mpr (fun _ => ⟨fun q9 => by omega, fun q9 => by omega⟩)⟩)]; rfl))
                  omega
              · refine zz_iload_n hx hb hl 4 dX7_keeps_127 rfl rfl ?_
                refine zz_goto (tgt := 138) hx hb dX7_keeps_128 (by decide) ?_
                refine zz_icmp_gt (tgt := 145) hx hb dX7_keeps_138 (by decide) (hW1.2.2.1 _ _ _) ⟨by omega, by omega⟩ (fun hc138 => ?_) (fun hc138 => ?_)
                · refine zz_iconst hx hb dX7_keeps_145 ?_
                  refine zz_istore (lv' := [(4, .int (zi 0)), (6, .int (zi ((σ 80 0 i) - 100))), (0, zr ad 30 ((0 : Nat) : Int)), (1, .int (zi ((m9 : Nat) : Int))), (2, .int (zi ((q : Nat) : Int))), (3, .int (zi (ykp σ q i))), (5, .int (zi ((i : Nat) : Int)))]) hx hb hl dX7_keeps_146 (by decide) rfl (fun ls hl => ?_)
                  refine zz_iinc (lv' := [(5, .int (zi ((i + 1 : Nat) : Int))), (4, .int (zi 0)), (6, .int (zi ((σ 80 0 i) - 100))), (0, zr ad 30 ((0 : Nat) : Int)), (1, .int (zi ((m9 : Nat) : Int))), (2, .int (zi ((q : Nat) : Int))), (3, .int (zi (ykp σ q i)))]) hx hb hl dX7_keeps_148 (k0 := 6) rfl (by decide) rfl (fun ls hl => ?_)
                  refine zz_goto (tgt := 8) hx hb dX7_keeps_151 (by decide) ?_
                  refine ih8 (i + 1) H1 locs1 ls ?_ (by omega) hW1 hS1 (zh_sub hl [3, 4, 5, 6, 1, 0] (by rw [show ykp σ q (i + 1) = ykp σ q i from if_neg hc22, zb_f (P := yka σ q (i + 1)) (fun h => by first | exact hc111 (yka_s.mp h).1 | (have h9 := (yko_2 hc22).mp (yka_s.mp h).2 (by omega); omega))]; rfl))
                  omega
                · refine zz_iconst hx hb dX7_keeps_141 ?_
                  refine zz_goto (tgt := 146) hx hb dX7_keeps_142 (by decide) ?_
                  refine zz_istore (lv' := [(4, .int (zi 1)), (6, .int (zi ((σ 80 0 i) - 100))), (0, zr ad 30 ((0 : Nat) : Int)), (1, .int (zi ((m9 : Nat) : Int))), (2, .int (zi ((q : Nat) : Int))), (3, .int (zi (ykp σ q i))), (5, .int (zi ((i : Nat) : Int)))]) hx hb hl dX7_keeps_146 (by decide) rfl (fun ls hl => ?_)
                  refine zz_iinc (lv' := [(5, .int (zi ((i + 1 : Nat) : Int))), (4, .int (zi 1)), (6, .int (zi ((σ 80 0 i) - 100))), (0, zr ad 30 ((0 : Nat) : Int)), (1, .int (zi ((m9 : Nat) : Int))), (2, .int (zi ((q : Nat) : Int))), (3, .int (zi (ykp σ q i)))]) hx hb hl dX7_keeps_148 (k0 := 6) rfl (by decide) rfl (fun ls hl => ?_)
                  refine zz_goto (tgt := 8) hx hb dX7_keeps_151 (by decide) ?_
                  refine ih8 (i + 1) H1 locs1 ls ?_ (by omega) hW1 hS1 (zh_sub hl [3, 4, 5, 6, 1, 0] (by rw [show ykp σ q (i + 1) = ykp σ q i from if_neg hc22, zb_t (P := yka σ q (i + 1)) (yka_s.mpr ⟨hc111, (yko_2 hc22).mpr (fun _ => ⟨fun q9 => by omega, fun q9 => by omega⟩)⟩)]; rfl))
                  omega
        · refine zz_iload hx hb hl 4 dX7_keeps_25 rfl ?_
          refine zz_if_eqb (tgt := 50) hx hb dX7_keeps_27 (by decide) (fun hc27 => ?_) (fun hc27 => ?_)
          · refine zz_iconst hx hb dX7_keeps_50 ?_
            refine zz_istore (lv' := [(4, .int (zi 0)), (0, zr ad 30 ((0 : Nat) : Int)), (1, .int (zi ((m9 : Nat) : Int))), (2, .int (zi ((q : Nat) : Int))), (3, .int (zi (ykp σ q i))), (5, .int (zi ((i : Nat) : Int)))]) hx hb hl dX7_keeps_51 (by decide) rfl (fun ls hl => ?_)
            refine zz_aload_n hx hb hl 1 dX7_keeps_53 rfl rfl ?_
            refine zz_get (T := TX7) (N := 42) (k := 41) (κ := 30) (w := zr ad 81 ((0 : Nat) : Int)) hx hb hts hinX7 hown hK hW1 (zlN (hM 30 rfl)) rfl rfl rfl (by decide) (hts (.fieldLink RX7 114 "HailCityModel" "tryTime" "[I") (by decide +kernel)) (fun _ h9 => h9) rfl dX7_keeps_54 ?_
            refine zz_iload hx hb hl 5 dX7_keeps_57 rfl ?_
            refine zz_iald (w := σ 81 0 i) hx hb hK hW1 (zlN (hM 81 rfl)) rfl rfl rfl (by show (0 : Int) ≤ ((i : Nat) : Int); omega) (by show ((i : Nat) : Int) < (10 : Int); omega) rfl dX7_keeps_59 ?_
            refine zz_aload_n hx hb hl 1 dX7_keeps_60 rfl rfl ?_
            refine zz_aload_n hx hb hl 1 dX7_keeps_61 rfl rfl ?_
            refine zz_get (T := TX7) (N := 42) (k := 25) (κ := 30) (w := zr ad 65 ((0 : Nat) : Int)) hx hb hts hinX7 hown hK hW1 (zlN (hM 30 rfl)) rfl rfl rfl (by decide) (hts (.fieldLink RX7 69 "HailCityModel" "from" "[I") (by decide +kernel)) (fun _ h9 => h9) rfl dX7_keeps_62 ?_
            refine zz_iload_n hx hb hl 3 dX7_keeps_65 rfl rfl ?_
            refine zz_iald (w := (((σ 65 0 q).toNat : Nat) : Int)) hx hb hK hW1 (zlN (hM 65 rfl)) rfl rfl rfl (by show (0 : Int) ≤ ((q : Nat) : Int); omega) (by show ((q : Nat) : Int) < (60 : Int); omega) (show σ 65 0 q = (((σ 65 0 q).toNat : Nat) : Int) from by omega) dX7_keeps_66 ?_
            refine zz_aload_n hx hb hl 1 dX7_keeps_67 rfl rfl ?_
            refine zz_get (T := TX7) (N := 42) (k := 26) (κ := 30) (w := zr ad 66 ((0 : Nat) : Int)) hx hb hts hinX7 hown hK hW1 (zlN (hM 30 rfl)) rfl rfl rfl (by decide) (hts (.fieldLink RX7 72 "HailCityModel" "to" "[I") (by decide +kernel)) (fun _ h9 => h9) rfl dX7_keeps_68 ?_
            refine zz_iload_n hx hb hl 3 dX7_keeps_71 rfl rfl ?_
            refine zz_iald (w := (((σ 66 0 q).toNat : Nat) : Int)) hx hb hK hW1 (zlN (hM 66 rfl)) rfl rfl rfl (by show (0 : Int) ≤ ((q : Nat) : Int); omega) (by show ((q : Nat) : Int) < (60 : Int); omega) (show σ 66 0 q = (((σ 66 0 q).toNat : Nat) : Int) from by omega) dX7_keeps_72 ?_
            refine zz_callV (T := TX7) (N := 42) (As := [.int (zi (((σ 65 0 q).toNat : Nat) : Int)), .int (zi (((σ 66 0 q).toNat : Nat) : Int))]) (rest := [.int (zi (σ 81 0 i))]) (v := ((0 : Nat) : Int)) (κ := 30) ⟨hx, hb, hml, hown, hts⟩ (c_X7_wayOf l G ad A N0 σ hM (σ 65 0 q).toNat (σ 66 0 q).toNat (by omega) (by omega)) (cwV 2 hts gX7_keeps_X7_wayOf rfl rfl rfl (by decide +kernel) ⟨Nat.le_of_ble_eq_true rfl, Nat.le_of_ble_eq_true rfl⟩) hK hW1 (zlN (hM 30 rfl)) rfl rfl (Nat.le_trans hsz hS1.1) hS1 rfl hl.1.1 rfl (Nat.le_of_ble_eq_true rfl) dX7_keeps_73 ⟨Nat.le_of_ble_eq_true rfl, Nat.le_of_ble_eq_true rfl⟩ (fun x2 σ2 H2 locs2 hp2 hW2 hz2 hS2 => ?_)
            obtain ⟨rfl, rfl⟩ := hp2
            refine W.eq (g2 := F0 m 76 ls [.int (zi (σ 47 0 (10 * (σ 65 0 q).toNat + (σ 66 0 q).toNat))), .int (zi (σ 81 0 i))]) rfl ?_
            refine zz_iconst hx hb dX7_keeps_76 ?_
            refine zz_imul hx hb dX7_keeps_77 ?_
            refine zz_iconst hx hb dX7_keeps_78 ?_
            refine zz_idiv hx hb dX7_keeps_79 ⟨by omega, by omega⟩ ⟨by decide, by decide⟩ (by omega) (by omega) ?_
            refine zz_iadd hx hb dX7_keeps_80 ?_
            refine zz_istore_n (lv' := [(3, .int (zi ((σ 81 0 i) + (((σ 47 0 (10 * (σ 65 0 q).toNat + (σ 66 0 q).toNat)) * 3) / 2)))), (4, .int (zi 0)), (0, zr ad 30 ((0 : Nat) : Int)), (1, .int (zi ((m9 : Nat) : Int))), (2, .int (zi ((q : Nat) : Int))), (5, .int (zi ((i : Nat) : Int)))]) hx hb hl dX7_keeps_81 rfl (by decide) rfl (fun ls hl => ?_)
            refine zz_goto (tgt := 148) hx hb dX7_keeps_82 (by decide) ?_
            refine zz_iinc (lv' := [(5, .int (zi ((i + 1 : Nat) : Int))), (3, .int (zi ((σ 81 0 i) + (((σ 47 0 (10 * (σ 65 0 q).toNat + (σ 66 0 q).toNat)) * 3) / 2)))), (4, .int (zi 0)), (0, zr ad 30 ((0 : Nat) : Int)), (1, .int (zi ((m9 : Nat) : Int))), (2, .int (zi ((q : Nat) : Int)))]) hx hb hl dX7_keeps_148 (k0 := 5) rfl (by decide) rfl (fun ls hl => ?_)
            refine zz_goto (tgt := 8) hx hb dX7_keeps_151 (by decide) ?_
            refine ih8 (i + 1) H2 locs2 ls ?_ (by omega) hW2 hS2 (zh_sub hl [3, 4, 5, 1, 2, 0] (by rw [show ykp σ q (i + 1) = (σ 81 0 i) + (((σ 47 0 (10 * (σ 65 0 q).toNat + (σ 66 0 q).toNat)) * 3) / 2) from if_pos hc22, zb_f (P := yka σ q (i + 1)) (fun h => by first | exact hc27 (yka_s.mp h).1 | (have h9 := (yko_1 hc22).mp (yka_s.mp h).2; omega))]; rfl))
            omega
          · refine zz_aload_n hx hb hl 0 dX7_keeps_30 rfl rfl ?_
            refine zz_get (T := TX7) (N := 42) (k := 41) (κ := 30) (w := zr ad 81 ((0 : Nat) : Int)) hx hb hts hinX7 hown hK hW1 (zlN (hM 30 rfl)) rfl rfl rfl (by decide) (hts (.fieldLink RX7 114 "HailCityModel" "tryTime" "[I") (by decide +kernel)) (fun _ h9 => h9) rfl dX7_keeps_31 ?_
            refine zz_iload hx hb hl 5 dX7_keeps_34 rfl ?_
            refine zz_iald (w := σ 81 0 i) hx hb hK hW1 (zlN (hM 81 rfl)) rfl rfl rfl (by show (0 : Int) ≤ ((i : Nat) : Int); omega) (by show ((i : Nat) : Int) < (10 : Int); omega) rfl dX7_keeps_36 ?_
            refine zz_aload_n hx hb hl 0 dX7_keeps_37 rfl rfl ?_
            refine zz_get (T := TX7) (N := 42) (k := 27) (κ := 30) (w := zr ad 67 ((0 : Nat) : Int)) hx hb hts hinX7 hown hK hW1 (zlN (hM 30 rfl)) rfl rfl rfl (by decide) (hts (.fieldLink RX7 75 "HailCityModel" "until" "[I") (by decide +kernel)) (fun _ h9 => h9) rfl dX7_keeps_38 ?_
            refine zz_iload_n hx hb hl 2 dX7_keeps_41 rfl rfl ?_
            refine zz_iald (w := σ 67 0 q) hx hb hK hW1 (zlN (hM 67 rfl)) rfl rfl rfl (by show (0 : Int) ≤ ((q : Nat) : Int); omega) (by show ((q : Nat) : Int) < (60 : Int); omega) rfl dX7_keeps_42 ?_
            refine zz_icmp_gt (tgt := 50) hx hb dX7_keeps_43 (by decide) (hW1.2.2.1 _ _ _) (hW1.2.2.1 _ _ _) (fun hc43 => ?_) (fun hc43 => ?_)
            · refine zz_iconst hx hb dX7_keeps_50 ?_
              refine zz_istore (lv' := [(4, .int (zi 0)), (0, zr ad 30 ((0 : Nat) : Int)), (1, .int (zi ((m9 : Nat) : Int))), (2, .int (zi ((q : Nat) : Int))), (3, .int (zi (ykp σ q i))), (5, .int (zi ((i : Nat) : Int)))]) hx hb hl dX7_keeps_51 (by decide) rfl (fun ls hl => ?_)
              refine zz_aload_n hx hb hl 1 dX7_keeps_53 rfl rfl ?_
              refine zz_get (T := TX7) (N := 42) (k := 41) (κ := 30) (w := zr ad 81 ((0 : Nat) : Int)) hx hb hts hinX7 hown hK hW1 (zlN (hM 30 rfl)) rfl rfl rfl (by decide) (hts (.fieldLink RX7 114 "HailCityModel" "tryTime" "[I") (by decide +kernel)) (fun _ h9 => h9) rfl dX7_keeps_54 ?_
              refine zz_iload hx hb hl 5 dX7_keeps_57 rfl ?_
              refine zz_iald (w := σ 81 0 i) hx hb hK hW1 (zlN (hM 81 rfl)) rfl rfl rfl (by show (0 : Int) ≤ ((i : Nat) : Int); omega) (by show ((i : Nat) : Int) < (10 : Int); omega) rfl dX7_keeps_59 ?_
              refine zz_aload_n hx hb hl 1 dX7_keeps_60 rfl rfl ?_
              refine zz_aload_n hx hb hl 1 dX7_keeps_61 rfl rfl ?_
              refine zz_get (T := TX7) (N := 42) (k := 25) (κ := 30) (w := zr ad 65 ((0 : Nat) : Int)) hx hb hts hinX7 hown hK hW1 (zlN (hM 30 rfl)) rfl rfl rfl (by decide) (hts (.fieldLink RX7 69 "HailCityModel" "from" "[I") (by decide +kernel)) (fun _ h9 => h9) rfl dX7_keeps_62 ?_
              refine zz_iload_n hx hb hl 3 dX7_keeps_65 rfl rfl ?_
              refine zz_iald (w := (((σ 65 0 q).toNat : Nat) : Int)) hx hb hK hW1 (zlN (hM 65 rfl)) rfl rfl rfl (by show (0 : Int) ≤ ((q : Nat) : Int); omega) (by show ((q : Nat) : Int) < (60 : Int); omega) (show σ 65 0 q = (((σ 65 0 q).toNat : Nat) : Int) from by omega) dX7_keeps_66 ?_
              refine zz_aload_n hx hb hl 1 dX7_keeps_67 rfl rfl ?_
              refine zz_get (T := TX7) (N := 42) (k := 26) (κ := 30) (w := zr ad 66 ((0 : Nat) : Int)) hx hb hts hinX7 hown hK hW1 (zlN (hM 30 rfl)) rfl rfl rfl (by decide) (hts (.fieldLink RX7 72 "HailCityModel" "to" "[I") (by decide +kernel)) (fun _ h9 => h9) rfl dX7_keeps_68 ?_
              refine zz_iload_n hx hb hl 3 dX7_keeps_71 rfl rfl ?_
              refine zz_iald (w := (((σ 66 0 q).toNat : Nat) : Int)) hx hb hK hW1 (zlN (hM 66 rfl)) rfl rfl rfl (by show (0 : Int) ≤ ((q : Nat) : Int); omega) (by show ((q : Nat) : Int) < (60 : Int); omega) (show σ 66 0 q = (((σ 66 0 q).toNat : Nat) : Int) from by omega) dX7_keeps_72 ?_
              refine zz_callV (T := TX7) (N := 42) (As := [.int (zi (((σ 65 0 q).toNat : Nat) : Int)), .int (zi (((σ 66 0 q).toNat : Nat) : Int))]) (rest := [.int (zi (σ 81 0 i))]) (v := ((0 : Nat) : Int)) (κ := 30) ⟨hx, hb, hml, hown, hts⟩ (c_X7_wayOf l G ad A N0 σ hM (σ 65 0 q).toNat (σ 66 0 q).toNat (by omega) (by omega)) (cwV 2 hts gX7_keeps_X7_wayOf rfl rfl rfl (by decide +kernel) ⟨Nat.le_of_ble_eq_true rfl, Nat.le_of_ble_eq_true rfl⟩) hK hW1 (zlN (hM 30 rfl)) rfl rfl (Nat.le_trans hsz hS1.1) hS1 rfl hl.1.1 rfl (Nat.le_of_ble_eq_true rfl) dX7_keeps_73 ⟨Nat.le_of_ble_eq_true rfl, Nat.le_of_ble_eq_true rfl⟩ (fun x3 σ3 H3 locs3 hp3 hW3 hz3 hS3 => ?_)
              obtain ⟨rfl, rfl⟩ := hp3
              refine W.eq (g2 := F0 m 76 ls [.int (zi (σ 47 0 (10 * (σ 65 0 q).toNat + (σ 66 0 q).toNat))), .int (zi (σ 81 0 i))]) rfl ?_
              refine zz_iconst hx hb dX7_keeps_76 ?_
              refine zz_imul hx hb dX7_keeps_77 ?_
              refine zz_iconst hx hb dX7_keeps_78 ?_
              refine zz_idiv hx hb dX7_keeps_79 ⟨by omega, by omega⟩ ⟨by decide, by decide⟩ (by omega) (by omega) ?_
              refine zz_iadd hx hb dX7_keeps_80 ?_
              refine zz_istore_n (lv' := [(3, .int (zi ((σ 81 0 i) + (((σ 47 0 (10 * (σ 65 0 q).toNat + (σ 66 0 q).toNat)) * 3) / 2)))), (4, .int (zi 0)), (0, zr ad 30 ((0 : Nat) : Int)), (1, .int (zi ((m9 : Nat) : Int))), (2, .int (zi ((q : Nat) : Int))), (5, .int (zi ((i : Nat) : Int)))]) hx hb hl dX7_keeps_81 rfl (by decide) rfl (fun ls hl => ?_)
              refine zz_goto (tgt := 148) hx hb dX7_keeps_82 (by decide) ?_
              refine zz_iinc (lv' := [(5, .int (zi ((i + 1 : Nat) : Int))), (3, .int (zi ((σ 81 0 i) + (((σ 47 0 (10 * (σ 65 0 q).toNat + (σ 66 0 q).toNat)) * 3) / 2)))), (4, .int (zi 0)), (0, zr ad 30 ((0 : Nat) : Int)), (1, .int (zi ((m9 : Nat) : Int))), (2, .int (zi ((q : Nat) : Int)))]) hx hb hl dX7_keeps_148 (k0 := 5) rfl (by decide) rfl (fun ls hl => ?_)
              refine zz_goto (tgt := 8) hx hb dX7_keeps_151 (by decide) ?_
              refine ih8 (i + 1) H3 locs3 ls ?_ (by omega) hW3 hS3 (zh_sub hl [3, 4, 5, 1, 2, 0] (by rw [show ykp σ q (i + 1) = (σ 81 0 i) + (((σ 47 0 (10 * (σ 65 0 q).toNat + (σ 66 0 q).toNat)) * 3) / 2) from if_pos hc22, zb_f (P := yka σ q (i + 1)) (fun h => by first | exact hc27 (yka_s.mp h).1 | (have h9 := (yko_1 hc22).mp (yka_s.mp h).2; omega))]; rfl))
              omega
            · refine zz_iconst hx hb dX7_keeps_46 ?_
              refine zz_goto (tgt := 51) hx hb dX7_keeps_47 (by decide) ?_
              refine zz_istore (lv' := [(4, .int (zi 1)), (0, zr ad 30 ((0 : Nat) : Int)), (1, .int (zi ((m9 : Nat) : Int))), (2, .int (zi ((q : Nat) : Int))), (3, .int (zi (ykp σ q i))), (5, .int (zi ((i : Nat) : Int)))]) hx hb hl dX7_keeps_51 (by decide) rfl (fun ls hl => ?_)
              refine zz_aload_n hx hb hl 1 dX7_keeps_53 rfl rfl ?_
              refine zz_get (T := TX7) (N := 42) (k := 41) (κ := 30) (w := zr ad 81 ((0 : Nat) : Int)) hx hb hts hinX7 hown hK hW1 (zlN (hM 30 rfl)) rfl rfl rfl (by decide) (hts (.fieldLink RX7 114 "HailCityModel" "tryTime" "[I") (by decide +kernel)) (fun _ h9 => h9) rfl dX7_keeps_54 ?_
              refine zz_iload hx hb hl 5 dX7_keeps_57 rfl ?_
              refine zz_iald (w := σ 81 0 i) hx hb hK hW1 (zlN (hM 81 rfl)) rfl rfl rfl (by show (0 : Int) ≤ ((i : Nat) : Int); omega) (by show ((i : Nat) : Int) < (10 : Int); omega) rfl dX7_keeps_59 ?_
              refine zz_aload_n hx hb hl 1 dX7_keeps_60 rfl rfl ?_
              refine zz_aload_n hx hb hl 1 dX7_keeps_61 rfl rfl ?_
              refine zz_get (T := TX7) (N := 42) (k := 25) (κ := 30) (w := zr ad 65 ((0 : Nat) : Int)) hx hb hts hinX7 hown hK hW1 (zlN (hM 30 rfl)) rfl rfl rfl (by decide) (hts (.fieldLink RX7 69 "HailCityModel" "from" "[I") (by decide +kernel)) (fun _ h9 => h9) rfl dX7_keeps_62 ?_
              refine zz_iload_n hx hb hl 3 dX7_keeps_65 rfl rfl ?_
              refine zz_iald (w := (((σ 65 0 q).toNat : Nat) : Int)) hx hb hK hW1 (zlN (hM 65 rfl)) rfl rfl rfl (by show (0 : Int) ≤ ((q : Nat) : Int); omega) (by show ((q : Nat) : Int) < (60 : Int); omega) (show σ 65 0 q = (((σ 65 0 q).toNat : Nat) : Int) from by omega) dX7_keeps_66 ?_
              refine zz_aload_n hx hb hl 1 dX7_keeps_67 rfl rfl ?_
              refine zz_get (T := TX7) (N := 42) (k := 26) (κ := 30) (w := zr ad 66 ((0 : Nat) : Int)) hx hb hts hinX7 hown hK hW1 (zlN (hM 30 rfl)) rfl rfl rfl (by decide) (hts (.fieldLink RX7 72 "HailCityModel" "to" "[I") (by decide +kernel)) (fun _ h9 => h9) rfl dX7_keeps_68 ?_
              refine zz_iload_n hx hb hl 3 dX7_keeps_71 rfl rfl ?_
              refine zz_iald (w := (((σ 66 0 q).toNat : Nat) : Int)) hx hb hK hW1 (zlN (hM 66 rfl)) rfl rfl rfl (by show (0 : Int) ≤ ((q : Nat) : Int); omega) (by show ((q : Nat) : Int) < (60 : Int); omega) (show σ 66 0 q = (((σ 66 0 q).toNat : Nat) : Int) from by omega) dX7_keeps_72 ?_
              refine zz_callV (T := TX7) (N := 42) (As := [.int (zi (((σ 65 0 q).toNat : Nat) : Int)), .int (zi (((σ 66 0 q).toNat : Nat) : Int))]) (rest := [.int (zi (σ 81 0 i))]) (v := ((0 : Nat) : Int)) (κ := 30) ⟨hx, hb, hml, hown, hts⟩ (c_X7_wayOf l G ad A N0 σ hM (σ 65 0 q).toNat (σ 66 0 q).toNat (by omega) (by omega)) (cwV 2 hts gX7_keeps_X7_wayOf rfl rfl rfl (by decide +kernel) ⟨Nat.le_of_ble_eq_true rfl, Nat.le_of_ble_eq_true rfl⟩) hK hW1 (zlN (hM 30 rfl)) rfl rfl (Nat.le_trans hsz hS1.1) hS1 rfl hl.1.1 rfl (Nat.le_of_ble_eq_true rfl) dX7_keeps_73 ⟨Nat.le_of_ble_eq_true rfl, Nat.le_of_ble_eq_true rfl⟩ (fun x4 σ4 H4 locs4 hp4 hW4 hz4 hS4 => ?_)
              obtain ⟨rfl, rfl⟩ := hp4
              refine W.eq (g2 := F0 m 76 ls [.int (zi (σ 47 0 (10 * (σ 65 0 q).toNat + (σ 66 0 q).toNat))), .int (zi (σ 81 0 i))]) rfl ?_
              refine zz_iconst hx hb dX7_keeps_76 ?_
              refine zz_imul hx hb dX7_keeps_77 ?_
              refine zz_iconst hx hb dX7_keeps_78 ?_
              refine zz_idiv hx hb dX7_keeps_79 ⟨by omega, by omega⟩ ⟨by decide, by decide⟩ (by omega) (by omega) ?_
              refine zz_iadd hx hb dX7_keeps_80 ?_
              refine zz_istore_n (lv' := [(3, .int (zi ((σ 81 0 i) + (((σ 47 0 (10 * (σ 65 0 q).toNat + (σ 66 0 q).toNat)) * 3) / 2)))), (4, .int (zi 1)), (0, zr ad 30 ((0 : Nat) : Int)), (1, .int (zi ((m9 : Nat) : Int))), (2, .int (zi ((q : Nat) : Int))), (5, .int (zi ((i : Nat) : Int)))]) hx hb hl dX7_keeps_81 rfl (by decide) rfl (fun ls hl => ?_)
              refine zz_goto (tgt := 148) hx hb dX7_keeps_82 (by decide) ?_
              refine zz_iinc (lv' := [(5, .int (zi ((i + 1 : Nat) : Int))), (3, .int (zi ((σ 81 0 i) + (((σ 47 0 (10 * (σ 65 0 q).toNat + (σ 66 0 q).toNat)) * 3) / 2)))), (4, .int (zi 1)), (0, zr ad 30 ((0 : Nat) : Int)), (1, .int (zi ((m9 : Nat) : Int))), (2, .int (zi ((q : Nat) : Int)))]) hx hb hl dX7_keeps_148 (k0 := 5) rfl (by decide) rfl (fun ls hl => ?_)
              refine zz_goto (tgt := 8) hx hb dX7_keeps_151 (by decide) ?_
              refine ih8 (i + 1) H4 locs4 ls ?_ (by omega) hW4 hS4 (zh_sub hl [3, 4, 5, 1, 2, 0] (by rw [show ykp σ q (i + 1) = (σ 81 0 i) + (((σ 47 0 (10 * (σ 65 0 q).toNat + (σ 66 0 q).toNat)) * 3) / 2) from if_pos hc22, zb_t (P := yka σ q (i + 1)) (yka_s.mpr ⟨hc27, (yko_1 hc22).mpr (by omega)⟩)]; rfl))
              omega
  refine hcut8 _ 0 s.heap [] ls ?_ (Nat.lt_succ_self _) hW0 hS0 (zh_sub hl [3, 4, 5, 2, 1, 0] (by rw [zb_t (P := yka σ q 0) (fun j hj => absurd hj (Nat.not_lt_zero _))]; rfl))
  exact Nat.zero_le _
