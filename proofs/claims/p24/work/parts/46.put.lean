/-! a request put into a row -/
theorem ys_fr {σ u : zS} (h : ∀ κ i k, κ ≠ 14 ∧ (κ < 24 ∨ 27 < κ) → u κ i k = σ κ i k) (d q n f s9 : Nat) (st : Int × Int × Int × Int × Int) : ysp u d q n f s9 st = ysp σ d q n f s9 st := by
  have e : yok1 u d q f s9 = yok1 σ d q f s9 := funext fun j => propext (yok1_fr h)
  have e6 : u 6 = σ 6 := funext fun a => funext fun b => h 6 a b (by decide)
  have e20 : u 20 d = σ 20 d := funext fun b => h 20 d b (by decide)
  unfold ysp yls
  rw [e, e6, e20, h 17 d 9 (by decide), h 23 q 1 (by decide), h 23 q 2 (by decide)]
theorem ys2_fr {σ u : zS} (h : ∀ κ i k, κ ≠ 14 ∧ (κ < 24 ∨ 27 < κ) → u κ i k = σ κ i k) (d q n f : Nat) : ∀ k st, ys2 u d q n f k st = ys2 σ d q n f k st
  | 0, _ => rfl
  | k + 1, st => by
    show ysp u d q n f (f + 1 + k) (ys2 u d q n f k st) = ysp σ d q n f (f + 1 + k) (ys2 σ d q n f k st)
    rw [ys2_fr h d q n f k st, ys_fr h]
theorem ys1_fr {σ u : zS} (h : ∀ κ i k, κ ≠ 14 ∧ (κ < 24 ∨ 27 < κ) → u κ i k = σ κ i k) (d q n : Nat) : ∀ k st, ys1 u d q n k st = ys1 σ d q n k st
  | 0, _ => rfl
  | k + 1, st => by
    show ys2 u d q n (k + 1) (n + 1 - (k + 1)) (ys1 u d q n k st) = ys2 σ d q n (k + 1) (n + 1 - (k + 1)) (ys1 σ d q n k st)
    rw [ys1_fr h d q n k st, ys2_fr h]
/-- the driver's row may take one more -/
def ycn (σ : zS) (d : Nat) : Prop := σ 17 d 5 = 0 ∧ (∀ j : Nat, (j : Int) < σ 18 d 3 → 0 ≤ σ 21 d j ∧ σ 23 (σ 21 d j).toNat 3 = 1) ∧ 1 ≤ zcnt (σ 22 d) (σ 18 d 3).toNat ∧ zcnt (σ 22 d) (σ 18 d 3).toNat ≤ 3
noncomputable def ysh (σ : zS) (q : Nat) : Nat → Int × Int × Int × Int × Int
  | 0 => (-1, σ 14 0 4, σ 14 0 5, σ 14 0 6, σ 14 0 7)
  | i + 1 => @ite (Int × Int × Int × Int × Int) (ycn σ i) (Classical.propDecidable _) (ys1 σ i q (σ 18 i 3).toNat (σ 18 i 3).toNat (ysh σ q i)) (ysh σ q i)
/-- what is found is a try that may be -/
def yfd (σ : zS) (nd q : Nat) (st : Int × Int × Int × Int × Int) (d n f s9 : Nat) : Prop := d < nd ∧ σ 18 d 3 = (n : Int) ∧ ycn σ d ∧ (1 ≤ f ∧ f ≤ n) ∧ (f < s9 ∧ s9 ≤ n + 1) ∧ (∀ j, j < n + 2 → yok1 σ d q f s9 j) ∧ st.1 = (d : Int) ∧ st.2.1 = (f : Int) ∧ st.2.2.1 = (s9 : Int) ∧ st.2.2.2.1 = yT (σ 6) (σ 17 d 9) (yQ (σ 20 d) (σ 23 q 1) (σ 23 q 2) f s9) f
def yfs (σ : zS) (nd q : Nat) (st : Int × Int × Int × Int × Int) : Prop := st.1 < 0 ∨ ∃ d n f s9 : Nat, yfd σ nd q st d n f s9
theorem ysp_ok {σ : zS} {nd q d n f s9 : Nat} {st : Int × Int × Int × Int × Int} (h : yfs σ nd q st) (hd : d < nd) (hn : σ 18 d 3 = (n : Int)) (hc : ycn σ d) (hf : 1 ≤ f ∧ f ≤ n) (hs : f < s9 ∧ s9 ≤ n + 1) : yfs σ nd q (ysp σ d q n f s9 st) := by
  unfold ysp
  split
  · rename_i h9
    exact Or.inr ⟨d, n, f, s9, hd, hn, hc, hf, hs, h9.1, rfl, rfl, rfl, rfl⟩
  · exact h
theorem ys2_ok {σ : zS} {nd q d n f : Nat} (hd : d < nd) (hn : σ 18 d 3 = (n : Int)) (hc : ycn σ d) (hf : 1 ≤ f ∧ f ≤ n) : ∀ k st, f + k ≤ n + 1 → yfs σ nd q st → yfs σ nd q (ys2 σ d q n f k st)
  | 0, _, _, h => h
  | k + 1, st, hk, h => ysp_ok (ys2_ok hd hn hc hf k st (by omega) h) hd hn hc hf ⟨by omega, by omega⟩
theorem ys1_ok {σ : zS} {nd q d n : Nat} (hd : d < nd) (hn : σ 18 d 3 = (n : Int)) (hc : ycn σ d) : ∀ k st, k ≤ n → yfs σ nd q st → yfs σ nd q (ys1 σ d q n k st)
  | 0, _, _, h => h
  | k + 1, st, hk, h => ys2_ok hd hn hc ⟨by omega, by omega⟩ _ _ (by omega) (ys1_ok hd hn hc k st (by omega) h)
theorem ysh_ok {σ : zS} {nd q : Nat} (h0 : ∀ d, d < nd → 0 ≤ σ 18 d 3) : ∀ i, i ≤ nd → yfs σ nd q (ysh σ q i)
  | 0, _ => Or.inl (by show (-1 : Int) < 0; decide)
  | i + 1, hi => by
    have h1 := ysh_ok (q := q) h0 i (by omega)
    have h2 := h0 i (by omega)
    show yfs σ nd q (@ite _ _ (Classical.propDecidable _) _ _)
    split
    · exact ys1_ok (by omega) (by omega) (by assumption) _ _ (Nat.le_refl _) h1
    · exact h1
theorem zins_ext {n s j : Nat} {x : Int} {F G' : Nat → Int} (h : ∀ i, i ≤ n → F i = G' i) (hs : s ≤ n + 1) (hj : j ≤ n + 1) : zins s x F j = zins s x G' j := by
  unfold zins
  split
  · exact h _ (by omega)
  · split
    · rfl
    · exact h _ (by omega)
def ypu (σ u : zS) (d n f s9 q : Nat) : Prop := u 18 d 3 = (n : Int) + 2 ∧ (∀ j : Nat, j ≤ n + 1 → u 20 d j = zins s9 (σ 23 q 2) (zins f (σ 23 q 1) (σ 20 d)) j ∧ u 21 d j = zins s9 (q : Int) (zins f (q : Int) (σ 21 d)) j ∧ u 22 d j = zins s9 1 (zins f 0 (σ 22 d)) j) ∧ (u 23 q 6 = 1 ∧ u 23 q 7 = (d : Int) ∧ u 23 q 8 = σ 0 0 8 ∧ u 23 q 9 = yT (σ 6) (σ 17 d 9) (yQ (σ 20 d) (σ 23 q 1) (σ 23 q 2) f s9) f + σ 6 (σ 23 q 1).toNat (σ 23 q 2).toNat * 3 / 2) ∧ zfr (fun κ i k => (κ = 14 ∧ i = 0 ∧ 2 ≤ k ∧ k ≤ 8) ∨ (24 ≤ κ ∧ κ ≤ 27) ∨ (i = d ∧ (κ = 20 ∨ κ = 21 ∨ κ = 22 ∨ (κ = 18 ∧ k = 3))) ∨ (κ = 23 ∧ i = q ∧ (k = 6 ∨ k = 7 ∨ k = 8 ∨ k = 9))) σ u

set_option maxHeartbeats 4000000 in
set_option maxRecDepth 100000 in
theorem c_X6_putIntoRow (l : Launch) (G : zG) (ad : zA) (A : Nat → Prop) (N0 : Nat) (σ : zS) (nd nr : Nat) (hX : zX ad nd nr) (hnd : nd ≤ 8) (hnr : nr ≤ 60) (h5 : σ 0 0 5 = (nd : Int)) (h6 : σ 0 0 6 = (nr : Int)) (hD : ∀ i, i < nd → σ 15 0 i = (i : Int)) (hQ : ∀ i, i < nr → σ 16 0 i = (i : Int)) (q : Nat) (hq : q < nr) (hfr : 0 ≤ σ 23 q 1 ∧ σ 23 q 1 < 10) (hto : 0 ≤ σ 23 q 2 ∧ σ 23 q 2 < 10) (hft : σ 6 (σ 23 q 1).toNat (σ 23 q 2).toNat < 1000000) (hw : ∀ a b, a < 10 → b < 10 → 0 ≤ σ 6 a b ∧ (σ 6 a b < 1000000 → σ 6 a b ≤ 20480)) (hwd : ∀ a, a < 10 → σ 6 a a = 0) (hpa : σ 23 q 4 ≤ 100000) (hrow : ∀ d, d < nd → (0 ≤ σ 18 d 3 ∧ σ 18 d 3 ≤ 8) ∧ (∀ j : Nat, (j : Int) < σ 18 d 3 → 0 ≤ σ 20 d j ∧ σ 20 d j < 10) ∧ (∀ j : Nat, (j : Int) + 1 < σ 18 d 3 → σ 6 (σ 20 d j).toNat (σ 20 d (j + 1)).toNat < 1000000) ∧ (ycn σ d → σ 18 d 3 ≤ 6) ∧ (σ 18 d 3 ≠ 0 → 0 ≤ σ 17 d 9 ∧ σ 17 d 9 ≤ 100000) ∧ (∀ j : Nat, (j : Int) < σ 18 d 3 → σ 21 d j ≠ (q : Int))) : Met l yX6_putIntoRow wsX6_putIntoRow ({ frames := 6, cells := 0, slots := 0, locals := 137 }) (zP G ad A N0 σ [zr ad 0 ((0 : Nat) : Int), zr ad 23 ((q : Nat) : Int)]) (zQ G ad A zri (fun r u => (r = 0 ∧ (ysh σ q nd).1 < 0 ∧ zfr (fun κ i k => (κ = 14 ∧ i = 0 ∧ 2 ≤ k ∧ k ≤ 8) ∨ (24 ≤ κ ∧ κ ≤ 27)) σ u) ∨ (r = 1 ∧ ∃ d n f s9 : Nat, yfd σ nd q (ysh σ q nd) d n f s9 ∧ ypu σ u d n f s9 q))) 0 0 A := by
  refine zz_of (cc := cX6_putIntoRow) (maxL := 3) (ret := (some .boolean)) (by decide) rfl ⟨rfl, rfl⟩ (List.forall_mem_cons.mpr ⟨zr_cat _ _ _, List.forall_mem_cons.mpr ⟨zr_cat _ _ _, fun _ h => absurd h List.not_mem_nil⟩⟩) (Nat.le_of_ble_eq_true rfl) ?_
  intro p e s m below meth c hx hb hr hml hts hown hlocks hsz hW0 hK ls hl
  have hS0 : va_S A s.heap s.heap [] := va_S.rf
  have hl : zh ls 3 [(0, zr ad 0 ((0 : Nat) : Int)), (1, zr ad 23 ((q : Nat) : Int))] := hl
  have hinX1 : ∀ w ∈ u_ws RX1 TX1 13, w ∈ wsX6_putIntoRow := by decide +kernel
  have hinX3 : ∀ w ∈ u_ws RX3 TX3 12, w ∈ wsX6_putIntoRow := by decide +kernel
  have hinX5 : ∀ w ∈ u_ws RX5 TX5 9, w ∈ wsX6_putIntoRow := by decide +kernel
  have hinX6 : ∀ w ∈ u_ws RX6 TX6 10, w ∈ wsX6_putIntoRow := by decide +kernel
  refine zz_aload_n hx hb hl 0 dX6_putIntoRow_0 rfl rfl ?_
  refine zz_get (T := TX6) (N := 10) (k := 4) (κ := 0) (w := zr ad 14 ((0 : Nat) : Int)) hx hb hts hinX6 hown hK hW0 (zlN (hX 0 0 rfl)) rfl rfl rfl (by decide) (hts (.fieldLink RX6 40 "HailCity" "sharing" "LHailCity$Sharing;") (by decide +kernel)) (fun _ h9 => h9) rfl dX6_putIntoRow_1 ?_
  refine zz_aload_n hx hb hl 1 dX6_putIntoRow_4 rfl rfl ?_
  refine zz_callV (T := TX5) (N := 9) (As := [zr ad 23 ((q : Nat) : Int)]) (rest := []) (v := ((0 : Nat) : Int)) (κ := 14) ⟨hx, hb, hml, hown, hts⟩ (c_X5_begin l G ad A N0 σ nd nr hX q hq hnr) (cwV 1 hts gX6_putIntoRow_X5_begin rfl rfl rfl (by decide +kernel) ⟨Nat.le_of_ble_eq_true rfl, Nat.le_of_ble_eq_true rfl⟩) hK hW0 (zlN (hX 14 0 rfl)) rfl rfl (Nat.le_trans hsz hS0.1) hS0 rfl hl.1.1 rfl (Nat.le_of_ble_eq_true rfl) dX6_putIntoRow_5 ⟨Nat.le_of_ble_eq_true rfl, Nat.le_of_ble_eq_true rfl⟩ (fun x1 σ1 H1 locs1 hp1 hW1 hz1 hS1 => ?_)
  refine W.eq (g2 := F0 m 8 ls []) rfl ?_
  refine zz_iconst hx hb dX6_putIntoRow_8 ?_
  refine zz_istore_n (lv' := [(2, .int (zi 0)), (0, zr ad 0 ((0 : Nat) : Int)), (1, zr ad 23 ((q : Nat) : Int))]) hx hb hl dX6_putIntoRow_9 rfl (by decide) rfl (fun ls hl => ?_)
  have hcut10 : ∀ (n9 : Nat) (i : Nat)  (σ9 : zS) (H9 : Heap) (locs9 : List Loc) (ls : Array Slot), (i ≤ nd ∧ y5 σ9 = ysh σ q i ∧ σ9 14 0 2 = (q : Int) ∧ zfr (fun κ i k => (κ = 14 ∧ i = 0 ∧ 2 ≤ k ∧ k ≤ 8) ∨ (24 ≤ κ ∧ κ ≤ 27)) σ σ9) → (nd - i) < n9 → ZW G ad A σ9 H9 → va_S A s.heap H9 locs9 → zh ls 3 [(0, zr ad 0 ((0 : Nat) : Int)), (1, zr ad 23 ((q : Nat) : Int)), (2, .int (zi ((i : Nat) : Int)))] → W p l e ({ frames := 6, cells := 0, slots := 0, locals := 137 }) s m ([zr ad 0 ((0 : Nat) : Int), zr ad 23 ((q : Nat) : Int)] : List Value).toArray below meth c H9 locs9 0 0 (MQ below (zQ G ad A zri (fun r u => (r = 0 ∧ (ysh σ q nd).1 < 0 ∧ zfr (fun κ i k => (κ = 14 ∧ i = 0 ∧ 2 ≤ k ∧ k ≤ 8) ∨ (24 ≤ κ ∧ κ ≤ 27)) σ u) ∨ (r = 1 ∧ ∃ d n f s9 : Nat, yfd σ nd q (ysh σ q nd) d n f s9 ∧ ypu σ u d n f s9 q))) ([zr ad 0 ((0 : Nat) : Int), zr ad 23 ((q : Nat) : Int)] : List Value).toArray s 0 0 A) (F0 m 10 ls []) := by
    intro n9
    induction n9 with
    | zero =>
      intro i σ2 H2 locs2 ls hI10 hm10 hW2 hS2 hl
      exact absurd hm10 (Nat.not_lt_zero _)
    | succ n9 ih10 =>
      intro i σ2 H2 locs2 ls hI10 hm10 hW2 hS2 hl
      obtain ⟨hi1, hi2, hi3, hi4⟩ := hI10
      refine zz_iload_n hx hb hl 2 dX6_putIntoRow_10 rfl rfl ?_
      refine zz_aload_n hx hb hl 0 dX6_putIntoRow_11 rfl rfl ?_
      refine zz_get (T := TX6) (N := 10) (k := 5) (κ := 0) (w := .int (zi ((nd : Nat) : Int))) hx hb hts hinX6 hown hK hW2 (zlN (hX 0 0 rfl)) rfl rfl rfl (by decide) (hts (.fieldLink RX6 87 "HailCity" "driverCount" "I") (by decide +kernel)) (fun _ h9 => h9) (congrArg (fun z => Value.int (zi z)) (show σ2 0 0 5 = ((nd : Nat) : Int) from by rw [hi4 0 0 5 (by omega), h5])) dX6_putIntoRow_12 ?_
      refine zz_icmp_ge (tgt := 64) hx hb dX6_putIntoRow_15 (by decide) ⟨by omega, by omega⟩ ⟨by omega, by omega⟩ (fun hc15 => ?_) (fun hc15 => ?_)
      · have hin : i = nd := by omega
        rw [hin] at hi2
        have y1 : σ2 14 0 3 = (ysh σ q nd).1 := congrArg (fun z => z.1) hi2
        have y2 : σ2 14 0 4 = (ysh σ q nd).2.1 := congrArg (fun z => z.2.1) hi2
        have y3 : σ2 14 0 5 = (ysh σ q nd).2.2.1 := congrArg (fun z => z.2.2.1) hi2
        have y4 : σ2 14 0 6 = (ysh σ q nd).2.2.2.1 := congrArg (fun z => z.2.2.2.1) hi2
        refine zz_aload_n hx hb hl 0 dX6_putIntoRow_64 rfl rfl ?_
        refine zz_get (T := TX6) (N := 10) (k := 4) (κ := 0) (w := zr ad 14 ((0 : Nat) : Int)) hx hb hts hinX6 hown hK hW2 (zlN (hX 0 0 rfl)) rfl rfl rfl (by decide) (hts (.fieldLink RX6 40 "HailCity" "sharing" "LHailCity$Sharing;") (by decide +kernel)) (fun _ h9 => h9) rfl dX6_putIntoRow_65 ?_
        refine zz_getN (T := TX5) (N := 9) (k := 3) (κ := 14) (w := zr ad 17 (σ2 14 0 3)) hx hb hts hinX5 hown hK hW2 (zlN (hX 14 0 rfl)) rfl rfl rfl (by decide) (host := "HailCity") (List.mem_of_getElem? (i := 6) rfl) (fun _ h9 => h9) (zv_r (by decide) (by decide)) dX6_putIntoRow_68 ?_
        refine zz_astore_n (lv' := [(2, zr ad 17 (σ2 14 0 3)), (0, zr ad 0 ((0 : Nat) : Int)), (1, zr ad 23 ((q : Nat) : Int))]) hx hb hl dX6_putIntoRow_71 rfl (by decide) rfl (fun ls hl => ?_)
        refine zz_aload_n hx hb hl 0 dX6_putIntoRow_72 rfl rfl ?_
        refine zz_ifnonnull (tgt := 78) hx hb (hW2.2.2.2.1 14 _ 3 ((zlN (hX 14 0 rfl))).2 (by decide) (by decide)) dX6_putIntoRow_73 (by decide) (fun hc73 => ?_) (fun hc73 => ?_)
        · obtain ⟨d, n, f, s9, hF⟩ := (ysh_ok (q := q) (fun d h => (hrow d h).1.1) nd (Nat.le_refl _)).resolve_left (by rw [← y1]; exact Int.not_lt.mpr hc73.1)
          have hF9 := hF
          obtain ⟨hd, hn, hcn, hf, hs, hk, f1, f2, f3, f4⟩ := hF9
          rw [← y1] at f1
          rw [← y2] at f2
          rw [← y3] at f3
          rw [← y4] at f4
          rw [f1] at hl
          have hrd := hrow d hd
          have hn6 := hrd.2.2.2.1 hcn
          have e18 : σ2 18 d 3 = (n : Int) := by rw [hi4 18 d 3 (by omega)]; exact hn
          have E20 : σ2 20 d = σ 20 d := funext fun b => hi4 20 d b (by omega)
          have E21 : σ2 21 d = σ 21 d := funext fun b => hi4 21 d b (by omega)
          have E22 : σ2 22 d = σ 22 d := funext fun b => hi4 22 d b (by omega)
          have hTu : yT (σ 6) (σ 17 d 9) (yQ (σ 20 d) (σ 23 q 1) (σ 23 q 2) f s9) f ≤ σ 23 q 4 := by
            have h9 := (hk f (by omega)).2
            unfold yla at h9
            rw [if_pos rfl] at h9
            exact h9
          have hQr : ∀ j, j < n + 2 → 0 ≤ yQ (σ 20 d) (σ 23 q 1) (σ 23 q 2) f s9 j ∧ yQ (σ 20 d) (σ 23 q 1) (σ 23 q 2) f s9 j < 10 := fun j hj => by
            unfold yQ
            split
            · exact hfr
            · split
              · exact hto
              · exact hrd.2.1 _ (by unfold yold; split <;> split <;> omega)
          have h9n : 0 ≤ σ 17 d 9 := (hrd.2.2.2.2.1 (by omega)).1
          have hTl : σ 17 d 9 ≤ yT (σ 6) (σ 17 d 9) (yQ (σ 20 d) (σ 23 q 1) (σ 23 q 2) f s9) f := (yT_rg f (fun j hj => by
            have h1 := hQr j (by omega)
            have h2 := hQr (j + 1) (by omega)
            have h3 := hw (yQ (σ 20 d) (σ 23 q 1) (σ 23 q 2) f s9 j).toNat (yQ (σ 20 d) (σ 23 q 1) (σ 23 q 2) f s9 (j + 1)).toNat (by omega) (by omega)
            exact ⟨h3.1, h3.2 ((hk (j + 1) (by omega)).1 (by omega))⟩)).1
          have hwft := hw (σ 23 q 1).toNat (σ 23 q 2).toNat (by omega) (by omega)
          refine zz_aload_n hx hb hl 0 dX6_putIntoRow_78 rfl rfl ?_
          refine zz_getN (T := TX1) (N := 13) (k := 1) (κ := 17) (w := zr ad 18 ((d : Nat) : Int)) hx hb hts hinX1 hown hK hW2 (zlN (hX 17 d (decide_eq_true hd))) rfl rfl rfl (by decide) (host := "HailCity") (List.mem_of_getElem? (i := 12) rfl) (fun _ h9 => h9) rfl dX6_putIntoRow_79 ?_
          refine zz_aload_n hx hb hl 1 dX6_putIntoRow_82 rfl rfl ?_
          refine zz_get (T := TX6) (N := 10) (k := 4) (κ := 0) (w := zr ad 14 ((0 : Nat) : Int)) hx hb hts hinX6 hown hK hW2 (zlN (hX 0 0 rfl)) rfl rfl rfl (by decide) (hts (.fieldLink RX6 40 "HailCity" "sharing" "LHailCity$Sharing;") (by decide +kernel)) (fun _ h9 => h9) rfl dX6_putIntoRow_83 ?_
          refine zz_getN (T := TX5) (N := 9) (k := 4) (κ := 14) (w := .int (zi ((f : Nat) : Int))) hx hb hts hinX5 hown hK hW2 (zlN (hX 14 0 rfl)) rfl rfl rfl (by decide) (host := "HailCity") (List.mem_of_getElem? (i := 7) rfl) (fun _ h9 => h9) (congrArg (fun z => Value.int (zi z)) (show σ2 14 0 4 = ((f : Nat) : Int) from by rw [f2])) dX6_putIntoRow_86 ?_
          refine zz_aload_n hx hb hl 2 dX6_putIntoRow_89 rfl rfl ?_
          refine zz_getN (T := TX3) (N := 12) (k := 1) (κ := 23) (w := .int (zi (σ 23 q 1))) hx hb hts hinX3 hown hK hW2 (zlN (hX 23 q (decide_eq_true hq))) rfl rfl rfl (by decide) (host := "HailCity") (List.mem_of_getElem? (i := 26) rfl) (fun _ h9 => h9) (congrArg (fun z => Value.int (zi z)) (show σ2 23 q 1 = σ 23 q 1 from by rw [hi4 23 q 1 (by omega)])) dX6_putIntoRow_90 ?_
          refine zz_aload_n hx hb hl 2 dX6_putIntoRow_93 rfl rfl ?_
          refine zz_iconst hx hb dX6_putIntoRow_94 ?_
          refine zz_callV (T := TX4) (N := 4) (As := [.int (zi ((f : Nat) : Int)), .int (zi (σ 23 q 1)), zr ad 23 ((q : Nat) : Int), .int (zi 0)]) (rest := []) (v := ((d : Nat) : Int)) (κ := 18) ⟨hx, hb, hml, hown, hts⟩ (c_X4_put l G ad A N0 σ2 nd nr hX d hd ((f : Nat) : Int) (σ 23 q 1) ((q : Nat) : Int) 0 ⟨by omega, by omega⟩ (hW0.2.2.1 _ _ _) ⟨by omega, by omega⟩ (Or.inr (zlN (hX 23 q (decide_eq_true hq)))) (Or.inl rfl) (by omega) (by rw [e18]; omega) (by rw [e18]; omega)) (cwV 4 hts gX6_putIntoRow_X4_put rfl rfl rfl (by decide +kernel) ⟨Nat.le_of_ble_eq_true rfl, Nat.le_of_ble_eq_true rfl⟩) hK hW2 (zlN (hX 18 d (decide_eq_true hd))) rfl rfl (Nat.le_trans hsz hS2.1) hS2 rfl hl.1.1 rfl (Nat.le_of_ble_eq_true rfl) dX6_putIntoRow_95 ⟨Nat.le_of_ble_eq_true rfl, Nat.le_of_ble_eq_true rfl⟩ (fun x3 σ3 H3 locs3 hp3 hW3 hz3 hS3 => ?_)
          obtain ⟨a1, a2, a3⟩ := hp3
          rw [e18] at a1 a2
          have A2 : ∀ j : Nat, j ≤ n → σ3 20 d j = zins f (σ 23 q 1) (σ 20 d) j ∧ σ3 21 d j = zins f (q : Int) (σ 21 d) j ∧ σ3 22 d j = zins f 0 (σ 22 d) j := fun j hj => by
            have h9 := a2 j (by omega)
            rw [E20, E21, E22] at h9
            exact h9
          have hA : zfr (fun κ i k => (κ = 14 ∧ i = 0 ∧ 2 ≤ k ∧ k ≤ 8) ∨ (24 ≤ κ ∧ κ ≤ 27) ∨ (i = d ∧ (κ = 20 ∨ κ = 21 ∨ κ = 22 ∨ (κ = 18 ∧ k = 3))) ∨ (κ = 23 ∧ i = q ∧ (k = 6 ∨ k = 7 ∨ k = 8 ∨ k = 9))) σ σ3 := fun κ i k hn => by rw [a3 κ i k (by omega)]; exact hi4 κ i k (by omega)
          refine W.eq (g2 := F0 m 98 ls []) rfl ?_
          refine zz_aload_n hx hb hl 0 dX6_putIntoRow_98 rfl rfl ?_
          refine zz_getN (T := TX1) (N := 13) (k := 1) (κ := 17) (w := zr ad 18 ((d : Nat) : Int)) hx hb hts hinX1 hown hK hW3 (zlN (hX 17 d (decide_eq_true hd))) rfl rfl rfl (by decide) (host := "HailCity") (List.mem_of_getElem? (i := 12) rfl) (fun _ h9 => h9) rfl dX6_putIntoRow_99 ?_
          refine zz_aload_n hx hb hl 1 dX6_putIntoRow_102 rfl rfl ?_
          refine zz_get (T := TX6) (N := 10) (k := 4) (κ := 0) (w := zr ad 14 ((0 : Nat) : Int)) hx hb hts hinX6 hown hK hW3 (zlN (hX 0 0 rfl)) rfl rfl rfl (by decide) (hts (.fieldLink RX6 40 "HailCity" "sharing" "LHailCity$Sharing;") (by decide +kernel)) (fun _ h9 => h9) rfl dX6_putIntoRow_103 ?_
          refine zz_getN (T := TX5) (N := 9) (k := 5) (κ := 14) (w := .int (zi ((s9 : Nat) : Int))) hx hb hts hinX5 hown hK hW3 (zlN (hX 14 0 rfl)) rfl rfl rfl (by decide) (host := "HailCity") (List.mem_of_getElem? (i := 8) rfl) (fun _ h9 => h9) (congrArg (fun z => Value.int (zi z)) (show σ3 14 0 5 = ((s9 : Nat) : Int) from by rw [a3 14 0 5 (by omega), f3])) dX6_putIntoRow_106 ?_
          refine zz_aload_n hx hb hl 2 dX6_putIntoRow_109 rfl rfl ?_
          refine zz_getN (T := TX3) (N := 12) (k := 2) (κ := 23) (w := .int (zi (σ 23 q 2))) hx hb hts hinX3 hown hK hW3 (zlN (hX 23 q (decide_eq_true hq))) rfl rfl rfl (by decide) (host := "HailCity") (List.mem_of_getElem? (i := 29) rfl) (fun _ h9 => h9) (congrArg (fun z => Value.int (zi z)) (show σ3 23 q 2 = σ 23 q 2 from by rw [hA 23 q 2 (by omega)])) dX6_putIntoRow_110 ?_
          refine zz_aload_n hx hb hl 2 dX6_putIntoRow_113 rfl rfl ?_
          refine zz_iconst hx hb dX6_putIntoRow_114 ?_
          refine zz_callV (T := TX4) (N := 4) (As := [.int (zi ((s9 : Nat) : Int)), .int (zi (σ 23 q 2)), zr ad 23 ((q : Nat) : Int), .int (zi 1)]) (rest := []) (v := ((d : Nat) : Int)) (κ := 18) ⟨hx, hb, hml, hown, hts⟩ (c_X4_put l G ad A N0 σ3 nd nr hX d hd ((s9 : Nat) : Int) (σ 23 q 2) ((q : Nat) : Int) 1 ⟨by omega, by omega⟩ (hW0.2.2.1 _ _ _) ⟨by omega, by omega⟩ (Or.inr (zlN (hX 23 q (decide_eq_true hq)))) (Or.inr rfl) (by omega) (by rw [a1]; omega) (by rw [a1]; omega)) (cwV 4 hts gX6_putIntoRow_X4_put rfl rfl rfl (by decide +kernel) ⟨Nat.le_of_ble_eq_true rfl, Nat.le_of_ble_eq_true rfl⟩) hK hW3 (zlN (hX 18 d (decide_eq_true hd))) rfl rfl (Nat.le_trans hsz hS3.1) hS3 rfl hl.1.1 rfl (Nat.le_of_ble_eq_true rfl) dX6_putIntoRow_115 ⟨Nat.le_of_ble_eq_true rfl, Nat.le_of_ble_eq_true rfl⟩ (fun x4 σ4 H4 locs4 hp4 hW4 hz4 hS4 => ?_)
          obtain ⟨b1, b2, b3⟩ := hp4
          rw [a1] at b1 b2
          have B2 : ∀ j : Nat, j ≤ n + 1 → σ4 20 d j = zins s9 (σ 23 q 2) (zins f (σ 23 q 1) (σ 20 d)) j ∧ σ4 21 d j = zins s9 (q : Int) (zins f (q : Int) (σ 21 d)) j ∧ σ4 22 d j = zins s9 1 (zins f 0 (σ 22 d)) j := fun j hj => by
            obtain ⟨h1, h2, h3⟩ := b2 j (by omega)
            exact ⟨h1.trans (zins_ext (n := n) (fun i hi => (A2 i hi).1) hs.2 hj), h2.trans (zins_ext (n := n) (fun i hi => (A2 i hi).2.1) hs.2 hj), h3.trans (zins_ext (n := n) (fun i hi => (A2 i hi).2.2) hs.2 hj)⟩
          have hB : zfr (fun κ i k => (κ = 14 ∧ i = 0 ∧ 2 ≤ k ∧ k ≤ 8) ∨ (24 ≤ κ ∧ κ ≤ 27) ∨ (i = d ∧ (κ = 20 ∨ κ = 21 ∨ κ = 22 ∨ (κ = 18 ∧ k = 3))) ∨ (κ = 23 ∧ i = q ∧ (k = 6 ∨ k = 7 ∨ k = 8 ∨ k = 9))) σ σ4 := fun κ i k hn => by rw [b3 κ i k (by omega)]; exact hA κ i k hn
          refine W.eq (g2 := F0 m 118 ls []) rfl ?_
          refine zz_aload_n hx hb hl 1 dX6_putIntoRow_118 rfl rfl ?_
          refine zz_aload_n hx hb hl 2 dX6_putIntoRow_119 rfl rfl ?_
          refine zz_aload_n hx hb hl 0 dX6_putIntoRow_120 rfl rfl ?_
          refine zz_aload_n hx hb hl 1 dX6_putIntoRow_121 rfl rfl ?_
          refine zz_get (T := TX6) (N := 10) (k := 4) (κ := 0) (w := zr ad 14 ((0 : Nat) : Int)) hx hb hts hinX6 hown hK hW4 (zlN (hX 0 0 rfl)) rfl rfl rfl (by decide) (hts (.fieldLink RX6 40 "HailCity" "sharing" "LHailCity$Sharing;") (by decide +kernel)) (fun _ h9 => h9) rfl dX6_putIntoRow_122 ?_
          refine zz_getN (T := TX5) (N := 9) (k := 6) (κ := 14) (w := .int (zi (yT (σ 6) (σ 17 d 9) (yQ (σ 20 d) (σ 23 q 1) (σ 23 q 2) f s9) f))) hx hb hts hinX5 hown hK hW4 (zlN (hX 14 0 rfl)) rfl rfl rfl (by decide) (host := "HailCity") (List.mem_of_getElem? (i := 9) rfl) (fun _ h9 => h9) (congrArg (fun z => Value.int (zi z)) (show σ4 14 0 6 = yT (σ 6) (σ 17 d 9) (yQ (σ 20 d) (σ 23 q 1) (σ 23 q 2) f s9) f from by rw [b3 14 0 6 (by omega), a3 14 0 6 (by omega), f4])) dX6_putIntoRow_125 ?_
          refine zz_callV (T := TX6) (N := 10) (As := [zr ad 23 ((q : Nat) : Int), zr ad 17 ((d : Nat) : Int), .int (zi (yT (σ 6) (σ 17 d 9) (yQ (σ 20 d) (σ 23 q 1) (σ 23 q 2) f s9) f))]) (rest := []) (v := ((0 : Nat) : Int)) (κ := 0) ⟨hx, hb, hml, hown, hts⟩ (c_X6_tellSent l G ad A N0 σ4 nd nr hX hnd d hd q hq (yT (σ 6) (σ 17 d 9) (yQ (σ 20 d) (σ 23 q 1) (σ 23 q 2) f s9) f) ⟨by omega, by omega⟩ (by omega) (by rw [hB 23 q 1 (by omega)]; exact hfr) (by rw [hB 23 q 2 (by omega)]; exact hto) (by rw [hB 23 q 1 (by omega), hB 23 q 2 (by omega), hB 6 _ _ (by omega)]; exact ⟨hwft.1, hwft.2 hft⟩)) (cwV 3 hts gX6_putIntoRow_X6_tellSent rfl rfl rfl (by decide +kernel) ⟨Nat.le_of_ble_eq_true rfl, Nat.le_of_ble_eq_true rfl⟩) hK hW4 (zlN (hX 0 0 rfl)) rfl rfl (Nat.le_trans hsz hS4.1) hS4 rfl hl.1.1 rfl (Nat.le_of_ble_eq_true rfl) dX6_putIntoRow_128 ⟨Nat.le_of_ble_eq_true rfl, Nat.le_of_ble_eq_true rfl⟩ (fun x5 σ5 H5 locs5 hp5 hW5 hz5 hS5 => ?_)
          have hU : ypu σ σ5 d n f s9 q := by
            rw [← hp5]
            refine ⟨?_, fun j hj => ?_, ⟨?_, ?_, ?_, ?_⟩, fun κ i k hn => ?_⟩
            · rw [zu_ne (by omega), zu_ne (by omega), zu_ne (by omega), zu_ne (by omega), b1]; omega
            · refine ⟨?_, ?_, ?_⟩
              · rw [zu_ne (by omega), zu_ne (by omega), zu_ne (by omega), zu_ne (by omega)]; exact (B2 j hj).1
              · rw [zu_ne (by omega), zu_ne (by omega), zu_ne (by omega), zu_ne (by omega)]; exact (B2 j hj).2.1
              · rw [zu_ne (by omega), zu_ne (by omega), zu_ne (by omega), zu_ne (by omega)]; exact (B2 j hj).2.2
            · rw [zu_s (by decide), zu_s (by decide), zu_s (by decide), zu_same]
            · rw [zu_s (by decide), zu_s (by decide), zu_same]
            · rw [zu_s (by decide), zu_same]; exact hB 0 0 8 (by omega)
            · rw [zu_same, hB 23 q 1 (by omega), hB 23 q 2 (by omega), hB 6 _ _ (by omega)]
            · rw [zu_ne (by omega), zu_ne (by omega), zu_ne (by omega), zu_ne (by omega)]; exact hB κ i k hn
          refine W.eq (g2 := F0 m 131 ls []) rfl ?_
          refine zz_iconst hx hb dX6_putIntoRow_131 ?_
          refine W.eq (g2 := F0 m 132 ls [.int (zi 1)]) rfl ?_
          refine zz_retz hx hb hr hlocks hW5 hS5 (by decide) ?_ dX6_putIntoRow_132
          exact Or.inr ⟨rfl, d, n, f, s9, hF, hU⟩
        · refine zz_iconst hx hb dX6_putIntoRow_76 ?_
          refine W.eq (g2 := F0 m 77 ls [.int (zi 0)]) rfl ?_
          refine zz_retz hx hb hr hlocks hW2 hS2 (by decide) ?_ dX6_putIntoRow_77
          exact Or.inl ⟨rfl, by rw [← y1]; exact hc73, hi4⟩
      · have hri := hrow i (by omega)
        refine zz_aload_n hx hb hl 0 dX6_putIntoRow_18 rfl rfl ?_
        refine zz_get (T := TX6) (N := 10) (k := 1) (κ := 0) (w := zr ad 15 ((0 : Nat) : Int)) hx hb hts hinX6 hown hK hW2 (zlN (hX 0 0 rfl)) rfl rfl rfl (by decide) (hts (.fieldLink RX6 18 "HailCity" "drivers" "[LHailCity$Driver;") (by decide +kernel)) (fun _ h9 => h9) rfl dX6_putIntoRow_19 ?_
        refine zz_iload_n hx hb hl 2 dX6_putIntoRow_22 rfl rfl ?_
        refine zz_aald (w := zr ad 17 ((i : Nat) : Int)) hx hb hK hW2 (zlN (hX 15 0 rfl)) rfl rfl (by show (0 : Int) ≤ ((i : Nat) : Int); omega) (by show ((i : Nat) : Int) < (8 : Int); omega) ((zv_r (Nat.le_of_ble_eq_true rfl) (Nat.le_of_ble_eq_true rfl)).trans (congrArg (zr ad 17) (show σ2 15 0 i = ((i : Nat) : Int) from by rw [hi4 15 0 i (by omega)]; exact hD i (by omega)))) dX6_putIntoRow_23 ?_
        refine zz_getN (T := TX1) (N := 13) (k := 5) (κ := 17) (w := .int (zi (σ 17 i 5))) hx hb hts hinX1 hown hK hW2 (zlN (hX 17 i (decide_eq_true (by omega)))) rfl rfl rfl (by decide) (host := "HailCity") (List.mem_of_getElem? (i := 14) rfl) (fun _ h9 => h9) (congrArg (fun z => Value.int (zi z)) (show σ2 17 i 5 = σ 17 i 5 from by rw [hi4 17 i 5 (by omega)])) dX6_putIntoRow_24 ?_
        refine zz_if_ne (tgt := 58) hx hb dX6_putIntoRow_27 (by decide) (hW0.2.2.1 _ _ _) (fun hc27 => ?_) (fun hc27 => ?_)
        · refine zz_iinc (lv' := [(2, .int (zi (((i : Nat) : Int) + 1))), (0, zr ad 0 ((0 : Nat) : Int)), (1, zr ad 23 ((q : Nat) : Int))]) hx hb hl dX6_putIntoRow_58 (k0 := 2) rfl (by decide) rfl (fun ls hl => ?_)
          refine zz_goto (tgt := 10) hx hb dX6_putIntoRow_61 (by decide) ?_
          refine ih10 (i + 1) σ2 H2 locs2 ls ?_ (by omega) hW2 hS2 (zh_sub hl [1, 2, 0] rfl)
          have hyc : ¬ ycn σ i := fun h => by first | exact hc42 h.2 | exact hc27 h.1
          refine ⟨by omega, ?_, hi3, hi4⟩
          show y5 σ2 = @ite _ (ycn σ i) (Classical.propDecidable _) _ _
          rw [if_neg hyc]
          exact hi2
        · refine zz_aload_n hx hb hl 0 dX6_putIntoRow_30 rfl rfl ?_
          refine zz_get (T := TX6) (N := 10) (k := 1) (κ := 0) (w := zr ad 15 ((0 : Nat) : Int)) hx hb hts hinX6 hown hK hW2 (zlN (hX 0 0 rfl)) rfl rfl rfl (by decide) (hts (.fieldLink RX6 18 "HailCity" "drivers" "[LHailCity$Driver;") (by decide +kernel)) (fun _ h9 => h9) rfl dX6_putIntoRow_31 ?_
          refine zz_iload_n hx hb hl 2 dX6_putIntoRow_34 rfl rfl ?_
          refine zz_aald (w := zr ad 17 ((i : Nat) : Int)) hx hb hK hW2 (zlN (hX 15 0 rfl)) rfl rfl (by show (0 : Int) ≤ ((i : Nat) : Int); omega) (by show ((i : Nat) : Int) < (8 : Int); omega) ((zv_r (Nat.le_of_ble_eq_true rfl) (Nat.le_of_ble_eq_true rfl)).trans (congrArg (zr ad 17) (show σ2 15 0 i = ((i : Nat) : Int) from by rw [hi4 15 0 i (by omega)]; exact hD i (by omega)))) dX6_putIntoRow_35 ?_
          refine zz_getN (T := TX1) (N := 13) (k := 1) (κ := 17) (w := zr ad 18 ((i : Nat) : Int)) hx hb hts hinX1 hown hK hW2 (zlN (hX 17 i (decide_eq_true (by omega)))) rfl rfl rfl (by decide) (host := "HailCity") (List.mem_of_getElem? (i := 12) rfl) (fun _ h9 => h9) rfl dX6_putIntoRow_36 ?_
          refine zz_callV (T := TX4) (N := 4) (As := []) (rest := []) (v := ((i : Nat) : Int)) (κ := 18) ⟨hx, hb, hml, hown, hts⟩ (c_X4_canTakeOneMore l G ad A N0 σ2 nd nr hX i (by omega) (by rw [hi4 18 i 3 (by omega)]; exact hri.1.1) (by rw [hi4 18 i 3 (by omega)]; exact hri.1.2)) (cwV 0 hts gX6_putIntoRow_X4_canTakeOneMore rfl rfl rfl (by decide +kernel) ⟨Nat.le_of_ble_eq_true rfl, Nat.le_of_ble_eq_true rfl⟩) hK hW2 (zlN (hX 18 i (decide_eq_true (by omega)))) rfl rfl (Nat.le_trans hsz hS2.1) hS2 rfl hl.1.1 rfl (Nat.le_of_ble_eq_true rfl) dX6_putIntoRow_39 ⟨Nat.le_of_ble_eq_true rfl, Nat.le_of_ble_eq_true rfl⟩ (fun x6 σ6 H6 locs6 hp6 hW6 hz6 hS6 => ?_)
          obtain ⟨rfl, hx9⟩ := hp6
          have E21 : σ2 21 = σ 21 := funext fun a => funext fun b => hi4 21 a b (by omega)
          have E22 : σ2 22 = σ 22 := funext fun a => funext fun b => hi4 22 a b (by omega)
          have E23 : σ2 23 = σ 23 := funext fun a => funext fun b => hi4 23 a b (by omega)
          rw [hi4 18 i 3 (by omega), E21, E22, E23] at hx9
          obtain rfl := hx9
          refine W.eq (g2 := F0 m 42 ls [.int (zi (zb ((∀ j : Nat, (j : Int) < σ 18 i 3 → 0 ≤ σ 21 i j ∧ σ 23 (σ 21 i j).toNat 3 = 1) ∧ 1 ≤ zcnt (σ 22 i) (σ 18 i 3).toNat ∧ zcnt (σ 22 i) (σ 18 i 3).toNat ≤ 3)))]) rfl ?_
          refine zz_if_eqb (tgt := 58) hx hb dX6_putIntoRow_42 (by decide) (fun hc42 => ?_) (fun hc42 => ?_)
          · refine zz_iinc (lv' := [(2, .int (zi (((i : Nat) : Int) + 1))), (0, zr ad 0 ((0 : Nat) : Int)), (1, zr ad 23 ((q : Nat) : Int))]) hx hb hl dX6_putIntoRow_58 (k0 := 2) rfl (by decide) rfl (fun ls hl => ?_)
            refine zz_goto (tgt := 10) hx hb dX6_putIntoRow_61 (by decide) ?_
            refine ih10 (i + 1) σ2 H6 locs6 ls ?_ (by omega) hW6 hS6 (zh_sub hl [1, 2, 0] rfl)
            have hyc : ¬ ycn σ i := fun h => by first | exact hc42 h.2 | exact hc27 h.1
            refine ⟨by omega, ?_, hi3, hi4⟩
            show y5 σ2 = @ite _ (ycn σ i) (Classical.propDecidable _) _ _
            rw [if_neg hyc]
            exact hi2
          · have h6n := hri.2.2.2.1 ⟨hc27, hc42⟩
            have hzc := zcnt_ge (σ 22 i) (σ 18 i 3).toNat
            have hn1 : 1 ≤ (σ 18 i 3).toNat := by
              have := hc42.2.1
              omega
            have h14 : ∀ κ i k, κ ≠ 14 ∧ (κ < 24 ∨ 27 < κ) → σ2 κ i k = σ κ i k := fun κ' i' k' h => hi4 κ' i' k' (by omega)
            refine zz_aload_n hx hb hl 0 dX6_putIntoRow_45 rfl rfl ?_
            refine zz_get (T := TX6) (N := 10) (k := 4) (κ := 0) (w := zr ad 14 ((0 : Nat) : Int)) hx hb hts hinX6 hown hK hW6 (zlN (hX 0 0 rfl)) rfl rfl rfl (by decide) (hts (.fieldLink RX6 40 "HailCity" "sharing" "LHailCity$Sharing;") (by decide +kernel)) (fun _ h9 => h9) rfl dX6_putIntoRow_46 ?_
            refine zz_aload_n hx hb hl 0 dX6_putIntoRow_49 rfl rfl ?_
            refine zz_get (T := TX6) (N := 10) (k := 1) (κ := 0) (w := zr ad 15 ((0 : Nat) : Int)) hx hb hts hinX6 hown hK hW6 (zlN (hX 0 0 rfl)) rfl rfl rfl (by decide) (hts (.fieldLink RX6 18 "HailCity" "drivers" "[LHailCity$Driver;") (by decide +kernel)) (fun _ h9 => h9) rfl dX6_putIntoRow_50 ?_
            refine zz_iload_n hx hb hl 2 dX6_putIntoRow_53 rfl rfl ?_
            refine zz_aald (w := zr ad 17 ((i : Nat) : Int)) hx hb hK hW6 (zlN (hX 15 0 rfl)) rfl rfl (by show (0 : Int) ≤ ((i : Nat) : Int); omega) (by show ((i : Nat) : Int) < (8 : Int); omega) ((zv_r (Nat.le_of_ble_eq_true rfl) (Nat.le_of_ble_eq_true rfl)).trans (congrArg (zr ad 17) (show σ2 15 0 i = ((i : Nat) : Int) from by rw [hi4 15 0 i (by omega)]; exact hD i (by omega)))) dX6_putIntoRow_54 ?_
            refine zz_callV (T := TX5) (N := 9) (As := [zr ad 17 ((i : Nat) : Int)]) (rest := []) (v := ((0 : Nat) : Int)) (κ := 14) ⟨hx, hb, hml, hown, hts⟩ (c_X5_tryDriver l G ad A N0 σ2 nd nr hX i (by omega) q hq hi3 (by rw [hi4 23 q 1 (by omega)]; exact hfr) (by rw [hi4 23 q 2 (by omega)]; exact hto) (by rw [hi4 23 q 1 (by omega), hi4 23 q 2 (by omega), hi4 6 _ _ (by omega)]; exact hft) (σ 18 i 3).toNat (by rw [hi4 18 i 3 (by omega)]; omega) hn1 (fun j hj => by rw [hi4 20 i j (by omega)]; exact hri.2.1 j (by omega)) (by omega) (fun a b h1 h2 => by rw [hi4 6 a b (by omega)]; exact hw a b h1 h2) (fun a h1 => by rw [hi4 6 a a (by omega)]; exact hwd a h1) (by rw [hi4 17 i 9 (by omega)]; exact hri.2.2.2.2.1 (by omega)) (fun j hj => by rw [hi4 21 i j (by omega)]; exact hri.2.2.2.2.2 j (by omega)) (fun j hj => by rw [hi4 20 i j (by omega), hi4 20 i (j + 1) (by omega), hi4 6 _ _ (by omega)]; exact hri.2.2.1 j (by omega)) hnd) (cwV 1 hts gX6_putIntoRow_X5_tryDriver rfl rfl rfl (by decide +kernel) ⟨Nat.le_of_ble_eq_true rfl, Nat.le_of_ble_eq_true rfl⟩) hK hW6 (zlN (hX 14 0 rfl)) rfl rfl (Nat.le_trans hsz hS6.1) hS6 rfl hl.1.1 rfl (Nat.le_of_ble_eq_true rfl) dX6_putIntoRow_55 ⟨Nat.le_of_ble_eq_true rfl, Nat.le_of_ble_eq_true rfl⟩ (fun x7 σ7 H7 locs7 hp7 hW7 hz7 hS7 => ?_)
            refine W.eq (g2 := F0 m 58 ls []) rfl ?_
            refine zz_iinc (lv' := [(2, .int (zi (((i : Nat) : Int) + 1))), (0, zr ad 0 ((0 : Nat) : Int)), (1, zr ad 23 ((q : Nat) : Int))]) hx hb hl dX6_putIntoRow_58 (k0 := 2) rfl (by decide) rfl (fun ls hl => ?_)
            refine zz_goto (tgt := 10) hx hb dX6_putIntoRow_61 (by decide) ?_
            refine ih10 (i + 1) σ7 H7 locs7 ls ?_ (by omega) hW7 hS7 (zh_sub hl [1, 2, 0] rfl)
            have hyc : ycn σ i := ⟨hc27, hc42⟩
            refine ⟨by omega, ?_, ?_, ?_⟩
            · show y5 σ7 = @ite _ (ycn σ i) (Classical.propDecidable _) _ _
              rw [if_pos hyc, hp7.1, ys1_fr h14, hi2]
            · rw [hp7.2 14 0 2 (by omega)]; exact hi3
            · exact fun κ' i' k' hn => by rw [hp7.2 _ _ _ (by omega)]; exact hi4 _ _ _ hn
  refine hcut10 _ 0 σ1 H1 locs1 ls ?_ (Nat.lt_succ_self _) hW1 hS1 (zh_sub hl [1, 2, 0] rfl)
  refine ⟨Nat.zero_le _, ?_, ?_, fun κ i k hn => ?_⟩
  · rw [← hp1]
    unfold y5
    rw [zu_same, zu_s (by decide), zu_s (by decide), zu_s (by decide), zu_s (by decide), zu_s (by decide), zu_s (by decide), zu_s (by decide), zu_s (by decide)]
    rfl
  · rw [← hp1, zu_s (by decide), zu_same]
  · rw [← hp1, zu_ne (by omega), zu_ne (by omega)]
