/-! one request is shared, in the model -/
theorem yT_cg {w w' : Nat → Nat → Int} {t0 t1 : Int} {P Q : Nat → Int} (h0 : t0 = t1) (hw : ∀ a b, w a b = w' a b) : ∀ n, (∀ j, j ≤ n → P j = Q j) → yT w t0 P n = yT w' t1 Q n
  | 0, _ => h0
  | n + 1, h => by
    show yT w t0 P n + w (P n).toNat (P (n + 1)).toNat = yT w' t1 Q n + w' (Q n).toNat (Q (n + 1)).toNat
    rw [yT_cg h0 hw n (fun j hj => h j (by omega)), h n (by omega), h (n + 1) (Nat.le_refl _), hw]
theorem yQ_far {P : Nat → Int} {fr to : Int} {j : Nat} (h : j < 99) : yQ P fr to 99 100 j = P j := by
  unfold yQ yold
  rw [if_neg (by omega), if_neg (by omega), if_neg (by omega), if_neg (by omega)]
  rfl
theorem yQ_rg {P : Nat → Int} {fr to : Int} {f s n j : Nat} (hfs : f < s) (hf : f ≤ n) (hs : s ≤ n + 1) (hj : j < n + 2) {lo hi : Int} (hP : ∀ j, j < n → lo ≤ P j ∧ P j < hi) (h1 : lo ≤ fr ∧ fr < hi) (h2 : lo ≤ to ∧ to < hi) : lo ≤ yQ P fr to f s j ∧ yQ P fr to f s j < hi := by
  unfold yQ
  by_cases e1 : j = f
  · rw [if_pos e1]; exact h1
  · rw [if_neg e1]
    by_cases e2 : j = s
    · rw [if_pos e2]; exact h2
    · rw [if_neg e2]; exact hP _ (yold_lt hfs hf hs hj e1 e2)
def yZ : Type := Int × Int × Int × Int
def yW (σ : zS) (a b : Nat) : Int := σ 47 0 (10 * a + b)
def yPd (σ : zS) (d j : Nat) : Int := σ 53 0 (8 * d + j)
def yUd (σ : zS) (d j : Nat) : Int := σ 54 0 (8 * d + j)
def yl0 (σ : zS) (d n : Nat) : Int := yT (yW σ) (σ 55 0 d) (yPd σ d) (n - 1)
def yl1 (σ : zS) (q d f s j : Nat) : Int := yT (yW σ) (σ 55 0 d) (yQ (yPd σ d) (σ 65 0 q) (σ 66 0 q) f s) j
def ymo (σ : zS) (q d n f s : Nat) : Int := yl1 σ q d f s (n + 1) - yl0 σ d n
/-- the store with a row laid -/
def yly (σ : zS) (q d f s : Nat) : zS := fun κ i k => if κ = 80 then yQ (yUd σ d) (q : Int) (100 + (q : Int)) f s k else if κ = 81 then yl1 σ q d f s k else σ κ i k
def ycS (σ : zS) (d n : Nat) : Prop := ycs σ d n ∧ yhs (ylo σ d) n ≤ 3
noncomputable def yzp (σ : zS) (q d n f s : Nat) (st : Int × Int × Int × Int) : Int × Int × Int × Int := @ite (Int × Int × Int × Int) (ymo σ q d n f s < st.1 ∧ yka (yly σ q d f s) q (n + 2)) (Classical.propDecidable _) (ymo σ q d n f s, (d : Int), (f : Int), (s : Int)) st
noncomputable def yz2 (σ : zS) (q d n f : Nat) : Nat → Int × Int × Int × Int → Int × Int × Int × Int
  | 0, st => st
  | k + 1, st => yzp σ q d n f (f + 1 + k) (yz2 σ q d n f k st)
noncomputable def yz1 (σ : zS) (q d n : Nat) : Nat → Int × Int × Int × Int → Int × Int × Int × Int
  | 0, st => st
  | k + 1, st => yz2 σ q d n (k + 1) (n + 1 - (k + 1)) (yz1 σ q d n k st)
noncomputable def yzs (σ : zS) (q : Nat) : Nat → Int × Int × Int × Int
  | 0 => (100000, -1, 0, 0)
  | d + 1 => @ite (Int × Int × Int × Int) (ycS σ d (σ 52 0 d).toNat) (Classical.propDecidable _) (yz1 σ q d (σ 52 0 d).toNat (σ 52 0 d).toNat (yzs σ q d)) (yzs σ q d)
/-- a place that may be -/
def yzf (σ : zS) (nd q d n f s : Nat) : Prop := d < nd ∧ σ 52 0 d = (n : Int) ∧ ycS σ d n ∧ (1 ≤ f ∧ f ≤ n) ∧ (f < s ∧ s ≤ n + 1) ∧ yka (yly σ q d f s) q (n + 2)
def yzV (σ : zS) (nd q : Nat) (st : Int × Int × Int × Int) : Prop := st = (100000, -1, 0, 0) ∨ ((-1000000 ≤ st.1 ∧ st.1 ≤ 100000) ∧ ∃ d n f s : Nat, st.2 = ((d : Int), (f : Int), (s : Int)) ∧ yzf σ nd q d n f s)
theorem yzV_hi {σ : zS} {nd q : Nat} {st : Int × Int × Int × Int} (h : yzV σ nd q st) : st.1 ≤ 100000 := by
  rcases h with h | h
  · rw [h]; exact Int.le_refl _
  · exact h.1.2
theorem ycS_6 {σ : zS} {nd nr ns d n : Nat} {c B : Int} (h : yWF σ nd nr ns c B) (hd : d < nd) (hn : σ 52 0 d = (n : Int)) (hs : ycS σ d n) : 1 ≤ n ∧ n ≤ 6 := by
  obtain ⟨⟨a1, a2⟩, a3, a4, a5, a6, a7, a8, a9, a10, a11⟩ := h.2.1 d hd
  have hnr := h.1.1.2.1
  rw [show (σ 52 0 d).toNat = n by omega] at a11
  have h1 := yRS_le hnr a11
  have h2 := ylo_O (σ := σ) (d := d) n
  have h3 := hs.2
  have h4 : ycI (fun j => σ 54 0 (8 * d + j)) n + ycO (fun j => σ 54 0 (8 * d + j)) n = n := ycIO (fun j hj => by
    have h5 := yWF_row h hd (j := j) (by omega)
    have h6 := (hs.1.2 j hj).1
    show 0 ≤ σ 54 0 (8 * d + j)
    omega)
  have h5 := hs.1.1.2
  exact ⟨by omega, by omega⟩
theorem ymo_rg {σ : zS} {nd nr ns q d n f s : Nat} {c B : Int} (h : yWF σ nd nr ns c B) (hq : q < nr) (hd : d < nd) (hn : σ 52 0 d = (n : Int)) (hn6 : n ≤ 6) (hn1 : 1 ≤ n) (hfs : f < s) (hf : f ≤ n) (hs : s ≤ n + 1) : (0 ≤ yl0 σ d n ∧ yl0 σ d n ≤ 850000) ∧ ∀ j, j ≤ n + 1 → 0 ≤ yl1 σ q d f s j ∧ yl1 σ q d f s j ≤ 850000 := by
  obtain ⟨⟨a1, a2⟩, a3, a4, a5, a6, a7⟩ := h.2.1 d hd
  obtain ⟨c1, c2, c3⟩ := h.2.2.1 q hq
  have hP : ∀ j, j < n → 0 ≤ yPd σ d j ∧ yPd σ d j < 10 := fun j hj => a3 j (by omega)
  have hw : ∀ a b : Int, 0 ≤ a → a < 10 → 0 ≤ b → b < 10 → 0 ≤ yW σ a.toNat b.toNat ∧ yW σ a.toNat b.toNat ≤ 100000 := fun a b h1 h2 h3 h4 => by
    have h5 := yWF_w h a.toNat b.toNat (by omega) (by omega)
    exact ⟨h5.1, h5.2.1⟩
  have hQ : ∀ j, j < n + 2 → 0 ≤ yQ (yPd σ d) (σ 65 0 q) (σ 66 0 q) f s j ∧ yQ (yPd σ d) (σ 65 0 q) (σ 66 0 q) f s j < 10 := fun j hj => yQ_rg hfs hf hs hj hP c1 c2
  refine ⟨?_, fun j hj => ?_⟩
  · have h1 := yT_rg2 (w := yW σ) (t0 := σ 55 0 d) (Q := yPd σ d) (n - 1) (fun j hj => hw _ _ (hP j (by omega)).1 (hP j (by omega)).2 (hP (j + 1) (by omega)).1 (hP (j + 1) (by omega)).2)
    unfold yl0
    omega
  · have h1 := yT_rg2 (w := yW σ) (t0 := σ 55 0 d) (Q := yQ (yPd σ d) (σ 65 0 q) (σ 66 0 q) f s) j (fun i hi => hw _ _ (hQ i (by omega)).1 (hQ i (by omega)).2 (hQ (i + 1) (by omega)).1 (hQ (i + 1) (by omega)).2)
    unfold yl1
    omega
theorem yzp_ok {σ : zS} {nd nr ns q d n f s : Nat} {c B : Int} (h : yWF σ nd nr ns c B) (hq : q < nr) (hd : d < nd) (hn : σ 52 0 d = (n : Int)) (hS : ycS σ d n) (hf1 : 1 ≤ f) (hfs : f < s) (hf : f ≤ n) (hs : s ≤ n + 1) {st : Int × Int × Int × Int} (hv : yzV σ nd q st) : yzV σ nd q (yzp σ q d n f s st) := by
  have h6 := ycS_6 h hd hn hS
  obtain ⟨h7, h8⟩ := ymo_rg (f := f) (s := s) h hq hd hn h6.2 h6.1 hfs hf hs
  have h9 := h8 (n + 1) (Nat.le_refl _)
  have h10 := yzV_hi hv
  unfold yzp
  split
  · rename_i hc
    refine Or.inr ⟨⟨?_, ?_⟩, d, n, f, s, rfl, hd, hn, hS, ⟨hf1, hf⟩, ⟨hfs, hs⟩, hc.2⟩
    · show -1000000 ≤ ymo σ q d n f s
      unfold ymo
      omega
    · show ymo σ q d n f s ≤ 100000
      have := hc.1
      omega
  · exact hv
theorem yz2_ok {σ : zS} {nd nr ns q d n f : Nat} {c B : Int} (h : yWF σ nd nr ns c B) (hq : q < nr) (hd : d < nd) (hn : σ 52 0 d = (n : Int)) (hS : ycS σ d n) (hf1 : 1 ≤ f) (hf : f ≤ n) {st : Int × Int × Int × Int} (hv : yzV σ nd q st) : ∀ k, k ≤ n + 1 - f → yzV σ nd q (yz2 σ q d n f k st)
  | 0, _ => hv
  | k + 1, hk => yzp_ok h hq hd hn hS hf1 (by omega) hf (by omega) (yz2_ok h hq hd hn hS hf1 hf hv k (by omega))
theorem yz1_ok {σ : zS} {nd nr ns q d n : Nat} {c B : Int} (h : yWF σ nd nr ns c B) (hq : q < nr) (hd : d < nd) (hn : σ 52 0 d = (n : Int)) (hS : ycS σ d n) {st : Int × Int × Int × Int} (hv : yzV σ nd q st) : ∀ k, k ≤ n → yzV σ nd q (yz1 σ q d n k st)
  | 0, _ => hv
  | k + 1, hk => yz2_ok h hq hd hn hS (by omega) hk (yz1_ok h hq hd hn hS hv k (by omega)) _ (Nat.le_refl _)
theorem yzs_ok {σ : zS} {nd nr ns q : Nat} {c B : Int} (h : yWF σ nd nr ns c B) (hq : q < nr) : ∀ d, d ≤ nd → yzV σ nd q (yzs σ q d)
  | 0, _ => Or.inl rfl
  | d + 1, hd => by
    have ih := yzs_ok h hq d (by omega)
    have h52 := (h.2.1 d (by omega)).1.2
    by_cases hS : ycS σ d (σ 52 0 d).toNat
    · rw [show yzs σ q (d + 1) = _ from if_pos hS]
      exact yz1_ok h hq (by omega) (by omega) hS ih _ (Nat.le_refl _)
    · rw [show yzs σ q (d + 1) = _ from if_neg hS]
      exact ih
theorem yzV_rg {σ : zS} {nd nr ns q : Nat} {c B : Int} (h : yWF σ nd nr ns c B) {A1 A2 A3 A4 : Int} (hv : yzV σ nd q (A1, A2, A3, A4)) : (-1000000 ≤ A1 ∧ A1 ≤ 100000) ∧ (-1 ≤ A2 ∧ A2 < 8) ∧ (0 ≤ A3 ∧ A3 < 8) ∧ (0 ≤ A4 ∧ A4 < 8) := by
  rcases hv with hv | ⟨h1, d, n, f, s, h2, h3, h4, h5, h6, h7, h8⟩
  · injection hv with e1 e2
    injection e2 with e2 e3
    injection e3 with e3 e4
    omega
  · injection h2 with e2 e3
    injection e3 with e3 e4
    have h9 := ycS_6 h h3 h4 h5
    have h10 := h.1.1.1
    exact ⟨h1, by omega, by omega, by omega⟩
def y79 (κ _i _k : Nat) : Prop := κ = 79 ∨ κ = 80 ∨ κ = 81
theorem ycS_fr {σ u : zS} (h : zfr y79 σ u) {d n : Nat} : (ycs u d n ∧ yhs (ylo u d) n ≤ 3) = ycS σ d n := by
  have e : ∀ κ k, ¬ y79 κ 0 k → u κ 0 k = σ κ 0 k := fun κ k hk => h κ 0 k hk
  have e2 : ylo u d = ylo σ d := funext fun j => by unfold ylo; rw [e 54 _ (by unfold y79; omega)]
  unfold ycS ycs
  rw [e2, e 51 _ (by unfold y79; omega), e 52 _ (by unfold y79; omega)]
  simp only [e 54 _ (show ¬ y79 54 0 _ by unfold y79; omega), e 68 _ (show ¬ y79 68 0 _ by unfold y79; omega)]
theorem yka_ly {σ u : zS} {q d f s m : Nat} (h : zfr y79 σ u) (hl : ∀ j, j < m → u 80 0 j = yQ (yUd σ d) (q : Int) (100 + (q : Int)) f s j ∧ u 81 0 j = yl1 σ q d f s j) : ∀ i, i ≤ m → (ykp u q i = ykp (yly σ q d f s) q i) ∧ (yka u q i ↔ yka (yly σ q d f s) q i)
  | 0, _ => ⟨rfl, ⟨fun _ j hj => absurd hj (Nat.not_lt_zero j), fun _ j hj => absurd hj (Nat.not_lt_zero j)⟩⟩
  | i + 1, hi => by
    obtain ⟨ih1, ih2⟩ := yka_ly h hl i (by omega)
    obtain ⟨e80, e81⟩ := hl i (by omega)
    have e : ∀ κ k, ¬ y79 κ 0 k → u κ 0 k = yly σ q d f s κ 0 k := fun κ k hk => by
      rw [h κ 0 k hk]
      unfold y79 at hk
      unfold yly
      rw [if_neg (by omega), if_neg (by omega)]
    have f80 : u 80 0 i = yly σ q d f s 80 0 i := e80.trans (if_pos rfl).symm
    have f81 : u 81 0 i = yly σ q d f s 81 0 i := by
      rw [e81]
      unfold yly
      rw [if_neg (by decide), if_pos rfl]
    refine ⟨?_, ?_⟩
    · show (if _ then _ else _ : Int) = (if _ then _ else _ : Int)
      rw [f80, f81, ih1, e 47 _ (by unfold y79; omega), e 65 _ (by unfold y79; omega), e 66 _ (by unfold y79; omega)]
    · rw [yka_s, yka_s, ih2]
      have : yko u q i ↔ yko (yly σ q d f s) q i := by
        unfold yko
        rw [f80, f81, ih1, e 67 _ (by unfold y79; omega), e 71 _ (by unfold y79; omega)]
      rw [this]
theorem ymp_79 {σ v u : zS} {d n f s q : Nat} (h : zfr y79 σ v) (hu : ymp v u d n f s q) : ymp σ u d n f s q := by
  have e : ∀ κ i k, κ ≠ 79 ∧ κ ≠ 80 ∧ κ ≠ 81 → v κ i k = σ κ i k := fun κ i k hk => h κ i k (by unfold y79; omega)
  obtain ⟨h1, h2, h3, h4⟩ := hu
  simp only [e 53 _ _ (by decide), e 54 _ _ (by decide), e 65 _ _ (by decide), e 66 _ _ (by decide), e 47 _ _ (by decide), e 55 _ _ (by decide), e 30 _ _ (by decide)] at h2 h3
  refine ⟨h1, h2, h3, fun κ i k hk => ?_⟩
  rw [h4 κ i k hk]
  exact e κ i k (by omega)

set_option maxHeartbeats 4000000 in
set_option maxRecDepth 100000 in
theorem c_X7_shareOne (l : Launch) (G : zG) (ad : zA) (A : Nat → Prop) (N0 : Nat) (σ : zS) (hM : zMm ad) (nd nr ns : Nat) (c9 B9 : Int) (hWF : yWF σ nd nr ns c9 B9) (hB9 : B9 ≤ 1000000) (q : Nat) (hq : q < nr) : Met l yX7_shareOne wsX7_shareOne ({ frames := 3, cells := 0, slots := 0, locals := 76 }) (zP G ad A N0 σ [zr ad 30 ((0 : Nat) : Int), .int (zi ((q : Nat) : Int))]) (zQ G ad A zri (fun r u => ((yzs σ q nd).2.1 = -1 ∧ 0 = r ∧ zfr y79 σ u) ∨ (1 = r ∧ ∃ d n f s : Nat, (yzs σ q nd).2 = ((d : Int), (f : Int), (s : Int)) ∧ yzf σ nd q d n f s ∧ ymp σ u d n f s q))) 0 0 A := by
  refine zz_of (cc := cX7_shareOne) (maxL := 13) (ret := (some .boolean)) (by decide) rfl ⟨rfl, rfl⟩ (List.forall_mem_cons.mpr ⟨zr_cat _ _ _, List.forall_mem_cons.mpr ⟨rfl, fun _ h => absurd h List.not_mem_nil⟩⟩) (Nat.le_of_ble_eq_true rfl) ?_
  intro p e s m below meth c hx hb hr hml hts hown hlocks hsz hW0 hK ls hl
  have hS0 : va_S A s.heap s.heap [] := va_S.rf
  have hl : zh ls 13 [(0, zr ad 30 ((0 : Nat) : Int)), (1, .int (zi ((q : Nat) : Int)))] := hl
  have hinX7 : ∀ w ∈ u_ws RX7 TX7 42, w ∈ wsX7_shareOne := by decide +kernel
  have h8 := hWF.1.2.1.1
  have h23 := hWF.1.2.1.2.1
  have hnd := hWF.1.1.1
  have hnr := hWF.1.1.2.1
  have hnow := hWF.1.2.2.1
  have hord := hWF.1.2.2.2.2.1
  have hwq := hWF.2.2.1 q hq
  refine zz_ldc (n := 100000) (v := 100000) hx hb hown (hts (.constant RX7 133 (100000)) (by decide +kernel)) (by decide +kernel) dX7_shareOne_0 ?_
  refine zz_istore_n (lv' := [(2, .int (zi 100000)), (0, zr ad 30 ((0 : Nat) : Int)), (1, .int (zi ((q : Nat) : Int)))]) hx hb hl dX7_shareOne_2 rfl (by decide) rfl (fun ls hl => ?_)
  refine zz_iconst hx hb dX7_shareOne_3 ?_
  refine zz_istore_n (lv' := [(3, .int (zi (-1))), (2, .int (zi 100000)), (0, zr ad 30 ((0 : Nat) : Int)), (1, .int (zi ((q : Nat) : Int)))]) hx hb hl dX7_shareOne_4 rfl (by decide) rfl (fun ls hl => ?_)
  refine zz_iconst hx hb dX7_shareOne_5 ?_
  refine zz_istore (lv' := [(4, .int (zi 0)), (3, .int (zi (-1))), (2, .int (zi 100000)), (0, zr ad 30 ((0 : Nat) : Int)), (1, .int (zi ((q : Nat) : Int)))]) hx hb hl dX7_shareOne_6 (by decide) rfl (fun ls hl => ?_)
  refine zz_iconst hx hb dX7_shareOne_8 ?_
  refine zz_istore (lv' := [(5, .int (zi 0)), (4, .int (zi 0)), (3, .int (zi (-1))), (2, .int (zi 100000)), (0, zr ad 30 ((0 : Nat) : Int)), (1, .int (zi ((q : Nat) : Int)))]) hx hb hl dX7_shareOne_9 (by decide) rfl (fun ls hl => ?_)
  refine zz_iconst hx hb dX7_shareOne_11 ?_
  refine zz_istore (lv' := [(6, .int (zi 0)), (5, .int (zi 0)), (4, .int (zi 0)), (3, .int (zi (-1))), (2, .int (zi 100000)), (0, zr ad 30 ((0 : Nat) : Int)), (1, .int (zi ((q : Nat) : Int)))]) hx hb hl dX7_shareOne_12 (by decide) rfl (fun ls hl => ?_)
  have hcut14 : ∀ (n9 : Nat) (d9 : Nat) (A1 A2 A3 A4 : Int)  (σ9 : zS) (H9 : Heap) (locs9 : List Loc) (ls : Array Slot), (d9 ≤ nd ∧ (A1, A2, A3, A4) = yzs σ q d9 ∧ zfr y79 σ σ9) → (nd - d9) < n9 → ZW G ad A σ9 H9 → va_S A s.heap H9 locs9 → zh ls 13 [(0, zr ad 30 ((0 : Nat) : Int)), (1, .int (zi ((q : Nat) : Int))), (2, .int (zi A1)), (3, .int (zi A2)), (4, .int (zi A3)), (5, .int (zi A4)), (6, .int (zi ((d9 : Nat) : Int)))] → W p l e ({ frames := 3, cells := 0, slots := 0, locals := 76 }) s m ([zr ad 30 ((0 : Nat) : Int), .int (zi ((q : Nat) : Int))] : List Value).toArray below meth c H9 locs9 0 0 (MQ below (zQ G ad A zri (fun r u => ((yzs σ q nd).2.1 = -1 ∧ 0 = r ∧ zfr y79 σ u) ∨ (1 = r ∧ ∃ d n f s : Nat, (yzs σ q nd).2 = ((d : Int), (f : Int), (s : Int)) ∧ yzf σ nd q d n f s ∧ ymp σ u d n f s q))) ([zr ad 30 ((0 : Nat) : Int), .int (zi ((q : Nat) : Int))] : List Value).toArray s 0 0 A) (F0 m 14 ls []) := by
    intro n9
    induction n9 with
    | zero =>
      intro d9 A1 A2 A3 A4 σ1 H1 locs1 ls hI14 hm14 hW1 hS1 hl
      exact absurd hm14 (Nat.not_lt_zero _)
    | succ n9 ih14 =>
      intro d9 A1 A2 A3 A4 σ1 H1 locs1 ls hI14 hm14 hW1 hS1 hl
      obtain ⟨hd9, hA14, hfS⟩ := hI14
      have hv14 := yzs_ok hWF hq d9 hd9
      rw [← hA14] at hv14
      have hr14 := yzV_rg hWF hv14
      refine zz_iload hx hb hl 6 dX7_shareOne_14 rfl ?_
      refine zz_aload_n hx hb hl 0 dX7_shareOne_16 rfl rfl ?_
      refine zz_get (T := TX7) (N := 42) (k := 8) (κ := 30) (w := .int (zi ((nd : Nat) : Int))) hx hb hts hinX7 hown hK hW1 (zlN (hM 30 rfl)) rfl rfl rfl (by decide) (hts (.fieldLink RX7 127 "HailCityModel" "drivers" "I") (by decide +kernel)) (fun _ h9 => h9) (congrArg (fun z => Value.int (zi z)) (show σ1 30 0 8 = ((nd : Nat) : Int) from by rw [hfS 30 0 8 (by unfold y79; omega)]; exact h8)) dX7_shareOne_17 ?_
      refine zz_icmp_ge (tgt := 154) hx hb dX7_shareOne_20 (by decide) ⟨by omega, by omega⟩ ⟨by omega, by omega⟩ (fun hc20 => ?_) (fun hc20 => ?_)
      · refine zz_iload_n hx hb hl 3 dX7_shareOne_154 rfl rfl ?_
        refine zz_iconst hx hb dX7_shareOne_155 ?_
        refine zz_icmp_eq (tgt := 169) hx hb dX7_shareOne_156 (by decide) ⟨by omega, by omega⟩ ⟨by decide, by decide⟩ (fun hc156 => ?_) (fun hc156 => ?_)
        · refine zz_iload_n hx hb hl 3 dX7_shareOne_169 rfl rfl ?_
          refine zz_iconst hx hb dX7_shareOne_170 ?_
          refine zz_icmp_eq (tgt := 178) hx hb dX7_shareOne_171 (by decide) ⟨by omega, by omega⟩ ⟨by decide, by decide⟩ (fun hc171 => ?_) (fun hc171 => ?_)
          · refine zz_iconst hx hb dX7_shareOne_178 ?_
            refine W.eq (g2 := F0 m 179 ls [.int (zi 0)]) rfl ?_
            refine zz_retz hx hb hr hlocks hW1 hS1 (by decide) ?_ dX7_shareOne_179
            refine Or.inl ⟨?_, rfl, hfS⟩
            rw [show nd = d9 by omega, ← hA14]
            exact hc156
          · exact absurd hc156 hc171
        · obtain ⟨hA1r, D5, n5, f5, s5, eA, hyz⟩ := hv14.resolve_left (fun h => by injection h with e1 e2; injection e2 with e2 e3; omega)
          have eA2 : A2 = ((D5 : Nat) : Int) := by injection eA
          have eA3 : A3 = ((f5 : Nat) : Int) := by injection eA with e1 e2; injection e2
          have eA4 : A4 = ((s5 : Nat) : Int) := by injection eA with e1 e2; injection e2
          obtain ⟨z1, z2, z3, z4, z5, z6⟩ := id hyz
          have z36 := ycS_6 hWF z1 z2 z3
          obtain ⟨b1, b3, b4, b5, b6, b7⟩ := hWF.2.1 D5 z1
          have hTf := (ymo_rg (f := f5) (s := s5) hWF hq z1 z2 z36.2 z36.1 z5.1 z4.2 z5.2).2 f5 (by omega)
          have eS : ∀ κ k, κ ≠ 79 ∧ κ ≠ 80 ∧ κ ≠ 81 → σ1 κ 0 k = σ κ 0 k := fun κ k h => hfS κ 0 k (by unfold y79; omega)
          have hl : zh ls 13 [(0, zr ad 30 ((0 : Nat) : Int)), (1, .int (zi ((q : Nat) : Int))), (2, .int (zi A1)), (3, .int (zi ((D5 : Nat) : Int))), (4, .int (zi ((f5 : Nat) : Int))), (5, .int (zi ((s5 : Nat) : Int))), (6, .int (zi ((d9 : Nat) : Int)))] := by
            rw [← eA2, ← eA3, ← eA4]
            exact hl
          refine zz_aload_n hx hb hl 0 dX7_shareOne_159 rfl rfl ?_
          refine zz_iload_n hx hb hl 3 dX7_shareOne_160 rfl rfl ?_
          refine zz_iload_n hx hb hl 1 dX7_shareOne_161 rfl rfl ?_
          refine zz_iload hx hb hl 4 dX7_shareOne_162 rfl ?_
          refine zz_iload hx hb hl 5 dX7_shareOne_164 rfl ?_
          refine zz_callV (T := TX7) (N := 42) (As := [.int (zi ((D5 : Nat) : Int)), .int (zi ((q : Nat) : Int)), .int (zi ((f5 : Nat) : Int)), .int (zi ((s5 : Nat) : Int))]) (rest := []) (v := ((0 : Nat) : Int)) (κ := 30) ⟨hx, hb, hml, hown, hts⟩ (c_X7_put l G ad A N0 σ1 hM D5 (by omega) n5 f5 s5 q (by rw [eS 52 _ (by decide)]; exact z2) z36.2 (by omega) z4.1 z4.2 z5.1 z5.2 (fun j hj => by rw [eS 53 _ (by decide)]; exact b3 j (by omega)) (by rw [eS 65 _ (by decide)]; exact hwq.1) (by rw [eS 66 _ (by decide)]; exact hwq.2.1) (fun a b ha hb => by rw [eS 47 _ (by decide)]; have h9 := yWF_w hWF a b ha hb; omega) (by rw [eS 55 _ (by decide)]; omega) (by
    have e9 : yT (fun a b => σ1 47 0 (10 * a + b)) (σ1 55 0 D5) (yQ (fun j => σ1 53 0 (8 * D5 + j)) (σ1 65 0 q) (σ1 66 0 q) f5 s5) f5 = yl1 σ q D5 f5 s5 f5 := by
      unfold yl1
      have e53 : (fun j => σ1 53 0 (8 * D5 + j)) = yPd σ D5 := funext fun j => eS 53 _ (by decide)
      rw [e53, eS 65 _ (by decide), eS 66 _ (by decide)]
      exact yT_cg (eS 55 _ (by decide)) (fun a b => eS 47 _ (by decide)) _ (fun _ _ => rfl)
    rw [e9]
    omega)) (cwV 4 hts gX7_shareOne_X7_put rfl rfl rfl (by decide +kernel) ⟨Nat.le_of_ble_eq_true rfl, Nat.le_of_ble_eq_true rfl⟩) hK hW1 (zlN (hM 30 rfl)) rfl rfl (Nat.le_trans hsz hS1.1) hS1 rfl hl.1.1 rfl (Nat.le_of_ble_eq_true rfl) dX7_shareOne_166 ⟨Nat.le_of_ble_eq_true rfl, Nat.le_of_ble_eq_true rfl⟩ (fun x2 σ2 H2 locs2 hp2 hW2 hz2 hS2 => ?_)
          refine W.eq (g2 := F0 m 169 ls []) rfl ?_
          refine zz_iload_n hx hb hl 3 dX7_shareOne_169 rfl rfl ?_
          refine zz_iconst hx hb dX7_shareOne_170 ?_
          refine zz_icmp_eq (tgt := 178) hx hb dX7_shareOne_171 (by decide) ⟨by omega, by omega⟩ ⟨by decide, by decide⟩ (fun hc171 => ?_) (fun hc171 => ?_)
          · exact absurd hc171 (by omega)
          · refine zz_iconst hx hb dX7_shareOne_174 ?_
            refine zz_goto (tgt := 179) hx hb dX7_shareOne_175 (by decide) ?_
            refine W.eq (g2 := F0 m 179 ls [.int (zi 1)]) rfl ?_
            refine zz_retz hx hb hr hlocks hW2 hS2 (by decide) ?_ dX7_shareOne_179
            refine Or.inr ⟨rfl, D5, n5, f5, s5, ?_, hyz, ymp_79 hfS hp2⟩
            rw [show nd = d9 by omega, ← hA14]
            exact eA
      · refine zz_aload_n hx hb hl 0 dX7_shareOne_23 rfl rfl ?_
        obtain ⟨nn, hnn⟩ : ∃ z, z = (σ 52 0 d9).toNat := ⟨_, rfl⟩
        have hdn : d9 < nd := by omega
        obtain ⟨⟨a1, a2⟩, a3, a4, a5, a6, a7⟩ := hWF.2.1 d9 hdn
        have e52 : σ 52 0 d9 = (nn : Int) := by omega
        have eS : ∀ κ k, κ ≠ 79 ∧ κ ≠ 80 ∧ κ ≠ 81 → σ1 κ 0 k = σ κ 0 k := fun κ k h => hfS κ 0 k (by unfold y79; omega)
        refine zz_iload hx hb hl 6 dX7_shareOne_24 rfl ?_
        refine zz_callV (T := TX7) (N := 42) (As := [.int (zi ((d9 : Nat) : Int))]) (rest := []) (v := ((0 : Nat) : Int)) (κ := 30) ⟨hx, hb, hml, hown, hts⟩ (c_X7_canShare l G ad A N0 σ1 hM d9 (by omega) nn (by rw [eS 52 _ (by decide)]; exact e52) (by omega) (fun j hj => by rw [eS 54 _ (by decide)]; have h9 := yWF_row hWF hdn (j := j) (by omega); omega)) (cwV 1 hts gX7_shareOne_X7_canShare rfl rfl rfl (by decide +kernel) ⟨Nat.le_of_ble_eq_true rfl, Nat.le_of_ble_eq_true rfl⟩) hK hW1 (zlN (hM 30 rfl)) rfl rfl (Nat.le_trans hsz hS1.1) hS1 rfl hl.1.1 rfl (Nat.le_of_ble_eq_true rfl) dX7_shareOne_26 ⟨Nat.le_of_ble_eq_true rfl, Nat.le_of_ble_eq_true rfl⟩ (fun x3 σ3 H3 locs3 hp3 hW3 hz3 hS3 => ?_)
        obtain ⟨rfl, hx9⟩ := hp3
        rw [ycS_fr hfS] at hx9
        obtain rfl := hx9
        refine W.eq (g2 := F0 m 29 ls [.int (zi (zb (ycS σ d9 nn)))]) rfl ?_
        refine zz_if_eqb (tgt := 148) hx hb dX7_shareOne_29 (by decide) (fun hc29 => ?_) (fun hc29 => ?_)
        · refine zz_iinc (lv' := [(6, .int (zi ((d9 + 1 : Nat) : Int))), (0, zr ad 30 ((0 : Nat) : Int)), (1, .int (zi ((q : Nat) : Int))), (2, .int (zi A1)), (3, .int (zi A2)), (4, .int (zi A3)), (5, .int (zi A4))]) hx hb hl dX7_shareOne_148 (k0 := 6) rfl (by decide) rfl (fun ls hl => ?_)
          refine zz_goto (tgt := 14) hx hb dX7_shareOne_151 (by decide) ?_
          refine ih14 (d9 + 1) A1 A2 A3 A4 σ1 H3 locs3 ls ?_ (by omega) hW3 hS3 (zh_sub hl [1, 2, 3, 4, 5, 6, 0] rfl)
          refine ⟨by omega, ?_, hfS⟩
          show _ = @ite _ _ (Classical.propDecidable _) _ _
          rw [if_neg (by rw [← hnn]; exact hc29)]
          exact hA14
        · refine zz_aload_n hx hb hl 0 dX7_shareOne_32 rfl rfl ?_
          refine zz_iload hx hb hl 6 dX7_shareOne_33 rfl ?_
          refine zz_iconst hx hb dX7_shareOne_35 ?_
          refine zz_iconst hx hb dX7_shareOne_36 ?_
          refine zz_iconst hx hb dX7_shareOne_37 ?_
          refine zz_callV (T := TX7) (N := 42) (As := [.int (zi ((d9 : Nat) : Int)), .int (zi (-1)), .int (zi 0), .int (zi 0)]) (rest := []) (v := ((0 : Nat) : Int)) (κ := 30) ⟨hx, hb, hml, hown, hts⟩ (c_X7_tryRow l G ad A N0 σ1 hM d9 (by omega) nn nn 0 0 99 100 (-1) (by rw [eS 52 _ (by decide)]; exact e52) (by omega) (Or.inl ⟨rfl, rfl, rfl, rfl, by decide, by decide⟩) (fun j hj => by rw [eS 53 _ (by decide)]; exact a3 j (by omega)) (fun h => absurd h (by decide)) (fun a b ha hb => by rw [eS 47 _ (by decide)]; have h9 := yWF_w hWF a b ha hb; omega) (by rw [eS 55 _ (by decide)]; omega)) (cwV 4 hts gX7_shareOne_X7_tryRow rfl rfl rfl (by decide +kernel) ⟨Nat.le_of_ble_eq_true rfl, Nat.le_of_ble_eq_true rfl⟩) hK hW3 (zlN (hM 30 rfl)) rfl rfl (Nat.le_trans hsz hS3.1) hS3 rfl hl.1.1 rfl (Nat.le_of_ble_eq_true rfl) dX7_shareOne_38 ⟨Nat.le_of_ble_eq_true rfl, Nat.le_of_ble_eq_true rfl⟩ (fun x4 σ4 H4 locs4 hp4 hW4 hz4 hS4 => ?_)
          obtain ⟨hr9, hl9, hf9⟩ := hp4
          have hfS2 : zfr y79 σ σ4 := fun κ i k h => by rw [hf9 κ i k h]; exact hfS κ i k h
          obtain rfl := hr9
          obtain ⟨L0, hL0⟩ : ∃ z, z = yl0 σ d9 nn := ⟨_, rfl⟩
          have h6 := ycS_6 hWF hdn e52 hc29
          have hL0r := (ymo_rg (f := 1) (s := 2) hWF hq hdn e52 h6.2 h6.1 (by omega) (by omega) (by omega)).1
          rw [← hL0] at hL0r
          have hrd0 : σ4 81 0 (((nn : Nat) : Int) - 1).toNat = L0 := by
            rw [show (((nn : Nat) : Int) - 1).toNat = nn - 1 by omega, (hl9 (nn - 1) (by omega)).2.2, hL0]
            unfold yl0
            refine yT_cg (eS 55 _ (by decide)) (fun a b => eS 47 _ (by decide)) _ (fun j hj => ?_)
            rw [yQ_far (by omega)]
            exact eS 53 _ (by decide)
          refine W.eq (g2 := F0 m 41 ls [.int (zi ((nn : Nat) : Int))]) rfl ?_
          refine zz_istore (lv' := [(7, .int (zi ((nn : Nat) : Int))), (0, zr ad 30 ((0 : Nat) : Int)), (1, .int (zi ((q : Nat) : Int))), (2, .int (zi A1)), (3, .int (zi A2)), (4, .int (zi A3)), (5, .int (zi A4)), (6, .int (zi ((d9 : Nat) : Int)))]) hx hb hl dX7_shareOne_41 (by decide) rfl (fun ls hl => ?_)
          refine zz_aload_n hx hb hl 1 dX7_shareOne_43 rfl rfl ?_
          refine zz_get (T := TX7) (N := 42) (k := 41) (κ := 30) (w := zr ad 81 ((0 : Nat) : Int)) hx hb hts hinX7 hown hK hW4 (zlN (hM 30 rfl)) rfl rfl rfl (by decide) (hts (.fieldLink RX7 114 "HailCityModel" "tryTime" "[I") (by decide +kernel)) (fun _ h9 => h9) rfl dX7_shareOne_44 ?_
          refine zz_iload hx hb hl 0 dX7_shareOne_47 rfl ?_
          refine zz_iconst hx hb dX7_shareOne_49 ?_
          refine zz_isub hx hb dX7_shareOne_50 ?_
          refine zz_iald (w := L0) hx hb hK hW4 (zlN (hM 81 rfl)) rfl rfl rfl (by show (0 : Int) ≤ ((nn : Nat) : Int) - 1; omega) (by show (((nn : Nat) : Int) - 1) < (10 : Int); omega) hrd0 dX7_shareOne_51 ?_
          refine zz_istore (lv' := [(8, .int (zi L0)), (7, .int (zi ((nn : Nat) : Int))), (0, zr ad 30 ((0 : Nat) : Int)), (1, .int (zi ((q : Nat) : Int))), (2, .int (zi A1)), (3, .int (zi A2)), (4, .int (zi A3)), (5, .int (zi A4)), (6, .int (zi ((d9 : Nat) : Int)))]) hx hb hl dX7_shareOne_52 (by decide) rfl (fun ls hl => ?_)
          refine zz_iconst hx hb dX7_shareOne_54 ?_
          refine zz_istore (lv' := [(9, .int (zi 1)), (8, .int (zi L0)), (7, .int (zi ((nn : Nat) : Int))), (0, zr ad 30 ((0 : Nat) : Int)), (1, .int (zi ((q : Nat) : Int))), (2, .int (zi A1)), (3, .int (zi A2)), (4, .int (zi A3)), (5, .int (zi A4)), (6, .int (zi ((d9 : Nat) : Int)))]) hx hb hl dX7_shareOne_55 (by decide) rfl (fun ls hl => ?_)
          have hcut57 : ∀ (n9 : Nat) (k9 : Nat) (A1 A2 A3 A4 : Int)  (σ9 : zS) (H9 : Heap) (locs9 : List Loc) (ls : Array Slot), (k9 ≤ nn ∧ (A1, A2, A3, A4) = yz1 σ q d9 nn k9 (yzs σ q d9) ∧ zfr y79 σ σ9) → (nn - k9) < n9 → ZW G ad A σ9 H9 → va_S A s.heap H9 locs9 → zh ls 13 [(0, zr ad 30 ((0 : Nat) : Int)), (1, .int (zi ((q : Nat) : Int))), (2, .int (zi A1)), (3, .int (zi A2)), (4, .int (zi A3)), (5, .int (zi A4)), (6, .int (zi ((d9 : Nat) : Int))), (7, .int (zi ((nn : Nat) : Int))), (8, .int (zi L0)), (9, .int (zi (((k9 + 1) : Nat) : Int)))] → W p l e ({ frames := 3, cells := 0, slots := 0, locals := 76 }) s m ([zr ad 30 ((0 : Nat) : Int), .int (zi ((q : Nat) : Int))] : List Value).toArray below meth c H9 locs9 0 0 (MQ below (zQ G ad A zri (fun r u => ((yzs σ q nd).2.1 = -1 ∧ 0 = r ∧ zfr y79 σ u) ∨ (1 = r ∧ ∃ d n f s : Nat, (yzs σ q nd).2 = ((d : Int), (f : Int), (s : Int)) ∧ yzf σ nd q d n f s ∧ ymp σ u d n f s q))) ([zr ad 30 ((0 : Nat) : Int), .int (zi ((q : Nat) : Int))] : List Value).toArray s 0 0 A) (F0 m 57 ls []) := by
            intro n9
            induction n9 with
            | zero =>
              intro k9 A1 A2 A3 A4 σ5 H5 locs5 ls hI57 hm57 hW5 hS5 hl
              exact absurd hm57 (Nat.not_lt_zero _)
            | succ n9 ih57 =>
              intro k9 A1 A2 A3 A4 σ5 H5 locs5 ls hI57 hm57 hW5 hS5 hl
              obtain ⟨hk9, hA57, hfS⟩ := hI57
              have hv57 := yz1_ok hWF hq hdn e52 hc29 (st := yzs σ q d9) (by rw [← hA14]; exact hv14) k9 hk9
              rw [← hA57] at hv57
              have hr57 := yzV_rg hWF hv57
              have eS : ∀ κ k, κ ≠ 79 ∧ κ ≠ 80 ∧ κ ≠ 81 → σ5 κ 0 k = σ κ 0 k := fun κ k h => hfS κ 0 k (by unfold y79; omega)
              refine zz_iload hx hb hl 9 dX7_shareOne_57 rfl ?_
              refine zz_iload hx hb hl 7 dX7_shareOne_59 rfl ?_
              refine zz_icmp_gt (tgt := 148) hx hb dX7_shareOne_61 (by decide) ⟨by omega, by omega⟩ ⟨by omega, by omega⟩ (fun hc61 => ?_) (fun hc61 => ?_)
              · refine zz_iinc (lv' := [(6, .int (zi ((d9 + 1 : Nat) : Int))), (0, zr ad 30 ((0 : Nat) : Int)), (1, .int (zi ((q : Nat) : Int))), (2, .int (zi A1)), (3, .int (zi A2)), (4, .int (zi A3)), (5, .int (zi A4)), (7, .int (zi ((nn : Nat) : Int))), (8, .int (zi L0)), (9, .int (zi (((k9 + 1) : Nat) : Int)))]) hx hb hl dX7_shareOne_148 (k0 := 6) rfl (by decide) rfl (fun ls hl => ?_)
                refine zz_goto (tgt := 14) hx hb dX7_shareOne_151 (by decide) ?_
                refine ih14 (d9 + 1) A1 A2 A3 A4 σ5 H5 locs5 ls ?_ (by omega) hW5 hS5 (zh_sub hl [1, 2, 3, 4, 5, 6, 0] rfl)
                refine ⟨by omega, ?_, hfS⟩
                show _ = @ite _ _ (Classical.propDecidable _) _ _
                rw [if_pos (by rw [← hnn]; exact hc29), ← hnn]
                rw [hA57, show k9 = nn by omega]
              · refine zz_iload hx hb hl 9 dX7_shareOne_64 rfl ?_
                refine zz_iconst hx hb dX7_shareOne_66 ?_
                refine zz_iadd hx hb dX7_shareOne_67 ?_
                refine zz_istore (lv' := [(10, .int (zi (((k9 + 1) + 1 : Nat) : Int))), (0, zr ad 30 ((0 : Nat) : Int)), (1, .int (zi ((q : Nat) : Int))), (2, .int (zi A1)), (3, .int (zi A2)), (4, .int (zi A3)), (5, .int (zi A4)), (6, .int (zi ((d9 : Nat) : Int))), (7, .int (zi ((nn : Nat) : Int))), (8, .int (zi L0)), (9, .int (zi (((k9 + 1) : Nat) : Int)))]) hx hb hl dX7_shareOne_68 (by decide) rfl (fun ls hl => ?_)
                have hcut70 : ∀ (n9 : Nat) (j9 : Nat) (A1 A2 A3 A4 : Int)  (σ9 : zS) (H9 : Heap) (locs9 : List Loc) (ls : Array Slot), (j9 ≤ nn + 1 - (k9 + 1) ∧ (A1, A2, A3, A4) = yz2 σ q d9 nn (k9 + 1) j9 (yz1 σ q d9 nn k9 (yzs σ q d9)) ∧ zfr y79 σ σ9) → (nn + 1 - (k9 + 1) - j9) < n9 → ZW G ad A σ9 H9 → va_S A s.heap H9 locs9 → zh ls 13 [(0, zr ad 30 ((0 : Nat) : Int)), (1, .int (zi ((q : Nat) : Int))), (2, .int (zi A1)), (3, .int (zi A2)), (4, .int (zi A3)), (5, .int (zi A4)), (6, .int (zi ((d9 : Nat) : Int))), (7, .int (zi ((nn : Nat) : Int))), (8, .int (zi L0)), (9, .int (zi (((k9 + 1) : Nat) : Int))), (10, .int (zi (((k9 + 1 + 1 + j9) : Nat) : Int)))] → W p l e ({ frames := 3, cells := 0, slots := 0, locals := 76 }) s m ([zr ad 30 ((0 : Nat) : Int), .int (zi ((q : Nat) : Int))] : List Value).toArray below meth c H9 locs9 0 0 (MQ below (zQ G ad A zri (fun r u => ((yzs σ q nd).2.1 = -1 ∧ 0 = r ∧ zfr y79 σ u) ∨ (1 = r ∧ ∃ d n f s : Nat, (yzs σ q nd).2 = ((d : Int), (f : Int), (s : Int)) ∧ yzf σ nd q d n f s ∧ ymp σ u d n f s q))) ([zr ad 30 ((0 : Nat) : Int), .int (zi ((q : Nat) : Int))] : List Value).toArray s 0 0 A) (F0 m 70 ls []) := by
                  intro n9
                  induction n9 with
                  | zero =>
                    intro j9 A1 A2 A3 A4 σ6 H6 locs6 ls hI70 hm70 hW6 hS6 hl
                    exact absurd hm70 (Nat.not_lt_zero _)
                  | succ n9 ih70 =>
                    intro j9 A1 A2 A3 A4 σ6 H6 locs6 ls hI70 hm70 hW6 hS6 hl
                    obtain ⟨hj9, hA70, hfS⟩ := hI70
                    have hv70 := yz2_ok hWF hq hdn e52 hc29 (show 1 ≤ k9 + 1 by omega) (by omega) (st := yz1 σ q d9 nn k9 (yzs σ q d9)) (by rw [← hA57]; exact hv57) j9 hj9
                    rw [← hA70] at hv70
                    have hr70 := yzV_rg hWF hv70
                    have eS : ∀ κ k, κ ≠ 79 ∧ κ ≠ 80 ∧ κ ≠ 81 → σ6 κ 0 k = σ κ 0 k := fun κ k h => hfS κ 0 k (by unfold y79; omega)
                    refine zz_iload hx hb hl 10 dX7_shareOne_70 rfl ?_
                    refine zz_iload hx hb hl 7 dX7_shareOne_72 rfl ?_
                    refine zz_iconst hx hb dX7_shareOne_74 ?_
                    refine zz_iadd hx hb dX7_shareOne_75 ?_
                    refine zz_icmp_gt (tgt := 142) hx hb dX7_shareOne_76 (by decide) ⟨by omega, by omega⟩ ⟨by omega, by omega⟩ (fun hc76 => ?_) (fun hc76 => ?_)
                    · refine zz_iinc (lv' := [(9, .int (zi (((k9 + 1) + 1 : Nat) : Int))), (0, zr ad 30 ((0 : Nat) : Int)), (1, .int (zi ((q : Nat) : Int))), (2, .int (zi A1)), (3, .int (zi A2)), (4, .int (zi A3)), (5, .int (zi A4)), (6, .int (zi ((d9 : Nat) : Int))), (7, .int (zi ((nn : Nat) : Int))), (8, .int (zi L0)), (10, .int (zi (((k9 + 1 + 1 + j9) : Nat) : Int)))]) hx hb hl dX7_shareOne_142 (k0 := 9) rfl (by decide) rfl (fun ls hl => ?_)
                      refine zz_goto (tgt := 57) hx hb dX7_shareOne_145 (by decide) ?_
                      refine ih57 (k9 + 1) A1 A2 A3 A4 σ6 H6 locs6 ls ?_ (by omega) hW6 hS6 (zh_sub hl [1, 2, 3, 4, 5, 6, 7, 8, 9, 0] rfl)
                      refine ⟨by omega, ?_, hfS⟩
                      rw [hA70, show j9 = nn + 1 - (k9 + 1) by omega]
                      rfl
                    · refine zz_aload_n hx hb hl 0 dX7_shareOne_79 rfl rfl ?_
                      refine zz_iload hx hb hl 6 dX7_shareOne_80 rfl ?_
                      refine zz_iload_n hx hb hl 1 dX7_shareOne_82 rfl rfl ?_
                      refine zz_iload hx hb hl 9 dX7_shareOne_83 rfl ?_
                      refine zz_iload hx hb hl 10 dX7_shareOne_85 rfl ?_
                      refine zz_callV (T := TX7) (N := 42) (As := [.int (zi ((d9 : Nat) : Int)), .int (zi ((q : Nat) : Int)), .int (zi (((k9 + 1) : Nat) : Int)), .int (zi (((k9 + 1 + 1 + j9) : Nat) : Int))]) (rest := []) (v := ((0 : Nat) : Int)) (κ := 30) ⟨hx, hb, hml, hown, hts⟩ (c_X7_tryRow l G ad A N0 σ6 hM d9 (by omega) nn (nn + 2) (k9 + 1) (k9 + 1 + 1 + j9) (k9 + 1) (k9 + 1 + 1 + j9) ((q : Nat) : Int) (by rw [eS 52 _ (by decide)]; exact e52) (by omega) (Or.inr ⟨by omega, by omega, rfl, rfl, rfl, h6.2, by omega, by omega, by omega, by omega⟩) (fun j hj => by rw [eS 53 _ (by decide)]; exact a3 j (by omega)) (fun _ => by rw [show (((q : Nat) : Int)).toNat = q by omega, eS 65 _ (by decide), eS 66 _ (by decide)]; exact ⟨hwq.1, hwq.2.1⟩) (fun a b ha hb => by rw [eS 47 _ (by decide)]; have h9 := yWF_w hWF a b ha hb; omega) (by rw [eS 55 _ (by decide)]; omega)) (cwV 4 hts gX7_shareOne_X7_tryRow rfl rfl rfl (by decide +kernel) ⟨Nat.le_of_ble_eq_true rfl, Nat.le_of_ble_eq_true rfl⟩) hK hW6 (zlN (hM 30 rfl)) rfl rfl (Nat.le_trans hsz hS6.1) hS6 rfl hl.1.1 rfl (Nat.le_of_ble_eq_true rfl) dX7_shareOne_87 ⟨Nat.le_of_ble_eq_true rfl, Nat.le_of_ble_eq_true rfl⟩ (fun x7 σ7 H7 locs7 hp7 hW7 hz7 hS7 => ?_)
                      obtain ⟨hr9, hl9, hf9⟩ := hp7
                      have hfS3 : zfr y79 σ σ7 := fun κ i k h => by rw [hf9 κ i k h]; exact hfS κ i k h
                      obtain rfl := hr9
                      rw [show (((q : Nat) : Int)).toNat = q by omega] at hl9
                      have hly9 : ∀ j, j < nn + 2 → σ7 80 0 j = yQ (yUd σ d9) (q : Int) (100 + (q : Int)) (k9 + 1) (k9 + 1 + 1 + j9) j ∧ σ7 81 0 j = yl1 σ q d9 (k9 + 1) (k9 + 1 + 1 + j9) j := fun j hj => by
                        obtain ⟨b1, b2, b3⟩ := hl9 j hj
                        refine ⟨b2.trans ?_, b3.trans ?_⟩
                        · have e54 : (fun j => σ6 54 0 (8 * d9 + j)) = yUd σ d9 := funext fun j => eS 54 _ (by decide)
                          rw [e54]
                        · unfold yl1
                          have e53 : (fun j => σ6 53 0 (8 * d9 + j)) = yPd σ d9 := funext fun j => eS 53 _ (by decide)
                          rw [e53, eS 65 _ (by decide), eS 66 _ (by decide)]
                          exact yT_cg (eS 55 _ (by decide)) (fun a b => eS 47 _ (by decide)) _ (fun _ _ => rfl)
                      have hmr := (ymo_rg (f := k9 + 1) (s := k9 + 1 + 1 + j9) hWF hq hdn e52 h6.2 h6.1 (by omega) (by omega) (by omega)).2
                      have hmr1 := hmr (nn + 1) (Nat.le_refl _)
                      have hrd1 : σ7 81 0 (((nn + 2 : Nat) : Int) - 1).toNat = yl1 σ q d9 (k9 + 1) (k9 + 1 + 1 + j9) (nn + 1) := by
                        rw [show (((nn + 2 : Nat) : Int) - 1).toNat = nn + 1 by omega]
                        exact (hly9 (nn + 1) (by omega)).2
                      refine W.eq (g2 := F0 m 90 ls [.int (zi ((nn + 2 : Nat) : Int))]) rfl ?_
                      refine zz_istore (lv' := [(11, .int (zi ((nn + 2 : Nat) : Int))), (0, zr ad 30 ((0 : Nat) : Int)), (1, .int (zi ((q : Nat) : Int))), (2, .int (zi A1)), (3, .int (zi A2)), (4, .int (zi A3)), (5, .int (zi A4)), (6, .int (zi ((d9 : Nat) : Int))), (7, .int (zi ((nn : Nat) : Int))), (8, .int (zi L0)), (9, .int (zi (((k9 + 1) : Nat) : Int))), (10, .int (zi (((k9 + 1 + 1 + j9) : Nat) : Int)))]) hx hb hl dX7_shareOne_90 (by decide) rfl (fun ls hl => ?_)
                      refine zz_aload_n hx hb hl 1 dX7_shareOne_92 rfl rfl ?_
                      refine zz_get (T := TX7) (N := 42) (k := 41) (κ := 30) (w := zr ad 81 ((0 : Nat) : Int)) hx hb hts hinX7 hown hK hW7 (zlN (hM 30 rfl)) rfl rfl rfl (by decide) (hts (.fieldLink RX7 114 "HailCityModel" "tryTime" "[I") (by decide +kernel)) (fun _ h9 => h9) rfl dX7_shareOne_93 ?_
                      refine zz_iload hx hb hl 0 dX7_shareOne_96 rfl ?_
                      refine zz_iconst hx hb dX7_shareOne_98 ?_
                      refine zz_isub hx hb dX7_shareOne_99 ?_
                      refine zz_iald (w := yl1 σ q d9 (k9 + 1) (k9 + 1 + 1 + j9) (nn + 1)) hx hb hK hW7 (zlN (hM 81 rfl)) rfl rfl rfl (by show (0 : Int) ≤ ((nn + 2 : Nat) : Int) - 1; omega) (by show (((nn + 2 : Nat) : Int) - 1) < (10 : Int); omega) hrd1 dX7_shareOne_100 ?_
                      refine zz_iload hx hb hl 9 dX7_shareOne_101 rfl ?_
                      refine zz_isub hx hb dX7_shareOne_103 ?_
                      
                      refine zz_istore (lv' := [(12, .int (zi ((yl1 σ q d9 (k9 + 1) (k9 + 1 + 1 + j9) (nn + 1)) - L0))), (11, .int (zi ((nn + 2 : Nat) : Int))), (0, zr ad 30 ((0 : Nat) : Int)), (1, .int (zi ((q : Nat) : Int))), (2, .int (zi A1)), (3, .int (zi A2)), (4, .int (zi A3)), (5, .int (zi A4)), (6, .int (zi ((d9 : Nat) : Int))), (7, .int (zi ((nn : Nat) : Int))), (8, .int (zi L0)), (9, .int (zi (((k9 + 1) : Nat) : Int))), (10, .int (zi (((k9 + 1 + 1 + j9) : Nat) : Int)))]) hx hb hl dX7_shareOne_104 (by decide) rfl (fun ls hl => ?_)
                      refine zz_iload hx hb hl 0 dX7_shareOne_106 rfl ?_
                      refine zz_iload_n hx hb hl 4 dX7_shareOne_108 rfl rfl ?_
                      refine zz_icmp_ge (tgt := 136) hx hb dX7_shareOne_109 (by decide) ⟨by omega, by omega⟩ ⟨by omega, by omega⟩ (fun hc109 => ?_) (fun hc109 => ?_)
                      · refine zz_iinc (lv' := [(10, .int (zi (((k9 + 1 + 1 + j9) + 1 : Nat) : Int))), (12, .int (zi ((yl1 σ q d9 (k9 + 1) (k9 + 1 + 1 + j9) (nn + 1)) - L0))), (11, .int (zi ((nn + 2 : Nat) : Int))), (0, zr ad 30 ((0 : Nat) : Int)), (1, .int (zi ((q : Nat) : Int))), (2, .int (zi A1)), (3, .int (zi A2)), (4, .int (zi A3)), (5, .int (zi A4)), (6, .int (zi ((d9 : Nat) : Int))), (7, .int (zi ((nn : Nat) : Int))), (8, .int (zi L0)), (9, .int (zi (((k9 + 1) : Nat) : Int)))]) hx hb hl dX7_shareOne_136 (k0 := 12) rfl (by decide) rfl (fun ls hl => ?_)
                        refine zz_goto (tgt := 70) hx hb dX7_shareOne_139 (by decide) ?_
                        refine ih70 (j9 + 1) A1 A2 A3 A4 σ7 H7 locs7 ls ?_ (by omega) hW7 hS7 (zh_sub hl [3, 4, 5, 6, 7, 8, 9, 10, 11, 12, 0] rfl)
                        refine ⟨by omega, ?_, hfS3⟩
                        show _ = yzp σ q d9 nn (k9 + 1) (k9 + 1 + 1 + j9) (yz2 σ q d9 nn (k9 + 1) j9 (yz1 σ q d9 nn k9 (yzs σ q d9)))
                        rw [← hA70]
                        unfold yzp
                        rw [if_neg (fun q9 => by have q1 := q9.1; unfold ymo at q1; rw [← hL0] at q1; first | omega | exact hc119 q9.2)]
                      · refine zz_aload_n hx hb hl 2 dX7_shareOne_112 rfl rfl ?_
                        refine zz_iload hx hb hl 1 dX7_shareOne_113 rfl ?_
                        refine zz_iload_n hx hb hl 3 dX7_shareOne_115 rfl rfl ?_
                        refine zz_callV (T := TX7) (N := 42) (As := [.int (zi ((nn + 2 : Nat) : Int)), .int (zi ((q : Nat) : Int))]) (rest := []) (v := ((0 : Nat) : Int)) (κ := 30) ⟨hx, hb, hml, hown, hts⟩ (c_X7_keeps l G ad A N0 σ7 hM (nn + 2) q (by omega) (by omega) (by rw [hfS3 65 0 _ (by unfold y79; omega)]; exact hwq.1) (by rw [hfS3 66 0 _ (by unfold y79; omega)]; exact hwq.2.1) (fun a b ha hb => by rw [hfS3 47 0 _ (by unfold y79; omega)]; have h9 := yWF_w hWF a b ha hb; omega) (fun j hj => by rw [(hly9 j hj).2]; have h9 := hmr j (by omega); omega) (fun j hj => by rw [(hly9 j hj).1]; exact yQ_rg (n := nn) (by omega) (by omega) (by omega) hj (fun j hj => by have h9 := yWF_row hWF hdn (j := j) (by omega); unfold yUd; omega) ⟨by omega, by omega⟩ ⟨by omega, by omega⟩)) (cwV 2 hts gX7_shareOne_X7_keeps rfl rfl rfl (by decide +kernel) ⟨Nat.le_of_ble_eq_true rfl, Nat.le_of_ble_eq_true rfl⟩) hK hW7 (zlN (hM 30 rfl)) rfl rfl (Nat.le_trans hsz hS7.1) hS7 rfl hl.1.1 rfl (Nat.le_of_ble_eq_true rfl) dX7_shareOne_116 ⟨Nat.le_of_ble_eq_true rfl, Nat.le_of_ble_eq_true rfl⟩ (fun x8 σ8 H8 locs8 hp8 hW8 hz8 hS8 => ?_)
                        obtain ⟨rfl, hx9⟩ := hp8
                        rw [propext (yka_ly hfS3 hly9 (nn + 2) (Nat.le_refl _)).2] at hx9
                        obtain rfl := hx9
                        refine W.eq (g2 := F0 m 119 ls [.int (zi (zb (yka (yly σ q d9 (k9 + 1) (k9 + 1 + 1 + j9)) q (nn + 2))))]) rfl ?_
                        refine zz_if_eqb (tgt := 136) hx hb dX7_shareOne_119 (by decide) (fun hc119 => ?_) (fun hc119 => ?_)
                        · refine zz_iinc (lv' := [(10, .int (zi (((k9 + 1 + 1 + j9) + 1 : Nat) : Int))), (12, .int (zi ((yl1 σ q d9 (k9 + 1) (k9 + 1 + 1 + j9) (nn + 1)) - L0))), (11, .int (zi ((nn + 2 : Nat) : Int))), (0, zr ad 30 ((0 : Nat) : Int)), (1, .int (zi ((q : Nat) : Int))), (2, .int (zi A1)), (3, .int (zi A2)), (4, .int (zi A3)), (5, .int (zi A4)), (6, .int (zi ((d9 : Nat) : Int))), (7, .int (zi ((nn : Nat) : Int))), (8, .int (zi L0)), (9, .int (zi (((k9 + 1) : Nat) : Int)))]) hx hb hl dX7_shareOne_136 (k0 := 12) rfl (by decide) rfl (fun ls hl => ?_)
                          refine zz_goto (tgt := 70) hx hb dX7_shareOne_139 (by decide) ?_
                          refine ih70 (j9 + 1) A1 A2 A3 A4 σ7 H8 locs8 ls ?_ (by omega) hW8 hS8 (zh_sub hl [3, 4, 5, 6, 7, 8, 9, 10, 11, 12, 0] rfl)
                          refine ⟨by omega, ?_, hfS3⟩
                          show _ = yzp σ q d9 nn (k9 + 1) (k9 + 1 + 1 + j9) (yz2 σ q d9 nn (k9 + 1) j9 (yz1 σ q d9 nn k9 (yzs σ q d9)))
                          rw [← hA70]
                          unfold yzp
                          rw [if_neg (fun q9 => by have q1 := q9.1; unfold ymo at q1; rw [← hL0] at q1; first | omega | exact hc119 q9.2)]
                        · refine zz_iload hx hb hl 0 dX7_shareOne_122 rfl ?_
                          refine zz_istore_n (lv' := [(2, .int (zi ((yl1 σ q d9 (k9 + 1) (k9 + 1 + 1 + j9) (nn + 1)) - L0))), (12, .int (zi ((yl1 σ q d9 (k9 + 1) (k9 + 1 + 1 + j9) (nn + 1)) - L0))), (11, .int (zi ((nn + 2 : Nat) : Int))), (0, zr ad 30 ((0 : Nat) : Int)), (1, .int (zi ((q : Nat) : Int))), (3, .int (zi A2)), (4, .int (zi A3)), (5, .int (zi A4)), (6, .int (zi ((d9 : Nat) : Int))), (7, .int (zi ((nn : Nat) : Int))), (8, .int (zi L0)), (9, .int (zi (((k9 + 1) : Nat) : Int))), (10, .int (zi (((k9 + 1 + 1 + j9) : Nat) : Int)))]) hx hb hl dX7_shareOne_124 rfl (by decide) rfl (fun ls hl => ?_)
                          refine zz_iload hx hb hl 8 dX7_shareOne_125 rfl ?_
                          refine zz_istore_n (lv' := [(3, .int (zi ((d9 : Nat) : Int))), (2, .int (zi ((yl1 σ q d9 (k9 + 1) (k9 + 1 + 1 + j9) (nn + 1)) - L0))), (12, .int (zi ((yl1 σ q d9 (k9 + 1) (k9 + 1 + 1 + j9) (nn + 1)) - L0))), (11, .int (zi ((nn + 2 : Nat) : Int))), (0, zr ad 30 ((0 : Nat) : Int)), (1, .int (zi ((q : Nat) : Int))), (4, .int (zi A3)), (5, .int (zi A4)), (6, .int (zi ((d9 : Nat) : Int))), (7, .int (zi ((nn : Nat) : Int))), (8, .int (zi L0)), (9, .int (zi (((k9 + 1) : Nat) : Int))), (10, .int (zi (((k9 + 1 + 1 + j9) : Nat) : Int)))]) hx hb hl dX7_shareOne_127 rfl (by decide) rfl (fun ls hl => ?_)
                          refine zz_iload hx hb hl 11 dX7_shareOne_128 rfl ?_
                          refine zz_istore (lv' := [(4, .int (zi (((k9 + 1) : Nat) : Int))), (3, .int (zi ((d9 : Nat) : Int))), (2, .int (zi ((yl1 σ q d9 (k9 + 1) (k9 + 1 + 1 + j9) (nn + 1)) - L0))), (12, .int (zi ((yl1 σ q d9 (k9 + 1) (k9 + 1 + 1 + j9) (nn + 1)) - L0))), (11, .int (zi ((nn + 2 : Nat) : Int))), (0, zr ad 30 ((0 : Nat) : Int)), (1, .int (zi ((q : Nat) : Int))), (5, .int (zi A4)), (6, .int (zi ((d9 : Nat) : Int))), (7, .int (zi ((nn : Nat) : Int))), (8, .int (zi L0)), (9, .int (zi (((k9 + 1) : Nat) : Int))), (10, .int (zi (((k9 + 1 + 1 + j9) : Nat) : Int)))]) hx hb hl dX7_shareOne_130 (by decide) rfl (fun ls hl => ?_)
                          refine zz_iload hx hb hl 12 dX7_shareOne_132 rfl ?_
                          refine zz_istore (lv' := [(5, .int (zi (((k9 + 1 + 1 + j9) : Nat) : Int))), (4, .int (zi (((k9 + 1) : Nat) : Int))), (3, .int (zi ((d9 : Nat) : Int))), (2, .int (zi ((yl1 σ q d9 (k9 + 1) (k9 + 1 + 1 + j9) (nn + 1)) - L0))), (12, .int (zi ((yl1 σ q d9 (k9 + 1) (k9 + 1 + 1 + j9) (nn + 1)) - L0))), (11, .int (zi ((nn + 2 : Nat) : Int))), (0, zr ad 30 ((0 : Nat) : Int)), (1, .int (zi ((q : Nat) : Int))), (6, .int (zi ((d9 : Nat) : Int))), (7, .int (zi ((nn : Nat) : Int))), (8, .int (zi L0)), (9, .int (zi (((k9 + 1) : Nat) : Int))), (10, .int (zi (((k9 + 1 + 1 + j9) : Nat) : Int)))]) hx hb hl dX7_shareOne_134 (by decide) rfl (fun ls hl => ?_)
                          refine zz_iinc (lv' := [(10, .int (zi (((k9 + 1 + 1 + j9) + 1 : Nat) : Int))), (5, .int (zi (((k9 + 1 + 1 + j9) : Nat) : Int))), (4, .int (zi (((k9 + 1) : Nat) : Int))), (3, .int (zi ((d9 : Nat) : Int))), (2, .int (zi ((yl1 σ q d9 (k9 + 1) (k9 + 1 + 1 + j9) (nn + 1)) - L0))), (12, .int (zi ((yl1 σ q d9 (k9 + 1) (k9 + 1 + 1 + j9) (nn + 1)) - L0))), (11, .int (zi ((nn + 2 : Nat) : Int))), (0, zr ad 30 ((0 : Nat) : Int)), (1, .int (zi ((q : Nat) : Int))), (6, .int (zi ((d9 : Nat) : Int))), (7, .int (zi ((nn : Nat) : Int))), (8, .int (zi L0)), (9, .int (zi (((k9 + 1) : Nat) : Int)))]) hx hb hl dX7_shareOne_136 (k0 := 12) rfl (by decide) rfl (fun ls hl => ?_)
                          refine zz_goto (tgt := 70) hx hb dX7_shareOne_139 (by decide) ?_
                          refine ih70 (j9 + 1) ((yl1 σ q d9 (k9 + 1) (k9 + 1 + 1 + j9) (nn + 1)) - L0) ((d9 : Nat) : Int) (((k9 + 1) : Nat) : Int) (((k9 + 1 + 1 + j9) : Nat) : Int) σ7 H8 locs8 ls ?_ (by omega) hW8 hS8 (zh_sub hl [7, 8, 4, 3, 2, 1, 9, 10, 11, 12, 0] rfl)
                          refine ⟨by omega, ?_, hfS3⟩
                          show _ = yzp σ q d9 nn (k9 + 1) (k9 + 1 + 1 + j9) (yz2 σ q d9 nn (k9 + 1) j9 (yz1 σ q d9 nn k9 (yzs σ q d9)))
                          rw [← hA70]
                          unfold yzp
                          rw [if_pos ⟨by unfold ymo; rw [← hL0]; omega, hc119⟩]
                          unfold ymo
                          rw [← hL0]
                refine hcut70 _ 0 A1 A2 A3 A4 σ5 H5 locs5 ls ?_ (Nat.lt_succ_self _) hW5 hS5 (zh_sub hl [1, 2, 3, 4, 5, 6, 7, 8, 9, 10, 0] rfl)
                exact ⟨Nat.zero_le _, hA57, hfS⟩
          refine hcut57 _ 0 A1 A2 A3 A4 σ4 H4 locs4 ls ?_ (Nat.lt_succ_self _) hW4 hS4 (zh_sub hl [3, 4, 5, 6, 7, 8, 9, 2, 1, 0] rfl)
          exact ⟨Nat.zero_le _, hA14, hfS2⟩
  refine hcut14 _ 0 100000 (-1) 0 0 σ s.heap [] ls ?_ (Nat.lt_succ_self _) hW0 hS0 (zh_sub hl [5, 6, 4, 3, 2, 1, 0] rfl)
  exact ⟨Nat.zero_le _, rfl, fun _ _ _ _ => rfl⟩
