/-! one request is shared, in the model -/
theorem yT_cg {w w' : Nat → Nat → Int} {t0 t1 : Int} {P Q : Nat → Int} (h0 : t0 = t1) (hw : ∀ a b, w a b = w' a b) : ∀ n, (∀ j, j ≤ n → P j = Q j) → yT w t0 P n = yT w' t1 Q n
  | 0, _ => h0
  | n + 1, h => by
    show yT w t0 P n + w (P n).toNat (P (n + 1)).toNat = yT w' t1 Q n + w' (Q n).toNat (Q (n + 1)).toNat
    rw [yT_cg h0 hw n (fun j hj => h j (by omega)), h n (by omega), h (n + 1) (Nat.le_refl _), hw]
theorem yQ_far {P : Nat → Int} {fr to : Int} {j : Nat} (h : j < 99) : yQ P fr to 99 100 j = P j := by
  unfold yQ yold
  rw [if_neg (by omega), if_neg (by omega), if_neg (by omega), if_neg (by omega)]
  rfl
theorem yQ_rg {P : Nat → Int} {fr to : Int} {f s n j : Nat} (hfs : f < s) (hf : f ≤ n) (hs : s ≤ n + 1) (hj : j < n + 2) {lo hi : Int} (hP : ∀ j, j < n → lo ≤ P j ∧ P j < hi) (h1 : lo ≤ fr ∧ fr < hi) (h2 : lo ≤ to ∧ to < hi) : lo ≤ yQ P fr to f s j ∧ yQ P fr to f s j < hi := by
  unfold yQ
  by_cases e1 : j = f
  · rw [if_pos e1]; exact h1
  · rw [if_neg e1]
    by_cases e2 : j = s
    · rw [if_pos e2]; exact h2
    · rw [if_neg e2]; exact hP _ (yold_lt hfs hf hs hj e1 e2)
def yZ : Type := Int × Int × Int × Int
def yW (σ : zS) (a b : Nat) : Int := σ 47 0 (10 * a + b)
def yPd (σ : zS) (d j : Nat) : Int := σ 53 0 (8 * d + j)
def yUd (σ : zS) (d j : Nat) : Int := σ 54 0 (8 * d + j)
def yl0 (σ : zS) (d n : Nat) : Int := yT (yW σ) (σ 55 0 d) (yPd σ d) (n - 1)
def yl1 (σ : zS) (q d f s j : Nat) : Int := yT (yW σ) (σ 55 0 d) (yQ (yPd σ d) (σ 65 0 q) (σ 66 0 q) f s) j
def ymo (σ : zS) (q d n f s : Nat) : Int := yl1 σ q d f s (n + 1) - yl0 σ d n
/-- the store with a row laid -/
def yly (σ : zS) (q d f s : Nat) : zS := fun κ i k => if κ = 80 then yQ (yUd σ d) (q : Int) (100 + (q : Int)) f s k else if κ = 81 then yl1 σ q d f s k else σ κ i k
def ycS (σ : zS) (d n : Nat) : Prop := ycs σ d n ∧ yhs (ylo σ d) n ≤ 3
noncomputable def yzp (σ : zS) (q d n f s : Nat) (st : Int × Int × Int × Int) : Int × Int × Int × Int := @ite (Int × Int × Int × Int) (ymo σ q d n f s < st.1 ∧ yka (yly σ q d f s) q (n + 2)) (Classical.propDecidable _) (ymo σ q d n f s, (d : Int), (f : Int), (s : Int)) st
noncomputable def yz2 (σ : zS) (q d n f : Nat) : Nat → Int × Int × Int × Int → Int × Int × Int × Int
  | 0, st => st
  | k + 1, st => yzp σ q d n f (f + 1 + k) (yz2 σ q d n f k st)
noncomputable def yz1 (σ : zS) (q d n : Nat) : Nat → Int × Int × Int × Int → Int × Int × Int × Int
  | 0, st => st
  | k + 1, st => yz2 σ q d n (k + 1) (n + 1 - (k + 1)) (yz1 σ q d n k st)
noncomputable def yzs (σ : zS) (q : Nat) : Nat → Int × Int × Int × Int
  | 0 => (100000, -1, 0, 0)
  | d + 1 => @ite (Int × Int × Int × Int) (ycS σ d (σ 52 0 d).toNat) (Classical.propDecidable _) (yz1 σ q d (σ 52 0 d).toNat (σ 52 0 d).toNat (yzs σ q d)) (yzs σ q d)
/-- a place that may be -/
def yzf (σ : zS) (nd q d n f s : Nat) : Prop := d < nd ∧ σ 52 0 d = (n : Int) ∧ ycS σ d n ∧ (1 ≤ f ∧ f ≤ n) ∧ (f < s ∧ s ≤ n + 1) ∧ yka (yly σ q d f s) q (n + 2)
def yzV (σ : zS) (nd q : Nat) (st : Int × Int × Int × Int) : Prop := st = (100000, -1, 0, 0) ∨ ((-1000000 ≤ st.1 ∧ st.1 ≤ 100000) ∧ ∃ d n f s : Nat, st.2 = ((d : Int), (f : Int), (s : Int)) ∧ yzf σ nd q d n f s)
theorem yzV_hi {σ : zS} {nd q : Nat} {st : Int × Int × Int × Int} (h : yzV σ nd q st) : st.1 ≤ 100000 := by
  rcases h with h | h
  · rw [h]; exact Int.le_refl _
  · exact h.1.2
theorem ycS_6 {σ : zS} {nd nr ns d n : Nat} {c B : Int} (h : yWF σ nd nr ns c B) (hd : d < nd) (hn : σ 52 0 d = (n : Int)) (hs : ycS σ d n) : 1 ≤ n ∧ n ≤ 6 := by
  obtain ⟨⟨a1, a2⟩, a3, a4, a5, a6, a7, a8, a9, a10, a11⟩ := h.2.1 d hd
  have hnr := h.1.1.2.1
  rw [show (σ 52 0 d).toNat = n by omega] at a11
  have h1 := yRS_le hnr a11
  have h2 := ylo_O (σ := σ) (d := d) n
  have h3 := hs.2
  have h4 : ycI (fun j => σ 54 0 (8 * d + j)) n + ycO (fun j => σ 54 0 (8 * d + j)) n = n := ycIO (fun j hj => by
    have h5 := yWF_row h hd (j := j) (by omega)
    have h6 := (hs.1.2 j hj).1
    show 0 ≤ σ 54 0 (8 * d + j)
    omega)
  have h5 := hs.1.1.2
  exact ⟨by omega, by omega⟩
theorem ymo_rg {σ : zS} {nd nr ns q d n f s : Nat} {c B : Int} (h : yWF σ nd nr ns c B) (hq : q < nr) (hd : d < nd) (hn : σ 52 0 d = (n : Int)) (hn6 : n ≤ 6) (hn1 : 1 ≤ n) (hfs : f < s) (hf : f ≤ n) (hs : s ≤ n + 1) : (0 ≤ yl0 σ d n ∧ yl0 σ d n ≤ 850000) ∧ ∀ j, j ≤ n + 1 → 0 ≤ yl1 σ q d f s j ∧ yl1 σ q d f s j ≤ 850000 := by
  obtain ⟨⟨a1, a2⟩, a3, a4, a5, a6, a7⟩ := h.2.1 d hd
  obtain ⟨c1, c2, c3⟩ := h.2.2.1 q hq
  have hP : ∀ j, j < n → 0 ≤ yPd σ d j ∧ yPd σ d j < 10 := fun j hj => a3 j (by omega)
  have hw : ∀ a b : Int, 0 ≤ a → a < 10 → 0 ≤ b → b < 10 → 0 ≤ yW σ a.toNat b.toNat ∧ yW σ a.toNat b.toNat ≤ 100000 := fun a b h1 h2 h3 h4 => by
    have h5 := yWF_w h a.toNat b.toNat (by omega) (by omega)
    exact ⟨h5.1, h5.2.1⟩
  have hQ : ∀ j, j < n + 2 → 0 ≤ yQ (yPd σ d) (σ 65 0 q) (σ 66 0 q) f s j ∧ yQ (yPd σ d) (σ 65 0 q) (σ 66 0 q) f s j < 10 := fun j hj => yQ_rg hfs hf hs hj hP c1 c2
  refine ⟨?_, fun j hj => ?_⟩
  · have h1 := yT_rg2 (w := yW σ) (t0 := σ 55 0 d) (Q := yPd σ d) (n - 1) (fun j hj => hw _ _ (hP j (by omega)).1 (hP j (by omega)).2 (hP (j + 1) (by omega)).1 (hP (j + 1) (by omega)).2)
    unfold yl0
    omega
  · have h1 := yT_rg2 (w := yW σ) (t0 := σ 55 0 d) (Q := yQ (yPd σ d) (σ 65 0 q) (σ 66 0 q) f s) j (fun i hi => hw _ _ (hQ i (by omega)).1 (hQ i (by omega)).2 (hQ (i + 1) (by omega)).1 (hQ (i + 1) (by omega)).2)
    unfold yl1
    omega
theorem yzp_ok {σ : zS} {nd nr ns q d n f s : Nat} {c B : Int} (h : yWF σ nd nr ns c B) (hq : q < nr) (hd : d < nd) (hn : σ 52 0 d = (n : Int)) (hS : ycS σ d n) (hf1 : 1 ≤ f) (hfs : f < s) (hf : f ≤ n) (hs : s ≤ n + 1) {st : Int × Int × Int × Int} (hv : yzV σ nd q st) : yzV σ nd q (yzp σ q d n f s st) := by
  have h6 := ycS_6 h hd hn hS
  obtain ⟨h7, h8⟩ := ymo_rg (f := f) (s := s) h hq hd hn h6.2 h6.1 hfs hf hs
  have h9 := h8 (n + 1) (Nat.le_refl _)
  have h10 := yzV_hi hv
  unfold yzp
  split
  · rename_i hc
    refine Or.inr ⟨⟨?_, ?_⟩, d, n, f, s, rfl, hd, hn, hS, ⟨hf1, hf⟩, ⟨hfs, hs⟩, hc.2⟩
    · show -1000000 ≤ ymo σ q d n f s
      unfold ymo
      omega
    · show ymo σ q d n f s ≤ 100000
      have := hc.1
      omega
  · exact hv
theorem yz2_ok {σ : zS} {nd nr ns q d n f : Nat} {c B : Int} (h : yWF σ nd nr ns c B) (hq : q < nr) (hd : d < nd) (hn : σ 52 0 d = (n : Int)) (hS : ycS σ d n) (hf1 : 1 ≤ f) (hf : f ≤ n) {st : Int × Int × Int × Int} (hv : yzV σ nd q st) : ∀ k, k ≤ n + 1 - f → yzV σ nd q (yz2 σ q d n f k st)
  | 0, _ => hv
  | k + 1, hk => yzp_ok h hq hd hn hS hf1 (by omega) hf (by omega) (yz2_ok h hq hd hn hS hf1 hf hv k (by omega))
theorem yz1_ok {σ : zS} {nd nr ns q d n : Nat} {c B : Int} (h : yWF σ nd nr ns c B) (hq : q < nr) (hd : d < nd) (hn : σ 52 0 d = (n : Int)) (hS : ycS σ d n) {st : Int × Int × Int × Int} (hv : yzV σ nd q st) : ∀ k, k ≤ n → yzV σ nd q (yz1 σ q d n k st)
  | 0, _ => hv
  | k + 1, hk => yz2_ok h hq hd hn hS (by omega) hk (yz1_ok h hq hd hn hS hv k (by omega)) _ (Nat.le_refl _)
theorem yzs_ok {σ : zS} {nd nr ns q : Nat} {c B : Int} (h : yWF σ nd nr ns c B) (hq : q < nr) : ∀ d, d ≤ nd → yzV σ nd q (yzs σ q d)
  | 0, _ => Or.inl rfl
  | d + 1, hd => by
    have ih := yzs_ok h hq d (by omega)
    have h52 := (h.2.1 d (by omega)).1.2
    by_cases hS : ycS σ d (σ 52 0 d).toNat
    · rw [show yzs σ q (d + 1) = _ from if_pos hS]
      exact yz1_ok h hq (by omega) (by omega) hS ih _ (Nat.le_refl _)
    · rw [show yzs σ q (d + 1) = _ from if_neg hS]
      exact ih
theorem yzV_rg {σ : zS} {nd nr ns q : Nat} {c B : Int} (h : yWF σ nd nr ns c B) {A1 A2 A3 A4 : Int} (hv : yzV σ nd q (A1, A2, A3, A4)) : (-1000000 ≤ A1 ∧ A1 ≤ 100000) ∧ (-1 ≤ A2 ∧ A2 < 8) ∧ (0 ≤ A3 ∧ A3 < 8) ∧ (0 ≤ A4 ∧ A4 < 8) := by
  rcases hv with hv | ⟨h1, d, n, f, s, h2, h3, h4, h5, h6, h7, h8⟩
  · injection hv with e1 e2
    injection e2 with e2 e3
    injection e3 with e3 e4
    omega
  · injection h2 with e2 e3
    injection e3 with e3 e4
    have h9 := ycS_6 h h3 h4 h5
    have h10 := h.1.1.1
    exact ⟨h1, by omega, by omega, by omega⟩
def y79 (κ _i _k : Nat) : Prop := κ = 79 ∨ κ = 80 ∨ κ = 81
theorem ycS_fr {σ u : zS} (h : zfr y79 σ u) {d n : Nat} : (ycs u d n ∧ yhs (ylo u d) n ≤ 3) = ycS σ d n := by
  have e : ∀ κ k, ¬ y79 κ 0 k → u κ 0 k = σ κ 0 k := fun κ k hk => h κ 0 k hk
  have e2 : ylo u d = ylo σ d := funext fun j => by unfold ylo; rw [e 54 _ (by unfold y79; omega)]
  unfold ycS ycs
  rw [e2, e 51 _ (by unfold y79; omega), e 52 _ (by unfold y79; omega)]
  simp only [e 54 _ (show ¬ y79 54 0 _ by unfold y79; omega), e 68 _ (show ¬ y79 68 0 _ by unfold y79; omega)]
theorem yka_ly {σ u : zS} {q d f s m : Nat} (h : zfr y79 σ u) (hl : ∀ j, j < m → u 80 0 j = yQ (yUd σ d) (q : Int) (100 + (q : Int)) f s j ∧ u 81 0 j = yl1 σ q d f s j) : ∀ i, i ≤ m → (ykp u q i = ykp (yly σ q d f s) q i) ∧ (yka u q i ↔ yka (yly σ q d f s) q i)
  | 0, _ => ⟨rfl, ⟨fun _ j hj => absurd hj (Nat.not_lt_zero j), fun _ j hj => absurd hj (Nat.not_lt_zero j)⟩⟩
  | i + 1, hi => by
    obtain ⟨ih1, ih2⟩ := yka_ly h hl i (by omega)
    obtain ⟨e80, e81⟩ := hl i (by omega)
    have e : ∀ κ k, ¬ y79 κ 0 k → u κ 0 k = yly σ q d f s κ 0 k := fun κ k hk => by
      rw [h κ 0 k hk]
      unfold y79 at hk
      unfold yly
      rw [if_neg (by omega), if_neg (by omega)]
    have f80 : u 80 0 i = yly σ q d f s 80 0 i := e80.trans (if_pos rfl).symm
    have f81 : u 81 0 i = yly σ q d f s 81 0 i := by
      rw [e81]
      unfold yly
      rw [if_neg (by decide), if_pos rfl]
    refine ⟨?_, ?_⟩
    · show (if _ then _ else _ : Int) = (if _ then _ else _ : Int)
      rw [f80, f81, ih1, e 47 _ (by unfold y79; omega), e 65 _ (by unfold y79; omega), e 66 _ (by unfold y79; omega)]
    · rw [yka_s, yka_s, ih2]
      have : yko u q i ↔ yko (yly σ q d f s) q i := by
        unfold yko
        rw [f80, f81, ih1, e 67 _ (by unfold y79; omega), e 71 _ (by unfold y79; omega)]
      rw [this]
theorem ymp_79 {σ v u : zS} {d n f s q : Nat} (h : zfr y79 σ v) (hu : ymp v u d n f s q) : ymp σ u d n f s q := by
  have e : ∀ κ i k, κ ≠ 79 ∧ κ ≠ 80 ∧ κ ≠ 81 → v κ i k = σ κ i k := fun κ i k hk => h κ i k (by unfold y79; omega)
  obtain ⟨h1, h2, h3, h4⟩ := hu
  simp only [e 53 _ _ (by decide), e 54 _ _ (by decide), e 65 _ _ (by decide), e 66 _ _ (by decide), e 47 _ _ (by decide), e 55 _ _ (by decide), e 30 _ _ (by decide)] at h2 h3
  refine ⟨h1, h2, h3, fun κ i k hk => ?_⟩
  rw [h4 κ i k hk]
  exact e κ i k (by omega)
