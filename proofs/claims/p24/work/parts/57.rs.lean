/-! THE ROW OF A DRIVER, told by whom: -1 for nobody, q to let in, 100 + q to let out -/
def yRS (nr d n : Nat) (w st dr : Nat → Int) : Prop :=
  (∀ j, j < n → w j = -1 ∨ (∃ q : Nat, q < nr ∧ w j = (q : Int) ∧ st q = 1 ∧ dr q = (d : Int) ∧ ∃ i, j < i ∧ i < n ∧ w i = 100 + (q : Int)) ∨ ∃ q : Nat, q < nr ∧ w j = 100 + (q : Int) ∧ (st q = 1 ∨ st q = 2) ∧ dr q = (d : Int)) ∧
  (∀ i j, i < n → j < n → w i = w j → w i ≠ -1 → i = j) ∧
  ∀ q : Nat, q < nr → st q = 1 → dr q = (d : Int) → ∃ j, j < n ∧ w j = 100 + (q : Int)
/-- states behind a stop for w0 -/
def yst1 (w0 : Int) (st : Nat → Int) (q : Nat) : Int := if (q : Int) = w0 - 100 then 3 else if (q : Int) = w0 then 2 else st q
theorem yRS_take {nr d n : Nat} {w st dr : Nat → Int} (hnr : nr ≤ 60) (h : yRS nr d (n + 1) w st dr) : yRS nr d n (fun j => w (j + 1)) (yst1 (w 0) st) dr := by
  obtain ⟨h1, h2, h3⟩ := h
  refine ⟨fun j hj => ?_, fun i j hi hj e hne => ?_, fun q hq hs hd => ?_⟩
  · rcases h1 (j + 1) (by omega) with e | ⟨q, hq, e, hs, hd, i, hi1, hi2, hi3⟩ | ⟨q, hq, e, hs, hd⟩
    · exact Or.inl e
    · refine Or.inr (Or.inl ⟨q, hq, e, ?_, hd, i - 1, by omega, by omega, ?_⟩)
      · unfold yst1
        rw [if_neg (fun c => by have := h2 0 i (by omega) (by omega) (by omega) (by omega); omega), if_neg (fun c => by have := h2 0 (j + 1) (by omega) (by omega) (by omega) (by omega); omega)]
        exact hs
      · show w (i - 1 + 1) = _
        rw [show i - 1 + 1 = i by omega]
        exact hi3
    · refine Or.inr (Or.inr ⟨q, hq, e, ?_, hd⟩)
      unfold yst1
      rw [if_neg (fun c => by have := h2 0 (j + 1) (by omega) (by omega) (by omega) (by omega); omega)]
      split
      · exact Or.inr rfl
      · exact hs
  · have := h2 (i + 1) (j + 1) (by omega) (by omega) e hne
    omega
  · unfold yst1 at hs
    split at hs
    · omega
    · split at hs
      · omega
      · obtain ⟨j, hj, e⟩ := h3 q hq hs hd
        have hj0 : j ≠ 0 := fun c => by subst c; omega
        refine ⟨j - 1, by omega, ?_⟩
        show w (j - 1 + 1) = _
        rw [show j - 1 + 1 = j by omega]
        exact e
theorem yRS_other {nr d n : Nat} {w w' st st' dr dr' : Nat → Int} (h : yRS nr d n w st dr) (hw : ∀ j, j < n → w' j = w j) (hs : ∀ q, q < nr → (dr q = (d : Int) → st' q = st q ∧ dr' q = (d : Int)) ∧ (dr' q = (d : Int) → st' q = 1 → dr q = (d : Int))) : yRS nr d n w' st' dr' := by
  obtain ⟨h1, h2, h3⟩ := h
  refine ⟨fun j hj => ?_, fun i j hi hj e hne => ?_, fun q hq h4 h5 => ?_⟩
  · rw [hw j hj]
    rcases h1 j hj with e | ⟨q, hq, e, h4, hd, i, hi1, hi2, hi3⟩ | ⟨q, hq, e, h4, hd⟩
    · exact Or.inl e
    · have h6 := (hs q hq).1 hd
      exact Or.inr (Or.inl ⟨q, hq, e, by rw [h6.1]; exact h4, h6.2, i, hi1, hi2, by rw [hw i hi2]; exact hi3⟩)
    · have h6 := (hs q hq).1 hd
      exact Or.inr (Or.inr ⟨q, hq, e, by rw [h6.1]; exact h4, h6.2⟩)
  · rw [hw i hi, hw j hj] at e
    rw [hw i hi] at hne
    exact h2 i j hi hj e hne
  · have h6 := (hs q hq).2 h5 h4
    have h7 := (hs q hq).1 h6
    obtain ⟨j, hj, e⟩ := h3 q hq (h7.1.symm.trans h4) h6
    exact ⟨j, hj, by rw [hw j hj]; exact e⟩
theorem yRS_give {nr d q : Nat} {w w' st st' dr dr' : Nat → Int} (hq : q < nr) (hnr : nr ≤ 60) (h : yRS nr d 0 w st dr) (w0 : w' 0 = (q : Int)) (w1 : w' 1 = 100 + (q : Int)) (s1 : st' q = 1) (d1 : dr' q = (d : Int)) (ot : ∀ p, p < nr → p ≠ q → st' p = st p ∧ dr' p = dr p) : yRS nr d 2 w' st' dr' := by
  obtain ⟨h1, h2, h3⟩ := h
  refine ⟨fun j hj => ?_, fun i j hi hj e hne => ?_, fun p hp h4 h5 => ?_⟩
  · rcases (show j = 0 ∨ j = 1 by omega) with rfl | rfl
    · exact Or.inr (Or.inl ⟨q, hq, w0, s1, d1, 1, by omega, by omega, w1⟩)
    · exact Or.inr (Or.inr ⟨q, hq, w1, Or.inl s1, d1⟩)
  · rcases (show i = 0 ∨ i = 1 by omega) with rfl | rfl <;> rcases (show j = 0 ∨ j = 1 by omega) with rfl | rfl
    · rfl
    · omega
    · omega
    · rfl
  · by_cases hpq : p = q
    · subst hpq
      exact ⟨1, by omega, w1⟩
    · obtain ⟨e1, e2⟩ := ot p hp hpq
      obtain ⟨j, hj, -⟩ := h3 p hp (e1.symm.trans h4) (e2.symm.trans h5)
      omega
def ynw (f s i : Nat) : Nat := if i < f then i else if i + 1 < s then i + 1 else i + 2
theorem ynw_old {f s j : Nat} (hfs : f < s) (h1 : j ≠ f) (h2 : j ≠ s) : ynw f s (yold f s j) = j := by
  unfold ynw yold
  split <;> split <;> split <;> (try split) <;> omega
theorem yold_nw {f s i : Nat} (hfs : f < s) : yold f s (ynw f s i) = i ∧ ynw f s i ≠ f ∧ ynw f s i ≠ s := by
  unfold ynw yold
  split
  · rw [if_neg (by omega), if_neg (by omega)]; omega
  · split
    · rw [if_pos (by omega), if_neg (by omega)]; omega
    · rw [if_pos (by omega), if_pos (by omega)]; omega
theorem ynw_mono {f s i j : Nat} (h : i < j) : ynw f s i < ynw f s j := by
  unfold ynw
  split <;> split <;> (try split) <;> (try split) <;> omega
theorem ynw_lt {f s i n : Nat} (h : i < n) : ynw f s i < n + 2 := by
  unfold ynw
  split
  · omega
  · split <;> omega
theorem yold_lt {f s j n : Nat} (hfs : f < s) (hf : f ≤ n) (hs : s ≤ n + 1) (hj : j < n + 2) (h1 : j ≠ f) (h2 : j ≠ s) : yold f s j < n := by
  unfold yold
  split <;> split <;> omega
theorem yRS_put {nr d n q f s : Nat} {w w' st st' dr dr' : Nat → Int} (hq : q < nr) (hnr : nr ≤ 60) (hfs : f < s) (hf : f ≤ n) (hs : s ≤ n + 1) (h : yRS nr d n w st dr) (s0 : st q = 0) (hw : ∀ j, j < n + 2 → w' j = yQ w (q : Int) (100 + (q : Int)) f s j) (s1 : st' q = 1) (d1 : dr' q = (d : Int)) (ot : ∀ p, p < nr → p ≠ q → st' p = st p ∧ dr' p = dr p) : yRS nr d (n + 2) w' st' dr' := by
  obtain ⟨h1, h2, h3⟩ := h
  have wf : w' f = (q : Int) := by rw [hw f (by omega)]; exact if_pos rfl
  have ws : w' s = 100 + (q : Int) := by
    rw [hw s (by omega)]
    unfold yQ
    rw [if_neg (by omega), if_pos rfl]
  have wo : ∀ j, j < n + 2 → j ≠ f → j ≠ s → w' j = w (yold f s j) ∧ yold f s j < n := fun j hj a b => by
    rw [hw j hj]
    unfold yQ
    rw [if_neg a, if_neg b]
    exact ⟨rfl, yold_lt hfs hf hs hj a b⟩
  have wn : ∀ i, i < n → w' (ynw f s i) = w i := fun i hi => by
    have h := yold_nw (f := f) (s := s) (i := i) hfs
    rw [(wo _ (ynw_lt hi) h.2.1 h.2.2).1, h.1]
  have nq : ∀ i, i < n → w i ≠ (q : Int) ∧ w i ≠ 100 + (q : Int) := fun i hi => by
    rcases h1 i hi with e | ⟨p, hp, e, h4, -⟩ | ⟨p, hp, e, h4, -⟩
    · omega
    · refine ⟨fun c => ?_, fun c => by omega⟩
      obtain rfl : p = q := by omega
      omega
    · refine ⟨fun c => by omega, fun c => ?_⟩
      obtain rfl : p = q := by omega
      omega
  refine ⟨fun j hj => ?_, fun i j hi hj e hne => ?_, fun p hp h4 h5 => ?_⟩
  · by_cases hjf : j = f
    · subst hjf
      exact Or.inr (Or.inl ⟨q, hq, wf, s1, d1, s, hfs, by omega, ws⟩)
    · by_cases hjs : j = s
      · subst hjs
        exact Or.inr (Or.inr ⟨q, hq, ws, Or.inl s1, d1⟩)
      · obtain ⟨e0, hl⟩ := wo j hj hjf hjs
        have hn := nq _ hl
        rw [e0]
        rcases h1 _ hl with e | ⟨p, hp, e, h4, hd, i, hi1, hi2, hi3⟩ | ⟨p, hp, e, h4, hd⟩
        · exact Or.inl e
        · have hpq : p ≠ q := fun c => by subst c; omega
          obtain ⟨e1, e2⟩ := ot p hp hpq
          have hm := ynw_mono (f := f) (s := s) hi1
          rw [ynw_old hfs hjf hjs] at hm
          exact Or.inr (Or.inl ⟨p, hp, e, e1.trans h4, e2.trans hd, ynw f s i, hm, ynw_lt hi2, by rw [wn i hi2]; exact hi3⟩)
        · have hpq : p ≠ q := fun c => by subst c; omega
          obtain ⟨e1, e2⟩ := ot p hp hpq
          exact Or.inr (Or.inr ⟨p, hp, e, by rw [e1]; exact h4, e2.trans hd⟩)
  · by_cases hif : i = f
    · by_cases hjf : j = f
      · omega
      · by_cases hjs : j = s
        · subst hif; subst hjs; omega
        · obtain ⟨e0, hl⟩ := wo j hj hjf hjs
          have hn := nq _ hl
          subst hif
          omega
    · by_cases his : i = s
      · by_cases hjs : j = s
        · omega
        · by_cases hjf : j = f
          · subst his; subst hjf; omega
          · obtain ⟨e0, hl⟩ := wo j hj hjf hjs
            have hn := nq _ hl
            subst his
            omega
      · obtain ⟨e0, hl⟩ := wo i hi hif his
        have hn := nq _ hl
        by_cases hjf : j = f
        · subst hjf; omega
        · by_cases hjs : j = s
          · subst hjs; omega
          · obtain ⟨e3, hl3⟩ := wo j hj hjf hjs
            have h6 := h2 _ _ hl hl3 (by rw [← e0, ← e3]; exact e) (by rw [← e0]; exact hne)
            have h7 := ynw_old hfs hif his
            rw [h6, ynw_old hfs hjf hjs] at h7
            exact h7.symm
  · by_cases hpq : p = q
    · subst hpq
      exact ⟨s, by omega, ws⟩
    · obtain ⟨e1, e2⟩ := ot p hp hpq
      obtain ⟨j, hj, e⟩ := h3 p hp (e1.symm.trans h4) (e2.symm.trans h5)
      exact ⟨ynw f s j, ynw_lt hj, by rw [wn j hj]; exact e⟩
theorem yRS_wander {nr d : Nat} {w w' st dr : Nat → Int} (h : yRS nr d 0 w st dr) (w0 : w' 0 = -1) : yRS nr d 1 w' st dr := by
  obtain ⟨h1, h2, h3⟩ := h
  refine ⟨fun j hj => ?_, fun i j hi hj e hne => by omega, fun p hp h4 h5 => ?_⟩
  · obtain rfl : j = 0 := by omega
    exact Or.inl w0
  · obtain ⟨j, hj, -⟩ := h3 p hp h4 h5
    omega
/-- the row without its stop o, the stop to let in q for nobody -/
def ycx (w : Nat → Int) (q : Int) (o j : Nat) : Int := if (if j < o then w j else w (j + 1)) = q then -1 else if j < o then w j else w (j + 1)
theorem yRS_cancel {nr d n q o : Nat} {w w' st st' dr : Nat → Int} (hq : q < nr) (hnr : nr ≤ 60) (h : yRS nr d (n + 1) w st dr) (ho : o ≤ n) (wo : w o = 100 + (q : Int)) (hw : ∀ j, j < n → w' j = ycx w (q : Int) o j) (s1 : st' q = 4) (ot : ∀ p, p < nr → p ≠ q → st' p = st p) : yRS nr d n w' st' dr := by
  obtain ⟨h1, h2, h3⟩ := h
  have key : ∀ j, j < n → ∃ i, i < n + 1 ∧ i ≠ o ∧ (j < o ∧ i = j ∨ o ≤ j ∧ i = j + 1) ∧ w' j = if w i = (q : Int) then -1 else w i := fun j hj => by
    rw [hw j hj]
    unfold ycx
    by_cases c : j < o
    · refine ⟨j, by omega, by omega, Or.inl ⟨c, rfl⟩, ?_⟩
      rw [if_pos c]
    · refine ⟨j + 1, by omega, by omega, Or.inr ⟨by omega, rfl⟩, ?_⟩
      rw [if_neg c]
  have inv : ∀ i, i < n + 1 → i ≠ o → w i ≠ (q : Int) → ∃ j, j < n ∧ (i < o ∧ j = i ∨ o < i ∧ j + 1 = i) ∧ w' j = w i := fun i hi hio hne => by
    by_cases c : i < o
    · refine ⟨i, by omega, Or.inl ⟨c, rfl⟩, ?_⟩
      rw [hw i (by omega)]
      unfold ycx
      rw [if_pos c, if_neg hne]
    · refine ⟨i - 1, by omega, Or.inr ⟨by omega, by omega⟩, ?_⟩
      rw [hw (i - 1) (by omega)]
      unfold ycx
      rw [show i - 1 + 1 = i by omega, if_neg (show ¬ i - 1 < o by omega), if_neg hne]
  refine ⟨fun j hj => ?_, fun i j hi hj e hne => ?_, fun p hp h4 h5 => ?_⟩
  · obtain ⟨i, hi, hio, hc, e0⟩ := key j hj
    by_cases hwq : w i = (q : Int)
    · rw [if_pos hwq] at e0
      exact Or.inl e0
    · rw [if_neg hwq] at e0
      rw [e0]
      rcases h1 i hi with e | ⟨p, hp, e, h4, hd, i2, hi1, hi2, hi3⟩ | ⟨p, hp, e, h4, hd⟩
      · exact Or.inl e
      · have hpq : p ≠ q := fun c => hwq (by rw [e, c])
        have hi2o : i2 ≠ o := fun c => by subst c; omega
        obtain ⟨j2, hj2, hc2, e2⟩ := inv i2 hi2 hi2o (by omega)
        exact Or.inr (Or.inl ⟨p, hp, e, (ot p hp hpq).trans h4, hd, j2, by omega, hj2, by rw [e2]; exact hi3⟩)
      · have hpq : p ≠ q := fun c => by
          subst c
          exact hio (h2 i o hi (by omega) (e.trans wo.symm) (by omega))
        exact Or.inr (Or.inr ⟨p, hp, e, by rw [ot p hp hpq]; exact h4, hd⟩)
  · obtain ⟨i', hi', hio, hc, e0⟩ := key i hi
    obtain ⟨j', hj', hjo, hc', e0'⟩ := key j hj
    have n1 : w i' ≠ (q : Int) := fun c => by rw [if_pos c] at e0; exact hne e0
    have n2 : w j' ≠ (q : Int) := fun c => by rw [if_pos c] at e0'; exact hne (e.trans e0')
    rw [if_neg n1] at e0
    rw [if_neg n2] at e0'
    have := h2 i' j' hi' hj' (by rw [← e0, ← e0']; exact e) (by rw [← e0]; exact hne)
    omega
  · have hpq : p ≠ q := fun c => by subst c; omega
    obtain ⟨j, hj, e⟩ := h3 p hp ((ot p hp hpq).symm.trans h4) h5
    have hjo : j ≠ o := fun c => by subst c; omega
    obtain ⟨j2, hj2, -, e2⟩ := inv j hj hjo (by omega)
    exact ⟨j2, hj2, e2.trans e⟩
theorem yRS_new {nr d n : Nat} {w w' st st' dr dr' : Nat → Int} (h : yRS nr d n w st dr) (hw : ∀ j, j < n → w' j = w j) (ot : ∀ p, p < nr → st' p = st p ∧ dr' p = dr p) (s0 : st' nr = 0) : yRS (nr + 1) d n w' st' dr' := by
  obtain ⟨h1, h2, h3⟩ := h
  refine ⟨fun j hj => ?_, fun i j hi hj e hne => ?_, fun p hp h4 h5 => ?_⟩
  · rw [hw j hj]
    rcases h1 j hj with e | ⟨p, hp, e, h4, hd, i2, hi1, hi2, hi3⟩ | ⟨p, hp, e, h4, hd⟩
    · exact Or.inl e
    · obtain ⟨e1, e2⟩ := ot p hp
      exact Or.inr (Or.inl ⟨p, by omega, e, e1.trans h4, e2.trans hd, i2, hi1, hi2, by rw [hw i2 hi2]; exact hi3⟩)
    · obtain ⟨e1, e2⟩ := ot p hp
      exact Or.inr (Or.inr ⟨p, by omega, e, by rw [e1]; exact h4, e2.trans hd⟩)
  · rw [hw i hi, hw j hj] at e
    rw [hw i hi] at hne
    exact h2 i j hi hj e hne
  · have hpn : p ≠ nr := fun c => by subst c; omega
    obtain ⟨e1, e2⟩ := ot p (by omega)
    obtain ⟨j, hj, e⟩ := h3 p (by omega) (e1.symm.trans h4) (e2.symm.trans h5)
    exact ⟨j, hj, by rw [hw j hj]; exact e⟩
/-- as many are let in as are let out, at most -/
def ycI (w : Nat → Int) : Nat → Nat
  | 0 => 0
  | n + 1 => ycI w n + (if 0 ≤ w n ∧ w n < 100 then 1 else 0)
def ycO (w : Nat → Int) : Nat → Nat
  | 0 => 0
  | n + 1 => ycO w n + (if 100 ≤ w n then 1 else 0)
def yhas (w : Nat → Int) (v : Int) : Nat → Nat
  | 0 => 0
  | n + 1 => if w n = v then 1 else yhas w v n
def ysm (f : Nat → Nat) : Nat → Nat
  | 0 => 0
  | n + 1 => ysm f n + f n
theorem yhas_le (w : Nat → Int) (v : Int) : ∀ n, yhas w v n ≤ 1
  | 0 => Nat.zero_le 1
  | n + 1 => by
    show (if _ then 1 else _) ≤ 1
    split
    · exact Nat.le_refl 1
    · exact yhas_le w v n
theorem yhas_1 {w : Nat → Int} {v : Int} : ∀ {n j : Nat}, j < n → w j = v → yhas w v n = 1
  | 0, j, h, _ => absurd h (Nat.not_lt_zero j)
  | n + 1, j, h, e => by
    show (if _ then 1 else _) = 1
    split
    · rfl
    · rename_i c
      exact yhas_1 (show j < n from by have hjn : j ≠ n := fun q => c (by rw [← q]; exact e); omega) e
theorem yhas_0 {w : Nat → Int} {v : Int} : ∀ {n : Nat}, (∀ j, j < n → w j ≠ v) → yhas w v n = 0
  | 0, _ => rfl
  | n + 1, h => by
    show (if _ then 1 else _) = 0
    rw [if_neg (h n (by omega))]
    exact yhas_0 (fun j hj => h j (by omega))
theorem yhas_w {w : Nat → Int} {v : Int} : ∀ {n : Nat}, yhas w v n ≠ 0 → ∃ j, j < n ∧ w j = v
  | 0, h => absurd rfl h
  | n + 1, h => by
    by_cases c : w n = v
    · exact ⟨n, by omega, c⟩
    · have e : yhas w v (n + 1) = yhas w v n := if_neg c
      rw [e] at h
      obtain ⟨j, hj, e⟩ := yhas_w h
      exact ⟨j, by omega, e⟩
theorem ysm_le {f g : Nat → Nat} : ∀ {n : Nat}, (∀ j, j < n → f j ≤ g j) → ysm f n ≤ ysm g n
  | 0, _ => Nat.le_refl 0
  | n + 1, h => by
    have h1 := ysm_le (n := n) (fun j hj => h j (by omega))
    have h2 := h n (by omega)
    show ysm f n + f n ≤ ysm g n + g n
    omega
theorem ysm_congr {f g : Nat → Nat} : ∀ {n : Nat}, (∀ j, j < n → f j = g j) → ysm f n = ysm g n
  | 0, _ => rfl
  | n + 1, h => by
    show ysm f n + f n = ysm g n + g n
    rw [ysm_congr (fun j hj => h j (by omega)), h n (by omega)]
theorem ysm_up {f g : Nat → Nat} {q : Nat} : ∀ {n : Nat}, q < n → f q = g q + 1 → (∀ j, j < n → j ≠ q → f j = g j) → ysm f n = ysm g n + 1
  | 0, h, _, _ => absurd h (Nat.not_lt_zero q)
  | n + 1, h, e, ot => by
    show ysm f n + f n = ysm g n + g n + 1
    by_cases c : q = n
    · subst c
      rw [ysm_congr (fun j hj => ot j (by omega) (by omega)), e]
      omega
    · rw [ysm_up (show q < n by omega) e (fun j hj => ot j (by omega)), ot n (by omega) (by omega)]
      omega
theorem ysm_0 : ∀ n, ysm (fun _ => 0) n = 0
  | 0 => rfl
  | n + 1 => ysm_0 n
theorem ycI_sum {w : Nat → Int} {nr : Nat} (hnr : nr ≤ 60) : ∀ {n : Nat}, (∀ j, j < n → 0 ≤ w j → w j < 100 → w j < nr) → (∀ i j, i < n → j < n → w i = w j → w i ≠ -1 → i = j) → ycI w n = ysm (fun q => yhas w (q : Int) n) nr
  | 0, _, _ => by
    exact (ysm_0 nr).symm
  | n + 1, h, hu => by
    have ih := ycI_sum hnr (n := n) (fun j hj => h j (by omega)) (fun i j hi hj => hu i j (by omega) (by omega))
    show ycI w n + _ = _
    by_cases c : 0 ≤ w n ∧ w n < 100
    · have hl := h n (by omega) c.1 c.2
      rw [if_pos c, ih]
      refine (ysm_up (q := (w n).toNat) (by omega) ?_ (fun j _ hj => ?_)).symm
      · show (if w n = _ then 1 else _) = yhas w _ n + 1
        rw [if_pos (by omega), yhas_0 (fun j hj e => by have := hu j n (by omega) (by omega) (by omega) (by omega); omega)]
      · show (if w n = _ then 1 else _) = _
        rw [if_neg (by omega)]
    · rw [if_neg c, ih]
      refine (ysm_congr (fun j hj => ?_)).symm
      show (if w n = _ then 1 else _) = _
      rw [if_neg (by omega)]
theorem ycO_sum {w : Nat → Int} {nr : Nat} (hnr : nr ≤ 60) : ∀ {n : Nat}, (∀ j, j < n → 100 ≤ w j → w j < 100 + nr) → (∀ i j, i < n → j < n → w i = w j → w i ≠ -1 → i = j) → ycO w n = ysm (fun q => yhas w (100 + (q : Int)) n) nr
  | 0, _, _ => by
    exact (ysm_0 nr).symm
  | n + 1, h, hu => by
    have ih := ycO_sum hnr (n := n) (fun j hj => h j (by omega)) (fun i j hi hj => hu i j (by omega) (by omega))
    show ycO w n + _ = _
    by_cases c : 100 ≤ w n
    · have hl := h n (by omega) c
      rw [if_pos c, ih]
      refine (ysm_up (q := (w n - 100).toNat) (by omega) ?_ (fun j _ hj => ?_)).symm
      · show (if w n = _ then 1 else _) = yhas w _ n + 1
        rw [if_pos (by omega), yhas_0 (fun j hj e => by have := hu j n (by omega) (by omega) (by omega) (by omega); omega)]
      · show (if w n = _ then 1 else _) = _
        rw [if_neg (by omega)]
    · rw [if_neg c, ih]
      refine (ysm_congr (fun j hj => ?_)).symm
      show (if w n = _ then 1 else _) = _
      rw [if_neg (by omega)]
theorem yRS_le {nr d n : Nat} {w st dr : Nat → Int} (hnr : nr ≤ 60) (h : yRS nr d n w st dr) : ycI w n ≤ ycO w n := by
  obtain ⟨h1, h2, h3⟩ := h
  have hv : ∀ j, j < n → w j = -1 ∨ (0 ≤ w j ∧ w j < nr) ∨ (100 ≤ w j ∧ w j < 100 + nr) := fun j hj => by
    rcases h1 j hj with e | ⟨q, hq, e, -⟩ | ⟨q, hq, e, -⟩ <;> omega
  rw [ycI_sum hnr (fun j hj a b => by have := hv j hj; omega) h2, ycO_sum hnr (fun j hj a => by have := hv j hj; omega) h2]
  refine ysm_le (fun q hq => ?_)
  by_cases c : yhas w (q : Int) n = 0
  · rw [c]; exact Nat.zero_le _
  · obtain ⟨j, hj, e⟩ := yhas_w c
    rcases h1 j hj with e2 | ⟨p, hp, e2, h4, hd, i, hi1, hi2, hi3⟩ | ⟨p, hp, e2, -⟩
    · omega
    · obtain rfl : p = q := by omega
      rw [yhas_1 hi2 hi3]
      exact yhas_le _ _ _
    · omega
theorem ycIO {w : Nat → Int} : ∀ {n : Nat}, (∀ j, j < n → 0 ≤ w j) → ycI w n + ycO w n = n
  | 0, _ => rfl
  | n + 1, h => by
    have ih := ycIO (n := n) (fun j hj => h j (by omega))
    have h1 := h n (by omega)
    show ycI w n + (if _ then 1 else 0) + (ycO w n + (if _ then 1 else 0)) = n + 1
    split <;> split <;> omega
theorem ycO_pos {w : Nat → Int} : ∀ {n j : Nat}, j < n → 100 ≤ w j → 1 ≤ ycO w n
  | 0, j, h, _ => absurd h (Nat.not_lt_zero j)
  | n + 1, j, h, e => by
    show 1 ≤ ycO w n + (if _ then 1 else 0)
    split
    · omega
    · rename_i c
      have := ycO_pos (show j < n from by have hjn : j ≠ n := fun q => c (by rw [← q]; exact e); omega) e
      omega
theorem ycO_ex {w : Nat → Int} : ∀ {n : Nat}, 1 ≤ ycO w n → ∃ j, j < n ∧ 100 ≤ w j
  | 0, h => absurd h (by show ¬ 1 ≤ 0; omega)
  | n + 1, h => by
    have h : 1 ≤ ycO w n + (if 100 ≤ w n then 1 else 0) := h
    split at h
    · exact ⟨n, by omega, by assumption⟩
    · obtain ⟨j, hj, e⟩ := ycO_ex (n := n) (by omega)
      exact ⟨j, by omega, e⟩
/-- somebody rides, if and only if somebody is to be let out -/
theorem yRS_rid {nr d n : Nat} {w st dr : Nat → Int} (h : yRS nr d n w st dr) : (∃ j, j < n ∧ w j ≠ -1) ↔ 1 ≤ ycO w n := by
  constructor
  · rintro ⟨j, hj, e⟩
    rcases h.1 j hj with e2 | ⟨p, hp, e2, h4, hd, i, hi1, hi2, hi3⟩ | ⟨p, hp, e2, -⟩
    · exact absurd e2 e
    · exact ycO_pos hi2 (by omega)
    · exact ycO_pos hj (by omega)
  · intro h1
    obtain ⟨j, hj, e⟩ := ycO_ex h1
    exact ⟨j, hj, by omega⟩
theorem ycO_congr {w w' : Nat → Int} : ∀ {n : Nat}, (∀ j, j < n → w' j = w j) → ycO w' n = ycO w n
  | 0, _ => rfl
  | n + 1, h => by
    show ycO w' n + _ = ycO w n + _
    rw [ycO_congr (fun j hj => h j (by omega)), h n (by omega)]
theorem zcnt_O {w f : Nat → Int} : ∀ {n : Nat}, (∀ j, j < n → f j = if w j < 100 then 0 else 1) → zcnt f n = (ycO w n : Int)
  | 0, _ => rfl
  | n + 1, h => by
    show zcnt f n + (if f n = 1 then 1 else 0) = ((ycO w n + (if 100 ≤ w n then 1 else 0) : Nat) : Int)
    rw [zcnt_O (w := w) (fun j hj => h j (by omega)), h n (by omega)]
    by_cases c : w n < 100
    · rw [if_pos c, if_neg (by decide), if_neg (by omega)]
      omega
    · rw [if_neg c, if_pos rfl, if_pos (by omega)]
      omega
theorem ylo_O {σ : zS} {d : Nat} : ∀ n : Nat, yhs (ylo σ d) n = (ycO (fun j => σ 54 0 (8 * d + j)) n : Int)
  | 0 => rfl
  | n + 1 => by
    show yhs (ylo σ d) n + ylo σ d n = ((ycO _ n + (if 100 ≤ σ 54 0 (8 * d + n) then 1 else 0) : Nat) : Int)
    rw [ylo_O n]
    unfold ylo
    split <;> omega
