section ZTD
variable {p : Program} {l : Launch} {e : Env} {R : Room} {s : State} {m : MethodId} {args : Array Value} {below : List Frame} {meth : Method} {c : Code} {H : Heap} {locs : List Loc} {cells slots : Nat} {Q : State → Prop}
variable {cc : ByteArray} {pc : Nat} {ls : Array Slot} {rest : List Value}
def ydv (x y : Int) : Int := (zi x / zi y).toInt
theorem zz_idivT (hx : p.tables.exec = Jvm.exec) (hb : c.code = cc) {x y : Int} (hdg : decode cc pc = .ok (.idiv, 1)) (gy : zg y) (h0 : y ≠ 0)
    (k : W p l e R s m args below meth c H locs cells slots Q (F0 m (pc + 1) ls (.int (zi (ydv x y)) :: rest))) : W p l e R s m args below meth c H locs cells slots Q (F0 m pc ls (.int (zi y) :: .int (zi x) :: rest)) := lv_idiv hx hb hdg (fun h => h0 ((zi_eq0 gy).1 h)) (by rw [show zi x / zi y = zi (ydv x y) from zi_of _]; exact k)
end ZTD

def ypy (σ : zS) (d : Nat) : Int := max (ydv (σ 62 0 d * 75) 100) (σ 60 0 d * 30)

noncomputable def yht (σ : zS) (nd nr : Nat) (z : Int) : Int := min (max (100 + yhs (ym1 σ z) nr - yhs (ym2 σ z) nd) 100) (σ 30 0 2)
noncomputable def yrp (σ : zS) (nd nr : Nat) (a b : Nat) : Int := (300 + 40 * σ 47 0 (10 * a + b)) * yht σ nd nr ((a : Int) / 3) / 100
/-- a request is told -/
noncomputable def yrq (σ : zS) (nd nr : Nat) (a b : Nat) (t x : Int) : zS := zu (zu (zu (zu (zu (zu (zu (zu (zu (zu σ 30 0 0 0) 69 0 nr (yrp (zu σ 30 0 0 0) nd nr a b)) 65 0 nr (a : Int)) 66 0 nr (b : Int)) 67 0 nr (σ 30 0 1 + t)) 68 0 nr x) 70 0 nr (-1)) 71 0 nr (-1)) 72 0 nr (-1)) 30 0 23 ((nr : Int) + 1)
theorem yht_rg {σ : zS} {nd nr : Nat} {z : Int} (h : 100 ≤ σ 30 0 2 ∧ σ 30 0 2 ≤ 300) : 100 ≤ yht σ nd nr z ∧ yht σ nd nr z ≤ 300 := by
  unfold yht
  omega
theorem yprice_rg {w H : Int} (hw : 0 ≤ w ∧ w ≤ 20480) (hH : 100 ≤ H ∧ H ≤ 300) : 0 ≤ (300 + 40 * w) * H ∧ (300 + 40 * w) * H ≤ 300000000 := by
  have h1 : (300 + 40 * w) * H ≤ 819500 * H := Int.mul_le_mul_of_nonneg_right (by omega) (by omega)
  exact ⟨Int.mul_nonneg (by omega) (by omega), by omega⟩

theorem zsum_r5 {f : Nat → Int} {B : Int} : ∀ n : Nat, (∀ j, j < n → 0 ≤ f j ∧ f j ≤ B) → 0 ≤ zsum f n ∧ zsum f n ≤ B * n
  | 0, _ => by
    show (0 : Int) ≤ 0 ∧ (0 : Int) ≤ B * ((0 : Nat) : Int)
    omega
  | n + 1, h => by
    have h1 := zsum_r5 n (fun j hj => h j (by omega))
    have h2 := h n (by omega)
    have h3 : B * ((n + 1 : Nat) : Int) = B * (n : Int) + B := by
      rw [show ((n + 1 : Nat) : Int) = (n : Int) + 1 from rfl, Int.mul_add, Int.mul_one]
    show 0 ≤ zsum f n + f n ∧ zsum f n + f n ≤ _
    omega
theorem yrt_rg {σ : zS} {d : Nat} (h1 : 0 ≤ σ 58 0 d) (h2 : ∀ j, j < 10 → 0 ≤ σ 59 0 (10 * d + j) ∧ σ 59 0 (10 * d + j) ≤ 5) : 0 ≤ yrt σ d ∧ yrt σ d ≤ 500 := by
  unfold yrt
  by_cases c : min (σ 58 0 d) 10 = 0
  · rw [if_pos c]; omega
  · rw [if_neg c]
    have h3 := zsum_r5 (f := fun j => σ 59 0 (10 * d + j)) (B := 5) (min (σ 58 0 d) 10).toNat (fun j hj => h2 j (by omega))
    have h4 : (((min (σ 58 0 d) 10).toNat : Nat) : Int) = min (σ 58 0 d) 10 := by omega
    rw [h4] at h3
    refine ⟨Int.ediv_nonneg (by omega) (by omega), ?_⟩
    have h5 : 100 * zsum (fun j => σ 59 0 (10 * d + j)) (min (σ 58 0 d) 10).toNat < 501 * min (σ 58 0 d) 10 := by omega
    have h6 := Int.ediv_lt_of_lt_mul (by omega) h5
    omega
/-- a rating is told -/
def yrv (σ : zS) (q D K : Nat) (t : Int) : zS := zu (zu (zu (zu σ 30 0 0 0) 74 0 q 1) 59 0 (10 * D + K) t) 58 0 D (σ 58 0 D + 1)
noncomputable def yrw (σ : zS) (q D K : Nat) (t : Int) : zS := zu (yrv σ q D K t) 51 0 D (zb (5 ≤ σ 58 0 D + 1 ∧ yrt (yrv σ q D K t) D < 350))
noncomputable def yra (σ : zS) (q D K : Nat) (t : Int) : zS := if σ 51 0 D ≠ 0 ∧ yrw σ q D K t 51 0 D = 0 then ybf (yrw σ q D K t) D else yrw σ q D K t
theorem yrv_st {σ : zS} {q D K : Nat} {t : Int} (hD : D < 8) (ht : 0 ≤ t ∧ t ≤ 5) (h : ∀ j, j < 10 → 0 ≤ σ 59 0 (10 * D + j) ∧ σ 59 0 (10 * D + j) ≤ 5) : ∀ j, j < 10 → 0 ≤ yrv σ q D K t 59 0 (10 * D + j) ∧ yrv σ q D K t 59 0 (10 * D + j) ≤ 5 := fun j hj => by
  unfold yrv
  rw [zu_ne (by omega)]
  by_cases e : j = K
  · subst e; rw [zu_same]; exact ht
  · rw [zu_ne (by omega), zu_ne (by omega), zu_ne (by omega)]; exact h j hj

theorem yrt_fr {σ u : zS} {d : Nat} (h1 : u 58 0 d = σ 58 0 d) (h2 : ∀ k, u 59 0 k = σ 59 0 k) : yrt u d = yrt σ d := by
  unfold yrt
  rw [h1]
  simp only [h2]
theorem ybf_56 {σ : zS} {d κ k : Nat} (h : κ ≠ 56 ∧ ¬ (κ = 30 ∧ k = 17)) : ybf σ d κ 0 k = σ κ 0 k := by
  unfold ybf
  split
  · rw [zu_ne (by omega), zu_ne (by omega)]
  · rfl
