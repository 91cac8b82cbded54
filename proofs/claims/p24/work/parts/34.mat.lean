/-! matches: what rows of requests come to, by the sets of drivers taken -/
def ymx (m0 : Int) (P : Nat → Bool) (g : Nat → Int) : Nat → Int
  | 0 => m0
  | d + 1 => if P d = true then max (ymx m0 P g d) (g d) else ymx m0 P g d
def yok (mn : Nat → Nat → Int) (row taken d : Nat) : Bool := !taken.testBit d && decide (mn row d ≠ -1)
def ygv (mn : Nat → Nat → Int) (F : Nat → Int) (row taken d : Nat) : Int := 10000 - mn row d + F (taken ||| 2 ^ d)
/-- k requests are left of n -/
def yB (mn : Nat → Nat → Int) (nd n : Nat) : Nat → Nat → Int
  | 0, _ => 0
  | k + 1, t => ymx (yB mn nd n k t) (yok mn (n - (k + 1)) t) (ygv mn (yB mn nd n k) (n - (k + 1)) t) nd
theorem ymx_rg {m0 : Int} {P : Nat → Bool} {g : Nat → Int} {a b : Int} (h0 : a ≤ m0 ∧ m0 ≤ b) : ∀ n, (∀ d, d < n → P d = true → g d ≤ b) → a ≤ ymx m0 P g n ∧ ymx m0 P g n ≤ b
  | 0, _ => h0
  | n + 1, h => by
    have h1 := ymx_rg h0 n (fun d hd => h d (by omega))
    have h2 := h n (by omega)
    show a ≤ (if P n = true then max (ymx m0 P g n) (g n) else ymx m0 P g n) ∧ (if P n = true then max (ymx m0 P g n) (g n) else ymx m0 P g n) ≤ b
    split
    · rename_i hp
      have := h2 hp
      omega
    · exact h1
theorem ymx_congr {m0 m1 : Int} {P : Nat → Bool} {f g : Nat → Int} (h0 : m0 = m1) : ∀ n, (∀ d, d < n → P d = true → f d = g d) → ymx m0 P f n = ymx m1 P g n
  | 0, _ => h0
  | n + 1, h => by
    have h1 := ymx_congr h0 n (fun d hd => h d (by omega))
    show (if P n = true then max (ymx m0 P f n) (f n) else ymx m0 P f n) = (if P n = true then max (ymx m1 P g n) (g n) else ymx m1 P g n)
    split
    · rename_i hp
      rw [h1, h n (by omega) hp]
    · exact h1
theorem ysor {t d nd : Nat} (ht : t < 2 ^ nd) (hd : d < nd) : t ||| 2 ^ d < 2 ^ nd := Nat.or_lt_two_pow ht (Nat.pow_lt_pow_right (by decide) hd)
theorem yB_rg {mn : Nat → Nat → Int} {nd n : Nat} (hm : ∀ r d, r < n → d < nd → -1 ≤ mn r d) : ∀ k, k ≤ n → ∀ t, 0 ≤ yB mn nd n k t ∧ yB mn nd n k t ≤ 10001 * k
  | 0, _, _ => ⟨Int.le_refl _, Int.le_refl _⟩
  | k + 1, hk, t => by
    have ih := yB_rg hm k (by omega)
    refine ymx_rg ⟨(ih t).1, by have := (ih t).2; omega⟩ nd (fun d hd _ => ?_)
    unfold ygv
    have h1 := (ih (t ||| 2 ^ d)).2
    have h2 := hm (n - (k + 1)) d (by omega) hd
    omega

set_option maxHeartbeats 4000000 in
set_option maxRecDepth 100000 in
theorem c_X2_clear (l : Launch) (G : zG) (ad : zA) (A : Nat → Prop) (N0 : Nat) (σ : zS) (nd nr : Nat) (hX : zX ad nd nr) (a : Int) (ga : zg a) : Met l yX2_clear wsX2_clear ({ frames := 0, cells := 0, slots := 0, locals := 0 }) (zP G ad A N0 σ [zr ad 7 ((0 : Nat) : Int), .int (zi a)]) (zQ G ad A zrv (fun _ u => zu (zu σ 7 0 4 a) 7 0 5 0 = u)) 0 0 A := by
  refine zz_of (cc := cX2_clear) (maxL := 2) (ret := none) (by decide) rfl ⟨rfl, rfl⟩ (List.forall_mem_cons.mpr ⟨zr_cat _ _ _, List.forall_mem_cons.mpr ⟨rfl, fun _ h => absurd h List.not_mem_nil⟩⟩) (Nat.le_of_ble_eq_true rfl) ?_
  intro p e s m below meth c hx hb hr hml hts hown hlocks hsz hW0 hK ls hl
  have hS0 : va_S A s.heap s.heap [] := va_S.rf
  have hl : zh ls 2 [(0, zr ad 7 ((0 : Nat) : Int)), (1, .int (zi a))] := hl
  have hinX2 : ∀ w ∈ u_ws RX2 TX2 6, w ∈ wsX2_clear := by decide +kernel
  refine zz_aload_n hx hb hl 0 dX2_clear_0 rfl rfl ?_
  refine zz_iload_n hx hb hl 1 dX2_clear_1 rfl rfl ?_
  refine zz_put (T := TX2) (N := 6) (k := 4) (κ := 7) (v := ((0 : Nat) : Int)) (x := a) (ty := .int) hx hb hts hinX2 tyX2 tyX2_ok nmX2 hown hK hW0 hS0 (zlN (hX 7 0 rfl)) rfl rfl rfl (by decide) (hts (.fieldLink RX2 29 "HailCity$Matching" "driverCount" "I") (by decide +kernel)) (fun _ h9 => h9) rfl (by decide +kernel) rfl rfl rfl ga (fun h9 _ => absurd h9 (by decide)) (fun h9 => absurd h9 (by decide)) dX2_clear_2 (fun H1 locs1 hW1' hS1 => ?_)
  obtain ⟨σ1, hs1⟩ : ∃ z, z = zu σ 7 0 4 a := ⟨_, rfl⟩
  have hW1 : ZW G ad A σ1 H1 := by rw [hs1]; exact hW1'
  refine zz_aload_n hx hb hl 0 dX2_clear_5 rfl rfl ?_
  refine zz_iconst hx hb dX2_clear_6 ?_
  refine zz_put (T := TX2) (N := 6) (k := 5) (κ := 7) (v := ((0 : Nat) : Int)) (x := 0) (ty := .int) hx hb hts hinX2 tyX2 tyX2_ok nmX2 hown hK hW1 hS1 (zlN (hX 7 0 rfl)) rfl rfl rfl (by decide) (hts (.fieldLink RX2 33 "HailCity$Matching" "count" "I") (by decide +kernel)) (fun _ h9 => h9) rfl (by decide +kernel) rfl rfl rfl ⟨by decide, by decide⟩ (fun h9 _ => absurd h9 (by decide)) (fun h9 => absurd h9 (by decide)) dX2_clear_7 (fun H2 locs2 hW2' hS2 => ?_)
  obtain ⟨σ2, hs2⟩ : ∃ z, z = zu σ1 7 0 5 0 := ⟨_, rfl⟩
  have hW2 : ZW G ad A σ2 H2 := by rw [hs2]; exact hW2'
  refine W.eq (g2 := F0 m 10 ls []) rfl ?_
  refine zz_retv hx hb hr hlocks hW2 hS2 ?_ dX2_clear_10
  subst hs2 hs1; rfl

set_option maxHeartbeats 4000000 in
set_option maxRecDepth 100000 in
theorem c_X2_addRequest (l : Launch) (G : zG) (ad : zA) (A : Nat → Prop) (N0 : Nat) (σ : zS) (nd nr : Nat) (hX : zX ad nd nr) (q n : Nat) (hq : q < nr) (hnr : nr ≤ 60) (hn : σ 7 0 5 = (n : Int)) (hn5 : n < 5) : Met l yX2_addRequest wsX2_addRequest ({ frames := 0, cells := 0, slots := 0, locals := 0 }) (zP G ad A N0 σ [zr ad 7 ((0 : Nat) : Int), zr ad 23 ((q : Nat) : Int)]) (zQ G ad A zrv (fun _ u => zu (zu σ 8 0 n ((q : Nat) : Int)) 7 0 5 ((n : Int) + 1) = u)) 0 0 A := by
  refine zz_of (cc := cX2_addRequest) (maxL := 2) (ret := none) (by decide) rfl ⟨rfl, rfl⟩ (List.forall_mem_cons.mpr ⟨zr_cat _ _ _, List.forall_mem_cons.mpr ⟨zr_cat _ _ _, fun _ h => absurd h List.not_mem_nil⟩⟩) (Nat.le_of_ble_eq_true rfl) ?_
  intro p e s m below meth c hx hb hr hml hts hown hlocks hsz hW0 hK ls hl
  have hS0 : va_S A s.heap s.heap [] := va_S.rf
  have hl : zh ls 2 [(0, zr ad 7 ((0 : Nat) : Int)), (1, zr ad 23 ((q : Nat) : Int))] := hl
  have hinX2 : ∀ w ∈ u_ws RX2 TX2 6, w ∈ wsX2_addRequest := by decide +kernel
  refine zz_aload_n hx hb hl 0 dX2_addRequest_0 rfl rfl ?_
  refine zz_get (T := TX2) (N := 6) (k := 0) (κ := 7) (w := zr ad 8 ((0 : Nat) : Int)) hx hb hts hinX2 hown hK hW0 (zlN (hX 7 0 rfl)) rfl rfl rfl (by decide) (hts (.fieldLink RX2 11 "HailCity$Matching" "requests" "[LHailCity$Request;") (by decide +kernel)) (fun _ h9 => h9) rfl dX2_addRequest_1 ?_
  refine zz_aload_n hx hb hl 0 dX2_addRequest_4 rfl rfl ?_
  refine zz_get (T := TX2) (N := 6) (k := 5) (κ := 7) (w := .int (zi (σ 7 0 5))) hx hb hts hinX2 hown hK hW0 (zlN (hX 7 0 rfl)) rfl rfl rfl (by decide) (hts (.fieldLink RX2 33 "HailCity$Matching" "count" "I") (by decide +kernel)) (fun _ h9 => h9) rfl dX2_addRequest_5 ?_
  refine zz_aload_n hx hb hl 1 dX2_addRequest_8 rfl rfl ?_
  refine zz_aast (κ := 8) (κ' := 23) (x := (σ 7 0 5)) (y := ((q : Nat) : Int)) hx hb hK hW0 hS0 (zlN (hX 8 0 rfl)) rfl (Nat.le_of_ble_eq_true rfl) (Nat.le_of_ble_eq_true rfl) rfl rfl rfl rfl (by show (0 : Int) ≤ σ 7 0 5; omega) (by show (σ 7 0 5) < (5 : Int); omega) (Or.inr (zlN (hX 23 q (decide_eq_true hq)))) ⟨by omega, by omega⟩ dX2_addRequest_9 (fun H1 locs1 hW1' hS1 => ?_)
  obtain ⟨σ1, hs1⟩ : ∃ z, z = zu σ 8 0 ((σ 7 0 5).toNat) ((q : Nat) : Int) := ⟨_, rfl⟩
  have hW1 : ZW G ad A σ1 H1 := by rw [hs1]; exact hW1'
  refine zz_aload_n hx hb hl 0 dX2_addRequest_10 rfl rfl ?_
  refine lv_dup hx hb dX2_addRequest_11 (zr_cat _ _ _) ?_
  refine zz_get (T := TX2) (N := 6) (k := 5) (κ := 7) (w := .int (zi (σ 7 0 5))) hx hb hts hinX2 hown hK hW1 (zlN (hX 7 0 rfl)) rfl rfl rfl (by decide) (hts (.fieldLink RX2 33 "HailCity$Matching" "count" "I") (by decide +kernel)) (fun _ h9 => h9) (congrArg (fun z => Value.int (zi z)) (show σ1 7 0 5 = σ 7 0 5 from by rw [hs1, zu_k (by decide)])) dX2_addRequest_12 ?_
  refine zz_iconst hx hb dX2_addRequest_15 ?_
  refine zz_iadd hx hb dX2_addRequest_16 ?_
  refine zz_put (T := TX2) (N := 6) (k := 5) (κ := 7) (v := ((0 : Nat) : Int)) (x := ((σ 7 0 5) + 1)) (ty := .int) hx hb hts hinX2 tyX2 tyX2_ok nmX2 hown hK hW1 hS1 (zlN (hX 7 0 rfl)) rfl rfl rfl (by decide) (hts (.fieldLink RX2 33 "HailCity$Matching" "count" "I") (by decide +kernel)) (fun _ h9 => h9) rfl (by decide +kernel) rfl rfl rfl ⟨by omega, by omega⟩ (fun h9 _ => absurd h9 (by decide)) (fun h9 => absurd h9 (by decide)) dX2_addRequest_17 (fun H2 locs2 hW2' hS2 => ?_)
  obtain ⟨σ2, hs2⟩ : ∃ z, z = zu σ1 7 0 5 ((σ 7 0 5) + 1) := ⟨_, rfl⟩
  have hW2 : ZW G ad A σ2 H2 := by rw [hs2]; exact hW2'
  refine W.eq (g2 := F0 m 20 ls []) rfl ?_
  refine zz_retv hx hb hr hlocks hW2 hS2 ?_ dX2_addRequest_20
  rw [hs2, hs1, hn]; rfl

set_option maxHeartbeats 4000000 in
set_option maxRecDepth 100000 in
theorem c_X2_setMinutes (l : Launch) (G : zG) (ad : zA) (A : Nat → Prop) (N0 : Nat) (σ : zS) (nd nr : Nat) (hX : zX ad nd nr) (d n : Nat) (x : Int) (gx : zg x) (hd : d < 8) (hn : σ 7 0 5 = (n : Int) + 1) (hn5 : n < 5) : Met l yX2_setMinutes wsX2_setMinutes ({ frames := 0, cells := 0, slots := 0, locals := 0 }) (zP G ad A N0 σ [zr ad 7 ((0 : Nat) : Int), .int (zi ((d : Nat) : Int)), .int (zi x)]) (zQ G ad A zrv (fun _ u => zu σ 10 n d x = u)) 0 0 A := by
  refine zz_of (cc := cX2_setMinutes) (maxL := 3) (ret := none) (by decide) rfl ⟨rfl, rfl⟩ (List.forall_mem_cons.mpr ⟨zr_cat _ _ _, List.forall_mem_cons.mpr ⟨rfl, List.forall_mem_cons.mpr ⟨rfl, fun _ h => absurd h List.not_mem_nil⟩⟩⟩) (Nat.le_of_ble_eq_true rfl) ?_
  intro p e s m below meth c hx hb hr hml hts hown hlocks hsz hW0 hK ls hl
  have hS0 : va_S A s.heap s.heap [] := va_S.rf
  have hl : zh ls 3 [(0, zr ad 7 ((0 : Nat) : Int)), (1, .int (zi ((d : Nat) : Int))), (2, .int (zi x))] := hl
  have hinX2 : ∀ w ∈ u_ws RX2 TX2 6, w ∈ wsX2_setMinutes := by decide +kernel
  refine zz_aload_n hx hb hl 0 dX2_setMinutes_0 rfl rfl ?_
  refine zz_get (T := TX2) (N := 6) (k := 1) (κ := 7) (w := zr ad 9 ((0 : Nat) : Int)) hx hb hts hinX2 hown hK hW0 (zlN (hX 7 0 rfl)) rfl rfl rfl (by decide) (hts (.fieldLink RX2 19 "HailCity$Matching" "minutes" "[[I") (by decide +kernel)) (fun _ h9 => h9) rfl dX2_setMinutes_1 ?_
  refine zz_aload_n hx hb hl 0 dX2_setMinutes_4 rfl rfl ?_
  refine zz_get (T := TX2) (N := 6) (k := 5) (κ := 7) (w := .int (zi (σ 7 0 5))) hx hb hts hinX2 hown hK hW0 (zlN (hX 7 0 rfl)) rfl rfl rfl (by decide) (hts (.fieldLink RX2 33 "HailCity$Matching" "count" "I") (by decide +kernel)) (fun _ h9 => h9) rfl dX2_setMinutes_5 ?_
  refine zz_iconst hx hb dX2_setMinutes_8 ?_
  refine zz_isub hx hb dX2_setMinutes_9 ?_
  refine zz_aald (w := zr ad 10 ((((σ 7 0 5) - 1).toNat : Nat) : Int)) hx hb hK hW0 (zlN (hX 9 0 rfl)) rfl rfl (by show (0 : Int) ≤ (σ 7 0 5) - 1; omega) (by show ((σ 7 0 5) - 1) < (5 : Int); omega) rfl dX2_setMinutes_10 ?_
  refine zz_iload_n hx hb hl 1 dX2_setMinutes_11 rfl rfl ?_
  refine zz_iload_n hx hb hl 2 dX2_setMinutes_12 rfl rfl ?_
  refine zz_iast (y := x) hx hb hK hW0 hS0 (zlN (hX 10 (((σ 7 0 5) - 1).toNat) (decide_eq_true (by omega)))) rfl rfl rfl (by show (0 : Int) ≤ ((d : Nat) : Int); omega) (by show ((d : Nat) : Int) < (8 : Int); omega) gx dX2_setMinutes_13 (fun H1 locs1 hW1' hS1 => ?_)
  obtain ⟨σ1, hs1⟩ : ∃ z, z = zu σ 10 (((σ 7 0 5) - 1).toNat) d x := ⟨_, rfl⟩
  have hW1 : ZW G ad A σ1 H1 := by rw [hs1]; exact hW1'
  refine W.eq (g2 := F0 m 14 ls []) rfl ?_
  refine zz_retv hx hb hr hlocks hW1 hS1 ?_ dX2_setMinutes_14
  rw [hs1, show (σ 7 0 5 - 1).toNat = n by omega]

set_option maxHeartbeats 4000000 in
set_option maxRecDepth 100000 in
theorem c_X2_canGive (l : Launch) (G : zG) (ad : zA) (A : Nat → Prop) (N0 : Nat) (σ : zS) (nd nr : Nat) (hX : zX ad nd nr) (r d t : Nat) (hr5 : r < 5) (hd : d < 8) (ht : t < 256) : Met l yX2_canGive wsX2_canGive ({ frames := 0, cells := 0, slots := 0, locals := 0 }) (zP G ad A N0 σ [zr ad 7 ((0 : Nat) : Int), .int (zi ((r : Nat) : Int)), .int (zi ((d : Nat) : Int)), .int (zi ((t : Nat) : Int))]) (zQ G ad A zri (fun z u => σ = u ∧ zb (yok (σ 10) r t d = true) = z)) 0 0 A := by
  refine zz_of (cc := cX2_canGive) (maxL := 4) (ret := (some .boolean)) (by decide) rfl ⟨rfl, rfl⟩ (List.forall_mem_cons.mpr ⟨zr_cat _ _ _, List.forall_mem_cons.mpr ⟨rfl, List.forall_mem_cons.mpr ⟨rfl, List.forall_mem_cons.mpr ⟨rfl, fun _ h => absurd h List.not_mem_nil⟩⟩⟩⟩) (Nat.le_of_ble_eq_true rfl) ?_
  intro p e s m below meth c hx hb hr hml hts hown hlocks hsz hW0 hK ls hl
  have hS0 : va_S A s.heap s.heap [] := va_S.rf
  have hl : zh ls 4 [(0, zr ad 7 ((0 : Nat) : Int)), (1, .int (zi ((r : Nat) : Int))), (2, .int (zi ((d : Nat) : Int))), (3, .int (zi ((t : Nat) : Int)))] := hl
  have hinX2 : ∀ w ∈ u_ws RX2 TX2 6, w ∈ wsX2_canGive := by decide +kernel
  have h2 : (2 : Nat) ^ d < 2 ^ 8 := Nat.pow_lt_pow_right (by decide) hd
  have h3 : 0 < 2 ^ d := Nat.two_pow_pos d
  have hbt : (t.testBit d).toNat * 2 ^ d ≤ 2 ^ d := by cases t.testBit d <;> simp
  refine zz_iload_n hx hb hl 3 dX2_canGive_0 rfl rfl ?_
  refine zz_iconst hx hb dX2_canGive_1 ?_
  refine zz_iload_n hx hb hl 2 dX2_canGive_2 rfl rfl ?_
  refine zz_ishl (w := ((2 ^ d : Nat) : Int)) hx hb (zi_shl1 d (by omega)) dX2_canGive_3 ?_
  refine zz_iand (w := (((t.testBit d).toNat * 2 ^ d : Nat) : Int)) hx hb (zi_bit ht hd) dX2_canGive_4 ?_
  refine zz_if_ne (tgt := 24) hx hb dX2_canGive_5 (by decide) ⟨by omega, by omega⟩ (fun hc5 => ?_) (fun hc5 => ?_)
  · refine zz_iconst hx hb dX2_canGive_24 ?_
    refine W.eq (g2 := F0 m 25 ls [.int (zi 0)]) rfl ?_
    refine zz_retz hx hb hr hlocks hW0 hS0 (by decide) ?_ dX2_canGive_25
    unfold yok
    cases hbb : t.testBit d <;> rw [hbb] at hc5 <;> simp only [Bool.toNat_true, Bool.toNat_false, Nat.one_mul, Nat.zero_mul] at hc5
    · first | (exfalso; omega) | exact ⟨rfl, zb_t (by simp; omega)⟩ | exact ⟨rfl, zb_f (by simp; omega)⟩
    · first | (exfalso; omega) | exact ⟨rfl, zb_f (by simp)⟩
  · refine zz_aload_n hx hb hl 0 dX2_canGive_8 rfl rfl ?_
    refine zz_get (T := TX2) (N := 6) (k := 1) (κ := 7) (w := zr ad 9 ((0 : Nat) : Int)) hx hb hts hinX2 hown hK hW0 (zlN (hX 7 0 rfl)) rfl rfl rfl (by decide) (hts (.fieldLink RX2 19 "HailCity$Matching" "minutes" "[[I") (by decide +kernel)) (fun _ h9 => h9) rfl dX2_canGive_9 ?_
    refine zz_iload_n hx hb hl 1 dX2_canGive_12 rfl rfl ?_
    refine zz_aald (w := zr ad 10 ((r : Nat) : Int)) hx hb hK hW0 (zlN (hX 9 0 rfl)) rfl rfl (by show (0 : Int) ≤ ((r : Nat) : Int); omega) (by show ((r : Nat) : Int) < (5 : Int); omega) rfl dX2_canGive_13 ?_
    refine zz_iload_n hx hb hl 2 dX2_canGive_14 rfl rfl ?_
    refine zz_iald (w := σ 10 r d) hx hb hK hW0 (zlN (hX 10 r (decide_eq_true (by omega)))) rfl rfl rfl (by show (0 : Int) ≤ ((d : Nat) : Int); omega) (by show ((d : Nat) : Int) < (8 : Int); omega) rfl dX2_canGive_15 ?_
    refine zz_iconst hx hb dX2_canGive_16 ?_
    refine zz_icmp_eq (tgt := 24) hx hb dX2_canGive_17 (by decide) (hW0.2.2.1 _ _ _) ⟨by decide, by decide⟩ (fun hc17 => ?_) (fun hc17 => ?_)
    · refine zz_iconst hx hb dX2_canGive_24 ?_
      refine W.eq (g2 := F0 m 25 ls [.int (zi 0)]) rfl ?_
      refine zz_retz hx hb hr hlocks hW0 hS0 (by decide) ?_ dX2_canGive_25
      unfold yok
      cases hbb : t.testBit d <;> rw [hbb] at hc5 <;> simp only [Bool.toNat_true, Bool.toNat_false, Nat.one_mul, Nat.zero_mul] at hc5
      · first | (exfalso; omega) | exact ⟨rfl, zb_t (by simp; omega)⟩ | exact ⟨rfl, zb_f (by simp; omega)⟩
      · first | (exfalso; omega) | exact ⟨rfl, zb_f (by simp)⟩
    · refine zz_iconst hx hb dX2_canGive_20 ?_
      refine zz_goto (tgt := 25) hx hb dX2_canGive_21 (by decide) ?_
      refine W.eq (g2 := F0 m 25 ls [.int (zi 1)]) rfl ?_
      refine zz_retz hx hb hr hlocks hW0 hS0 (by decide) ?_ dX2_canGive_25
      unfold yok
      cases hbb : t.testBit d <;> rw [hbb] at hc5 <;> simp only [Bool.toNat_true, Bool.toNat_false, Nat.one_mul, Nat.zero_mul] at hc5
      · first | (exfalso; omega) | exact ⟨rfl, zb_t (by simp; omega)⟩ | exact ⟨rfl, zb_f (by simp; omega)⟩
      · first | (exfalso; omega) | exact ⟨rfl, zb_f (by simp)⟩

set_option maxHeartbeats 4000000 in
set_option maxRecDepth 100000 in
theorem c_X2_mostGiving (l : Launch) (G : zG) (ad : zA) (A : Nat → Prop) (N0 : Nat) (σ : zS) (nd nr : Nat) (hX : zX ad nd nr) (r d t : Nat) (hr5 : r < 5) (hd : d < 8) (ht : t < 256) : Met l yX2_mostGiving wsX2_mostGiving ({ frames := 0, cells := 0, slots := 0, locals := 0 }) (zP G ad A N0 σ [zr ad 7 ((0 : Nat) : Int), .int (zi ((r : Nat) : Int)), .int (zi ((d : Nat) : Int)), .int (zi ((t : Nat) : Int))]) (zQ G ad A zri (fun z u => σ = u ∧ ygv (σ 10) (σ 12 (r + 1)) r t d = z)) 0 0 A := by
  refine zz_of (cc := cX2_mostGiving) (maxL := 4) (ret := (some .int)) (by decide) rfl ⟨rfl, rfl⟩ (List.forall_mem_cons.mpr ⟨zr_cat _ _ _, List.forall_mem_cons.mpr ⟨rfl, List.forall_mem_cons.mpr ⟨rfl, List.forall_mem_cons.mpr ⟨rfl, fun _ h => absurd h List.not_mem_nil⟩⟩⟩⟩) (Nat.le_of_ble_eq_true rfl) ?_
  intro p e s m below meth c hx hb hr hml hts hown hlocks hsz hW0 hK ls hl
  have hS0 : va_S A s.heap s.heap [] := va_S.rf
  have hl : zh ls 4 [(0, zr ad 7 ((0 : Nat) : Int)), (1, .int (zi ((r : Nat) : Int))), (2, .int (zi ((d : Nat) : Int))), (3, .int (zi ((t : Nat) : Int)))] := hl
  have hinX2 : ∀ w ∈ u_ws RX2 TX2 6, w ∈ wsX2_mostGiving := by decide +kernel
  have h2 : (2 : Nat) ^ d < 2 ^ 8 := Nat.pow_lt_pow_right (by decide) hd
  have h4 : t ||| 2 ^ d < 2 ^ 8 := ysor (by omega) hd
  refine zz_sipush hx hb dX2_mostGiving_0 (by decide +kernel) ?_
  refine zz_aload_n hx hb hl 0 dX2_mostGiving_3 rfl rfl ?_
  refine zz_get (T := TX2) (N := 6) (k := 1) (κ := 7) (w := zr ad 9 ((0 : Nat) : Int)) hx hb hts hinX2 hown hK hW0 (zlN (hX 7 0 rfl)) rfl rfl rfl (by decide) (hts (.fieldLink RX2 19 "HailCity$Matching" "minutes" "[[I") (by decide +kernel)) (fun _ h9 => h9) rfl dX2_mostGiving_4 ?_
  refine zz_iload_n hx hb hl 1 dX2_mostGiving_7 rfl rfl ?_
  refine zz_aald (w := zr ad 10 ((r : Nat) : Int)) hx hb hK hW0 (zlN (hX 9 0 rfl)) rfl rfl (by show (0 : Int) ≤ ((r : Nat) : Int); omega) (by show ((r : Nat) : Int) < (5 : Int); omega) rfl dX2_mostGiving_8 ?_
  refine zz_iload_n hx hb hl 2 dX2_mostGiving_9 rfl rfl ?_
  refine zz_iald (w := σ 10 r d) hx hb hK hW0 (zlN (hX 10 r (decide_eq_true (by omega)))) rfl rfl rfl (by show (0 : Int) ≤ ((d : Nat) : Int); omega) (by show ((d : Nat) : Int) < (8 : Int); omega) rfl dX2_mostGiving_10 ?_
  refine zz_isub hx hb dX2_mostGiving_11 ?_
  refine zz_aload_n hx hb hl 0 dX2_mostGiving_12 rfl rfl ?_
  refine zz_get (T := TX2) (N := 6) (k := 2) (κ := 7) (w := zr ad 11 ((0 : Nat) : Int)) hx hb hts hinX2 hown hK hW0 (zlN (hX 7 0 rfl)) rfl rfl rfl (by decide) (hts (.fieldLink RX2 22 "HailCity$Matching" "mostFrom" "[[I") (by decide +kernel)) (fun _ h9 => h9) rfl dX2_mostGiving_13 ?_
  refine zz_iload_n hx hb hl 1 dX2_mostGiving_16 rfl rfl ?_
  refine zz_iconst hx hb dX2_mostGiving_17 ?_
  refine zz_iadd hx hb dX2_mostGiving_18 ?_
  refine zz_aald (w := zr ad 12 (((((r : Nat) : Int) + 1).toNat : Nat) : Int)) hx hb hK hW0 (zlN (hX 11 0 rfl)) rfl rfl (by show (0 : Int) ≤ ((r : Nat) : Int) + 1; omega) (by show (((r : Nat) : Int) + 1) < (6 : Int); omega) rfl dX2_mostGiving_19 ?_
  refine zz_iload_n hx hb hl 3 dX2_mostGiving_20 rfl rfl ?_
  refine zz_iconst hx hb dX2_mostGiving_21 ?_
  refine zz_iload_n hx hb hl 2 dX2_mostGiving_22 rfl rfl ?_
  refine zz_ishl (w := ((2 ^ d : Nat) : Int)) hx hb (zi_shl1 d (by omega)) dX2_mostGiving_23 ?_
  refine zz_ior (w := ((t ||| 2 ^ d : Nat) : Int)) hx hb (zi_sor ht hd) dX2_mostGiving_24 ?_
  refine zz_iald (w := σ 12 ((((r : Nat) : Int) + 1).toNat) (t ||| 2 ^ d)) hx hb hK hW0 (zlN (hX 12 ((((r : Nat) : Int) + 1).toNat) (decide_eq_true (by omega)))) rfl rfl rfl (by show (0 : Int) ≤ ((t ||| 2 ^ d : Nat) : Int); omega) (by show ((t ||| 2 ^ d : Nat) : Int) < (256 : Int); omega) rfl dX2_mostGiving_25 ?_
  refine zz_iadd hx hb dX2_mostGiving_26 ?_
  refine W.eq (g2 := F0 m 27 ls [.int (zi ((10000 - (σ 10 r d)) + (σ 12 ((((r : Nat) : Int) + 1).toNat) (t ||| 2 ^ d))))]) rfl ?_
  refine zz_reti hx hb hr hlocks hW0 hS0 ?_ dX2_mostGiving_27
  exact ⟨rfl, rfl⟩

set_option maxHeartbeats 4000000 in
set_option maxRecDepth 100000 in
theorem c_X2_mostWith (l : Launch) (G : zG) (ad : zA) (A : Nat → Prop) (N0 : Nat) (σ : zS) (nd nr : Nat) (hX : zX ad nd nr) (r t : Nat) (hr5 : r < 5) (ht : t < 2 ^ nd) (hnd : nd ≤ 8) (hdc : σ 7 0 4 = (nd : Int)) (hm : ∀ d, d < nd → -1 ≤ σ 10 r d ∧ σ 10 r d ≤ 100) (hF : ∀ t, t < 2 ^ nd → 0 ≤ σ 12 (r + 1) t ∧ σ 12 (r + 1) t ≤ 60000) : Met l yX2_mostWith wsX2_mostWith ({ frames := 1, cells := 0, slots := 0, locals := 23 }) (zP G ad A N0 σ [zr ad 7 ((0 : Nat) : Int), .int (zi ((r : Nat) : Int)), .int (zi ((t : Nat) : Int))]) (zQ G ad A zri (fun z u => σ = u ∧ ymx (σ 12 (r + 1) t) (yok (σ 10) r t) (ygv (σ 10) (σ 12 (r + 1)) r t) nd = z)) 0 0 A := by
  refine zz_of (cc := cX2_mostWith) (maxL := 5) (ret := (some .int)) (by decide) rfl ⟨rfl, rfl⟩ (List.forall_mem_cons.mpr ⟨zr_cat _ _ _, List.forall_mem_cons.mpr ⟨rfl, List.forall_mem_cons.mpr ⟨rfl, fun _ h => absurd h List.not_mem_nil⟩⟩⟩) (Nat.le_of_ble_eq_true rfl) ?_
  intro p e s m below meth c hx hb hr hml hts hown hlocks hsz hW0 hK ls hl
  have hS0 : va_S A s.heap s.heap [] := va_S.rf
  have hl : zh ls 5 [(0, zr ad 7 ((0 : Nat) : Int)), (1, .int (zi ((r : Nat) : Int))), (2, .int (zi ((t : Nat) : Int)))] := hl
  have hinX2 : ∀ w ∈ u_ws RX2 TX2 6, w ∈ wsX2_mostWith := by decide +kernel
  have h8 : (2 : Nat) ^ nd ≤ 2 ^ 8 := Nat.pow_le_pow_right (by decide) hnd
  have hgb : ∀ d, d < nd → -100 ≤ ygv (σ 10) (σ 12 (r + 1)) r t d ∧ ygv (σ 10) (σ 12 (r + 1)) r t d ≤ 80000 := fun d hd => by
    have h1 := hF _ (ysor ht hd)
    have h2 := hm d hd
    unfold ygv
    omega
  have hF0 := hF t ht
  have hxb : ∀ i, i ≤ nd → 0 ≤ ymx (σ 12 (r + 1) t) (yok (σ 10) r t) (ygv (σ 10) (σ 12 (r + 1)) r t) i ∧ ymx (σ 12 (r + 1) t) (yok (σ 10) r t) (ygv (σ 10) (σ 12 (r + 1)) r t) i ≤ 80000 := fun i hi => ymx_rg ⟨hF0.1, by omega⟩ i (fun d hd _ => (hgb d (by omega)).2)
  refine zz_aload_n hx hb hl 0 dX2_mostWith_0 rfl rfl ?_
  refine zz_get (T := TX2) (N := 6) (k := 2) (κ := 7) (w := zr ad 11 ((0 : Nat) : Int)) hx hb hts hinX2 hown hK hW0 (zlN (hX 7 0 rfl)) rfl rfl rfl (by decide) (hts (.fieldLink RX2 22 "HailCity$Matching" "mostFrom" "[[I") (by decide +kernel)) (fun _ h9 => h9) rfl dX2_mostWith_1 ?_
  refine zz_iload_n hx hb hl 1 dX2_mostWith_4 rfl rfl ?_
  refine zz_iconst hx hb dX2_mostWith_5 ?_
  refine zz_iadd hx hb dX2_mostWith_6 ?_
  refine zz_aald (w := zr ad 12 (((((r : Nat) : Int) + 1).toNat : Nat) : Int)) hx hb hK hW0 (zlN (hX 11 0 rfl)) rfl rfl (by show (0 : Int) ≤ ((r : Nat) : Int) + 1; omega) (by show (((r : Nat) : Int) + 1) < (6 : Int); omega) rfl dX2_mostWith_7 ?_
  refine zz_iload_n hx hb hl 2 dX2_mostWith_8 rfl rfl ?_
  refine zz_iald (w := σ 12 ((((r : Nat) : Int) + 1).toNat) t) hx hb hK hW0 (zlN (hX 12 ((((r : Nat) : Int) + 1).toNat) (decide_eq_true (by omega)))) rfl rfl rfl (by show (0 : Int) ≤ ((t : Nat) : Int); omega) (by show ((t : Nat) : Int) < (256 : Int); omega) rfl dX2_mostWith_9 ?_
  refine zz_istore_n (lv' := [(3, .int (zi (σ 12 ((((r : Nat) : Int) + 1).toNat) t))), (0, zr ad 7 ((0 : Nat) : Int)), (1, .int (zi ((r : Nat) : Int))), (2, .int (zi ((t : Nat) : Int)))]) hx hb hl dX2_mostWith_10 rfl (by decide) rfl (fun ls hl => ?_)
  refine zz_iconst hx hb dX2_mostWith_11 ?_
  refine zz_istore (lv' := [(4, .int (zi 0)), (3, .int (zi (σ 12 ((((r : Nat) : Int) + 1).toNat) t))), (0, zr ad 7 ((0 : Nat) : Int)), (1, .int (zi ((r : Nat) : Int))), (2, .int (zi ((t : Nat) : Int)))]) hx hb hl dX2_mostWith_12 (by decide) rfl (fun ls hl => ?_)
  have hcut14 : ∀ (n9 : Nat) (i : Nat)  (H9 : Heap) (locs9 : List Loc) (ls : Array Slot), (i ≤ nd) → (nd - i) < n9 → ZW G ad A σ H9 → va_S A s.heap H9 locs9 → zh ls 5 [(0, zr ad 7 ((0 : Nat) : Int)), (1, .int (zi ((r : Nat) : Int))), (2, .int (zi ((t : Nat) : Int))), (3, .int (zi (ymx (σ 12 (r + 1) t) (yok (σ 10) r t) (ygv (σ 10) (σ 12 (r + 1)) r t) i))), (4, .int (zi ((i : Nat) : Int)))] → W p l e ({ frames := 1, cells := 0, slots := 0, locals := 23 }) s m ([zr ad 7 ((0 : Nat) : Int), .int (zi ((r : Nat) : Int)), .int (zi ((t : Nat) : Int))] : List Value).toArray below meth c H9 locs9 0 0 (MQ below (zQ G ad A zri (fun z u => σ = u ∧ ymx (σ 12 (r + 1) t) (yok (σ 10) r t) (ygv (σ 10) (σ 12 (r + 1)) r t) nd = z)) ([zr ad 7 ((0 : Nat) : Int), .int (zi ((r : Nat) : Int)), .int (zi ((t : Nat) : Int))] : List Value).toArray s 0 0 A) (F0 m 14 ls []) := by
    intro n9
    induction n9 with
    | zero =>
      intro i H1 locs1 ls hI14 hm14 hW1 hS1 hl
      exact absurd hm14 (Nat.not_lt_zero _)
    | succ n9 ih14 =>
      intro i H1 locs1 ls hI14 hm14 hW1 hS1 hl
      have hxi := hxb i hI14
      refine zz_iload hx hb hl 4 dX2_mostWith_14 rfl ?_
      refine zz_aload_n hx hb hl 0 dX2_mostWith_16 rfl rfl ?_
      refine zz_get (T := TX2) (N := 6) (k := 4) (κ := 7) (w := .int (zi (σ 7 0 4))) hx hb hts hinX2 hown hK hW1 (zlN (hX 7 0 rfl)) rfl rfl rfl (by decide) (hts (.fieldLink RX2 29 "HailCity$Matching" "driverCount" "I") (by decide +kernel)) (fun _ h9 => h9) rfl dX2_mostWith_17 ?_
      refine zz_icmp_ge (tgt := 53) hx hb dX2_mostWith_20 (by decide) ⟨by omega, by omega⟩ (hW1.2.2.1 _ _ _) (fun hc20 => ?_) (fun hc20 => ?_)
      · refine zz_iload_n hx hb hl 3 dX2_mostWith_53 rfl rfl ?_
        refine W.eq (g2 := F0 m 54 ls [.int (zi (ymx (σ 12 (r + 1) t) (yok (σ 10) r t) (ygv (σ 10) (σ 12 (r + 1)) r t) i))]) rfl ?_
        refine zz_reti hx hb hr hlocks hW1 hS1 ?_ dX2_mostWith_54
        exact ⟨rfl, by rw [show i = nd by omega]⟩
      · refine zz_aload_n hx hb hl 0 dX2_mostWith_23 rfl rfl ?_
        refine zz_iload_n hx hb hl 1 dX2_mostWith_24 rfl rfl ?_
        refine zz_iload hx hb hl 4 dX2_mostWith_25 rfl ?_
        refine zz_iload_n hx hb hl 2 dX2_mostWith_27 rfl rfl ?_
        refine zz_callV (T := TX2) (N := 6) (As := [.int (zi ((r : Nat) : Int)), .int (zi ((i : Nat) : Int)), .int (zi ((t : Nat) : Int))]) (rest := []) (v := ((0 : Nat) : Int)) (κ := 7) ⟨hx, hb, hml, hown, hts⟩ (c_X2_canGive l G ad A N0 σ nd nr hX r i t hr5 (by omega) (by omega)) (cwV 3 hts gX2_mostWith_X2_canGive rfl rfl rfl (by decide +kernel) ⟨Nat.le_of_ble_eq_true rfl, Nat.le_of_ble_eq_true rfl⟩) hK hW1 (zlN (hX 7 0 rfl)) rfl rfl (Nat.le_trans hsz hS1.1) hS1 rfl hl.1.1 rfl (Nat.le_of_ble_eq_true rfl) dX2_mostWith_28 ⟨Nat.le_of_ble_eq_true rfl, Nat.le_of_ble_eq_true rfl⟩ (fun x2 σ2 H2 locs2 hp2 hW2 hz2 hS2 => ?_)
        obtain ⟨rfl, rfl⟩ := hp2
        refine W.eq (g2 := F0 m 31 ls [.int (zi (zb (yok (σ 10) r t i = true)))]) rfl ?_
        refine zz_if_eqb (tgt := 47) hx hb dX2_mostWith_31 (by decide) (fun hc31 => ?_) (fun hc31 => ?_)
        · refine zz_iinc (lv' := [(4, .int (zi (((i : Nat) : Int) + 1))), (0, zr ad 7 ((0 : Nat) : Int)), (1, .int (zi ((r : Nat) : Int))), (2, .int (zi ((t : Nat) : Int))), (3, .int (zi (ymx (σ 12 (r + 1) t) (yok (σ 10) r t) (ygv (σ 10) (σ 12 (r + 1)) r t) i)))]) hx hb hl dX2_mostWith_47 (k0 := 4) rfl (by decide) rfl (fun ls hl => ?_)
          refine zz_goto (tgt := 14) hx hb dX2_mostWith_50 (by decide) ?_
          refine ih14 (i + 1) H2 locs2 ls ?_ (by omega) hW2 hS2 (zh_sub hl [1, 2, 3, 4, 0] (by rw [show ymx (σ 12 (r + 1) t) (yok (σ 10) r t) (ygv (σ 10) (σ 12 (r + 1)) r t) (i + 1) = ymx (σ 12 (r + 1) t) (yok (σ 10) r t) (ygv (σ 10) (σ 12 (r + 1)) r t) i from if_neg hc31]; rfl))
          omega
        · refine zz_iload_n hx hb hl 3 dX2_mostWith_34 rfl rfl ?_
          refine zz_aload_n hx hb hl 0 dX2_mostWith_35 rfl rfl ?_
          refine zz_iload_n hx hb hl 1 dX2_mostWith_36 rfl rfl ?_
          refine zz_iload hx hb hl 4 dX2_mostWith_37 rfl ?_
          refine zz_iload_n hx hb hl 2 dX2_mostWith_39 rfl rfl ?_
          refine zz_callV (T := TX2) (N := 6) (As := [.int (zi ((r : Nat) : Int)), .int (zi ((i : Nat) : Int)), .int (zi ((t : Nat) : Int))]) (rest := [.int (zi (ymx (σ 12 (r + 1) t) (yok (σ 10) r t) (ygv (σ 10) (σ 12 (r + 1)) r t) i))]) (v := ((0 : Nat) : Int)) (κ := 7) ⟨hx, hb, hml, hown, hts⟩ (c_X2_mostGiving l G ad A N0 σ nd nr hX r i t hr5 (by omega) (by omega)) (cwV 3 hts gX2_mostWith_X2_mostGiving rfl rfl rfl (by decide +kernel) ⟨Nat.le_of_ble_eq_true rfl, Nat.le_of_ble_eq_true rfl⟩) hK hW2 (zlN (hX 7 0 rfl)) rfl rfl (Nat.le_trans hsz hS2.1) hS2 rfl hl.1.1 rfl (Nat.le_of_ble_eq_true rfl) dX2_mostWith_40 ⟨Nat.le_of_ble_eq_true rfl, Nat.le_of_ble_eq_true rfl⟩ (fun x3 σ3 H3 locs3 hp3 hW3 hz3 hS3 => ?_)
          obtain ⟨rfl, rfl⟩ := hp3
          refine W.eq (g2 := F0 m 43 ls [.int (zi (ygv (σ 10) (σ 12 (r + 1)) r t i)), .int (zi (ymx (σ 12 (r + 1) t) (yok (σ 10) r t) (ygv (σ 10) (σ 12 (r + 1)) r t) i))]) rfl ?_
          have hgi := hgb i (by omega)
          refine zz_mmax hx hb (hml.trans hl.1.1.symm) hown (hts (.methodLink RX2 48 Lib.Math.max.name) (by decide +kernel)) (hts (.static Lib.Math.max.name) (by decide +kernel)) (hts (.initialized "java/lang/Math") (by decide +kernel)) (hts (.code Lib.Math.max.name Lib.Math.max.code 2 (some .int)) (by decide +kernel)) (Nat.le_of_ble_eq_true rfl) (Nat.le_of_ble_eq_true rfl) (Nat.le_of_ble_eq_true rfl) (Nat.le_of_ble_eq_true rfl) ⟨by omega, by omega⟩ ⟨by omega, by omega⟩ dX2_mostWith_43 ?_
          refine zz_istore_n (lv' := [(3, .int (zi (max (ymx (σ 12 (r + 1) t) (yok (σ 10) r t) (ygv (σ 10) (σ 12 (r + 1)) r t) i) (ygv (σ 10) (σ 12 (r + 1)) r t i)))), (0, zr ad 7 ((0 : Nat) : Int)), (1, .int (zi ((r : Nat) : Int))), (2, .int (zi ((t : Nat) : Int))), (4, .int (zi ((i : Nat) : Int)))]) hx hb hl dX2_mostWith_46 rfl (by decide) rfl (fun ls hl => ?_)
          refine zz_iinc (lv' := [(4, .int (zi (((i : Nat) : Int) + 1))), (3, .int (zi (max (ymx (σ 12 (r + 1) t) (yok (σ 10) r t) (ygv (σ 10) (σ 12 (r + 1)) r t) i) (ygv (σ 10) (σ 12 (r + 1)) r t i)))), (0, zr ad 7 ((0 : Nat) : Int)), (1, .int (zi ((r : Nat) : Int))), (2, .int (zi ((t : Nat) : Int)))]) hx hb hl dX2_mostWith_47 (k0 := 4) rfl (by decide) rfl (fun ls hl => ?_)
          refine zz_goto (tgt := 14) hx hb dX2_mostWith_50 (by decide) ?_
          refine ih14 (i + 1) H3 locs3 ls ?_ (by omega) hW3 hS3 (zh_sub hl [2, 3, 4, 1, 0] (by rw [show ymx (σ 12 (r + 1) t) (yok (σ 10) r t) (ygv (σ 10) (σ 12 (r + 1)) r t) (i + 1) = max (ymx (σ 12 (r + 1) t) (yok (σ 10) r t) (ygv (σ 10) (σ 12 (r + 1)) r t) i) (ygv (σ 10) (σ 12 (r + 1)) r t i) from if_pos hc31]; rfl))
          omega
  refine hcut14 _ 0 s.heap [] ls ?_ (Nat.lt_succ_self _) hW0 hS0 (zh_sub hl [2, 3, 4, 1, 0] rfl)
  exact Nat.zero_le _

/-- the first of n that P holds of, or -1 -/
def yfi (P : Nat → Bool) : Nat → Int
  | 0 => -1
  | d + 1 => if yfi P d ≠ -1 then yfi P d else if P d = true then (d : Int) else -1
theorem yfi_s {P : Nat → Bool} {d : Nat} (h : yfi P d = -1) : yfi P (d + 1) = if P d = true then (d : Int) else -1 := if_neg (fun q => q h)
theorem yfi_up {P : Nat → Bool} {d : Nat} (h : yfi P d ≠ -1) : ∀ n, d ≤ n → yfi P n = yfi P d
  | 0, hn => by rw [show d = 0 by omega]
  | n + 1, hn => by
    by_cases e : d = n + 1
    · rw [e]
    · have ih := yfi_up h n (by omega)
      show (if yfi P n ≠ -1 then yfi P n else _) = _
      rw [ih, if_pos h]
def yoD (n d : Nat) (mn : Nat → Nat → Int) (f : Nat → Int) (g : Nat) : Int := ymx (f g) (fun r => decide (yrm g r ≠ g) && decide (f (yrm g r) ≠ -1) && decide (mn r d ≠ -1)) (fun r => f (yrm g r) + 10000 - mn r d) n
def yD (mn : Nat → Nat → Int) (n : Nat) : Nat → Nat → Int
  | 0, g => if g = 0 then 0 else -1
  | d + 1, g => if g = 0 then yD mn n d 0 else yoD n d mn (yD mn n d) g
theorem yD_rg {mn : Nat → Nat → Int} {nd n : Nat} (hm : ∀ r d, r < n → d < nd → -1 ≤ mn r d) : ∀ d, d ≤ nd → ∀ g, -1 ≤ yD mn n d g ∧ yD mn n d g ≤ 10001 * d
  | 0, _, g => by
    show -1 ≤ (if g = 0 then (0 : Int) else -1) ∧ (if g = 0 then (0 : Int) else -1) ≤ _
    split <;> omega
  | d + 1, hd, g => by
    have ih := yD_rg hm d (by omega)
    show -1 ≤ (if g = 0 then yD mn n d 0 else yoD n d mn (yD mn n d) g) ∧ (if g = 0 then yD mn n d 0 else yoD n d mn (yD mn n d) g) ≤ _
    split
    · have := ih 0
      omega
    · refine ymx_rg ⟨(ih g).1, by have := (ih g).2; omega⟩ n (fun r hr _ => ?_)
      have h1 := (ih (yrm g r)).2
      have h2 := hm r d hr (by omega)
      omega

set_option maxHeartbeats 4000000 in
set_option maxRecDepth 100000 in
theorem c_X2_mostByRequests (l : Launch) (G : zG) (ad : zA) (A : Nat → Prop) (N0 : Nat) (σ : zS) (nd nr : Nat) (hX : zX ad nd nr) (n : Nat) (hnd : nd ≤ 8) (hdc : σ 7 0 4 = (nd : Int)) (hcn : σ 7 0 5 = (n : Int)) (hn5 : n ≤ 5) (hm : ∀ r d, r < n → d < nd → -1 ≤ σ 10 r d ∧ σ 10 r d ≤ 100) : Met l yX2_mostByRequests wsX2_mostByRequests ({ frames := 2, cells := 0, slots := 0, locals := 47 }) (zP G ad A N0 σ [zr ad 7 ((0 : Nat) : Int)]) (zQ G ad A zri (fun z u => yB (σ 10) nd n n 0 = z ∧ (∀ k, k ≤ n → ∀ t, t < 2 ^ nd → u 12 (n - k) t = yB (σ 10) nd n k t) ∧ zfr (fun κ _ _ => κ = 12) σ u)) 0 0 A := by
  refine zz_of (cc := cX2_mostByRequests) (maxL := 4) (ret := (some .int)) (by decide) rfl ⟨rfl, rfl⟩ (List.forall_mem_cons.mpr ⟨zr_cat _ _ _, fun _ h => absurd h List.not_mem_nil⟩) (Nat.le_of_ble_eq_true rfl) ?_
  intro p e s m below meth c hx hb hr hml hts hown hlocks hsz hW0 hK ls hl
  have hS0 : va_S A s.heap s.heap [] := va_S.rf
  have hl : zh ls 4 [(0, zr ad 7 ((0 : Nat) : Int))] := hl
  have hinX2 : ∀ w ∈ u_ws RX2 TX2 6, w ∈ wsX2_mostByRequests := by decide +kernel
  have h8 : (2 : Nat) ^ nd ≤ 2 ^ 8 := Nat.pow_le_pow_right (by decide) hnd
  have hmm : ∀ r d, r < n → d < nd → -1 ≤ σ 10 r d := fun r d h1 h2 => (hm r d h1 h2).1
  have hyb := yB_rg (nd := nd) hmm
  refine zz_iconst hx hb dX2_mostByRequests_0 ?_
  refine zz_aload_n hx hb hl 0 dX2_mostByRequests_1 rfl rfl ?_
  refine zz_get (T := TX2) (N := 6) (k := 4) (κ := 7) (w := .int (zi ((nd : Nat) : Int))) hx hb hts hinX2 hown hK hW0 (zlN (hX 7 0 rfl)) rfl rfl rfl (by decide) (hts (.fieldLink RX2 29 "HailCity$Matching" "driverCount" "I") (by decide +kernel)) (fun _ h9 => h9) (congrArg (fun z => Value.int (zi z)) (show σ 7 0 4 = ((nd : Nat) : Int) from by rw [hdc])) dX2_mostByRequests_2 ?_
  refine zz_ishl (w := ((2 ^ nd : Nat) : Int)) hx hb (zi_shl1 nd (by omega)) dX2_mostByRequests_5 ?_
  refine zz_istore_n (lv' := [(1, .int (zi ((2 ^ nd : Nat) : Int))), (0, zr ad 7 ((0 : Nat) : Int))]) hx hb hl dX2_mostByRequests_6 rfl (by decide) rfl (fun ls hl => ?_)
  refine zz_iconst hx hb dX2_mostByRequests_7 ?_
  refine zz_istore_n (lv' := [(2, .int (zi 0)), (1, .int (zi ((2 ^ nd : Nat) : Int))), (0, zr ad 7 ((0 : Nat) : Int))]) hx hb hl dX2_mostByRequests_8 rfl (by decide) rfl (fun ls hl => ?_)
  have hcut9 : ∀ (n9 : Nat) (t : Nat)  (σ9 : zS) (H9 : Heap) (locs9 : List Loc) (ls : Array Slot), (t ≤ 2 ^ nd ∧ (∀ i, i < t → σ9 12 n i = 0) ∧ zfr (fun κ _ _ => κ = 12) σ σ9) → (2 ^ nd - t) < n9 → ZW G ad A σ9 H9 → va_S A s.heap H9 locs9 → zh ls 4 [(0, zr ad 7 ((0 : Nat) : Int)), (1, .int (zi ((2 ^ nd : Nat) : Int))), (2, .int (zi ((t : Nat) : Int)))] → W p l e ({ frames := 2, cells := 0, slots := 0, locals := 47 }) s m ([zr ad 7 ((0 : Nat) : Int)] : List Value).toArray below meth c H9 locs9 0 0 (MQ below (zQ G ad A zri (fun z u => yB (σ 10) nd n n 0 = z ∧ (∀ k, k ≤ n → ∀ t, t < 2 ^ nd → u 12 (n - k) t = yB (σ 10) nd n k t) ∧ zfr (fun κ _ _ => κ = 12) σ u)) ([zr ad 7 ((0 : Nat) : Int)] : List Value).toArray s 0 0 A) (F0 m 9 ls []) := by
    intro n9
    induction n9 with
    | zero =>
      intro t σ1 H1 locs1 ls hI9 hm9 hW1 hS1 hl
      exact absurd hm9 (Nat.not_lt_zero _)
    | succ n9 ih9 =>
      intro t σ1 H1 locs1 ls hI9 hm9 hW1 hS1 hl
      obtain ⟨ha0, ha1, ha2⟩ := hI9
      refine zz_iload_n hx hb hl 2 dX2_mostByRequests_9 rfl rfl ?_
      refine zz_iload_n hx hb hl 1 dX2_mostByRequests_10 rfl rfl ?_
      refine zz_icmp_ge (tgt := 32) hx hb dX2_mostByRequests_11 (by decide) ⟨by omega, by omega⟩ ⟨by omega, by omega⟩ (fun hc11 => ?_) (fun hc11 => ?_)
      · refine zz_aload_n hx hb hl 0 dX2_mostByRequests_32 rfl rfl ?_
        refine zz_get (T := TX2) (N := 6) (k := 5) (κ := 7) (w := .int (zi ((n : Nat) : Int))) hx hb hts hinX2 hown hK hW1 (zlN (hX 7 0 rfl)) rfl rfl rfl (by decide) (hts (.fieldLink RX2 33 "HailCity$Matching" "count" "I") (by decide +kernel)) (fun _ h9 => h9) (congrArg (fun z => Value.int (zi z)) (show σ1 7 0 5 = ((n : Nat) : Int) from by rw [ha2 7 0 5 (by omega), hcn])) dX2_mostByRequests_33 ?_
        refine zz_iconst hx hb dX2_mostByRequests_36 ?_
        refine zz_isub hx hb dX2_mostByRequests_37 ?_
        refine zz_istore_n (lv' := [(2, .int (zi (((n : Nat) : Int) - 1))), (0, zr ad 7 ((0 : Nat) : Int)), (1, .int (zi ((2 ^ nd : Nat) : Int)))]) hx hb hl dX2_mostByRequests_38 rfl (by decide) rfl (fun ls hl => ?_)
        have hcut39 : ∀ (n9 : Nat) (r : Int)  (σ9 : zS) (H9 : Heap) (locs9 : List Loc) (ls : Array Slot), (-1 ≤ r ∧ r < n ∧ (∀ k : Nat, (k : Int) + r + 1 ≤ n → ∀ t, t < 2 ^ nd → σ9 12 (n - k) t = yB (σ 10) nd n k t) ∧ zfr (fun κ _ _ => κ = 12) σ1 σ9) → ((r + 1).toNat) < n9 → ZW G ad A σ9 H9 → va_S A s.heap H9 locs9 → zh ls 4 [(0, zr ad 7 ((0 : Nat) : Int)), (1, .int (zi ((2 ^ nd : Nat) : Int))), (2, .int (zi r))] → W p l e ({ frames := 2, cells := 0, slots := 0, locals := 47 }) s m ([zr ad 7 ((0 : Nat) : Int)] : List Value).toArray below meth c H9 locs9 0 0 (MQ below (zQ G ad A zri (fun z u => yB (σ 10) nd n n 0 = z ∧ (∀ k, k ≤ n → ∀ t, t < 2 ^ nd → u 12 (n - k) t = yB (σ 10) nd n k t) ∧ zfr (fun κ _ _ => κ = 12) σ u)) ([zr ad 7 ((0 : Nat) : Int)] : List Value).toArray s 0 0 A) (F0 m 39 ls []) := by
          intro n9
          induction n9 with
          | zero =>
            intro r σ2 H2 locs2 ls hI39 hm39 hW2 hS2 hl
            exact absurd hm39 (Nat.not_lt_zero _)
          | succ n9 ih39 =>
            intro r σ2 H2 locs2 ls hI39 hm39 hW2 hS2 hl
            obtain ⟨hb0, hb1, hb2, hb3⟩ := hI39
            refine zz_iload_n hx hb hl 2 dX2_mostByRequests_39 rfl rfl ?_
            refine zz_if_lt (tgt := 76) hx hb dX2_mostByRequests_40 (by decide) ⟨by omega, by omega⟩ (fun hc40 => ?_) (fun hc40 => ?_)
            · refine zz_aload_n hx hb hl 0 dX2_mostByRequests_76 rfl rfl ?_
              refine zz_get (T := TX2) (N := 6) (k := 2) (κ := 7) (w := zr ad 11 ((0 : Nat) : Int)) hx hb hts hinX2 hown hK hW2 (zlN (hX 7 0 rfl)) rfl rfl rfl (by decide) (hts (.fieldLink RX2 22 "HailCity$Matching" "mostFrom" "[[I") (by decide +kernel)) (fun _ h9 => h9) rfl dX2_mostByRequests_77 ?_
              refine zz_iconst hx hb dX2_mostByRequests_80 ?_
              refine zz_aald (w := zr ad 12 ((0 : Nat) : Int)) hx hb hK hW2 (zlN (hX 11 0 rfl)) rfl rfl (by show (0 : Int) ≤ 0; omega) (by show 0 < (6 : Int); omega) rfl dX2_mostByRequests_81 ?_
              refine zz_iconst hx hb dX2_mostByRequests_82 ?_
              refine zz_iald (w := σ2 12 0 0) hx hb hK hW2 (zlN (hX 12 0 rfl)) rfl rfl rfl (by show (0 : Int) ≤ 0; omega) (by show 0 < (256 : Int); omega) rfl dX2_mostByRequests_83 ?_
              refine W.eq (g2 := F0 m 84 ls [.int (zi (σ2 12 0 0))]) rfl ?_
              refine zz_reti hx hb hr hlocks hW2 hS2 ?_ dX2_mostByRequests_84
              exact ⟨by rw [← hb2 n (by omega) 0 (Nat.two_pow_pos nd), Nat.sub_self], fun k hk => hb2 k (by omega), fun κ i k hn => by rw [hb3 _ _ _ hn]; exact ha2 _ _ _ hn⟩
            · obtain ⟨r0, rfl⟩ : ∃ r0 : Nat, r = (r0 : Int) := ⟨r.toNat, by omega⟩
              refine zz_iconst hx hb dX2_mostByRequests_43 ?_
              refine zz_istore_n (lv' := [(3, .int (zi 0)), (0, zr ad 7 ((0 : Nat) : Int)), (1, .int (zi ((2 ^ nd : Nat) : Int))), (2, .int (zi ((r0 : Nat) : Int)))]) hx hb hl dX2_mostByRequests_44 rfl (by decide) rfl (fun ls hl => ?_)
              have hcut45 : ∀ (n9 : Nat) (t : Nat)  (σ9 : zS) (H9 : Heap) (locs9 : List Loc) (ls : Array Slot), (t ≤ 2 ^ nd ∧ (∀ i, i < t → σ9 12 r0 i = yB (σ 10) nd n (n - r0) i) ∧ (∀ k : Nat, (k : Int) + r0 + 1 ≤ n → ∀ t, t < 2 ^ nd → σ9 12 (n - k) t = yB (σ 10) nd n k t) ∧ zfr (fun κ _ _ => κ = 12) σ2 σ9) → (2 ^ nd - t) < n9 → ZW G ad A σ9 H9 → va_S A s.heap H9 locs9 → zh ls 4 [(0, zr ad 7 ((0 : Nat) : Int)), (1, .int (zi ((2 ^ nd : Nat) : Int))), (2, .int (zi ((r0 : Nat) : Int))), (3, .int (zi ((t : Nat) : Int)))] → W p l e ({ frames := 2, cells := 0, slots := 0, locals := 47 }) s m ([zr ad 7 ((0 : Nat) : Int)] : List Value).toArray below meth c H9 locs9 0 0 (MQ below (zQ G ad A zri (fun z u => yB (σ 10) nd n n 0 = z ∧ (∀ k, k ≤ n → ∀ t, t < 2 ^ nd → u 12 (n - k) t = yB (σ 10) nd n k t) ∧ zfr (fun κ _ _ => κ = 12) σ u)) ([zr ad 7 ((0 : Nat) : Int)] : List Value).toArray s 0 0 A) (F0 m 45 ls []) := by
                intro n9
                induction n9 with
                | zero =>
                  intro t σ3 H3 locs3 ls hI45 hm45 hW3 hS3 hl
                  exact absurd hm45 (Nat.not_lt_zero _)
                | succ n9 ih45 =>
                  intro t σ3 H3 locs3 ls hI45 hm45 hW3 hS3 hl
                  obtain ⟨hd0, hd1, hd2, hd3⟩ := hI45
                  refine zz_iload_n hx hb hl 3 dX2_mostByRequests_45 rfl rfl ?_
                  refine zz_iload_n hx hb hl 1 dX2_mostByRequests_46 rfl rfl ?_
                  refine zz_icmp_ge (tgt := 70) hx hb dX2_mostByRequests_47 (by decide) ⟨by omega, by omega⟩ ⟨by omega, by omega⟩ (fun hc47 => ?_) (fun hc47 => ?_)
                  · refine zz_iinc (lv' := [(2, .int (zi (((r0 : Nat) : Int) + (-1)))), (0, zr ad 7 ((0 : Nat) : Int)), (1, .int (zi ((2 ^ nd : Nat) : Int))), (3, .int (zi ((t : Nat) : Int)))]) hx hb hl dX2_mostByRequests_70 (k0 := 2) rfl (by decide) rfl (fun ls hl => ?_)
                    refine zz_goto (tgt := 39) hx hb dX2_mostByRequests_73 (by decide) ?_
                    refine ih39 ((r0 : Int) + (-1)) σ3 H3 locs3 ls ?_ (by omega) hW3 hS3 (zh_sub hl [1, 2, 0] rfl)
                    refine ⟨by omega, by omega, fun k hk i hi => ?_, fun κ i k hn => by rw [hd3 _ _ _ hn]; exact hb3 _ _ _ hn⟩
                    by_cases h : (k : Int) + r0 + 1 ≤ n
                    · exact hd2 k h i hi
                    · rw [show n - k = r0 by omega, hd1 i (by omega), show n - r0 = k by omega]
                  · refine zz_aload_n hx hb hl 0 dX2_mostByRequests_50 rfl rfl ?_
                    refine zz_get (T := TX2) (N := 6) (k := 2) (κ := 7) (w := zr ad 11 ((0 : Nat) : Int)) hx hb hts hinX2 hown hK hW3 (zlN (hX 7 0 rfl)) rfl rfl rfl (by decide) (hts (.fieldLink RX2 22 "HailCity$Matching" "mostFrom" "[[I") (by decide +kernel)) (fun _ h9 => h9) rfl dX2_mostByRequests_51 ?_
                    refine zz_iload_n hx hb hl 2 dX2_mostByRequests_54 rfl rfl ?_
                    refine zz_aald (w := zr ad 12 ((r0 : Nat) : Int)) hx hb hK hW3 (zlN (hX 11 0 rfl)) rfl rfl (by show (0 : Int) ≤ ((r0 : Nat) : Int); omega) (by show ((r0 : Nat) : Int) < (6 : Int); omega) rfl dX2_mostByRequests_55 ?_
                    refine zz_iload_n hx hb hl 3 dX2_mostByRequests_56 rfl rfl ?_
                    refine zz_aload_n hx hb hl 0 dX2_mostByRequests_57 rfl rfl ?_
                    refine zz_iload_n hx hb hl 2 dX2_mostByRequests_58 rfl rfl ?_
                    refine zz_iload_n hx hb hl 3 dX2_mostByRequests_59 rfl rfl ?_
                    
                    refine zz_callV (T := TX2) (N := 6) (As := [.int (zi ((r0 : Nat) : Int)), .int (zi ((t : Nat) : Int))]) (rest := [.int (zi ((t : Nat) : Int)), zr ad 12 ((r0 : Nat) : Int)]) (v := ((0 : Nat) : Int)) (κ := 7) ⟨hx, hb, hml, hown, hts⟩ (c_X2_mostWith l G ad A N0 σ3 nd nr hX r0 t (by omega) (by omega) hnd (by rw [hd3 7 0 4 (by omega), hb3 7 0 4 (by omega), ha2 7 0 4 (by omega)]; exact hdc) (fun d hd => by rw [hd3 10 r0 d (by omega), hb3 10 r0 d (by omega), ha2 10 r0 d (by omega)]; exact hm r0 d (by omega) hd) (fun i hi => by have h1 := hd2 (n - (r0 + 1)) (by omega) i hi; rw [show n - (n - (r0 + 1)) = r0 + 1 by omega] at h1; rw [h1]; have h2 := hyb (n - (r0 + 1)) (by omega) i; omega)) (cwV 2 hts gX2_mostByRequests_X2_mostWith rfl rfl rfl (by decide +kernel) ⟨Nat.le_of_ble_eq_true rfl, Nat.le_of_ble_eq_true rfl⟩) hK hW3 (zlN (hX 7 0 rfl)) rfl rfl (Nat.le_trans hsz hS3.1) hS3 rfl hl.1.1 rfl (by simp [zr_cat, zcat_i]) dX2_mostByRequests_60 ⟨Nat.le_of_ble_eq_true rfl, Nat.le_of_ble_eq_true rfl⟩ (fun x4 σ4 H4 locs4 hp4 hW4 hz4 hS4 => ?_)
                    obtain ⟨rfl, rfl⟩ := hp4
                    have e10 : σ3 10 = σ 10 := funext fun a => funext fun b => by rw [hd3 10 a b (by omega), hb3 10 a b (by omega), ha2 10 a b (by omega)]
                    have e12 : ∀ i, i < 2 ^ nd → σ3 12 (r0 + 1) i = yB (σ 10) nd n (n - (r0 + 1)) i := fun i hi => by
                      have h1 := hd2 (n - (r0 + 1)) (by omega) i hi
                      rw [show n - (n - (r0 + 1)) = r0 + 1 by omega] at h1
                      exact h1
                    have hres : ymx (σ3 12 (r0 + 1) t) (yok (σ3 10) r0 t) (ygv (σ3 10) (σ3 12 (r0 + 1)) r0 t) nd = yB (σ 10) nd n (n - r0) t := by
                      rw [show n - r0 = (n - (r0 + 1)) + 1 by omega]
                      show _ = ymx (yB (σ 10) nd n (n - (r0 + 1)) t) (yok (σ 10) (n - (n - (r0 + 1) + 1)) t) (ygv (σ 10) (yB (σ 10) nd n (n - (r0 + 1))) (n - (n - (r0 + 1) + 1)) t) nd
                      rw [show n - (n - (r0 + 1) + 1) = r0 by omega, e10]
                      exact ymx_congr (e12 t (by omega)) nd (fun d hd _ => by unfold ygv; rw [e12 _ (ysor (by omega) hd)])
                    have hgres : zg (ymx (σ3 12 (r0 + 1) t) (yok (σ3 10) r0 t) (ygv (σ3 10) (σ3 12 (r0 + 1)) r0 t) nd) := by
                      rw [hres]
                      have h2 := hyb (n - r0) (by omega) t
                      exact ⟨by omega, by omega⟩
                    refine W.eq (g2 := F0 m 63 ls [.int (zi (ymx (σ3 12 (r0 + 1) t) (yok (σ3 10) r0 t) (ygv (σ3 10) (σ3 12 (r0 + 1)) r0 t) nd)), .int (zi ((t : Nat) : Int)), zr ad 12 ((r0 : Nat) : Int)]) rfl ?_
                    refine zz_iast (y := (ymx (σ3 12 (r0 + 1) t) (yok (σ3 10) r0 t) (ygv (σ3 10) (σ3 12 (r0 + 1)) r0 t) nd)) hx hb hK hW4 hS4 (zlN (hX 12 r0 (decide_eq_true (by omega)))) rfl rfl rfl (by show (0 : Int) ≤ ((t : Nat) : Int); omega) (by show ((t : Nat) : Int) < (256 : Int); omega) hgres dX2_mostByRequests_63 (fun H5 locs5 hW5' hS5 => ?_)
                    obtain ⟨σ5, hs5⟩ : ∃ z, z = zu σ3 12 r0 t (ymx (σ3 12 (r0 + 1) t) (yok (σ3 10) r0 t) (ygv (σ3 10) (σ3 12 (r0 + 1)) r0 t) nd) := ⟨_, rfl⟩
                    have hW5 : ZW G ad A σ5 H5 := by rw [hs5]; exact hW5'
                    refine zz_iinc (lv' := [(3, .int (zi (((t : Nat) : Int) + 1))), (0, zr ad 7 ((0 : Nat) : Int)), (1, .int (zi ((2 ^ nd : Nat) : Int))), (2, .int (zi ((r0 : Nat) : Int)))]) hx hb hl dX2_mostByRequests_64 (k0 := 3) rfl (by decide) rfl (fun ls hl => ?_)
                    refine zz_goto (tgt := 45) hx hb dX2_mostByRequests_67 (by decide) ?_
                    refine ih45 (t + 1) σ5 H5 locs5 ls ?_ (by omega) hW5 hS5 (zh_sub hl [1, 2, 3, 0] rfl)
                    refine ⟨by omega, fun i hi => ?_, fun k hk i hi => ?_, fun κ' i' k' hn => ?_⟩
                    · rw [hs5]
                      by_cases h : i = t
                      · rw [h, zu_same, hres]
                      · rw [zu_s h]; exact hd1 i (by omega)
                    · rw [hs5, zu_i (by omega)]
                      exact hd2 k hk i hi
                    · rw [hs5, zu_ne (by omega)]
                      exact hd3 _ _ _ hn
              refine hcut45 _ 0 σ2 H2 locs2 ls ?_ (Nat.lt_succ_self _) hW2 hS2 (zh_sub hl [1, 2, 3, 0] rfl)
              exact ⟨Nat.zero_le _, fun i hi => absurd hi (Nat.not_lt_zero i), hb2, fun _ _ _ _ => rfl⟩
        refine hcut39 _ ((n : Int) - 1) σ1 H1 locs1 ls ?_ (Nat.lt_succ_self _) hW1 hS1 (zh_sub hl [1, 2, 0] rfl)
        refine ⟨by omega, by omega, fun k hk i hi => ?_, fun _ _ _ _ => rfl⟩
        rw [show n - k = n by omega, show k = 0 by omega]
        exact ha1 i (by omega)
      · refine zz_aload_n hx hb hl 0 dX2_mostByRequests_14 rfl rfl ?_
        refine zz_get (T := TX2) (N := 6) (k := 2) (κ := 7) (w := zr ad 11 ((0 : Nat) : Int)) hx hb hts hinX2 hown hK hW1 (zlN (hX 7 0 rfl)) rfl rfl rfl (by decide) (hts (.fieldLink RX2 22 "HailCity$Matching" "mostFrom" "[[I") (by decide +kernel)) (fun _ h9 => h9) rfl dX2_mostByRequests_15 ?_
        refine zz_aload_n hx hb hl 0 dX2_mostByRequests_18 rfl rfl ?_
        refine zz_get (T := TX2) (N := 6) (k := 5) (κ := 7) (w := .int (zi ((n : Nat) : Int))) hx hb hts hinX2 hown hK hW1 (zlN (hX 7 0 rfl)) rfl rfl rfl (by decide) (hts (.fieldLink RX2 33 "HailCity$Matching" "count" "I") (by decide +kernel)) (fun _ h9 => h9) (congrArg (fun z => Value.int (zi z)) (show σ1 7 0 5 = ((n : Nat) : Int) from by rw [ha2 7 0 5 (by omega), hcn])) dX2_mostByRequests_19 ?_
        refine zz_aald (w := zr ad 12 ((n : Nat) : Int)) hx hb hK hW1 (zlN (hX 11 0 rfl)) rfl rfl (by show (0 : Int) ≤ ((n : Nat) : Int); omega) (by show ((n : Nat) : Int) < (6 : Int); omega) rfl dX2_mostByRequests_22 ?_
        refine zz_iload_n hx hb hl 2 dX2_mostByRequests_23 rfl rfl ?_
        refine zz_iconst hx hb dX2_mostByRequests_24 ?_
        refine zz_iast (y := 0) hx hb hK hW1 hS1 (zlN (hX 12 n (decide_eq_true (by omega)))) rfl rfl rfl (by show (0 : Int) ≤ ((t : Nat) : Int); omega) (by show ((t : Nat) : Int) < (256 : Int); omega) ⟨by decide, by decide⟩ dX2_mostByRequests_25 (fun H6 locs6 hW6' hS6 => ?_)
        obtain ⟨σ6, hs6⟩ : ∃ z, z = zu σ1 12 n t 0 := ⟨_, rfl⟩
        have hW6 : ZW G ad A σ6 H6 := by rw [hs6]; exact hW6'
        refine zz_iinc (lv' := [(2, .int (zi (((t : Nat) : Int) + 1))), (0, zr ad 7 ((0 : Nat) : Int)), (1, .int (zi ((2 ^ nd : Nat) : Int)))]) hx hb hl dX2_mostByRequests_26 (k0 := 2) rfl (by decide) rfl (fun ls hl => ?_)
        refine zz_goto (tgt := 9) hx hb dX2_mostByRequests_29 (by decide) ?_
        refine ih9 (t + 1) σ6 H6 locs6 ls ?_ (by omega) hW6 hS6 (zh_sub hl [1, 2, 0] rfl)
        refine ⟨by omega, fun i hi => ?_, fun κ' i' k' hn => ?_⟩
        · rw [hs6]
          by_cases h : i = t
          · rw [h, zu_same]
          · rw [zu_s h]; exact ha1 i (by omega)
        · rw [hs6, zu_ne (by omega)]
          exact ha2 _ _ _ hn
  refine hcut9 _ 0 σ s.heap [] ls ?_ (Nat.lt_succ_self _) hW0 hS0 (zh_sub hl [2, 1, 0] rfl)
  exact ⟨Nat.zero_le _, fun i hi => absurd hi (Nat.not_lt_zero i), fun _ _ _ _ => rfl⟩

set_option maxHeartbeats 4000000 in
set_option maxRecDepth 100000 in
theorem c_X2_chosenDriver (l : Launch) (G : zG) (ad : zA) (A : Nat → Prop) (N0 : Nat) (σ : zS) (nd nr : Nat) (hX : zX ad nd nr) (r t : Nat) (hr5 : r < 5) (ht : t < 2 ^ nd) (hnd : nd ≤ 8) (hdc : σ 7 0 4 = (nd : Int)) (hm : ∀ d, d < nd → -1 ≤ σ 10 r d ∧ σ 10 r d ≤ 100) (hF : ∀ t, t < 2 ^ nd → 0 ≤ σ 12 (r + 1) t ∧ σ 12 (r + 1) t ≤ 60000) : Met l yX2_chosenDriver wsX2_chosenDriver ({ frames := 1, cells := 0, slots := 0, locals := 23 }) (zP G ad A N0 σ [zr ad 7 ((0 : Nat) : Int), .int (zi ((r : Nat) : Int)), .int (zi ((t : Nat) : Int))]) (zQ G ad A zri (fun z u => σ = u ∧ yfi (fun i => yok (σ 10) r t i && decide (ygv (σ 10) (σ 12 (r + 1)) r t i = σ 12 r t)) nd = z)) 0 0 A := by
  refine zz_of (cc := cX2_chosenDriver) (maxL := 4) (ret := (some .int)) (by decide) rfl ⟨rfl, rfl⟩ (List.forall_mem_cons.mpr ⟨zr_cat _ _ _, List.forall_mem_cons.mpr ⟨rfl, List.forall_mem_cons.mpr ⟨rfl, fun _ h => absurd h List.not_mem_nil⟩⟩⟩) (Nat.le_of_ble_eq_true rfl) ?_
  intro p e s m below meth c hx hb hr hml hts hown hlocks hsz hW0 hK ls hl
  have hS0 : va_S A s.heap s.heap [] := va_S.rf
  have hl : zh ls 4 [(0, zr ad 7 ((0 : Nat) : Int)), (1, .int (zi ((r : Nat) : Int))), (2, .int (zi ((t : Nat) : Int)))] := hl
  have hinX2 : ∀ w ∈ u_ws RX2 TX2 6, w ∈ wsX2_chosenDriver := by decide +kernel
  have h8 : (2 : Nat) ^ nd ≤ 2 ^ 8 := Nat.pow_le_pow_right (by decide) hnd
  refine zz_iconst hx hb dX2_chosenDriver_0 ?_
  refine zz_istore_n (lv' := [(3, .int (zi 0)), (0, zr ad 7 ((0 : Nat) : Int)), (1, .int (zi ((r : Nat) : Int))), (2, .int (zi ((t : Nat) : Int)))]) hx hb hl dX2_chosenDriver_1 rfl (by decide) rfl (fun ls hl => ?_)
  have hcut2 : ∀ (n9 : Nat) (i : Nat)  (H9 : Heap) (locs9 : List Loc) (ls : Array Slot), (i ≤ nd ∧ yfi (fun i => yok (σ 10) r t i && decide (ygv (σ 10) (σ 12 (r + 1)) r t i = σ 12 r t)) i = -1) → (nd - i) < n9 → ZW G ad A σ H9 → va_S A s.heap H9 locs9 → zh ls 4 [(0, zr ad 7 ((0 : Nat) : Int)), (1, .int (zi ((r : Nat) : Int))), (2, .int (zi ((t : Nat) : Int))), (3, .int (zi ((i : Nat) : Int)))] → W p l e ({ frames := 1, cells := 0, slots := 0, locals := 23 }) s m ([zr ad 7 ((0 : Nat) : Int), .int (zi ((r : Nat) : Int)), .int (zi ((t : Nat) : Int))] : List Value).toArray below meth c H9 locs9 0 0 (MQ below (zQ G ad A zri (fun z u => σ = u ∧ yfi (fun i => yok (σ 10) r t i && decide (ygv (σ 10) (σ 12 (r + 1)) r t i = σ 12 r t)) nd = z)) ([zr ad 7 ((0 : Nat) : Int), .int (zi ((r : Nat) : Int)), .int (zi ((t : Nat) : Int))] : List Value).toArray s 0 0 A) (F0 m 2 ls []) := by
    intro n9
    induction n9 with
    | zero =>
      intro i H1 locs1 ls hI2 hm2 hW1 hS1 hl
      exact absurd hm2 (Nat.not_lt_zero _)
    | succ n9 ih2 =>
      intro i H1 locs1 ls hI2 hm2 hW1 hS1 hl
      obtain ⟨hi1, hi2⟩ := hI2
      refine zz_iload_n hx hb hl 3 dX2_chosenDriver_2 rfl rfl ?_
      refine zz_aload_n hx hb hl 0 dX2_chosenDriver_3 rfl rfl ?_
      refine zz_get (T := TX2) (N := 6) (k := 4) (κ := 7) (w := .int (zi (σ 7 0 4))) hx hb hts hinX2 hown hK hW1 (zlN (hX 7 0 rfl)) rfl rfl rfl (by decide) (hts (.fieldLink RX2 29 "HailCity$Matching" "driverCount" "I") (by decide +kernel)) (fun _ h9 => h9) rfl dX2_chosenDriver_4 ?_
      refine zz_icmp_ge (tgt := 46) hx hb dX2_chosenDriver_7 (by decide) ⟨by omega, by omega⟩ (hW1.2.2.1 _ _ _) (fun hc7 => ?_) (fun hc7 => ?_)
      · refine zz_iconst hx hb dX2_chosenDriver_46 ?_
        refine W.eq (g2 := F0 m 47 ls [.int (zi (-1))]) rfl ?_
        refine zz_reti hx hb hr hlocks hW1 hS1 ?_ dX2_chosenDriver_47
        exact ⟨rfl, by rw [show nd = i by omega]; exact hi2⟩
      · refine zz_aload_n hx hb hl 0 dX2_chosenDriver_10 rfl rfl ?_
        refine zz_iload_n hx hb hl 1 dX2_chosenDriver_11 rfl rfl ?_
        refine zz_iload_n hx hb hl 3 dX2_chosenDriver_12 rfl rfl ?_
        refine zz_iload_n hx hb hl 2 dX2_chosenDriver_13 rfl rfl ?_
        refine zz_callV (T := TX2) (N := 6) (As := [.int (zi ((r : Nat) : Int)), .int (zi ((i : Nat) : Int)), .int (zi ((t : Nat) : Int))]) (rest := []) (v := ((0 : Nat) : Int)) (κ := 7) ⟨hx, hb, hml, hown, hts⟩ (c_X2_canGive l G ad A N0 σ nd nr hX r i t hr5 (by omega) (by omega)) (cwV 3 hts gX2_chosenDriver_X2_canGive rfl rfl rfl (by decide +kernel) ⟨Nat.le_of_ble_eq_true rfl, Nat.le_of_ble_eq_true rfl⟩) hK hW1 (zlN (hX 7 0 rfl)) rfl rfl (Nat.le_trans hsz hS1.1) hS1 rfl hl.1.1 rfl (Nat.le_of_ble_eq_true rfl) dX2_chosenDriver_14 ⟨Nat.le_of_ble_eq_true rfl, Nat.le_of_ble_eq_true rfl⟩ (fun x2 σ2 H2 locs2 hp2 hW2 hz2 hS2 => ?_)
        obtain ⟨rfl, rfl⟩ := hp2
        refine W.eq (g2 := F0 m 17 ls [.int (zi (zb (yok (σ 10) r t i = true)))]) rfl ?_
        refine zz_if_eqb (tgt := 40) hx hb dX2_chosenDriver_17 (by decide) (fun hc17 => ?_) (fun hc17 => ?_)
        · refine zz_iinc (lv' := [(3, .int (zi (((i : Nat) : Int) + 1))), (0, zr ad 7 ((0 : Nat) : Int)), (1, .int (zi ((r : Nat) : Int))), (2, .int (zi ((t : Nat) : Int)))]) hx hb hl dX2_chosenDriver_40 (k0 := 3) rfl (by decide) rfl (fun ls hl => ?_)
          refine zz_goto (tgt := 2) hx hb dX2_chosenDriver_43 (by decide) ?_
          refine ih2 (i + 1) H2 locs2 ls ?_ (by omega) hW2 hS2 (zh_sub hl [1, 2, 3, 0] rfl)
          refine ⟨by omega, ?_⟩
          rw [yfi_s hi2]
          first | rw [if_neg (by simp; intro q; exact absurd q hc17)] | rw [if_neg (by simp; intro _; exact hc35)]
        · have h1 := hF _ (ysor ht (show i < nd by omega))
          have h2 := hm i (by omega)
          have hgi : zg (ygv (σ 10) (σ 12 (r + 1)) r t i) := by unfold ygv; exact ⟨by omega, by omega⟩
          refine zz_aload_n hx hb hl 0 dX2_chosenDriver_20 rfl rfl ?_
          refine zz_iload_n hx hb hl 1 dX2_chosenDriver_21 rfl rfl ?_
          refine zz_iload_n hx hb hl 3 dX2_chosenDriver_22 rfl rfl ?_
          refine zz_iload_n hx hb hl 2 dX2_chosenDriver_23 rfl rfl ?_
          refine zz_callV (T := TX2) (N := 6) (As := [.int (zi ((r : Nat) : Int)), .int (zi ((i : Nat) : Int)), .int (zi ((t : Nat) : Int))]) (rest := []) (v := ((0 : Nat) : Int)) (κ := 7) ⟨hx, hb, hml, hown, hts⟩ (c_X2_mostGiving l G ad A N0 σ nd nr hX r i t hr5 (by omega) (by omega)) (cwV 3 hts gX2_chosenDriver_X2_mostGiving rfl rfl rfl (by decide +kernel) ⟨Nat.le_of_ble_eq_true rfl, Nat.le_of_ble_eq_true rfl⟩) hK hW2 (zlN (hX 7 0 rfl)) rfl rfl (Nat.le_trans hsz hS2.1) hS2 rfl hl.1.1 rfl (Nat.le_of_ble_eq_true rfl) dX2_chosenDriver_24 ⟨Nat.le_of_ble_eq_true rfl, Nat.le_of_ble_eq_true rfl⟩ (fun x3 σ3 H3 locs3 hp3 hW3 hz3 hS3 => ?_)
          obtain ⟨rfl, rfl⟩ := hp3
          refine W.eq (g2 := F0 m 27 ls [.int (zi (ygv (σ 10) (σ 12 (r + 1)) r t i))]) rfl ?_
          refine zz_aload_n hx hb hl 0 dX2_chosenDriver_27 rfl rfl ?_
          refine zz_get (T := TX2) (N := 6) (k := 2) (κ := 7) (w := zr ad 11 ((0 : Nat) : Int)) hx hb hts hinX2 hown hK hW3 (zlN (hX 7 0 rfl)) rfl rfl rfl (by decide) (hts (.fieldLink RX2 22 "HailCity$Matching" "mostFrom" "[[I") (by decide +kernel)) (fun _ h9 => h9) rfl dX2_chosenDriver_28 ?_
          refine zz_iload_n hx hb hl 1 dX2_chosenDriver_31 rfl rfl ?_
          refine zz_aald (w := zr ad 12 ((r : Nat) : Int)) hx hb hK hW3 (zlN (hX 11 0 rfl)) rfl rfl (by show (0 : Int) ≤ ((r : Nat) : Int); omega) (by show ((r : Nat) : Int) < (6 : Int); omega) rfl dX2_chosenDriver_32 ?_
          refine zz_iload_n hx hb hl 2 dX2_chosenDriver_33 rfl rfl ?_
          refine zz_iald (w := σ 12 r t) hx hb hK hW3 (zlN (hX 12 r (decide_eq_true (by omega)))) rfl rfl rfl (by show (0 : Int) ≤ ((t : Nat) : Int); omega) (by show ((t : Nat) : Int) < (256 : Int); omega) rfl dX2_chosenDriver_34 ?_
          refine zz_icmp_ne (tgt := 40) hx hb dX2_chosenDriver_35 (by decide) hgi (hW3.2.2.1 _ _ _) (fun hc35 => ?_) (fun hc35 => ?_)
          · refine zz_iinc (lv' := [(3, .int (zi (((i : Nat) : Int) + 1))), (0, zr ad 7 ((0 : Nat) : Int)), (1, .int (zi ((r : Nat) : Int))), (2, .int (zi ((t : Nat) : Int)))]) hx hb hl dX2_chosenDriver_40 (k0 := 3) rfl (by decide) rfl (fun ls hl => ?_)
            refine zz_goto (tgt := 2) hx hb dX2_chosenDriver_43 (by decide) ?_
            refine ih2 (i + 1) H3 locs3 ls ?_ (by omega) hW3 hS3 (zh_sub hl [1, 2, 3, 0] rfl)
            refine ⟨by omega, ?_⟩
            rw [yfi_s hi2]
            first | rw [if_neg (by simp; intro q; exact absurd q hc17)] | rw [if_neg (by simp; intro _; exact hc35)]
          · refine zz_iload_n hx hb hl 3 dX2_chosenDriver_38 rfl rfl ?_
            refine W.eq (g2 := F0 m 39 ls [.int (zi ((i : Nat) : Int))]) rfl ?_
            refine zz_reti hx hb hr hlocks hW3 hS3 ?_ dX2_chosenDriver_39
            refine ⟨rfl, ?_⟩
            have e1 : yfi (fun i => yok (σ 10) r t i && decide (ygv (σ 10) (σ 12 (r + 1)) r t i = σ 12 r t)) (i + 1) = (i : Int) := by
              rw [yfi_s hi2]
              exact if_pos (by simp; exact ⟨hc17, hc35⟩)
            rw [yfi_up (d := i + 1) (by rw [e1]; omega) nd (by omega), e1]
  refine hcut2 _ 0 s.heap [] ls ?_ (Nat.lt_succ_self _) hW0 hS0 (zh_sub hl [1, 2, 3, 0] rfl)
  exact ⟨Nat.zero_le _, rfl⟩

set_option maxHeartbeats 4000000 in
set_option maxRecDepth 100000 in
theorem c_X2_mostOfWith (l : Launch) (G : zG) (ad : zA) (A : Nat → Prop) (N0 : Nat) (σ : zS) (nd nr : Nat) (hX : zX ad nd nr) (n g d : Nat) (hn5 : n ≤ 5) (hg : g < 2 ^ n) (hd8 : d < 8) (hcn : σ 7 0 5 = (n : Int)) (hm : ∀ r, r < n → -1 ≤ σ 10 r d ∧ σ 10 r d ≤ 100) (hF : ∀ j, j < 2 ^ n → -1 ≤ σ 13 0 j ∧ σ 13 0 j ≤ 100000) : Met l yX2_mostOfWith wsX2_mostOfWith ({ frames := 1, cells := 0, slots := 0, locals := 21 }) (zP G ad A N0 σ [zr ad 7 ((0 : Nat) : Int), .int (zi ((g : Nat) : Int)), .int (zi ((d : Nat) : Int))]) (zQ G ad A zri (fun z u => σ = u ∧ yoD n d (σ 10) (σ 13 0) g = z)) 0 0 A := by
  refine zz_of (cc := cX2_mostOfWith) (maxL := 6) (ret := (some .int)) (by decide) rfl ⟨rfl, rfl⟩ (List.forall_mem_cons.mpr ⟨zr_cat _ _ _, List.forall_mem_cons.mpr ⟨rfl, List.forall_mem_cons.mpr ⟨rfl, fun _ h => absurd h List.not_mem_nil⟩⟩⟩) (Nat.le_of_ble_eq_true rfl) ?_
  intro p e s m below meth c hx hb hr hml hts hown hlocks hsz hW0 hK ls hl
  have hS0 : va_S A s.heap s.heap [] := va_S.rf
  have hl : zh ls 6 [(0, zr ad 7 ((0 : Nat) : Int)), (1, .int (zi ((g : Nat) : Int))), (2, .int (zi ((d : Nat) : Int)))] := hl
  have hinX2 : ∀ w ∈ u_ws RX2 TX2 6, w ∈ wsX2_mostOfWith := by decide +kernel
  have h8 : (2 : Nat) ^ n ≤ 2 ^ 5 := Nat.pow_le_pow_right (by decide) hn5
  have hF0 := hF g hg
  have hrl := yrm_lt g
  have hgb : ∀ r, r < n → (fun r => σ 13 0 (yrm g r) + 10000 - σ 10 r d) r ≤ 120000 := fun r hr9 => by
    have h1 := hF (yrm g r) (by have := yrm_lt g r; omega)
    have h2 := hm r hr9
    show σ 13 0 (yrm g r) + 10000 - σ 10 r d ≤ 120000
    omega
  have hxb : ∀ i, i ≤ n → -1 ≤ ymx (σ 13 0 g) (fun r => decide (yrm g r ≠ g) && decide (σ 13 0 (yrm g r) ≠ -1) && decide (σ 10 r d ≠ -1)) (fun r => σ 13 0 (yrm g r) + 10000 - σ 10 r d) i ∧ ymx (σ 13 0 g) (fun r => decide (yrm g r ≠ g) && decide (σ 13 0 (yrm g r) ≠ -1) && decide (σ 10 r d ≠ -1)) (fun r => σ 13 0 (yrm g r) + 10000 - σ 10 r d) i ≤ 120000 := fun i hi => ymx_rg ⟨hF0.1, by omega⟩ i (fun r hr9 _ => hgb r (by omega))
  refine zz_aload_n hx hb hl 0 dX2_mostOfWith_0 rfl rfl ?_
  refine zz_get (T := TX2) (N := 6) (k := 3) (κ := 7) (w := zr ad 13 ((0 : Nat) : Int)) hx hb hts hinX2 hown hK hW0 (zlN (hX 7 0 rfl)) rfl rfl rfl (by decide) (hts (.fieldLink RX2 25 "HailCity$Matching" "mostOf" "[I") (by decide +kernel)) (fun _ h9 => h9) rfl dX2_mostOfWith_1 ?_
  refine zz_iload_n hx hb hl 1 dX2_mostOfWith_4 rfl rfl ?_
  refine zz_iald (w := σ 13 0 g) hx hb hK hW0 (zlN (hX 13 0 rfl)) rfl rfl rfl (by show (0 : Int) ≤ ((g : Nat) : Int); omega) (by show ((g : Nat) : Int) < (32 : Int); omega) rfl dX2_mostOfWith_5 ?_
  refine zz_istore_n (lv' := [(3, .int (zi (σ 13 0 g))), (0, zr ad 7 ((0 : Nat) : Int)), (1, .int (zi ((g : Nat) : Int))), (2, .int (zi ((d : Nat) : Int)))]) hx hb hl dX2_mostOfWith_6 rfl (by decide) rfl (fun ls hl => ?_)
  refine zz_iconst hx hb dX2_mostOfWith_7 ?_
  refine zz_istore (lv' := [(4, .int (zi 0)), (3, .int (zi (σ 13 0 g))), (0, zr ad 7 ((0 : Nat) : Int)), (1, .int (zi ((g : Nat) : Int))), (2, .int (zi ((d : Nat) : Int)))]) hx hb hl dX2_mostOfWith_8 (by decide) rfl (fun ls hl => ?_)
  have hcut10 : ∀ (n9 : Nat) (i : Nat)  (H9 : Heap) (locs9 : List Loc) (ls : Array Slot), (i ≤ n) → (n - i) < n9 → ZW G ad A σ H9 → va_S A s.heap H9 locs9 → zh ls 6 [(0, zr ad 7 ((0 : Nat) : Int)), (1, .int (zi ((g : Nat) : Int))), (2, .int (zi ((d : Nat) : Int))), (3, .int (zi (ymx (σ 13 0 g) (fun r => decide (yrm g r ≠ g) && decide (σ 13 0 (yrm g r) ≠ -1) && decide (σ 10 r d ≠ -1)) (fun r => σ 13 0 (yrm g r) + 10000 - σ 10 r d) i))), (4, .int (zi ((i : Nat) : Int)))] → W p l e ({ frames := 1, cells := 0, slots := 0, locals := 21 }) s m ([zr ad 7 ((0 : Nat) : Int), .int (zi ((g : Nat) : Int)), .int (zi ((d : Nat) : Int))] : List Value).toArray below meth c H9 locs9 0 0 (MQ below (zQ G ad A zri (fun z u => σ = u ∧ yoD n d (σ 10) (σ 13 0) g = z)) ([zr ad 7 ((0 : Nat) : Int), .int (zi ((g : Nat) : Int)), .int (zi ((d : Nat) : Int))] : List Value).toArray s 0 0 A) (F0 m 10 ls []) := by
    intro n9
    induction n9 with
    | zero =>
      intro i H1 locs1 ls hI10 hm10 hW1 hS1 hl
      exact absurd hm10 (Nat.not_lt_zero _)
    | succ n9 ih10 =>
      intro i H1 locs1 ls hI10 hm10 hW1 hS1 hl
      have hxi := hxb i hI10
      
      refine zz_iload hx hb hl 4 dX2_mostOfWith_10 rfl ?_
      refine zz_aload_n hx hb hl 0 dX2_mostOfWith_12 rfl rfl ?_
      refine zz_get (T := TX2) (N := 6) (k := 5) (κ := 7) (w := .int (zi ((n : Nat) : Int))) hx hb hts hinX2 hown hK hW1 (zlN (hX 7 0 rfl)) rfl rfl rfl (by decide) (hts (.fieldLink RX2 33 "HailCity$Matching" "count" "I") (by decide +kernel)) (fun _ h9 => h9) (congrArg (fun z => Value.int (zi z)) (show σ 7 0 5 = ((n : Nat) : Int) from by rw [hcn])) dX2_mostOfWith_13 ?_
      refine zz_icmp_ge (tgt := 91) hx hb dX2_mostOfWith_16 (by decide) ⟨by omega, by omega⟩ ⟨by omega, by omega⟩ (fun hc16 => ?_) (fun hc16 => ?_)
      · refine zz_iload_n hx hb hl 3 dX2_mostOfWith_91 rfl rfl ?_
        refine W.eq (g2 := F0 m 92 ls [.int (zi (ymx (σ 13 0 g) (fun r => decide (yrm g r ≠ g) && decide (σ 13 0 (yrm g r) ≠ -1) && decide (σ 10 r d ≠ -1)) (fun r => σ 13 0 (yrm g r) + 10000 - σ 10 r d) i))]) rfl ?_
        refine zz_reti hx hb hr hlocks hW1 hS1 ?_ dX2_mostOfWith_92
        refine ⟨rfl, ?_⟩
        rw [show n = i by omega]
        rfl
      · have hry := yrm_lt g i
        have hfy := hF (yrm g i) (by omega)
        have hmy := hm i (by omega)
        have h2i : (2 : Nat) ^ i < 2 ^ 5 := Nat.pow_lt_pow_right (by decide) (by omega)
        refine zz_iload_n hx hb hl 1 dX2_mostOfWith_19 rfl rfl ?_
        refine zz_iconst hx hb dX2_mostOfWith_20 ?_
        refine zz_iload hx hb hl 4 dX2_mostOfWith_21 rfl ?_
        refine zz_ishl (w := ((2 ^ i : Nat) : Int)) hx hb (zi_shl1 i (by omega)) dX2_mostOfWith_23 ?_
        refine zz_iconst hx hb dX2_mostOfWith_24 ?_
        refine zz_ixor (w := (-((2 ^ i : Nat) : Int) - 1)) hx hb (zi_not i (by omega)) dX2_mostOfWith_25 ?_
        refine zz_iand (w := ((yrm g i : Nat) : Int)) hx hb (zi_rm i (by omega) g (by omega)) dX2_mostOfWith_26 ?_
        refine zz_istore (lv' := [(5, .int (zi ((yrm g i : Nat) : Int))), (0, zr ad 7 ((0 : Nat) : Int)), (1, .int (zi ((g : Nat) : Int))), (2, .int (zi ((d : Nat) : Int))), (3, .int (zi (ymx (σ 13 0 g) (fun r => decide (yrm g r ≠ g) && decide (σ 13 0 (yrm g r) ≠ -1) && decide (σ 10 r d ≠ -1)) (fun r => σ 13 0 (yrm g r) + 10000 - σ 10 r d) i))), (4, .int (zi ((i : Nat) : Int)))]) hx hb hl dX2_mostOfWith_27 (by decide) rfl (fun ls hl => ?_)
        refine zz_iload hx hb hl 0 dX2_mostOfWith_29 rfl ?_
        refine zz_iload_n hx hb hl 2 dX2_mostOfWith_31 rfl rfl ?_
        refine zz_icmp_eq (tgt := 85) hx hb dX2_mostOfWith_32 (by decide) ⟨by omega, by omega⟩ ⟨by omega, by omega⟩ (fun hc32 => ?_) (fun hc32 => ?_)
        · refine zz_iinc (lv' := [(4, .int (zi (((i : Nat) : Int) + 1))), (5, .int (zi ((yrm g i : Nat) : Int))), (0, zr ad 7 ((0 : Nat) : Int)), (1, .int (zi ((g : Nat) : Int))), (2, .int (zi ((d : Nat) : Int))), (3, .int (zi (ymx (σ 13 0 g) (fun r => decide (yrm g r ≠ g) && decide (σ 13 0 (yrm g r) ≠ -1) && decide (σ 10 r d ≠ -1)) (fun r => σ 13 0 (yrm g r) + 10000 - σ 10 r d) i)))]) hx hb hl dX2_mostOfWith_85 (k0 := 5) rfl (by decide) rfl (fun ls hl => ?_)
          refine zz_goto (tgt := 10) hx hb dX2_mostOfWith_88 (by decide) ?_
          refine ih10 (i + 1) H1 locs1 ls ?_ (by omega) hW1 hS1 (zh_sub hl [2, 3, 4, 5, 0] (by rw [show ymx (σ 13 0 g) (fun r => decide (yrm g r ≠ g) && decide (σ 13 0 (yrm g r) ≠ -1) && decide (σ 10 r d ≠ -1)) (fun r => σ 13 0 (yrm g r) + 10000 - σ 10 r d) (i + 1) = ymx (σ 13 0 g) (fun r => decide (yrm g r ≠ g) && decide (σ 13 0 (yrm g r) ≠ -1) && decide (σ 10 r d ≠ -1)) (fun r => σ 13 0 (yrm g r) + 10000 - σ 10 r d) i from if_neg (by simp; omega)]; rfl))
          omega
        · refine zz_aload_n hx hb hl 1 dX2_mostOfWith_35 rfl rfl ?_
          refine zz_get (T := TX2) (N := 6) (k := 3) (κ := 7) (w := zr ad 13 ((0 : Nat) : Int)) hx hb hts hinX2 hown hK hW1 (zlN (hX 7 0 rfl)) rfl rfl rfl (by decide) (hts (.fieldLink RX2 25 "HailCity$Matching" "mostOf" "[I") (by decide +kernel)) (fun _ h9 => h9) rfl dX2_mostOfWith_36 ?_
          refine zz_iload hx hb hl 0 dX2_mostOfWith_39 rfl ?_
          refine zz_iald (w := σ 13 0 (yrm g i)) hx hb hK hW1 (zlN (hX 13 0 rfl)) rfl rfl rfl (by show (0 : Int) ≤ ((yrm g i : Nat) : Int); omega) (by show ((yrm g i : Nat) : Int) < (32 : Int); omega) rfl dX2_mostOfWith_41 ?_
          refine zz_iconst hx hb dX2_mostOfWith_42 ?_
          refine zz_icmp_eq (tgt := 85) hx hb dX2_mostOfWith_43 (by decide) (hW1.2.2.1 _ _ _) ⟨by decide, by decide⟩ (fun hc43 => ?_) (fun hc43 => ?_)
          · refine zz_iinc (lv' := [(4, .int (zi (((i : Nat) : Int) + 1))), (5, .int (zi ((yrm g i : Nat) : Int))), (0, zr ad 7 ((0 : Nat) : Int)), (1, .int (zi ((g : Nat) : Int))), (2, .int (zi ((d : Nat) : Int))), (3, .int (zi (ymx (σ 13 0 g) (fun r => decide (yrm g r ≠ g) && decide (σ 13 0 (yrm g r) ≠ -1) && decide (σ 10 r d ≠ -1)) (fun r => σ 13 0 (yrm g r) + 10000 - σ 10 r d) i)))]) hx hb hl dX2_mostOfWith_85 (k0 := 5) rfl (by decide) rfl (fun ls hl => ?_)
            refine zz_goto (tgt := 10) hx hb dX2_mostOfWith_88 (by decide) ?_
            refine ih10 (i + 1) H1 locs1 ls ?_ (by omega) hW1 hS1 (zh_sub hl [2, 3, 4, 5, 0] (by rw [show ymx (σ 13 0 g) (fun r => decide (yrm g r ≠ g) && decide (σ 13 0 (yrm g r) ≠ -1) && decide (σ 10 r d ≠ -1)) (fun r => σ 13 0 (yrm g r) + 10000 - σ 10 r d) (i + 1) = ymx (σ 13 0 g) (fun r => decide (yrm g r ≠ g) && decide (σ 13 0 (yrm g r) ≠ -1) && decide (σ 10 r d ≠ -1)) (fun r => σ 13 0 (yrm g r) + 10000 - σ 10 r d) i from if_neg (by simp; omega)]; rfl))
            omega
          · refine zz_aload_n hx hb hl 1 dX2_mostOfWith_46 rfl rfl ?_
            refine zz_get (T := TX2) (N := 6) (k := 1) (κ := 7) (w := zr ad 9 ((0 : Nat) : Int)) hx hb hts hinX2 hown hK hW1 (zlN (hX 7 0 rfl)) rfl rfl rfl (by decide) (hts (.fieldLink RX2 19 "HailCity$Matching" "minutes" "[[I") (by decide +kernel)) (fun _ h9 => h9) rfl dX2_mostOfWith_47 ?_
            refine zz_iload hx hb hl 5 dX2_mostOfWith_50 rfl ?_
            refine zz_aald (w := zr ad 10 ((i : Nat) : Int)) hx hb hK hW1 (zlN (hX 9 0 rfl)) rfl rfl (by show (0 : Int) ≤ ((i : Nat) : Int); omega) (by show ((i : Nat) : Int) < (5 : Int); omega) rfl dX2_mostOfWith_52 ?_
            refine zz_iload_n hx hb hl 3 dX2_mostOfWith_53 rfl rfl ?_
            refine zz_iald (w := σ 10 i d) hx hb hK hW1 (zlN (hX 10 i (decide_eq_true (by omega)))) rfl rfl rfl (by show (0 : Int) ≤ ((d : Nat) : Int); omega) (by show ((d : Nat) : Int) < (8 : Int); omega) rfl dX2_mostOfWith_54 ?_
            refine zz_iconst hx hb dX2_mostOfWith_55 ?_
            refine zz_icmp_eq (tgt := 85) hx hb dX2_mostOfWith_56 (by decide) (hW1.2.2.1 _ _ _) ⟨by decide, by decide⟩ (fun hc56 => ?_) (fun hc56 => ?_)
            · refine zz_iinc (lv' := [(4, .int (zi (((i : Nat) : Int) + 1))), (5, .int (zi ((yrm g i : Nat) : Int))), (0, zr ad 7 ((0 : Nat) : Int)), (1, .int (zi ((g : Nat) : Int))), (2, .int (zi ((d : Nat) : Int))), (3, .int (zi (ymx (σ 13 0 g) (fun r => decide (yrm g r ≠ g) && decide (σ 13 0 (yrm g r) ≠ -1) && decide (σ 10 r d ≠ -1)) (fun r => σ 13 0 (yrm g r) + 10000 - σ 10 r d) i)))]) hx hb hl dX2_mostOfWith_85 (k0 := 5) rfl (by decide) rfl (fun ls hl => ?_)
              refine zz_goto (tgt := 10) hx hb dX2_mostOfWith_88 (by decide) ?_
              refine ih10 (i + 1) H1 locs1 ls ?_ (by omega) hW1 hS1 (zh_sub hl [2, 3, 4, 5, 0] (by rw [show ymx (σ 13 0 g) (fun r => decide (yrm g r ≠ g) && decide (σ 13 0 (yrm g r) ≠ -1) && decide (σ 10 r d ≠ -1)) (fun r => σ 13 0 (yrm g r) + 10000 - σ 10 r d) (i + 1) = ymx (σ 13 0 g) (fun r => decide (yrm g r ≠ g) && decide (σ 13 0 (yrm g r) ≠ -1) && decide (σ 10 r d ≠ -1)) (fun r => σ 13 0 (yrm g r) + 10000 - σ 10 r d) i from if_neg (by simp; omega)]; rfl))
              omega
            · refine zz_iload_n hx hb hl 4 dX2_mostOfWith_59 rfl rfl ?_
              refine zz_aload_n hx hb hl 1 dX2_mostOfWith_60 rfl rfl ?_
              refine zz_get (T := TX2) (N := 6) (k := 3) (κ := 7) (w := zr ad 13 ((0 : Nat) : Int)) hx hb hts hinX2 hown hK hW1 (zlN (hX 7 0 rfl)) rfl rfl rfl (by decide) (hts (.fieldLink RX2 25 "HailCity$Matching" "mostOf" "[I") (by decide +kernel)) (fun _ h9 => h9) rfl dX2_mostOfWith_61 ?_
              refine zz_iload hx hb hl 0 dX2_mostOfWith_64 rfl ?_
              refine zz_iald (w := σ 13 0 (yrm g i)) hx hb hK hW1 (zlN (hX 13 0 rfl)) rfl rfl rfl (by show (0 : Int) ≤ ((yrm g i : Nat) : Int); omega) (by show ((yrm g i : Nat) : Int) < (32 : Int); omega) rfl dX2_mostOfWith_66 ?_
              refine zz_sipush hx hb dX2_mostOfWith_67 (by decide +kernel) ?_
              refine zz_iadd hx hb dX2_mostOfWith_70 ?_
              refine zz_aload_n hx hb hl 1 dX2_mostOfWith_71 rfl rfl ?_
              refine zz_get (T := TX2) (N := 6) (k := 1) (κ := 7) (w := zr ad 9 ((0 : Nat) : Int)) hx hb hts hinX2 hown hK hW1 (zlN (hX 7 0 rfl)) rfl rfl rfl (by decide) (hts (.fieldLink RX2 19 "HailCity$Matching" "minutes" "[[I") (by decide +kernel)) (fun _ h9 => h9) rfl dX2_mostOfWith_72 ?_
              refine zz_iload hx hb hl 5 dX2_mostOfWith_75 rfl ?_
              refine zz_aald (w := zr ad 10 ((i : Nat) : Int)) hx hb hK hW1 (zlN (hX 9 0 rfl)) rfl rfl (by show (0 : Int) ≤ ((i : Nat) : Int); omega) (by show ((i : Nat) : Int) < (5 : Int); omega) rfl dX2_mostOfWith_77 ?_
              refine zz_iload_n hx hb hl 3 dX2_mostOfWith_78 rfl rfl ?_
              refine zz_iald (w := σ 10 i d) hx hb hK hW1 (zlN (hX 10 i (decide_eq_true (by omega)))) rfl rfl rfl (by show (0 : Int) ≤ ((d : Nat) : Int); omega) (by show ((d : Nat) : Int) < (8 : Int); omega) rfl dX2_mostOfWith_79 ?_
              refine zz_isub hx hb dX2_mostOfWith_80 ?_
              refine zz_mmax hx hb (hml.trans hl.1.1.symm) hown (hts (.methodLink RX2 48 Lib.Math.max.name) (by decide +kernel)) (hts (.static Lib.Math.max.name) (by decide +kernel)) (hts (.initialized "java/lang/Math") (by decide +kernel)) (hts (.code Lib.Math.max.name Lib.Math.max.code 2 (some .int)) (by decide +kernel)) (Nat.le_of_ble_eq_true rfl) (Nat.le_of_ble_eq_true rfl) (Nat.le_of_ble_eq_true rfl) (Nat.le_of_ble_eq_true rfl) ⟨by omega, by omega⟩ ⟨by omega, by omega⟩ dX2_mostOfWith_81 ?_
              refine zz_istore_n (lv' := [(3, .int (zi (max (ymx (σ 13 0 g) (fun r => decide (yrm g r ≠ g) && decide (σ 13 0 (yrm g r) ≠ -1) && decide (σ 10 r d ≠ -1)) (fun r => σ 13 0 (yrm g r) + 10000 - σ 10 r d) i) (((σ 13 0 (yrm g i)) + 10000) - (σ 10 i d))))), (5, .int (zi ((yrm g i : Nat) : Int))), (0, zr ad 7 ((0 : Nat) : Int)), (1, .int (zi ((g : Nat) : Int))), (2, .int (zi ((d : Nat) : Int))), (4, .int (zi ((i : Nat) : Int)))]) hx hb hl dX2_mostOfWith_84 rfl (by decide) rfl (fun ls hl => ?_)
              refine zz_iinc (lv' := [(4, .int (zi (((i : Nat) : Int) + 1))), (3, .int (zi (max (ymx (σ 13 0 g) (fun r => decide (yrm g r ≠ g) && decide (σ 13 0 (yrm g r) ≠ -1) && decide (σ 10 r d ≠ -1)) (fun r => σ 13 0 (yrm g r) + 10000 - σ 10 r d) i) (((σ 13 0 (yrm g i)) + 10000) - (σ 10 i d))))), (5, .int (zi ((yrm g i : Nat) : Int))), (0, zr ad 7 ((0 : Nat) : Int)), (1, .int (zi ((g : Nat) : Int))), (2, .int (zi ((d : Nat) : Int)))]) hx hb hl dX2_mostOfWith_85 (k0 := 5) rfl (by decide) rfl (fun ls hl => ?_)
              refine zz_goto (tgt := 10) hx hb dX2_mostOfWith_88 (by decide) ?_
              refine ih10 (i + 1) H1 locs1 ls ?_ (by omega) hW1 hS1 (zh_sub hl [3, 4, 5, 1, 0] (by rw [show ymx (σ 13 0 g) (fun r => decide (yrm g r ≠ g) && decide (σ 13 0 (yrm g r) ≠ -1) && decide (σ 10 r d ≠ -1)) (fun r => σ 13 0 (yrm g r) + 10000 - σ 10 r d) (i + 1) = max (ymx (σ 13 0 g) (fun r => decide (yrm g r ≠ g) && decide (σ 13 0 (yrm g r) ≠ -1) && decide (σ 10 r d ≠ -1)) (fun r => σ 13 0 (yrm g r) + 10000 - σ 10 r d) i) (((σ 13 0 (yrm g i)) + 10000) - (σ 10 i d)) from if_pos (by simp; omega)]; rfl))
              omega
  refine hcut10 _ 0 s.heap [] ls ?_ (Nat.lt_succ_self _) hW0 hS0 (zh_sub hl [2, 3, 4, 1, 0] rfl)
  exact Nat.zero_le _

set_option maxHeartbeats 4000000 in
set_option maxRecDepth 100000 in
theorem c_X2_mostByDrivers (l : Launch) (G : zG) (ad : zA) (A : Nat → Prop) (N0 : Nat) (σ : zS) (nd nr : Nat) (hX : zX ad nd nr) (n : Nat) (hnd : nd ≤ 8) (hdc : σ 7 0 4 = (nd : Int)) (hcn : σ 7 0 5 = (n : Int)) (hn5 : n ≤ 5) (hm : ∀ r d, r < n → d < nd → -1 ≤ σ 10 r d ∧ σ 10 r d ≤ 100) : Met l yX2_mostByDrivers wsX2_mostByDrivers ({ frames := 2, cells := 0, slots := 0, locals := 46 }) (zP G ad A N0 σ [zr ad 7 ((0 : Nat) : Int)]) (zQ G ad A zri (fun z u => ymx 0 (fun _ => true) (yD (σ 10) n nd) (2 ^ n) = z ∧ zfr (fun κ _ _ => κ = 13) σ u)) 0 0 A := by
  refine zz_of (cc := cX2_mostByDrivers) (maxL := 4) (ret := (some .int)) (by decide) rfl ⟨rfl, rfl⟩ (List.forall_mem_cons.mpr ⟨zr_cat _ _ _, fun _ h => absurd h List.not_mem_nil⟩) (Nat.le_of_ble_eq_true rfl) ?_
  intro p e s m below meth c hx hb hr hml hts hown hlocks hsz hW0 hK ls hl
  have hS0 : va_S A s.heap s.heap [] := va_S.rf
  have hl : zh ls 4 [(0, zr ad 7 ((0 : Nat) : Int))] := hl
  have hinX2 : ∀ w ∈ u_ws RX2 TX2 6, w ∈ wsX2_mostByDrivers := by decide +kernel
  have h8 : (2 : Nat) ^ n ≤ 2 ^ 5 := Nat.pow_le_pow_right (by decide) hn5
  have h1p := Nat.two_pow_pos n
  have hmm : ∀ r d, r < n → d < nd → -1 ≤ σ 10 r d := fun r d h1 h2 => (hm r d h1 h2).1
  have hyd := yD_rg (nd := nd) hmm
  refine zz_iconst hx hb dX2_mostByDrivers_0 ?_
  refine zz_aload_n hx hb hl 0 dX2_mostByDrivers_1 rfl rfl ?_
  refine zz_get (T := TX2) (N := 6) (k := 5) (κ := 7) (w := .int (zi ((n : Nat) : Int))) hx hb hts hinX2 hown hK hW0 (zlN (hX 7 0 rfl)) rfl rfl rfl (by decide) (hts (.fieldLink RX2 33 "HailCity$Matching" "count" "I") (by decide +kernel)) (fun _ h9 => h9) (congrArg (fun z => Value.int (zi z)) (show σ 7 0 5 = ((n : Nat) : Int) from by rw [hcn])) dX2_mostByDrivers_2 ?_
  refine zz_ishl (w := ((2 ^ n : Nat) : Int)) hx hb (zi_shl1 n (by omega)) dX2_mostByDrivers_5 ?_
  refine zz_istore_n (lv' := [(1, .int (zi ((2 ^ n : Nat) : Int))), (0, zr ad 7 ((0 : Nat) : Int))]) hx hb hl dX2_mostByDrivers_6 rfl (by decide) rfl (fun ls hl => ?_)
  refine zz_iconst hx hb dX2_mostByDrivers_7 ?_
  refine zz_istore_n (lv' := [(2, .int (zi 0)), (1, .int (zi ((2 ^ n : Nat) : Int))), (0, zr ad 7 ((0 : Nat) : Int))]) hx hb hl dX2_mostByDrivers_8 rfl (by decide) rfl (fun ls hl => ?_)
  have hcut9 : ∀ (n9 : Nat) (t : Nat)  (σ9 : zS) (H9 : Heap) (locs9 : List Loc) (ls : Array Slot), (t ≤ 2 ^ n ∧ (∀ i, i < t → σ9 13 0 i = yD (σ 10) n 0 i) ∧ zfr (fun κ _ _ => κ = 13) σ σ9) → (2 ^ n - t) < n9 → ZW G ad A σ9 H9 → va_S A s.heap H9 locs9 → zh ls 4 [(0, zr ad 7 ((0 : Nat) : Int)), (1, .int (zi ((2 ^ n : Nat) : Int))), (2, .int (zi ((t : Nat) : Int)))] → W p l e ({ frames := 2, cells := 0, slots := 0, locals := 46 }) s m ([zr ad 7 ((0 : Nat) : Int)] : List Value).toArray below meth c H9 locs9 0 0 (MQ below (zQ G ad A zri (fun z u => ymx 0 (fun _ => true) (yD (σ 10) n nd) (2 ^ n) = z ∧ zfr (fun κ _ _ => κ = 13) σ u)) ([zr ad 7 ((0 : Nat) : Int)] : List Value).toArray s 0 0 A) (F0 m 9 ls []) := by
    intro n9
    induction n9 with
    | zero =>
      intro t σ1 H1 locs1 ls hI9 hm9 hW1 hS1 hl
      exact absurd hm9 (Nat.not_lt_zero _)
    | succ n9 ih9 =>
      intro t σ1 H1 locs1 ls hI9 hm9 hW1 hS1 hl
      obtain ⟨ha0, ha1, ha2⟩ := hI9
      refine zz_iload_n hx hb hl 2 dX2_mostByDrivers_9 rfl rfl ?_
      refine zz_iload_n hx hb hl 1 dX2_mostByDrivers_10 rfl rfl ?_
      refine zz_icmp_ge (tgt := 35) hx hb dX2_mostByDrivers_11 (by decide) ⟨by omega, by omega⟩ ⟨by omega, by omega⟩ (fun hc11 => ?_) (fun hc11 => ?_)
      · refine zz_iconst hx hb dX2_mostByDrivers_35 ?_
        refine zz_istore_n (lv' := [(2, .int (zi 0)), (0, zr ad 7 ((0 : Nat) : Int)), (1, .int (zi ((2 ^ n : Nat) : Int)))]) hx hb hl dX2_mostByDrivers_36 rfl (by decide) rfl (fun ls hl => ?_)
        have hcut37 : ∀ (n9 : Nat) (i : Nat)  (σ9 : zS) (H9 : Heap) (locs9 : List Loc) (ls : Array Slot), (i ≤ nd ∧ (∀ j, j < 2 ^ n → σ9 13 0 j = yD (σ 10) n i j) ∧ zfr (fun κ _ _ => κ = 13) σ1 σ9) → (nd - i) < n9 → ZW G ad A σ9 H9 → va_S A s.heap H9 locs9 → zh ls 4 [(0, zr ad 7 ((0 : Nat) : Int)), (1, .int (zi ((2 ^ n : Nat) : Int))), (2, .int (zi ((i : Nat) : Int)))] → W p l e ({ frames := 2, cells := 0, slots := 0, locals := 46 }) s m ([zr ad 7 ((0 : Nat) : Int)] : List Value).toArray below meth c H9 locs9 0 0 (MQ below (zQ G ad A zri (fun z u => ymx 0 (fun _ => true) (yD (σ 10) n nd) (2 ^ n) = z ∧ zfr (fun κ _ _ => κ = 13) σ u)) ([zr ad 7 ((0 : Nat) : Int)] : List Value).toArray s 0 0 A) (F0 m 37 ls []) := by
          intro n9
          induction n9 with
          | zero =>
            intro i σ2 H2 locs2 ls hI37 hm37 hW2 hS2 hl
            exact absurd hm37 (Nat.not_lt_zero _)
          | succ n9 ih37 =>
            intro i σ2 H2 locs2 ls hI37 hm37 hW2 hS2 hl
            obtain ⟨hb0, hb1, hb2⟩ := hI37
            refine zz_iload_n hx hb hl 2 dX2_mostByDrivers_37 rfl rfl ?_
            refine zz_aload_n hx hb hl 0 dX2_mostByDrivers_38 rfl rfl ?_
            refine zz_get (T := TX2) (N := 6) (k := 4) (κ := 7) (w := .int (zi ((nd : Nat) : Int))) hx hb hts hinX2 hown hK hW2 (zlN (hX 7 0 rfl)) rfl rfl rfl (by decide) (hts (.fieldLink RX2 29 "HailCity$Matching" "driverCount" "I") (by decide +kernel)) (fun _ h9 => h9) (congrArg (fun z => Value.int (zi z)) (show σ2 7 0 4 = ((nd : Nat) : Int) from by rw [hb2 7 0 4 (by omega), ha2 7 0 4 (by omega), hdc])) dX2_mostByDrivers_39 ?_
            refine zz_icmp_ge (tgt := 77) hx hb dX2_mostByDrivers_42 (by decide) ⟨by omega, by omega⟩ ⟨by omega, by omega⟩ (fun hc42 => ?_) (fun hc42 => ?_)
            · refine zz_iconst hx hb dX2_mostByDrivers_77 ?_
              refine zz_istore_n (lv' := [(2, .int (zi 0)), (0, zr ad 7 ((0 : Nat) : Int)), (1, .int (zi ((2 ^ n : Nat) : Int)))]) hx hb hl dX2_mostByDrivers_78 rfl (by decide) rfl (fun ls hl => ?_)
              refine zz_iconst hx hb dX2_mostByDrivers_79 ?_
              refine zz_istore_n (lv' := [(3, .int (zi 0)), (2, .int (zi 0)), (0, zr ad 7 ((0 : Nat) : Int)), (1, .int (zi ((2 ^ n : Nat) : Int)))]) hx hb hl dX2_mostByDrivers_80 rfl (by decide) rfl (fun ls hl => ?_)
              have hcut81 : ∀ (n9 : Nat) (j : Nat)  (H9 : Heap) (locs9 : List Loc) (ls : Array Slot), (j ≤ 2 ^ n) → (2 ^ n - j) < n9 → ZW G ad A σ2 H9 → va_S A s.heap H9 locs9 → zh ls 4 [(0, zr ad 7 ((0 : Nat) : Int)), (1, .int (zi ((2 ^ n : Nat) : Int))), (2, .int (zi (ymx 0 (fun _ => true) (yD (σ 10) n nd) j))), (3, .int (zi ((j : Nat) : Int)))] → W p l e ({ frames := 2, cells := 0, slots := 0, locals := 46 }) s m ([zr ad 7 ((0 : Nat) : Int)] : List Value).toArray below meth c H9 locs9 0 0 (MQ below (zQ G ad A zri (fun z u => ymx 0 (fun _ => true) (yD (σ 10) n nd) (2 ^ n) = z ∧ zfr (fun κ _ _ => κ = 13) σ u)) ([zr ad 7 ((0 : Nat) : Int)] : List Value).toArray s 0 0 A) (F0 m 81 ls []) := by
                intro n9
                induction n9 with
                | zero =>
                  intro j H3 locs3 ls hI81 hm81 hW3 hS3 hl
                  exact absurd hm81 (Nat.not_lt_zero _)
                | succ n9 ih81 =>
                  intro j H3 locs3 ls hI81 hm81 hW3 hS3 hl
                  have hxj := ymx_rg (m0 := 0) (P := fun _ => true) (g := yD (σ 10) n nd) (a := 0) (b := 100000) ⟨Int.le_refl _, by decide⟩ j (fun d hd _ => by have := (hyd nd (Nat.le_refl _) d).2; omega)
                  refine zz_iload_n hx hb hl 3 dX2_mostByDrivers_81 rfl rfl ?_
                  refine zz_iload_n hx hb hl 1 dX2_mostByDrivers_82 rfl rfl ?_
                  refine zz_icmp_ge (tgt := 103) hx hb dX2_mostByDrivers_83 (by decide) ⟨by omega, by omega⟩ ⟨by omega, by omega⟩ (fun hc83 => ?_) (fun hc83 => ?_)
                  · refine zz_iload_n hx hb hl 2 dX2_mostByDrivers_103 rfl rfl ?_
                    refine W.eq (g2 := F0 m 104 ls [.int (zi (ymx 0 (fun _ => true) (yD (σ 10) n nd) j))]) rfl ?_
                    refine zz_reti hx hb hr hlocks hW3 hS3 ?_ dX2_mostByDrivers_104
                    exact ⟨by rw [show 2 ^ n = j by omega], fun κ i k hn => by rw [hb2 _ _ _ hn]; exact ha2 _ _ _ hn⟩
                  · have hv5 : σ2 13 0 j = yD (σ 10) n nd j := by rw [hb1 j (by omega), show i = nd by omega]
                    have hy5 := hyd nd (Nat.le_refl _) j
                    refine zz_iload_n hx hb hl 2 dX2_mostByDrivers_86 rfl rfl ?_
                    refine zz_aload_n hx hb hl 0 dX2_mostByDrivers_87 rfl rfl ?_
                    refine zz_get (T := TX2) (N := 6) (k := 3) (κ := 7) (w := zr ad 13 ((0 : Nat) : Int)) hx hb hts hinX2 hown hK hW3 (zlN (hX 7 0 rfl)) rfl rfl rfl (by decide) (hts (.fieldLink RX2 25 "HailCity$Matching" "mostOf" "[I") (by decide +kernel)) (fun _ h9 => h9) rfl dX2_mostByDrivers_88 ?_
                    refine zz_iload_n hx hb hl 3 dX2_mostByDrivers_91 rfl rfl ?_
                    refine zz_iald (w := σ2 13 0 j) hx hb hK hW3 (zlN (hX 13 0 rfl)) rfl rfl rfl (by show (0 : Int) ≤ ((j : Nat) : Int); omega) (by show ((j : Nat) : Int) < (32 : Int); omega) rfl dX2_mostByDrivers_92 ?_
                    refine zz_mmax hx hb (hml.trans hl.1.1.symm) hown (hts (.methodLink RX2 48 Lib.Math.max.name) (by decide +kernel)) (hts (.static Lib.Math.max.name) (by decide +kernel)) (hts (.initialized "java/lang/Math") (by decide +kernel)) (hts (.code Lib.Math.max.name Lib.Math.max.code 2 (some .int)) (by decide +kernel)) (Nat.le_of_ble_eq_true rfl) (Nat.le_of_ble_eq_true rfl) (Nat.le_of_ble_eq_true rfl) (Nat.le_of_ble_eq_true rfl) ⟨by omega, by omega⟩ (hW3.2.2.1 _ _ _) dX2_mostByDrivers_93 ?_
                    refine zz_istore_n (lv' := [(2, .int (zi (max (ymx 0 (fun _ => true) (yD (σ 10) n nd) j) (σ2 13 0 j)))), (0, zr ad 7 ((0 : Nat) : Int)), (1, .int (zi ((2 ^ n : Nat) : Int))), (3, .int (zi ((j : Nat) : Int)))]) hx hb hl dX2_mostByDrivers_96 rfl (by decide) rfl (fun ls hl => ?_)
                    refine zz_iinc (lv' := [(3, .int (zi (((j : Nat) : Int) + 1))), (2, .int (zi (max (ymx 0 (fun _ => true) (yD (σ 10) n nd) j) (σ2 13 0 j)))), (0, zr ad 7 ((0 : Nat) : Int)), (1, .int (zi ((2 ^ n : Nat) : Int)))]) hx hb hl dX2_mostByDrivers_97 (k0 := 3) rfl (by decide) rfl (fun ls hl => ?_)
                    refine zz_goto (tgt := 81) hx hb dX2_mostByDrivers_100 (by decide) ?_
                    refine ih81 (j + 1) H3 locs3 ls ?_ (by omega) hW3 hS3 (zh_sub hl [2, 3, 1, 0] (by rw [show ymx 0 (fun _ => true) (yD (σ 10) n nd) (j + 1) = max (ymx 0 (fun _ => true) (yD (σ 10) n nd) j) (σ2 13 0 j) from by rw [hv5]; exact if_pos rfl]; rfl))
                    omega
              refine hcut81 _ 0 H2 locs2 ls ?_ (Nat.lt_succ_self _) hW2 hS2 (zh_sub hl [2, 3, 1, 0] rfl)
              exact Nat.zero_le _
            · refine zz_iload_n hx hb hl 1 dX2_mostByDrivers_45 rfl rfl ?_
              refine zz_iconst hx hb dX2_mostByDrivers_46 ?_
              refine zz_isub hx hb dX2_mostByDrivers_47 ?_
              refine zz_istore_n (lv' := [(3, .int (zi (((2 ^ n : Nat) : Int) - 1))), (0, zr ad 7 ((0 : Nat) : Int)), (1, .int (zi ((2 ^ n : Nat) : Int))), (2, .int (zi ((i : Nat) : Int)))]) hx hb hl dX2_mostByDrivers_48 rfl (by decide) rfl (fun ls hl => ?_)
              have hcut49 : ∀ (n9 : Nat) (g : Int)  (σ9 : zS) (H9 : Heap) (locs9 : List Loc) (ls : Array Slot), (0 ≤ g ∧ g < ((2 ^ n : Nat) : Int) ∧ (∀ j, j < 2 ^ n → σ9 13 0 j = if (j : Int) ≤ g then yD (σ 10) n i j else yD (σ 10) n (i + 1) j) ∧ zfr (fun κ _ _ => κ = 13) σ2 σ9) → g.toNat < n9 → ZW G ad A σ9 H9 → va_S A s.heap H9 locs9 → zh ls 4 [(0, zr ad 7 ((0 : Nat) : Int)), (1, .int (zi ((2 ^ n : Nat) : Int))), (2, .int (zi ((i : Nat) : Int))), (3, .int (zi g))] → W p l e ({ frames := 2, cells := 0, slots := 0, locals := 46 }) s m ([zr ad 7 ((0 : Nat) : Int)] : List Value).toArray below meth c H9 locs9 0 0 (MQ below (zQ G ad A zri (fun z u => ymx 0 (fun _ => true) (yD (σ 10) n nd) (2 ^ n) = z ∧ zfr (fun κ _ _ => κ = 13) σ u)) ([zr ad 7 ((0 : Nat) : Int)] : List Value).toArray s 0 0 A) (F0 m 49 ls []) := by
                intro n9
                induction n9 with
                | zero =>
                  intro g σ4 H4 locs4 ls hI49 hm49 hW4 hS4 hl
                  exact absurd hm49 (Nat.not_lt_zero _)
                | succ n9 ih49 =>
                  intro g σ4 H4 locs4 ls hI49 hm49 hW4 hS4 hl
                  obtain ⟨hd0, hd1, hd2, hd3⟩ := hI49
                  refine zz_iload_n hx hb hl 3 dX2_mostByDrivers_49 rfl rfl ?_
                  refine zz_if_le (tgt := 71) hx hb dX2_mostByDrivers_50 (by decide) ⟨by omega, by omega⟩ (fun hc50 => ?_) (fun hc50 => ?_)
                  · refine zz_iinc (lv' := [(2, .int (zi (((i : Nat) : Int) + 1))), (0, zr ad 7 ((0 : Nat) : Int)), (1, .int (zi ((2 ^ n : Nat) : Int))), (3, .int (zi g))]) hx hb hl dX2_mostByDrivers_71 (k0 := 2) rfl (by decide) rfl (fun ls hl => ?_)
                    refine zz_goto (tgt := 37) hx hb dX2_mostByDrivers_74 (by decide) ?_
                    refine ih37 (i + 1) σ4 H4 locs4 ls ?_ (by omega) hW4 hS4 (zh_sub hl [1, 2, 0] rfl)
                    refine ⟨by omega, fun j hj => ?_, fun κ' i' k' hn => by rw [hd3 _ _ _ hn]; exact hb2 _ _ _ hn⟩
                    rw [hd2 j hj]
                    by_cases h : (j : Int) ≤ g
                    · rw [if_pos h, show j = 0 by omega]
                      rfl
                    · rw [if_neg h]
                  · obtain ⟨g0, rfl⟩ : ∃ g0 : Nat, g = (g0 : Int) := ⟨g.toNat, by omega⟩
                    refine zz_aload_n hx hb hl 0 dX2_mostByDrivers_53 rfl rfl ?_
                    refine zz_get (T := TX2) (N := 6) (k := 3) (κ := 7) (w := zr ad 13 ((0 : Nat) : Int)) hx hb hts hinX2 hown hK hW4 (zlN (hX 7 0 rfl)) rfl rfl rfl (by decide) (hts (.fieldLink RX2 25 "HailCity$Matching" "mostOf" "[I") (by decide +kernel)) (fun _ h9 => h9) rfl dX2_mostByDrivers_54 ?_
                    refine zz_iload_n hx hb hl 3 dX2_mostByDrivers_57 rfl rfl ?_
                    refine zz_aload_n hx hb hl 0 dX2_mostByDrivers_58 rfl rfl ?_
                    refine zz_iload_n hx hb hl 3 dX2_mostByDrivers_59 rfl rfl ?_
                    refine zz_iload_n hx hb hl 2 dX2_mostByDrivers_60 rfl rfl ?_
                    refine zz_callV (T := TX2) (N := 6) (As := [.int (zi ((g0 : Nat) : Int)), .int (zi ((i : Nat) : Int))]) (rest := [.int (zi ((g0 : Nat) : Int)), zr ad 13 ((0 : Nat) : Int)]) (v := ((0 : Nat) : Int)) (κ := 7) ⟨hx, hb, hml, hown, hts⟩ (c_X2_mostOfWith l G ad A N0 σ4 nd nr hX n g0 i hn5 (by omega) (by omega) (by rw [hd3 7 0 5 (by omega), hb2 7 0 5 (by omega), ha2 7 0 5 (by omega)]; exact hcn) (fun r hr9 => by rw [hd3 10 r i (by omega), hb2 10 r i (by omega), ha2 10 r i (by omega)]; exact hm r i hr9 (by omega)) (fun j hj => by rw [hd2 j hj]; have q1 := hyd i (by omega) j; have q2 := hyd (i + 1) (by omega) j; split <;> omega)) (cwV 2 hts gX2_mostByDrivers_X2_mostOfWith rfl rfl rfl (by decide +kernel) ⟨Nat.le_of_ble_eq_true rfl, Nat.le_of_ble_eq_true rfl⟩) hK hW4 (zlN (hX 7 0 rfl)) rfl rfl (Nat.le_trans hsz hS4.1) hS4 rfl hl.1.1 rfl (by simp [zr_cat, zcat_i]) dX2_mostByDrivers_61 ⟨Nat.le_of_ble_eq_true rfl, Nat.le_of_ble_eq_true rfl⟩ (fun x5 σ5 H5 locs5 hp5 hW5 hz5 hS5 => ?_)
                    obtain ⟨rfl, rfl⟩ := hp5
                    have e10 : σ4 10 = σ 10 := funext fun a => funext fun b => by rw [hd3 10 a b (by omega), hb2 10 a b (by omega), ha2 10 a b (by omega)]
                    have e13 : ∀ j, j ≤ g0 → σ4 13 0 j = yD (σ 10) n i j := fun j hj => by rw [hd2 j (by omega), if_pos (by omega)]
                    have hres : yoD n i (σ4 10) (σ4 13 0) g0 = yoD n i (σ 10) (yD (σ 10) n i) g0 := by
                      rw [e10]
                      unfold yoD
                      rw [e13 g0 (Nat.le_refl _)]
                      have ef : ∀ r, σ4 13 0 (yrm g0 r) = yD (σ 10) n i (yrm g0 r) := fun r => e13 _ (yrm_lt g0 r)
                      simp only [ef]
                    have hgres : zg (yoD n i (σ4 10) (σ4 13 0) g0) := by
                      rw [hres]
                      have h2 := hyd (i + 1) (by omega) g0
                      have h3 : yD (σ 10) n (i + 1) g0 = yoD n i (σ 10) (yD (σ 10) n i) g0 := if_neg (by omega)
                      rw [h3] at h2
                      exact ⟨by omega, by omega⟩
                    refine W.eq (g2 := F0 m 64 ls [.int (zi (yoD n i (σ4 10) (σ4 13 0) g0)), .int (zi ((g0 : Nat) : Int)), zr ad 13 ((0 : Nat) : Int)]) rfl ?_
                    refine zz_iast (y := (yoD n i (σ4 10) (σ4 13 0) g0)) hx hb hK hW5 hS5 (zlN (hX 13 0 rfl)) rfl rfl rfl (by show (0 : Int) ≤ ((g0 : Nat) : Int); omega) (by show ((g0 : Nat) : Int) < (32 : Int); omega) hgres dX2_mostByDrivers_64 (fun H6 locs6 hW6' hS6 => ?_)
                    obtain ⟨σ6, hs6⟩ : ∃ z, z = zu σ4 13 0 g0 (yoD n i (σ4 10) (σ4 13 0) g0) := ⟨_, rfl⟩
                    have hW6 : ZW G ad A σ6 H6 := by rw [hs6]; exact hW6'
                    refine zz_iinc (lv' := [(3, .int (zi (((g0 : Nat) : Int) + (-1)))), (0, zr ad 7 ((0 : Nat) : Int)), (1, .int (zi ((2 ^ n : Nat) : Int))), (2, .int (zi ((i : Nat) : Int)))]) hx hb hl dX2_mostByDrivers_65 (k0 := 3) rfl (by decide) rfl (fun ls hl => ?_)
                    refine zz_goto (tgt := 49) hx hb dX2_mostByDrivers_68 (by decide) ?_
                    refine ih49 ((g0 : Int) + (-1)) σ6 H6 locs6 ls ?_ (by omega) hW6 hS6 (zh_sub hl [1, 2, 3, 0] rfl)
                    refine ⟨by omega, by omega, fun j hj => ?_, fun κ' i' k' hn => ?_⟩
                    · rw [hs6]
                      by_cases h : j = g0
                      · subst h
                        rw [zu_same, if_neg (by omega), hres]
                        exact (if_neg (by omega)).symm
                      · rw [zu_s h, hd2 j hj]
                        by_cases h2 : (j : Int) ≤ (g0 : Int)
                        · rw [if_pos h2, if_pos (by omega)]
                        · rw [if_neg h2, if_neg (by omega)]
                    · rw [hs6, zu_ne (by omega)]
                      exact hd3 _ _ _ hn
              refine hcut49 _ (((2 ^ n : Nat) : Int) - 1) σ2 H2 locs2 ls ?_ (Nat.lt_succ_self _) hW2 hS2 (zh_sub hl [1, 2, 3, 0] rfl)
              exact ⟨by omega, by omega, fun j hj => by rw [hb1 j hj, if_pos (by omega)], fun _ _ _ _ => rfl⟩
        refine hcut37 _ 0 σ1 H1 locs1 ls ?_ (Nat.lt_succ_self _) hW1 hS1 (zh_sub hl [1, 2, 0] rfl)
        exact ⟨Nat.zero_le _, fun j hj => ha1 j (by omega), fun _ _ _ _ => rfl⟩
      · refine zz_aload_n hx hb hl 0 dX2_mostByDrivers_14 rfl rfl ?_
        refine zz_get (T := TX2) (N := 6) (k := 3) (κ := 7) (w := zr ad 13 ((0 : Nat) : Int)) hx hb hts hinX2 hown hK hW1 (zlN (hX 7 0 rfl)) rfl rfl rfl (by decide) (hts (.fieldLink RX2 25 "HailCity$Matching" "mostOf" "[I") (by decide +kernel)) (fun _ h9 => h9) rfl dX2_mostByDrivers_15 ?_
        refine zz_iload_n hx hb hl 2 dX2_mostByDrivers_18 rfl rfl ?_
        refine zz_iload_n hx hb hl 2 dX2_mostByDrivers_19 rfl rfl ?_
        refine zz_if_ne (tgt := 27) hx hb dX2_mostByDrivers_20 (by decide) ⟨by omega, by omega⟩ (fun hc20 => ?_) (fun hc20 => ?_)
        · refine zz_iconst hx hb dX2_mostByDrivers_27 ?_
          refine zz_iast (y := (-1)) hx hb hK hW1 hS1 (zlN (hX 13 0 rfl)) rfl rfl rfl (by show (0 : Int) ≤ ((t : Nat) : Int); omega) (by show ((t : Nat) : Int) < (32 : Int); omega) ⟨by decide, by decide⟩ dX2_mostByDrivers_28 (fun H7 locs7 hW7' hS7 => ?_)
          obtain ⟨σ7, hs7⟩ : ∃ z, z = zu σ1 13 0 t (-1) := ⟨_, rfl⟩
          have hW7 : ZW G ad A σ7 H7 := by rw [hs7]; exact hW7'
          refine zz_iinc (lv' := [(2, .int (zi (((t : Nat) : Int) + 1))), (0, zr ad 7 ((0 : Nat) : Int)), (1, .int (zi ((2 ^ n : Nat) : Int)))]) hx hb hl dX2_mostByDrivers_29 (k0 := 2) rfl (by decide) rfl (fun ls hl => ?_)
          refine zz_goto (tgt := 9) hx hb dX2_mostByDrivers_32 (by decide) ?_
          refine ih9 (t + 1) σ7 H7 locs7 ls ?_ (by omega) hW7 hS7 (zh_sub hl [1, 2, 0] rfl)
          refine ⟨by omega, fun i hi => ?_, fun κ' i' k' hn => ?_⟩
          · rw [hs7]
            by_cases h : i = t
            · subst h
              rw [zu_same]
              show _ = if i = 0 then (0 : Int) else -1
              split <;> omega
            · rw [zu_s h]; exact ha1 i (by omega)
          · rw [hs7, zu_ne (by omega)]
            exact ha2 _ _ _ hn
        · refine zz_iconst hx hb dX2_mostByDrivers_23 ?_
          refine zz_goto (tgt := 28) hx hb dX2_mostByDrivers_24 (by decide) ?_
          refine zz_iast (y := 0) hx hb hK hW1 hS1 (zlN (hX 13 0 rfl)) rfl rfl rfl (by show (0 : Int) ≤ ((t : Nat) : Int); omega) (by show ((t : Nat) : Int) < (32 : Int); omega) ⟨by decide, by decide⟩ dX2_mostByDrivers_28 (fun H8 locs8 hW8' hS8 => ?_)
          obtain ⟨σ8, hs8⟩ : ∃ z, z = zu σ1 13 0 t 0 := ⟨_, rfl⟩
          have hW8 : ZW G ad A σ8 H8 := by rw [hs8]; exact hW8'
          refine zz_iinc (lv' := [(2, .int (zi (((t : Nat) : Int) + 1))), (0, zr ad 7 ((0 : Nat) : Int)), (1, .int (zi ((2 ^ n : Nat) : Int)))]) hx hb hl dX2_mostByDrivers_29 (k0 := 2) rfl (by decide) rfl (fun ls hl => ?_)
          refine zz_goto (tgt := 9) hx hb dX2_mostByDrivers_32 (by decide) ?_
          refine ih9 (t + 1) σ8 H8 locs8 ls ?_ (by omega) hW8 hS8 (zh_sub hl [1, 2, 0] rfl)
          refine ⟨by omega, fun i hi => ?_, fun κ' i' k' hn => ?_⟩
          · rw [hs8]
            by_cases h : i = t
            · subst h
              rw [zu_same]
              show _ = if i = 0 then (0 : Int) else -1
              split <;> omega
            · rw [zu_s h]; exact ha1 i (by omega)
          · rw [hs8, zu_ne (by omega)]
            exact ha2 _ _ _ hn
  refine hcut9 _ 0 σ s.heap [] ls ?_ (Nat.lt_succ_self _) hW0 hS0 (zh_sub hl [2, 1, 0] rfl)
  exact ⟨Nat.zero_le _, fun i hi => absurd hi (Nat.not_lt_zero i), fun _ _ _ _ => rfl⟩
