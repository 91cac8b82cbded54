/-! CONSTRUCTORS -/
theorem zr_nat {ad : zA} {κ i : Nat} : zr ad κ ((i : Nat) : Int) = va_rf (ad κ i) := by
  unfold zr zq
  rw [if_neg (by omega), Int.toNat_natCast]
theorem zr_neg {ad : zA} {κ : Nat} : zr ad κ (-1) = .null := zr_null (by decide)
theorem zr_z {ad : zA} {κ : Nat} : zr ad κ 0 = va_rf (ad κ 0) := zr_nat (i := 0)
def zup (f : Nat → Int) (k0 : Nat) (x : Int) : Nat → Int := fun k => if k = k0 then x else f k
theorem zup_r {ad : zA} {κ k0 : Nat} {f : Nat → Int} {x : Int} (h : ∀ k, 10 ≤ zt κ k → zt κ k < 100 → zln ad (zt κ k - 10) (f k)) (h0 : zt κ k0 < 10) (k : Nat) (h1 : 10 ≤ zt κ k) (h2 : zt κ k < 100) : zln ad (zt κ k - 10) (zup f k0 x k) := by
  unfold zup
  by_cases c : k = k0
  · subst c; omega
  · rw [if_neg c]; exact h k h1 h2
theorem zup_b {κ k0 : Nat} {f : Nat → Int} {x : Int} (h : ∀ k, zt κ k = 1 → f k = 0 ∨ f k = 1) (h0 : zt κ k0 = 1 → x = 0 ∨ x = 1) (k : Nat) (h1 : zt κ k = 1) : zup f k0 x k = 0 ∨ zup f k0 x k = 1 := by
  unfold zup
  by_cases c : k = k0
  · subst c; rw [if_pos rfl]; exact h0 h1
  · rw [if_neg c]; exact h k h1
theorem zup_g {k0 : Nat} {f : Nat → Int} {x : Int} (h : ∀ k, zg (f k)) (h0 : zg x) (k : Nat) : zg (zup f k0 x k) := by
  unfold zup
  by_cases c : k = k0
  · rw [if_pos c]; exact h0
  · rw [if_neg c]; exact h k
theorem zd0_r {ad : zA} {κ : Nat} (k : Nat) (h1 : 10 ≤ zt κ k) (h2 : zt κ k < 100) : zln ad (zt κ k - 10) (zd0 κ k) := by
  unfold zd0; rw [if_pos ⟨h1, h2⟩]; exact Or.inl (by decide)
theorem zd0_b {κ : Nat} (k : Nat) (h1 : zt κ k = 1) : zd0 κ k = 0 ∨ zd0 κ k = 1 := by
  unfold zd0; rw [if_neg (by omega)]; exact Or.inl rfl
theorem zd0_g {κ : Nat} (k : Nat) : zg (zd0 κ k) := by
  unfold zd0; split <;> exact ⟨by decide, by decide⟩
def zpRow (ad : zA) (σ : zS) (i o : Nat) (ad' : zA) (u : zS) : Prop := ∃ a b c, ad' = zax (zax (zax (zax ad 20 i a) 21 i b) 22 i c) 18 i o ∧ u = zsl (zsl (zsl (zsl σ 20 i (zd0 20)) 21 i (zd0 21)) 22 i (zd0 22)) 18 i (zd0 18)
set_option maxHeartbeats 4000000 in
set_option maxRecDepth 100000 in
theorem c_X4_init (l : Launch) (G : zG) (ad : zA) (A : Nat → Prop) (N0 : Nat) (σ : zS) (i o : Nat) (hA : ∀ q, N0 ≤ q → A q) (hAo : A o) (h18 : zFree ad 18 i) (h20 : ad 20 i = none) (h21 : ad 21 i = none) (h22 : ad 22 i = none) : Met l yX4_init wsX4_init ({ frames := 1, cells := 3, slots := 24, locals := 12 }) (zPN G ad A N0 σ 18 o []) (zQN G A (zpRow ad σ i o)) 3 24 A := by
  refine zn_of (cc := cX4_init) (maxL := 1) (by decide) rfl rfl ⟨rfl, rfl⟩ (by intro v hv; cases hv) (Nat.le_of_ble_eq_true rfl) ?_
  intro p e s m below meth c hx hb hr hml hts hown hlocks hin2 hsz hW hK hAA ls hl
  have hS : va_S A s.heap s.heap [] := va_S.rf
  have hA : ∀ q, s.heap.size ≤ q → A q := fun q hq => hA q (Nat.le_trans hsz hq)
  have hl : zh ls 1 [(0, .ref o)] := hl
  have hinX4 : ∀ w ∈ u_ws RX4 TX4 4, w ∈ wsX4_init := by decide +kernel
  refine lv_aload_n hx hb dX4_init_0 rfl (zh_at hl 0 rfl) ?_
  refine W.objInit hx hb hown (hts (.methodLink RX4 3 objectInit) (by decide +kernel)) (hts (.instanceMethod objectInit) (by decide +kernel)) (hts _ (List.mem_of_getElem? (i := 3) rfl)) rfl (by rw [hml]; exact hl.1.1) rfl dX4_init_1 (Nat.le_of_ble_eq_true rfl) (Nat.le_of_ble_eq_true rfl) ?_
  refine lv_aload_n hx hb dX4_init_4 rfl (zh_at hl 0 rfl) ?_
  refine zz_bipush hx hb dX4_init_5 rfl ?_
  refine zn_newa (κ := 20) (i := i) (N := 8) (atype := .int) hx hb (hts (.arrayClass .int) (by decide +kernel)) hK hW hS hA ⟨by decide, h20, fun κ h => by rw [List.mem_singleton.mp h]; exact ⟨h18.2.1, fun q => by omega⟩⟩ rfl rfl (Or.inl rfl) rfl (by decide +kernel) (Nat.le_of_ble_eq_true rfl) (Nat.le_of_ble_eq_true rfl) dX4_init_7 (fun a1 H1 hW1 hS1 hz1 => ?_)
  refine zn_put (T := TX4) (k := 0) hx hb hts hinX4 tyX4 tyX4_ok nmX4 hown hK hW1 hS1 hAo rfl rfl (by decide) (hts (.fieldLink RX4 11 "HailCity$Row" "places" "[I") (by decide +kernel)) (fun _ h9 => h9) (Or.inr ⟨rfl, hin2⟩) (ty := .array .int) (by decide +kernel) rfl rfl dX4_init_9 (fun H2 locs2 hW2 hS2 => ?_)
  refine lv_aload_n hx hb dX4_init_12 rfl (zh_at hl 0 rfl) ?_
  refine zz_bipush hx hb dX4_init_13 rfl ?_
  refine zn_anewa (κ := 21) (i := i) (N := 8) (C := RX3) hx hb hown (hts (.classLink RX4 15 RX3) (by decide +kernel)) hAA.2.2 hK hW2 hS2 hA ⟨by decide, by rw [zax_ne (by omega)]; exact h21, fun κ h => by rw [List.mem_singleton.mp h]; exact ⟨by rw [zax_ne (by omega)]; exact h18.2.1, fun q => by omega⟩⟩ rfl rfl rfl (by decide +kernel) (Nat.le_of_ble_eq_true rfl) (Nat.le_of_ble_eq_true rfl) dX4_init_15 (fun a3 H3 hW3 hS3 hz3 => ?_)
  refine zn_put (T := TX4) (k := 1) hx hb hts hinX4 tyX4 tyX4_ok nmX4 hown hK hW3 hS3 hAo rfl rfl (by decide) (hts (.fieldLink RX4 17 "HailCity$Row" "riders" "[LHailCity$Request;") (by decide +kernel)) (fun _ h9 => h9) (Or.inr ⟨rfl, hin2⟩) (ty := .array (.object RX3)) (by decide +kernel) rfl rfl dX4_init_18 (fun H4 locs4 hW4 hS4 => ?_)
  refine lv_aload_n hx hb dX4_init_21 rfl (zh_at hl 0 rfl) ?_
  refine zz_bipush hx hb dX4_init_22 rfl ?_
  refine zn_newa (κ := 22) (i := i) (N := 8) (atype := .boolean) hx hb (hts (.arrayClass .boolean) (by decide +kernel)) hK hW4 hS4 hA ⟨by decide, by rw [zax_ne (by omega), zax_ne (by omega)]; exact h22, fun κ h => by rw [List.mem_singleton.mp h]; exact ⟨by rw [zax_ne (by omega), zax_ne (by omega)]; exact h18.2.1, fun q => by omega⟩⟩ rfl rfl (Or.inr rfl) rfl (by decide +kernel) (Nat.le_of_ble_eq_true rfl) (Nat.le_of_ble_eq_true rfl) dX4_init_24 (fun a5 H5 hW5 hS5 hz5 => ?_)
  refine zn_put (T := TX4) (k := 2) hx hb hts hinX4 tyX4 tyX4_ok nmX4 hown hK hW5 hS5 hAo rfl rfl (by decide) (hts (.fieldLink RX4 21 "HailCity$Row" "letOuts" "[Z") (by decide +kernel)) (fun _ h9 => h9) (Or.inr ⟨rfl, hin2⟩) (ty := .array .boolean) (by decide +kernel) rfl rfl dX4_init_26 (fun H6 locs6 hW6 hS6 => ?_)
  have hF : zFree (zax (zax (zax ad 20 i a1) 21 i a3) 22 i a5) 18 i := ⟨by decide, by rw [zax_ne (by omega), zax_ne (by omega), zax_ne (by omega)]; exact h18.2.1, fun κ h => by rw [List.mem_singleton.mp h]; exact ⟨by rw [zax_ne (by omega), zax_ne (by omega), zax_ne (by omega)]; exact (h18.2.2 17 (List.mem_singleton.mpr rfl)).1, fun q => by omega⟩⟩
  have hE := zNW.enter (i := i) (zd0 18) hW6 hF rfl hAo zd0_g zd0_b zd0_r (fun k hk => by
    have hk : k < 4 := hk
    rcases (by omega : k = 0 ∨ k = 1 ∨ k = 2 ∨ k = 3) with rfl | rfl | rfl | rfl <;> simp [updV, zdv, zv, zt, zr_nat, zr_neg, zax, va_rf, zd0, zup])
  exact zn_retv hx hb hr hlocks hE hS6 ⟨_, _, _, rfl, rfl⟩ dX4_init_29
def zpRowL (ad : zA) (σ : zS) (o : Nat) (ad' : zA) (u : zS) : Prop := ∃ a b c, ad' = zax (zax (zax (zax ad 25 0 a) 26 0 b) 27 0 c) 24 0 o ∧ u = zsl (zsl (zsl (zsl σ 25 0 (zd0 25)) 26 0 (zd0 26)) 27 0 (zd0 27)) 24 0 (zd0 24)
set_option maxHeartbeats 4000000 in
set_option maxRecDepth 100000 in
theorem c_X4L_init (l : Launch) (G : zG) (ad : zA) (A : Nat → Prop) (N0 : Nat) (σ : zS) (o : Nat) (hA : ∀ q, N0 ≤ q → A q) (hAo : A o) (h18 : zFree ad 24 0) (h20 : ad 25 0 = none) (h21 : ad 26 0 = none) (h22 : ad 27 0 = none) : Met l yX4_init wsX4_init ({ frames := 1, cells := 3, slots := 24, locals := 12 }) (zPN G ad A N0 σ 24 o []) (zQN G A (zpRowL ad σ o)) 3 24 A := by
  refine zn_of (cc := cX4_init) (maxL := 1) (by decide) rfl rfl ⟨rfl, rfl⟩ (by intro v hv; cases hv) (Nat.le_of_ble_eq_true rfl) ?_
  intro p e s m below meth c hx hb hr hml hts hown hlocks hin2 hsz hW hK hAA ls hl
  have hS : va_S A s.heap s.heap [] := va_S.rf
  have hA : ∀ q, s.heap.size ≤ q → A q := fun q hq => hA q (Nat.le_trans hsz hq)
  have hl : zh ls 1 [(0, .ref o)] := hl
  have hinX4 : ∀ w ∈ u_ws RX4 TX4 4, w ∈ wsX4_init := by decide +kernel
  refine lv_aload_n hx hb dX4_init_0 rfl (zh_at hl 0 rfl) ?_
  refine W.objInit hx hb hown (hts (.methodLink RX4 3 objectInit) (by decide +kernel)) (hts (.instanceMethod objectInit) (by decide +kernel)) (hts _ (List.mem_of_getElem? (i := 3) rfl)) rfl (by rw [hml]; exact hl.1.1) rfl dX4_init_1 (Nat.le_of_ble_eq_true rfl) (Nat.le_of_ble_eq_true rfl) ?_
  refine lv_aload_n hx hb dX4_init_4 rfl (zh_at hl 0 rfl) ?_
  refine zz_bipush hx hb dX4_init_5 rfl ?_
  refine zn_newa (κ := 25) (i := 0) (N := 8) (atype := .int) hx hb (hts (.arrayClass .int) (by decide +kernel)) hK hW hS hA ⟨by decide, h20, fun κ h => by rw [List.mem_singleton.mp h]; exact ⟨h18.2.1, fun q => by omega⟩⟩ rfl rfl (Or.inl rfl) rfl (by decide +kernel) (Nat.le_of_ble_eq_true rfl) (Nat.le_of_ble_eq_true rfl) dX4_init_7 (fun a1 H1 hW1 hS1 hz1 => ?_)
  refine zn_put (T := TX4) (k := 0) hx hb hts hinX4 tyX4 tyX4_ok nmX4 hown hK hW1 hS1 hAo rfl rfl (by decide) (hts (.fieldLink RX4 11 "HailCity$Row" "places" "[I") (by decide +kernel)) (fun _ h9 => h9) (Or.inr ⟨rfl, hin2⟩) (ty := .array .int) (by decide +kernel) rfl rfl dX4_init_9 (fun H2 locs2 hW2 hS2 => ?_)
  refine lv_aload_n hx hb dX4_init_12 rfl (zh_at hl 0 rfl) ?_
  refine zz_bipush hx hb dX4_init_13 rfl ?_
  refine zn_anewa (κ := 26) (i := 0) (N := 8) (C := RX3) hx hb hown (hts (.classLink RX4 15 RX3) (by decide +kernel)) hAA.2.2 hK hW2 hS2 hA ⟨by decide, by rw [zax_ne (by omega)]; exact h21, fun κ h => by rw [List.mem_singleton.mp h]; exact ⟨by rw [zax_ne (by omega)]; exact h18.2.1, fun q => by omega⟩⟩ rfl rfl rfl (by decide +kernel) (Nat.le_of_ble_eq_true rfl) (Nat.le_of_ble_eq_true rfl) dX4_init_15 (fun a3 H3 hW3 hS3 hz3 => ?_)
  refine zn_put (T := TX4) (k := 1) hx hb hts hinX4 tyX4 tyX4_ok nmX4 hown hK hW3 hS3 hAo rfl rfl (by decide) (hts (.fieldLink RX4 17 "HailCity$Row" "riders" "[LHailCity$Request;") (by decide +kernel)) (fun _ h9 => h9) (Or.inr ⟨rfl, hin2⟩) (ty := .array (.object RX3)) (by decide +kernel) rfl rfl dX4_init_18 (fun H4 locs4 hW4 hS4 => ?_)
  refine lv_aload_n hx hb dX4_init_21 rfl (zh_at hl 0 rfl) ?_
  refine zz_bipush hx hb dX4_init_22 rfl ?_
  refine zn_newa (κ := 27) (i := 0) (N := 8) (atype := .boolean) hx hb (hts (.arrayClass .boolean) (by decide +kernel)) hK hW4 hS4 hA ⟨by decide, by rw [zax_ne (by omega), zax_ne (by omega)]; exact h22, fun κ h => by rw [List.mem_singleton.mp h]; exact ⟨by rw [zax_ne (by omega), zax_ne (by omega)]; exact h18.2.1, fun q => by omega⟩⟩ rfl rfl (Or.inr rfl) rfl (by decide +kernel) (Nat.le_of_ble_eq_true rfl) (Nat.le_of_ble_eq_true rfl) dX4_init_24 (fun a5 H5 hW5 hS5 hz5 => ?_)
  refine zn_put (T := TX4) (k := 2) hx hb hts hinX4 tyX4 tyX4_ok nmX4 hown hK hW5 hS5 hAo rfl rfl (by decide) (hts (.fieldLink RX4 21 "HailCity$Row" "letOuts" "[Z") (by decide +kernel)) (fun _ h9 => h9) (Or.inr ⟨rfl, hin2⟩) (ty := .array .boolean) (by decide +kernel) rfl rfl dX4_init_26 (fun H6 locs6 hW6 hS6 => ?_)
  have hF : zFree (zax (zax (zax ad 25 0 a1) 26 0 a3) 27 0 a5) 24 0 := ⟨by decide, by rw [zax_ne (by omega), zax_ne (by omega), zax_ne (by omega)]; exact h18.2.1, fun κ h => by rw [List.mem_singleton.mp h]; exact ⟨by rw [zax_ne (by omega), zax_ne (by omega), zax_ne (by omega)]; exact (h18.2.2 14 (List.mem_singleton.mpr rfl)).1, fun q => by omega⟩⟩
  have hE := zNW.enter (i := 0) (zd0 24) hW6 hF rfl hAo zd0_g zd0_b zd0_r (fun k hk => by
    have hk : k < 4 := hk
    rcases (by omega : k = 0 ∨ k = 1 ∨ k = 2 ∨ k = 3) with rfl | rfl | rfl | rfl <;> simp [updV, zdv, zv, zt, zr_nat, zr_neg, zax, va_rf, zd0, zup, zr_z])
  exact zn_retv hx hb hr hlocks hE hS6 ⟨_, _, _, rfl, rfl⟩ dX4_init_29
