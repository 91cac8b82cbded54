/-! CONSTRUCTORS: Driver, Request, Sharing -/
theorem zNW.after {G : zG} {ad ad' : zA} {A A' : Nat → Prop} {σ u : zS} {H H1 : Heap} {κ o : Nat} {V : Nat → Value} (h : zNW G ad A σ H κ o V) (h1 : ZW G ad' A' u H1) (hk : H1[o]? = H[o]?) (hA : ∀ q, A' q → A q ∧ q ≠ o) : zNW G ad' A u H1 κ o V :=
  ⟨h1.reA fun κ' i' a ha => (hA a (h1.1 κ' i' a ha).2).1, h.2.1.kept hk, fun κ' i' e => (hA o (h1.1 κ' i' o e).2).2 rfl⟩
theorem zNW.inner {G : zG} {ad : zA} {A : Nat → Prop} {σ : zS} {H : Heap} {κ o κ2 q : Nat} {V V2 : Nat → Value} (h : zNW G ad A σ H κ o V) (h2 : zNW G ad A σ H κ2 q V2) : zNW G ad (fun a => A a ∧ a ≠ o) σ H κ2 q V2 :=
  ⟨h2.1.reA fun κ' i' a ha => ⟨(h2.1.1 κ' i' a ha).2, fun e => h.2.2 κ' i' (by rw [ha, e])⟩, h2.2.1, h2.2.2⟩
def zpDrv (ad : zA) (σ : zS) (i o : Nat) (pl : Int) (ad' : zA) (u : zS) : Prop := ∃ a b c q d, ad' = zax (zax (zax (zax (zax (zax ad 20 i a) 21 i b) 22 i c) 18 i q) 19 i d) 17 i o ∧ u = zsl (zsl (zsl (zsl (zsl (zsl σ 20 i (zd0 20)) 21 i (zd0 21)) 22 i (zd0 22)) 18 i (zd0 18)) 19 i (zd0 19)) 17 i (zup (zup (zd0 17) 6 pl) 4 500)
set_option maxHeartbeats 4000000 in
set_option maxRecDepth 100000 in
theorem c_X1_init (l : Launch) (G : zG) (ad : zA) (A : Nat → Prop) (N0 : Nat) (σ : zS) (i o : Nat) (pl : Int) (gp : zg pl) (hA : ∀ q, N0 ≤ q → A q) (hAo : A o) (h17 : zFree ad 17 i) (h18 : ad 18 i = none) (h19 : ad 19 i = none) (h20 : ad 20 i = none) (h21 : ad 21 i = none) (h22 : ad 22 i = none) : Met l yX1_init wsX1_init ({ frames := 2, cells := 5, slots := 38, locals := 32 }) (zPN G ad A N0 σ 17 o [.int (zi ((i : Nat) : Int)), .int (zi pl)]) (zQN G A (zpDrv ad σ i o pl)) 5 38 A := by
  refine zn_of (cc := cX1_init) (maxL := 3) (by decide) rfl rfl ⟨rfl, rfl⟩ (by intro v hv; simp at hv; rcases hv with rfl | rfl <;> rfl) (Nat.le_of_ble_eq_true rfl) ?_
  intro p e s m below meth c hx hb hr hml hts hown hlocks hin2 hsz hW hK hAA ls hl
  have hS : va_S A s.heap s.heap [] := va_S.rf
  have hA : ∀ q, s.heap.size ≤ q → A q := fun q hq => hA q (Nat.le_trans hsz hq)
  have hl : zh ls 3 [(0, .ref o), (1, .int (zi ((i : Nat) : Int))), (2, .int (zi pl))] := hl
  have hinX1 : ∀ w ∈ u_ws RX1 TX1 13, w ∈ wsX1_init := by decide +kernel
  have hinX4 : ∀ w ∈ u_ws RX4 TX4 4, w ∈ wsX1_init := by decide +kernel
  refine lv_aload_n hx hb dX1_init_0 rfl (zh_at hl 0 rfl) ?_
  refine W.objInit hx hb hown (hts (.methodLink RX1 1 objectInit) (by decide +kernel)) (hts (.instanceMethod objectInit) (by decide +kernel)) (hts _ (List.mem_of_getElem? (i := 3) rfl)) rfl (by rw [hml]; exact hl.1.1) rfl dX1_init_1 (Nat.le_of_ble_eq_true rfl) (Nat.le_of_ble_eq_true rfl) ?_
  refine lv_aload_n hx hb dX1_init_4 rfl (zh_at hl 0 rfl) ?_
  refine zz_iload_n hx hb hl 1 dX1_init_5 rfl rfl ?_
  refine zn_put (T := TX1) (k := 0) hx hb hts hinX1 tyX1 tyX1_ok nmX1 hown hK hW hS hAo rfl rfl (by decide) (hts (.fieldLink RX1 7 "HailCity$Driver" "number" "I") (by decide +kernel)) (fun _ h9 => h9) (Or.inr ⟨rfl, hin2⟩) (ty := .int) (by decide +kernel) rfl rfl dX1_init_6 (fun H1 locs1 hW1 hS1 => ?_)
  refine lv_aload_n hx hb dX1_init_9 rfl (zh_at hl 0 rfl) ?_
  refine zz_iload_n hx hb hl 2 dX1_init_10 rfl rfl ?_
  refine zn_put (T := TX1) (k := 6) hx hb hts hinX1 tyX1 tyX1_ok nmX1 hown hK hW1 hS1 hAo rfl rfl (by decide) (hts (.fieldLink RX1 13 "HailCity$Driver" "place" "I") (by decide +kernel)) (fun _ h9 => h9) (Or.inl rfl) (ty := .int) (by decide +kernel) rfl rfl dX1_init_11 (fun H2 locs2 hW2 hS2 => ?_)
  refine lv_aload_n hx hb dX1_init_14 rfl (zh_at hl 0 rfl) ?_
  refine zn_new (κ := 18) (T := TX4) (N := 4) hx hb hts hinX4 tyX4 tyX4_ok hown (hts (.classLink RX1 16 RX4) (by decide +kernel)) (hts (.instantiable RX4 4) (by decide +kernel)) (hts (.initialized RX4) (by decide +kernel)) hK rfl rfl (by decide +kernel) hW2.1 hS2 (Nat.le_of_ble_eq_true rfl) (Nat.le_of_ble_eq_true rfl) dX1_init_15 (fun q3 H3 hN3 hq3 hz3 ho3 hS3 => ?_)
  have hO3 := hW2.push ho3
  have hlt3 := hO3.lt
  have hAq3 : A q3 ∧ q3 ≠ o := ⟨hA _ (by rw [← hq3]; exact hS2.1), by have := hW2.lt; omega⟩
  refine lv_dup hx hb dX1_init_18 rfl ?_
  refine zn_callI (A' := fun a => A a ∧ a ≠ o) (N0 := H3.size) (As := []) (rest := [.ref q3, .ref o]) ⟨hx, hb, hml, hown, hts⟩ (c_X4_init l G ad (fun a => A a ∧ a ≠ o) H3.size σ i q3 (fun q h => ⟨hA q (Nat.le_trans hS3.1 h), by omega⟩) hAq3 ⟨by decide, by simp [zax, h17.2.1, h18, h19, h20, h21, h22], by intro κ h; simp [zhl] at h; subst h; exact ⟨by simp [zax, h17.2.1, h18, h19, h20, h21, h22], fun q => by first | exact absurd q (by decide) | (intro i9; by_cases c9 : i9 = 0 <;> simp [zax, h17.2.1, h18, h19, h20, h21, h22, c9])⟩⟩ h20 h21 h22) (cwI 0 hts gX1_init_X4_init rfl rfl rfl (hts (.initialized RX4) (by decide +kernel)) (hts (.methodLink RX1 18 yX4_init) (by decide +kernel)) (hts (.instanceMethod yX4_init) (by decide +kernel)) rfl (by decide +kernel) ⟨(Nat.le_of_ble_eq_true rfl), (Nat.le_of_ble_eq_true rfl)⟩) hK hAA (hO3.inner hN3) (Nat.le_refl _) hS3 (fun q h => h.1) rfl hl.1.1 rfl (Nat.le_of_ble_eq_true rfl) dX1_init_19 ⟨(Nat.le_of_ble_eq_true rfl), (Nat.le_of_ble_eq_true rfl)⟩ (fun ad4 u4 H4 locs4 hp4 hW4 hz4 hk4 hS4 => ?_)
  have hWo4 := hO3.after hW4 (hk4 o hlt3 (fun h => h.2 rfl)) (fun q h => h)
  obtain ⟨r1, r2, r3, rfl, rfl⟩ := hp4
  refine zn_put (T := TX1) (k := 1) hx hb hts hinX1 tyX1 tyX1_ok nmX1 hown hK hWo4 hS4 hAo rfl rfl (by decide) (hts (.fieldLink RX1 19 "HailCity$Driver" "row" "LHailCity$Row;") (by decide +kernel)) (fun _ h9 => h9) (Or.inr ⟨rfl, hin2⟩) (ty := .object RX4) (by decide +kernel) rfl rfl dX1_init_22 (fun H5 locs5 hW5 hS5 => ?_)
  refine lv_aload_n hx hb dX1_init_25 rfl (zh_at hl 0 rfl) ?_
  refine zz_bipush hx hb dX1_init_26 rfl ?_
  refine zn_newa (κ := 19) (i := i) (N := 10) (atype := .int) hx hb (hts (.arrayClass .int) (by decide +kernel)) hK hW5 hS5 hA ⟨by decide, by simp [zax, h17.2.1, h18, h19, h20, h21, h22], by intro κ h; simp [zhl] at h; subst h; exact ⟨by simp [zax, h17.2.1, h18, h19, h20, h21, h22], fun q => by first | exact absurd q (by decide) | (intro i9; by_cases c9 : i9 = 0 <;> simp [zax, h17.2.1, h18, h19, h20, h21, h22, c9])⟩⟩ rfl rfl (Or.inl rfl) rfl (by decide +kernel) (Nat.le_of_ble_eq_true rfl) (Nat.le_of_ble_eq_true rfl) dX1_init_28 (fun a6 H6 hW6 hS6 hz6 => ?_)
  refine zn_put (T := TX1) (k := 2) hx hb hts hinX1 tyX1 tyX1_ok nmX1 hown hK hW6 hS6 hAo rfl rfl (by decide) (hts (.fieldLink RX1 23 "HailCity$Driver" "latestStars" "[I") (by decide +kernel)) (fun _ h9 => h9) (Or.inr ⟨rfl, hin2⟩) (ty := .array .int) (by decide +kernel) rfl rfl dX1_init_30 (fun H7 locs7 hW7 hS7 => ?_)
  refine lv_aload_n hx hb dX1_init_33 rfl (zh_at hl 0 rfl) ?_
  refine zz_sipush hx hb dX1_init_34 rfl ?_
  refine zn_put (T := TX1) (k := 4) hx hb hts hinX1 tyX1 tyX1_ok nmX1 hown hK hW7 hS7 hAo rfl rfl (by decide) (hts (.fieldLink RX1 27 "HailCity$Driver" "rating" "I") (by decide +kernel)) (fun _ h9 => h9) (Or.inl rfl) (ty := .int) (by decide +kernel) rfl rfl dX1_init_37 (fun H8 locs8 hW8 hS8 => ?_)
  have hE := zNW.enter (i := i) (zup (zup (zd0 17) 6 pl) 4 500) hW8 ⟨by decide, by simp [zax, h17.2.1, h18, h19, h20, h21, h22], by intro κ h; simp [zhl] at h⟩ rfl hAo (zup_g (zup_g zd0_g gp) ⟨by decide, by decide⟩) (zup_b (zup_b zd0_b (fun h => absurd h (by decide))) (fun h => absurd h (by decide))) (zup_r (zup_r zd0_r (by decide)) (by decide)) (fun k hk => by
    have hk : k < 13 := hk
    rcases (by omega : k = 0 ∨ k = 1 ∨ k = 2 ∨ k = 3 ∨ k = 4 ∨ k = 5 ∨ k = 6 ∨ k = 7 ∨ k = 8 ∨ k = 9 ∨ k = 10 ∨ k = 11 ∨ k = 12) with rfl | rfl | rfl | rfl | rfl | rfl | rfl | rfl | rfl | rfl | rfl | rfl | rfl <;> simp [updV, zdv, zv, zt, zr_nat, zr_neg, zax, va_rf, zd0, zup])
  exact zn_retv hx hb hr hlocks hE hS8 ⟨_, _, _, _, _, rfl, rfl⟩ dX1_init_40
def zpReq (ad : zA) (σ : zS) (i o : Nat) (fr to sh : Int) (ad' : zA) (u : zS) : Prop := ad' = zax ad 23 i o ∧ u = zsl σ 23 i (zup (zup (zup (zup (zup (zd0 23) 1 fr) 2 to) 3 sh) 9 (-1)) 10 (-1))
set_option maxHeartbeats 4000000 in
set_option maxRecDepth 100000 in
theorem c_X3_init (l : Launch) (G : zG) (ad : zA) (A : Nat → Prop) (N0 : Nat) (σ : zS) (i o : Nat) (fr to sh : Int) (gf : zg fr) (gt : zg to) (h01 : sh = 0 ∨ sh = 1) (hA : ∀ q, N0 ≤ q → A q) (hAo : A o) (h23 : zFree ad 23 i) : Met l yX3_init wsX3_init ({ frames := 1, cells := 0, slots := 0, locals := 12 }) (zPN G ad A N0 σ 23 o [.int (zi ((i : Nat) : Int)), .int (zi fr), .int (zi to), .int (zi sh)]) (zQN G A (zpReq ad σ i o fr to sh)) 0 0 A := by
  refine zn_of (cc := cX3_init) (maxL := 5) (by decide) rfl rfl ⟨rfl, rfl⟩ (by intro v hv; simp at hv; rcases hv with rfl | rfl | rfl | rfl <;> rfl) (Nat.le_of_ble_eq_true rfl) ?_
  intro p e s m below meth c hx hb hr hml hts hown hlocks hin2 hsz hW hK hAA ls hl
  have hS : va_S A s.heap s.heap [] := va_S.rf
  have hA : ∀ q, s.heap.size ≤ q → A q := fun q hq => hA q (Nat.le_trans hsz hq)
  have hl : zh ls 5 [(0, .ref o), (1, .int (zi ((i : Nat) : Int))), (2, .int (zi fr)), (3, .int (zi to)), (4, .int (zi sh))] := hl
  have hinX3 : ∀ w ∈ u_ws RX3 TX3 12, w ∈ wsX3_init := by decide +kernel
  refine lv_aload_n hx hb dX3_init_0 rfl (zh_at hl 0 rfl) ?_
  refine W.objInit hx hb hown (hts (.methodLink RX3 3 objectInit) (by decide +kernel)) (hts (.instanceMethod objectInit) (by decide +kernel)) (hts _ (List.mem_of_getElem? (i := 3) rfl)) rfl (by rw [hml]; exact hl.1.1) rfl dX3_init_1 (Nat.le_of_ble_eq_true rfl) (Nat.le_of_ble_eq_true rfl) ?_
  refine lv_aload_n hx hb dX3_init_4 rfl (zh_at hl 0 rfl) ?_
  refine zz_iload_n hx hb hl 1 dX3_init_5 rfl rfl ?_
  refine zn_put (T := TX3) (k := 0) hx hb hts hinX3 tyX3 tyX3_ok nmX3 hown hK hW hS hAo rfl rfl (by decide) (hts (.fieldLink RX3 9 "HailCity$Request" "number" "I") (by decide +kernel)) (fun _ h9 => h9) (Or.inr ⟨rfl, hin2⟩) (ty := .int) (by decide +kernel) rfl rfl dX3_init_6 (fun H1 locs1 hW1 hS1 => ?_)
  refine lv_aload_n hx hb dX3_init_9 rfl (zh_at hl 0 rfl) ?_
  refine zz_iload_n hx hb hl 2 dX3_init_10 rfl rfl ?_
  refine zn_put (T := TX3) (k := 1) hx hb hts hinX3 tyX3 tyX3_ok nmX3 hown hK hW1 hS1 hAo rfl rfl (by decide) (hts (.fieldLink RX3 15 "HailCity$Request" "from" "I") (by decide +kernel)) (fun _ h9 => h9) (Or.inr ⟨rfl, hin2⟩) (ty := .int) (by decide +kernel) rfl rfl dX3_init_11 (fun H2 locs2 hW2 hS2 => ?_)
  refine lv_aload_n hx hb dX3_init_14 rfl (zh_at hl 0 rfl) ?_
  refine zz_iload_n hx hb hl 3 dX3_init_15 rfl rfl ?_
  refine zn_put (T := TX3) (k := 2) hx hb hts hinX3 tyX3 tyX3_ok nmX3 hown hK hW2 hS2 hAo rfl rfl (by decide) (hts (.fieldLink RX3 18 "HailCity$Request" "to" "I") (by decide +kernel)) (fun _ h9 => h9) (Or.inr ⟨rfl, hin2⟩) (ty := .int) (by decide +kernel) rfl rfl dX3_init_16 (fun H3 locs3 hW3 hS3 => ?_)
  refine lv_aload_n hx hb dX3_init_19 rfl (zh_at hl 0 rfl) ?_
  refine zz_iload hx hb hl 4 dX3_init_20 rfl ?_
  refine zn_put (T := TX3) (k := 3) hx hb hts hinX3 tyX3 tyX3_ok nmX3 hown hK hW3 hS3 hAo rfl rfl (by decide) (hts (.fieldLink RX3 21 "HailCity$Request" "isShared" "Z") (by decide +kernel)) (fun _ h9 => h9) (Or.inr ⟨rfl, hin2⟩) (ty := .boolean) (by decide +kernel) (znar_b h01) (by rcases h01 with h | h <;> subst h <;> decide +kernel) dX3_init_22 (fun H4 locs4 hW4 hS4 => ?_)
  refine lv_aload_n hx hb dX3_init_25 rfl (zh_at hl 0 rfl) ?_
  refine zz_iconst hx hb dX3_init_26 ?_
  refine zn_put (T := TX3) (k := 6) hx hb hts hinX3 tyX3 tyX3_ok nmX3 hown hK hW4 hS4 hAo rfl rfl (by decide) (hts (.fieldLink RX3 25 "HailCity$Request" "state" "I") (by decide +kernel)) (fun _ h9 => h9) (Or.inl rfl) (ty := .int) (by decide +kernel) rfl rfl dX3_init_27 (fun H5 locs5 hW5 hS5 => ?_)
  refine lv_aload_n hx hb dX3_init_30 rfl (zh_at hl 0 rfl) ?_
  refine zz_iconst hx hb dX3_init_31 ?_
  refine zn_put (T := TX3) (k := 9) hx hb hts hinX3 tyX3 tyX3_ok nmX3 hown hK hW5 hS5 hAo rfl rfl (by decide) (hts (.fieldLink RX3 28 "HailCity$Request" "promise" "I") (by decide +kernel)) (fun _ h9 => h9) (Or.inl rfl) (ty := .int) (by decide +kernel) rfl rfl dX3_init_32 (fun H6 locs6 hW6 hS6 => ?_)
  refine lv_aload_n hx hb dX3_init_35 rfl (zh_at hl 0 rfl) ?_
  refine zz_iconst hx hb dX3_init_36 ?_
  refine zn_put (T := TX3) (k := 10) hx hb hts hinX3 tyX3 tyX3_ok nmX3 hown hK hW6 hS6 hAo rfl rfl (by decide) (hts (.fieldLink RX3 31 "HailCity$Request" "letOutAt" "I") (by decide +kernel)) (fun _ h9 => h9) (Or.inl rfl) (ty := .int) (by decide +kernel) rfl rfl dX3_init_37 (fun H7 locs7 hW7 hS7 => ?_)
  have hE := zNW.enter (i := i) (zup (zup (zup (zup (zup (zd0 23) 1 fr) 2 to) 3 sh) 9 (-1)) 10 (-1)) hW7 h23 rfl hAo (zup_g (zup_g (zup_g (zup_g (zup_g zd0_g gf) gt) (zg_01 h01)) ⟨by decide, by decide⟩) ⟨by decide, by decide⟩) (zup_b (zup_b (zup_b (zup_b (zup_b zd0_b (fun h => absurd h (by decide))) (fun h => absurd h (by decide))) (fun _ => h01)) (fun h => absurd h (by decide))) (fun h => absurd h (by decide))) (zup_r (zup_r (zup_r (zup_r (zup_r zd0_r (by decide)) (by decide)) (by decide)) (by decide)) (by decide)) (fun k hk => by
    have hk : k < 12 := hk
    rcases (by omega : k = 0 ∨ k = 1 ∨ k = 2 ∨ k = 3 ∨ k = 4 ∨ k = 5 ∨ k = 6 ∨ k = 7 ∨ k = 8 ∨ k = 9 ∨ k = 10 ∨ k = 11) with rfl | rfl | rfl | rfl | rfl | rfl | rfl | rfl | rfl | rfl | rfl | rfl <;> simp [updV, zdv, zv, zt, zr_nat, zr_neg, zax, va_rf, zd0, zup])
  exact zn_retv hx hb hr hlocks hE hS7 ⟨rfl, rfl⟩ dX3_init_40
def zpShr (ad : zA) (σ : zS) (o : Nat) (ad' : zA) (u : zS) : Prop := ∃ a b c q, ad' = (zax (zax (zax (zax (zax ad 25 0 a) 26 0 b) 27 0 c) 24 0 q) 14 0 o) ∧ u = (zsl (zsl (zsl (zsl (zsl σ 25 0 (zd0 25)) 26 0 (zd0 26)) 27 0 (zd0 27)) 24 0 (zd0 24)) 14 0 (zd0 14))
set_option maxHeartbeats 4000000 in
set_option maxRecDepth 100000 in
theorem c_X5_init (l : Launch) (G : zG) (ad : zA) (A : Nat → Prop) (N0 : Nat) (σ : zS) (o : Nat) (mp : Nat) (hm : ad 1 0 = some mp) (hA : ∀ q, N0 ≤ q → A q) (hAo : A o) (h14 : zFree ad 14 0) (hn24 : ∀ κ, 24 ≤ κ → κ ≤ 27 → ad κ 0 = none) : Met l yX5_init wsX5_init ({ frames := 2, cells := 4, slots := 28, locals := 32 }) (zPN G ad A N0 σ 14 o [.ref mp]) (zQN G A (zpShr ad σ o)) 4 28 A := by
  refine zn_of (cc := cX5_init) (maxL := 2) (by decide) rfl rfl ⟨rfl, rfl⟩ (by intro v hv; rw [List.mem_singleton.mp hv]; rfl) (Nat.le_of_ble_eq_true rfl) ?_
  intro p e s m below meth c hx hb hr hml hts hown hlocks hin2 hsz hW hK hAA ls hl
  have hS : va_S A s.heap s.heap [] := va_S.rf
  have hA : ∀ q, s.heap.size ≤ q → A q := fun q hq => hA q (Nat.le_trans hsz hq)
  have hl : zh ls 2 [(0, .ref o), (1, .ref mp)] := hl
  have hinX5 : ∀ w ∈ u_ws RX5 TX5 9, w ∈ wsX5_init := by decide +kernel
  have hinX4 : ∀ w ∈ u_ws RX4 TX4 4, w ∈ wsX5_init := by decide +kernel
  have h14a := h14.2.1
  have h00 := (h14.2.2 0 (List.mem_singleton.mpr rfl)).1
  refine lv_aload_n hx hb dX5_init_0 rfl (zh_at hl 0 rfl) ?_
  refine W.objInit hx hb hown (hts (.methodLink RX5 3 objectInit) (by decide +kernel)) (hts (.instanceMethod objectInit) (by decide +kernel)) (hts _ (List.mem_of_getElem? (i := 3) rfl)) rfl (by rw [hml]; exact hl.1.1) rfl dX5_init_1 (Nat.le_of_ble_eq_true rfl) (Nat.le_of_ble_eq_true rfl) ?_
  refine lv_aload_n hx hb dX5_init_4 rfl (zh_at hl 0 rfl) ?_
  refine lv_aload_n hx hb dX5_init_5 rfl (zh_at hl 1 rfl) ?_
  refine zn_put (T := TX5) (k := 0) hx hb hts hinX5 tyX5 tyX5_ok nmX5 hown hK hW hS hAo rfl rfl (by decide) (hts (.fieldLink RX5 9 "HailCity$Sharing" "map" "LHailCity$CityMap;") (by decide +kernel)) (fun _ h9 => h9) (Or.inr ⟨rfl, hin2⟩) (ty := .object RX0) (by decide +kernel) rfl rfl dX5_init_6 (fun H1 locs1 hW1 hS1 => ?_)
  refine lv_aload_n hx hb dX5_init_9 rfl (zh_at hl 0 rfl) ?_
  refine zn_new (κ := 24) (T := TX4) (N := 4) hx hb hts hinX4 tyX4 tyX4_ok hown (hts (.classLink RX5 15 RX4) (by decide +kernel)) (hts (.instantiable RX4 4) (by decide +kernel)) (hts (.initialized RX4) (by decide +kernel)) hK rfl rfl (by decide +kernel) hW1.1 hS1 (Nat.le_of_ble_eq_true rfl) (Nat.le_of_ble_eq_true rfl) dX5_init_10 (fun q2 H2 hN2 hq2 hz2 ho2 hS2 => ?_)
  have hO2 := hW1.push ho2
  have hlt2 := hO2.lt
  have hAq2 : A q2 ∧ q2 ≠ o := ⟨hA _ (by rw [← hq2]; exact hS1.1), by have := hW1.lt; omega⟩
  refine lv_dup hx hb dX5_init_13 rfl ?_
  refine zn_callI (A' := fun a => A a ∧ a ≠ o) (N0 := H2.size) (As := []) (rest := [.ref q2, .ref o]) ⟨hx, hb, hml, hown, hts⟩ (c_X4L_init l G ad (fun a => A a ∧ a ≠ o) H2.size σ q2 (fun q h => ⟨hA q (Nat.le_trans hS2.1 h), by omega⟩) hAq2 ⟨by decide, hn24 24 (by decide) (by decide), fun κ h => by rw [List.mem_singleton.mp h]; exact ⟨h14a, fun q => by omega⟩⟩ (hn24 25 (by decide) (by decide)) (hn24 26 (by decide) (by decide)) (hn24 27 (by decide) (by decide))) (cwI 0 hts gX5_init_X4_init rfl rfl rfl (hts (.initialized RX4) (by decide +kernel)) (hts (.methodLink RX5 17 yX4_init) (by decide +kernel)) (hts (.instanceMethod yX4_init) (by decide +kernel)) rfl (by decide +kernel) ⟨(Nat.le_of_ble_eq_true rfl), (Nat.le_of_ble_eq_true rfl)⟩) hK hAA (hO2.inner hN2) (Nat.le_refl _) hS2 (fun q h => h.1) rfl hl.1.1 rfl (Nat.le_of_ble_eq_true rfl) dX5_init_14 ⟨(Nat.le_of_ble_eq_true rfl), (Nat.le_of_ble_eq_true rfl)⟩ (fun ad3 u3 H3 locs3 hp3 hW3 hz3 hk3 hS3 => ?_)
  have hWo3 := hO2.after hW3 (hk3 o hlt2 (fun h => h.2 rfl)) (fun q h => h)
  obtain ⟨r1, r2, r3, rfl, rfl⟩ := hp3
  refine zn_put (T := TX5) (k := 1) hx hb hts hinX5 tyX5 tyX5_ok nmX5 hown hK hWo3 hS3 hAo rfl rfl (by decide) (hts (.fieldLink RX5 18 "HailCity$Sharing" "longer" "LHailCity$Row;") (by decide +kernel)) (fun _ h9 => h9) (Or.inr ⟨rfl, hin2⟩) (ty := .object RX4) (by decide +kernel) rfl rfl dX5_init_17 (fun H4 locs4 hW4 hS4 => ?_)
  have hE := zNW.enter (i := 0) (zd0 14) hW4 ⟨by decide, by simp [zax, h14a, h00], by intro κ h; simp [zhl] at h; subst h; exact ⟨by simp [zax, h14a, h00], fun q => by first | exact absurd q (by decide) | (intro i9; by_cases c9 : i9 = 0 <;> simp [zax, h14a, h00, c9])⟩⟩ rfl hAo zd0_g zd0_b zd0_r (fun k hk => by
    have hk : k < 9 := hk
    rcases (by omega : k = 0 ∨ k = 1 ∨ k = 2 ∨ k = 3 ∨ k = 4 ∨ k = 5 ∨ k = 6 ∨ k = 7 ∨ k = 8) with rfl | rfl | rfl | rfl | rfl | rfl | rfl | rfl | rfl <;> simp [updV, zdv, zv, zt, zr_nat, zr_neg, zax, va_rf, zd0, zup, zr_z, hm])
  exact zn_retv hx hb hr hlocks hE hS4 ⟨_, _, _, _, rfl, rfl⟩ dX5_init_20
