/-! CONSTRUCTOR: HailCity -/
theorem yws_n0 (F : Int) (o p t o2 p2 t2 : Nat → Int) : yws F o p t 0 = yws F o2 p2 t2 0 := rfl
theorem ywf_n0 (F : Int) (o p t : Nat → Int) (m a b : Nat) : ywf F o p t 0 m a b = ywf F (fun _ => 0) (fun _ => 0) (fun _ => 0) 0 m a b := by
  have h : ∀ m, ywf F o p t 0 m = ywf F (fun _ => 0) (fun _ => 0) (fun _ => 0) 0 m := fun m => by
    induction m with
    | zero => rfl
    | succ m ih => show ywo (ywf F o p t 0 m) m = ywo (ywf F _ _ _ 0 m) m; rw [ih]
  rw [h]
/-- HailCity when it is new -/
def zpHail (o : Nat) (ad : zA) (σ : zS) (ad' : zA) (u : zS) : Prop := ad' 0 0 = some o ∧ zX ad' 0 0 ∧ (∀ κ i, 17 ≤ κ → κ < 24 ∨ 27 < κ → ad' κ i = ad κ i) ∧ (∀ κ i k, 17 ≤ κ → κ < 24 ∨ 27 < κ → u κ i k = σ κ i k) ∧ (∀ k, u 0 0 k = zup (zd0 0) 7 300 k) ∧ u 1 0 4 = 0 ∧ (∀ x y, x < 10 → y < 10 → u 6 x y = ywf 1000000 (fun _ => 0) (fun _ => 0) (fun _ => 0) 0 10 x y) ∧ (∀ k, u 15 0 k = -1) ∧ (∀ k, u 16 0 k = -1)
set_option maxHeartbeats 4000000 in
set_option maxRecDepth 100000 in
theorem c_X6_init (l : Launch) (G : zG) (ad : zA) (A : Nat → Prop) (N0 : Nat) (σ : zS) (o : Nat) (hA : ∀ q, N0 ≤ q → A q) (hAo : A o) (hn : ∀ κ i, κ < 17 ∨ (24 ≤ κ ∧ κ ≤ 27) → ad κ i = none) : Met l yX6_init wsX6_init ({ frames := 4, cells := 38, slots := 1910, locals := 86 }) (zPN G ad A N0 σ 0 o []) (zQN G A (zpHail o ad σ)) 38 1910 A := by
  refine zn_of (cc := cX6_init) (maxL := 1) (by decide) rfl rfl ⟨rfl, rfl⟩ (by intro v hv; cases hv) (Nat.le_of_ble_eq_true rfl) ?_
  intro p e s m below meth c hx hb hr hml hts hown hlocks hin2 hsz hW hK hAA ls hl
  have hS : va_S A s.heap s.heap [] := va_S.rf
  have hA : ∀ q, s.heap.size ≤ q → A q := fun q hq => hA q (Nat.le_trans hsz hq)
  have hl : zh ls 1 [(0, .ref o)] := hl
  have hinX6 : ∀ w ∈ u_ws RX6 TX6 10, w ∈ wsX6_init := by decide +kernel
  have hinX0 : ∀ w ∈ u_ws RX0 TX0 5, w ∈ wsX6_init := by decide +kernel
  have hinX2 : ∀ w ∈ u_ws RX2 TX2 6, w ∈ wsX6_init := by decide +kernel
  have hinX5 : ∀ w ∈ u_ws RX5 TX5 9, w ∈ wsX6_init := by decide +kernel
  refine lv_aload_n hx hb dX6_init_0 rfl (zh_at hl 0 rfl) ?_
  refine W.objInit hx hb hown (hts (.methodLink RX6 1 objectInit) (by decide +kernel)) (hts (.instanceMethod objectInit) (by decide +kernel)) (hts _ (List.mem_of_getElem? (i := 3) rfl)) rfl (by rw [hml]; exact hl.1.1) rfl dX6_init_1 (Nat.le_of_ble_eq_true rfl) (Nat.le_of_ble_eq_true rfl) ?_
  refine lv_aload_n hx hb dX6_init_4 rfl (zh_at hl 0 rfl) ?_
  refine zn_new (κ := 1) (T := TX0) (N := 5) hx hb hts hinX0 tyX0 tyX0_ok hown (hts (.classLink RX6 7 RX0) (by decide +kernel)) (hts (.instantiable RX0 5) (by decide +kernel)) (hts (.initialized RX0) (by decide +kernel)) hK rfl rfl (by decide +kernel) hW.1 hS (Nat.le_of_ble_eq_true rfl) (Nat.le_of_ble_eq_true rfl) dX6_init_5 (fun q1 H1 hN1 hq1 hz1 ho1 hS1 => ?_)
  have hO1 := hW.push ho1
  have hlt1 := hO1.lt
  have hAq1 : A q1 ∧ q1 ≠ o := ⟨hA _ (by rw [← hq1]; exact hS.1), by have := hW.lt; omega⟩
  refine lv_dup hx hb dX6_init_8 rfl ?_
  refine zn_callI (A' := fun a => A a ∧ a ≠ o) (N0 := H1.size) (As := []) (rest := [.ref q1, .ref o]) ⟨hx, hb, hml, hown, hts⟩ (c_X0_init l G ad (fun a => A a ∧ a ≠ o) H1.size σ q1 (fun q h => ⟨hA q (Nat.le_trans hS1.1 h), by omega⟩) hAq1 (fun κ i _ h => hn κ i (by omega)) (hn 0 0 (by decide)) (hn 14 0 (by decide))) (cwI 0 hts gX6_init_X0_init rfl rfl rfl (hts (.initialized RX0) (by decide +kernel)) (hts (.methodLink RX6 9 yX0_init) (by decide +kernel)) (hts (.instanceMethod yX0_init) (by decide +kernel)) rfl (by decide +kernel) ⟨(Nat.le_of_ble_eq_true rfl), (Nat.le_of_ble_eq_true rfl)⟩) hK hAA (hO1.inner hN1) (Nat.le_refl _) hS1 (fun q h => h.1) rfl hl.1.1 rfl (Nat.le_of_ble_eq_true rfl) dX6_init_9 ⟨(Nat.le_of_ble_eq_true rfl), (Nat.le_of_ble_eq_true rfl)⟩ (fun ad2 u2 H2 locs2 hp2 hW2 hz2 hk2 hS2 => ?_)
  have hWo2 := hO1.after hW2 (hk2 o hlt1 (fun h => h.2 rfl)) (fun q h => h)
  obtain ⟨r1, r2, r3, f4, r5, rfl, hm1, hm2⟩ := hp2
  refine zn_put (T := TX6) (k := 0) hx hb hts hinX6 tyX6 tyX6_ok nmX6 hown hK hWo2 hS2 hAo rfl rfl (by decide) (hts (.fieldLink RX6 10 "HailCity" "map" "LHailCity$CityMap;") (by decide +kernel)) (fun _ h9 => h9) (Or.inr ⟨rfl, hin2⟩) (ty := .object RX0) (by decide +kernel) rfl rfl dX6_init_12 (fun H3 locs3 hW3 hS3 => ?_)
  refine lv_aload_n hx hb dX6_init_15 rfl (zh_at hl 0 rfl) ?_
  refine zz_bipush hx hb dX6_init_16 rfl ?_
  refine zn_anewa (κ := 15) (i := 0) (N := 8) (C := RX1) hx hb hown (hts (.classLink RX6 16 RX1) (by decide +kernel)) hAA.2.1 hK hW3 hS3 hA ⟨by decide, by (repeat (first | rw [zax_nk (by omega)] | rw [zaxs_ne (by omega)])); exact hn _ _ (by omega), by intro κ h; simp [zhl] at h; subst h; exact ⟨by (repeat (first | rw [zax_nk (by omega)] | rw [zaxs_ne (by omega)])); exact hn _ _ (by omega), fun q => absurd q (by decide)⟩⟩ rfl rfl rfl (by decide +kernel) (Nat.le_of_ble_eq_true rfl) (Nat.le_of_ble_eq_true rfl) dX6_init_18 (fun a4 H4 hW4 hS4 hz4 => ?_)
  refine zn_put (T := TX6) (k := 1) hx hb hts hinX6 tyX6 tyX6_ok nmX6 hown hK hW4 hS4 hAo rfl rfl (by decide) (hts (.fieldLink RX6 18 "HailCity" "drivers" "[LHailCity$Driver;") (by decide +kernel)) (fun _ h9 => h9) (Or.inr ⟨rfl, hin2⟩) (ty := .array (.object RX1)) (by decide +kernel) rfl rfl dX6_init_21 (fun H5 locs5 hW5 hS5 => ?_)
  refine lv_aload_n hx hb dX6_init_24 rfl (zh_at hl 0 rfl) ?_
  refine zz_bipush hx hb dX6_init_25 rfl ?_
  refine zn_anewa (κ := 16) (i := 0) (N := 60) (C := RX3) hx hb hown (hts (.classLink RX6 22 RX3) (by decide +kernel)) hAA.2.2 hK hW5 hS5 hA ⟨by decide, by (repeat (first | rw [zax_nk (by omega)] | rw [zaxs_ne (by omega)])); exact hn _ _ (by omega), by intro κ h; simp [zhl] at h; subst h; exact ⟨by (repeat (first | rw [zax_nk (by omega)] | rw [zaxs_ne (by omega)])); exact hn _ _ (by omega), fun q => absurd q (by decide)⟩⟩ rfl rfl rfl (by decide +kernel) (Nat.le_of_ble_eq_true rfl) (Nat.le_of_ble_eq_true rfl) dX6_init_27 (fun a6 H6 hW6 hS6 hz6 => ?_)
  refine zn_put (T := TX6) (k := 2) hx hb hts hinX6 tyX6 tyX6_ok nmX6 hown hK hW6 hS6 hAo rfl rfl (by decide) (hts (.fieldLink RX6 24 "HailCity" "requests" "[LHailCity$Request;") (by decide +kernel)) (fun _ h9 => h9) (Or.inr ⟨rfl, hin2⟩) (ty := .array (.object RX3)) (by decide +kernel) rfl rfl dX6_init_30 (fun H7 locs7 hW7 hS7 => ?_)
  refine lv_aload_n hx hb dX6_init_33 rfl (zh_at hl 0 rfl) ?_
  refine zn_new (κ := 7) (T := TX2) (N := 6) hx hb hts hinX2 tyX2 tyX2_ok hown (hts (.classLink RX6 28 RX2) (by decide +kernel)) (hts (.instantiable RX2 6) (by decide +kernel)) (hts (.initialized RX2) (by decide +kernel)) hK rfl rfl (by decide +kernel) hW7.1 hS7 (Nat.le_of_ble_eq_true rfl) (Nat.le_of_ble_eq_true rfl) dX6_init_34 (fun q8 H8 hN8 hq8 hz8 ho8 hS8 => ?_)
  have hO8 := hW7.push ho8
  have hlt8 := hO8.lt
  have hAq8 : A q8 ∧ q8 ≠ o := ⟨hA _ (by rw [← hq8]; exact hS7.1), by have := hW7.lt; omega⟩
  refine lv_dup hx hb dX6_init_37 rfl ?_
  refine zn_callI (A' := fun a => A a ∧ a ≠ o) (N0 := H8.size) (As := []) (rest := [.ref q8, .ref o]) ⟨hx, hb, hml, hown, hts⟩ (c_X2_init l G (zax (zax (zax (zax (zaxs (zax (zax (zax ad 2 0 r1) 3 0 r2) 4 0 r3) 6 10 f4) 5 0 r5) 1 0 q1) 15 0 a4) 16 0 a6) (fun a => A a ∧ a ≠ o) H8.size (zsl (zsl u2 15 0 (zd0 15)) 16 0 (zd0 16)) q8 (fun q h => ⟨hA q (Nat.le_trans hS8.1 h), by omega⟩) hAq8 (fun κ i _ h => by (repeat (first | rw [zax_nk (by omega)] | rw [zaxs_ne (by omega)])); exact hn κ i (by omega)) (by (repeat (first | rw [zax_nk (by omega)] | rw [zaxs_ne (by omega)])); exact hn 0 0 (by omega))) (cwI 0 hts gX6_init_X2_init rfl rfl rfl (hts (.initialized RX2) (by decide +kernel)) (hts (.methodLink RX6 30 yX2_init) (by decide +kernel)) (hts (.instanceMethod yX2_init) (by decide +kernel)) rfl (by decide +kernel) ⟨(Nat.le_of_ble_eq_true rfl), (Nat.le_of_ble_eq_true rfl)⟩) hK hAA (hO8.inner hN8) (Nat.le_refl _) hS8 (fun q h => h.1) rfl hl.1.1 rfl (Nat.le_of_ble_eq_true rfl) dX6_init_38 ⟨(Nat.le_of_ble_eq_true rfl), (Nat.le_of_ble_eq_true rfl)⟩ (fun ad9 u9 H9 locs9 hp9 hW9 hz9 hk9 hS9 => ?_)
  have hWo9 := hO8.after hW9 (hk9 o hlt8 (fun h => h.2 rfl)) (fun q h => h)
  obtain ⟨r6, f7, r8, f9, r10, r11, rfl, rfl⟩ := hp9
  refine zn_put (T := TX6) (k := 3) hx hb hts hinX6 tyX6 tyX6_ok nmX6 hown hK hWo9 hS9 hAo rfl rfl (by decide) (hts (.fieldLink RX6 31 "HailCity" "matching" "LHailCity$Matching;") (by decide +kernel)) (fun _ h9 => h9) (Or.inr ⟨rfl, hin2⟩) (ty := .object RX2) (by decide +kernel) rfl rfl dX6_init_41 (fun H10 locs10 hW10 hS10 => ?_)
  refine lv_aload_n hx hb dX6_init_44 rfl (zh_at hl 0 rfl) ?_
  refine zn_new (κ := 14) (T := TX5) (N := 9) hx hb hts hinX5 tyX5 tyX5_ok hown (hts (.classLink RX6 35 RX5) (by decide +kernel)) (hts (.instantiable RX5 9) (by decide +kernel)) (hts (.initialized RX5) (by decide +kernel)) hK rfl rfl (by decide +kernel) hW10.1 hS10 (Nat.le_of_ble_eq_true rfl) (Nat.le_of_ble_eq_true rfl) dX6_init_45 (fun q11 H11 hN11 hq11 hz11 ho11 hS11 => ?_)
  have hO11 := hW10.push ho11
  have hlt11 := hO11.lt
  have hAq11 : A q11 ∧ q11 ≠ o := ⟨hA _ (by rw [← hq11]; exact hS10.1), by have := hW10.lt; omega⟩
  refine lv_dup hx hb dX6_init_48 rfl ?_
  refine lv_aload_n hx hb dX6_init_49 rfl (zh_at hl 0 rfl) ?_
  refine zn_get (T := TX6) (k := 0) (w := .ref q1) hx hb hts hinX6 hown hK hO11 rfl rfl (by decide) (hts (.fieldLink RX6 10 "HailCity" "map" "LHailCity$CityMap;") (by decide +kernel)) (fun _ h9 => h9) (by simp [updV]) dX6_init_50 ?_
  refine zn_callI (A' := fun a => A a ∧ a ≠ o) (N0 := H11.size) (As := [.ref q1]) (rest := [.ref q11, .ref o]) ⟨hx, hb, hml, hown, hts⟩ (c_X5_init l G (zax (zax (zax (zaxs (zax (zaxs (zax (zax (zax (zax (zax (zaxs (zax (zax (zax ad 2 0 r1) 3 0 r2) 4 0 r3) 6 10 f4) 5 0 r5) 1 0 q1) 15 0 a4) 16 0 a6) 8 0 r6) 10 5 f7) 9 0 r8) 12 6 f9) 11 0 r10) 13 0 r11) 7 0 q8) (fun a => A a ∧ a ≠ o) H11.size (zsl (zsl (zsl (zslr (zsl (zslr (zsl (zsl (zsl u2 15 0 (zd0 15)) 16 0 (zd0 16)) 8 0 (zd0 8)) 10 5) 9 0 (zd0 9)) 12 6) 11 0 (zd0 11)) 13 0 (zd0 13)) 7 0 (zd0 7)) q11 q1 (by simp [zax, zaxs]) (fun q h => ⟨hA q (Nat.le_trans hS11.1 h), by omega⟩) hAq11 ⟨by decide, by (repeat (first | rw [zax_nk (by omega)] | rw [zaxs_ne (by omega)])); exact hn _ _ (by omega), by intro κ h; simp [zhl] at h; subst h; exact ⟨by (repeat (first | rw [zax_nk (by omega)] | rw [zaxs_ne (by omega)])); exact hn _ _ (by omega), fun q => absurd q (by decide)⟩⟩ (fun κ _ _ => by (repeat (first | rw [zax_nk (by omega)] | rw [zaxs_ne (by omega)])); exact hn κ 0 (by omega))) (cwI 1 hts gX6_init_X5_init rfl rfl rfl (hts (.initialized RX5) (by decide +kernel)) (hts (.methodLink RX6 37 yX5_init) (by decide +kernel)) (hts (.instanceMethod yX5_init) (by decide +kernel)) rfl (by decide +kernel) ⟨(Nat.le_of_ble_eq_true rfl), (Nat.le_of_ble_eq_true rfl)⟩) hK hAA (hO11.inner hN11) (Nat.le_refl _) hS11 (fun q h => h.1) rfl hl.1.1 rfl (Nat.le_of_ble_eq_true rfl) dX6_init_53 ⟨(Nat.le_of_ble_eq_true rfl), (Nat.le_of_ble_eq_true rfl)⟩ (fun ad12 u12 H12 locs12 hp12 hW12 hz12 hk12 hS12 => ?_)
  have hWo12 := hO11.after hW12 (hk12 o hlt11 (fun h => h.2 rfl)) (fun q h => h)
  obtain ⟨s1, s2, s3, s4, rfl, rfl⟩ := hp12
  refine zn_put (T := TX6) (k := 4) hx hb hts hinX6 tyX6 tyX6_ok nmX6 hown hK hWo12 hS12 hAo rfl rfl (by decide) (hts (.fieldLink RX6 40 "HailCity" "sharing" "LHailCity$Sharing;") (by decide +kernel)) (fun _ h9 => h9) (Or.inr ⟨rfl, hin2⟩) (ty := .object RX5) (by decide +kernel) rfl rfl dX6_init_56 (fun H13 locs13 hW13 hS13 => ?_)
  refine lv_aload_n hx hb dX6_init_59 rfl (zh_at hl 0 rfl) ?_
  refine zz_sipush hx hb dX6_init_60 rfl ?_
  refine zn_put (T := TX6) (k := 7) hx hb hts hinX6 tyX6 tyX6_ok nmX6 hown hK hW13 hS13 hAo rfl rfl (by decide) (hts (.fieldLink RX6 44 "HailCity" "heightCap" "I") (by decide +kernel)) (fun _ h9 => h9) (Or.inl rfl) (ty := .int) (by decide +kernel) rfl rfl dX6_init_63 (fun H14 locs14 hW14 hS14 => ?_)
  have hE := zNW.enter (i := 0) (zup (zd0 0) 7 300) hW14 ⟨by decide, by (repeat (first | rw [zax_nk (by omega)] | rw [zaxs_ne (by omega)])); exact hn _ _ (by omega), by intro κ h; simp [zhl] at h⟩ rfl hAo (zup_g zd0_g ⟨by decide, by decide⟩) (zup_b zd0_b (fun h => absurd h (by decide))) (zup_r zd0_r (by decide)) (fun k hk => by
    have hk : k < 10 := hk
    rcases (by omega : k = 0 ∨ k = 1 ∨ k = 2 ∨ k = 3 ∨ k = 4 ∨ k = 5 ∨ k = 6 ∨ k = 7 ∨ k = 8 ∨ k = 9) with rfl | rfl | rfl | rfl | rfl | rfl | rfl | rfl | rfl | rfl <;> simp [updV, zdv, zv, zt, zr_nat, zr_z, zr_neg, zax, zaxs, va_rf, zd0, zup])
  refine zn_retv hx hb hr hlocks hE hS14 ⟨zax_same, ?_, fun κ i h h2 => ?_, fun κ i k h h2 => ?_, fun k => zsl_same, ?_, fun x y hx hy => ?_, fun k => ?_, fun k => ?_⟩ dX6_init_66
  · intro κ i h
    unfold zlive at h
    split at h <;> simp at h <;> simp [zax, zaxs, h]
  · (repeat (first | rw [zax_nk (by omega)] | rw [zaxs_ne (by omega)]))
  · (repeat (first | rw [zsl_nk (by omega)] | rw [zslr_ne (by omega)]))
    rw [hm2 _ _ _ (by omega)]
    (repeat (first | rw [zsl_nk (by omega)] | rw [zslr_ne (by omega)]))
  · (repeat (first | rw [zsl_nk (by omega)] | rw [zslr_ne (by omega)]))
    rw [hm2 _ _ _ (by omega)]
    rw [zsl_same]
    decide
  · (repeat (first | rw [zsl_nk (by omega)] | rw [zslr_ne (by omega)]))
    rw [hm1 x y hx hy]
    exact ywf_n0 _ _ _ _ _ _ _
  · (repeat (first | rw [zsl_nk (by omega)] | rw [zslr_ne (by omega)]))
    rw [zsl_same]
    rfl
  · (repeat (first | rw [zsl_nk (by omega)] | rw [zslr_ne (by omega)]))
    rw [zsl_same]
    rfl
