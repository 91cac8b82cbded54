/-! CONSTRUCTOR: the model -/
def zMI (b : Nat) (ad : zA) (σ : zS) (V : Nat → Value) : Prop := (∀ κ, 44 ≤ κ → κ ≤ 81 → zn κ ≠ 0 → (κ < b → (∃ a, ad κ 0 = some a ∧ V (κ - 40) = .ref a) ∧ ∀ k, σ κ 0 k = 0) ∧ (b ≤ κ → ad κ 0 = none)) ∧ ad 30 0 = none ∧ ∀ k, k < 42 → ¬ (44 ≤ k + 40 ∧ zn (k + 40) ≠ 0 ∧ k + 40 < b) → V k = if k = 2 then .int (zi 300) else zdv 30 k
theorem zMI.free {b κ : Nat} {ad : zA} {σ : zS} {V : Nat → Value} (h : zMI b ad σ V) (h1 : b ≤ κ) (h2 : 44 ≤ κ) (h3 : κ ≤ 81) (h4 : zn κ ≠ 0) (h5 : zhl κ = [30]) (h6 : ¬ (κ = 6 ∨ κ = 10 ∨ κ = 12)) : zFree ad κ 0 :=
  ⟨by omega, (h.1 κ h2 h3 h4).2 h1, fun κ' hκ => by rw [h5] at hκ; rw [List.mem_singleton.mp hκ]; exact ⟨h.2.1, fun q => absurd q h6⟩⟩
theorem zd0_int {κ k : Nat} (h : zt κ k < 2) : zd0 κ k = 0 := if_neg (by omega)
theorem zMI.step {b κ a : Nat} {ad : zA} {σ : zS} {V : Nat → Value} (h : zMI b ad σ V) (h1 : b ≤ κ) (h2 : 44 ≤ κ) (h3 : κ ≤ 81) (h4 : zn κ ≠ 0) (h5 : ∀ κ', b ≤ κ' → κ' < κ → zn κ' = 0) (h6 : ∀ k, zt κ k < 2) : zMI (κ + 1) (zax ad κ 0 a) (zsl σ κ 0 (zd0 κ)) (updV V (κ - 40) (.ref a)) := by
  refine ⟨fun κ' g1 g2 g3 => ⟨fun g4 => ?_, fun g4 => ?_⟩, ?_, fun k g1 g2 => ?_⟩
  · by_cases c : κ' = κ
    · subst c
      refine ⟨⟨a, zax_same, ?_⟩, fun k => ?_⟩
      · unfold updV; rw [if_pos rfl]
      · rw [zsl_same, zd0_int (h6 k)]
    · have g5 : κ' < b := by
        refine Classical.byContradiction fun q => g3 (h5 κ' (by omega) (by omega))
      obtain ⟨⟨a', e1, e2⟩, e3⟩ := (h.1 κ' g1 g2 g3).1 g5
      refine ⟨⟨a', by rw [zax_nk c]; exact e1, ?_⟩, fun k => by rw [zsl_nk c]; exact e3 k⟩
      unfold updV; rw [if_neg (by omega)]; exact e2
  · rw [zax_nk (by omega)]
    exact (h.1 κ' g1 g2 g3).2 (by omega)
  · rw [zax_nk (by omega)]; exact h.2.1
  · unfold updV
    by_cases c : k = κ - 40
    · exact absurd ⟨by omega, by rw [show k + 40 = κ by omega]; exact h4, by omega⟩ g2
    · rw [if_neg c]
      exact h.2.2 k g1 fun q => g2 ⟨q.1, q.2.1, by omega⟩
theorem zt_model : ∀ k, k < 42 → (44 ≤ k + 40 ∧ k + 40 ≤ 81 ∧ zn (k + 40) ≠ 0 ∧ zt 30 k = 100 + (k + 40)) ∨ ((¬ (44 ≤ k + 40 ∧ zn (k + 40) ≠ 0)) ∧ zt 30 k = 0) := by decide +kernel
theorem zMI.enter {G : zG} {ad : zA} {A : Nat → Prop} {σ : zS} {H : Heap} {o : Nat} {V : Nat → Value} (h : zMI 82 ad σ V) (hW : zNW G ad A σ H 30 o V) (hA : A o) : ZW G (zax ad 30 0 o) A (zsl σ 30 0 (zup (zd0 30) 2 300)) H := by
  refine hW.enter (i := 0) _ ⟨by decide, h.2.1, fun κ q => absurd q (List.not_mem_nil)⟩ rfl hA (zup_g zd0_g ⟨by decide, by decide⟩) (zup_b zd0_b (fun h => absurd h (by decide))) (zup_r zd0_r (by decide)) (fun k hk => ?_)
  have hk : k < 42 := hk
  rcases zt_model k hk with ⟨g1, g2, g3, g4⟩ | ⟨g1, g2⟩
  · obtain ⟨⟨a, e1, e2⟩, -⟩ := (h.1 (k + 40) g1 g2 g3).1 (by omega)
    rw [show k + 40 - 40 = k by omega] at e2
    rw [e2]
    unfold zv
    rw [g4, if_neg (by omega), if_neg (by omega), if_neg (by omega), if_neg (by omega), if_pos (by omega), show 100 + (k + 40) - 100 = k + 40 by omega, zr_nat, zax_nk (by omega), e1]
    rfl
  · rw [h.2.2 k hk (fun q => g1 ⟨q.1, q.2.1⟩), zv_i (by omega)]
    unfold zup zdv zd0
    rw [g2]
    by_cases c : k = 2
    · rw [if_pos c, if_pos c]
    · rw [if_neg c, if_neg c, if_neg (by omega), if_neg (by omega)]
/-- the model when it is new -/
def zpMod (o : Nat) (ad' : zA) (u : zS) : Prop := ad' 30 0 = some o ∧ zMm ad' ∧ (∀ k, u 30 0 k = zup (zd0 30) 2 300 k) ∧ (∀ κ, 44 ≤ κ → κ ≤ 81 → zn κ ≠ 0 → κ ≠ 47 → ∀ k, u κ 0 k = 0) ∧ ∀ a b, a < 10 → b < 10 → u 47 0 (10 * a + b) = ywf 100000 (fun _ => 0) (fun _ => 0) (fun _ => 0) 0 10 a b
set_option maxHeartbeats 4000000 in
set_option maxRecDepth 100000 in
theorem c_X7_init (l : Launch) (G : zG) (ad : zA) (A : Nat → Prop) (N0 : Nat) (σ : zS) (o : Nat) (hA : ∀ q, N0 ≤ q → A q) (hAo : A o) (hn : ∀ κ i, ad κ i = none) : Met l yX7_init wsX7_init ({ frames := 1, cells := 34, slots := 1153, locals := 23 }) (zPN G ad A N0 σ 30 o []) (zQN G A (zpMod o)) 34 1153 A := by
  refine zn_of (cc := cX7_init) (maxL := 1) (by decide) rfl rfl ⟨rfl, rfl⟩ (by intro v hv; cases hv) (Nat.le_of_ble_eq_true rfl) ?_
  intro p e s m below meth c hx hb hr hml hts hown hlocks hin2 hsz hW hK hAA ls hl
  have hS : va_S A s.heap s.heap [] := va_S.rf
  have hA : ∀ q, s.heap.size ≤ q → A q := fun q hq => hA q (Nat.le_trans hsz hq)
  have hl : zh ls 1 [(0, .ref o)] := hl
  have hinX7 : ∀ w ∈ u_ws RX7 TX7 42, w ∈ wsX7_init := by decide +kernel
  refine lv_aload_n hx hb dX7_init_0 rfl (zh_at hl 0 rfl) ?_
  refine W.objInit hx hb hown (hts (.methodLink RX7 1 objectInit) (by decide +kernel)) (hts (.instanceMethod objectInit) (by decide +kernel)) (hts _ (List.mem_of_getElem? (i := 3) rfl)) rfl (by rw [hml]; exact hl.1.1) rfl dX7_init_1 (Nat.le_of_ble_eq_true rfl) (Nat.le_of_ble_eq_true rfl) ?_
  have hI : zMI 44 ad σ (updV (zdv 30) 2 (.int (zi 300))) := ⟨fun κ g1 g2 g3 => ⟨fun q => by omega, fun _ => hn κ 0⟩, hn 30 0, fun k g1 g2 => by unfold updV; rfl⟩
  refine lv_aload_n hx hb dX7_init_4 rfl (zh_at hl 0 rfl) ?_
  refine zz_sipush hx hb dX7_init_5 rfl ?_
  refine zn_put (T := TX7) (k := 2) hx hb hts hinX7 tyX7 tyX7_ok nmX7 hown hK hW hS hAo rfl rfl (by decide) (hts (.fieldLink RX7 7 "HailCityModel" "cap" "I") (by decide +kernel)) (fun _ h9 => h9) (Or.inl rfl) (ty := .int) (by decide +kernel) rfl rfl dX7_init_8 (fun H1 locs1 hW1 hS1 => ?_)
  refine lv_aload_n hx hb dX7_init_11 rfl (zh_at hl 0 rfl) ?_
  refine zz_bipush hx hb dX7_init_12 rfl ?_
  refine zn_newa (κ := 44) (i := 0) (N := 20) (atype := .int) hx hb (hts (.arrayClass .int) (by decide +kernel)) hK hW1 hS1 hA (hI.free (by decide) (by decide) (by decide) (by decide) rfl (by decide)) rfl rfl (Or.inl rfl) rfl (by decide +kernel) (Nat.le_of_ble_eq_true rfl) (Nat.le_of_ble_eq_true rfl) dX7_init_14 (fun a2 H2 hW2 hS2 hz2 => ?_)
  refine zn_put (T := TX7) (k := 4) hx hb hts hinX7 tyX7 tyX7_ok nmX7 hown hK hW2 hS2 hAo rfl rfl (by decide) (hts (.fieldLink RX7 13 "HailCityModel" "one" "[I") (by decide +kernel)) (fun _ h9 => h9) (Or.inr ⟨rfl, hin2⟩) (ty := .array .int) (by decide +kernel) rfl rfl dX7_init_16 (fun H3 locs3 hW3 hS3 => ?_)
  obtain ⟨ad4, σ4, V4, hW4, hI⟩ : ∃ ad9 σ9 V9, zNW G ad9 A σ9 H3 30 o V9 ∧ zMI 45 ad9 σ9 V9 := ⟨_, _, _, hW3, hI.step (κ := 44) (a := a2) (by decide) (by decide) (by decide) (by decide) (by intro κ9 h8 h9; omega) (fun _ => show (0 : Nat) < 2 from by decide)⟩
  refine lv_aload_n hx hb dX7_init_19 rfl (zh_at hl 0 rfl) ?_
  refine zz_bipush hx hb dX7_init_20 rfl ?_
  refine zn_newa (κ := 45) (i := 0) (N := 20) (atype := .int) hx hb (hts (.arrayClass .int) (by decide +kernel)) hK hW4 hS3 hA (hI.free (by decide) (by decide) (by decide) (by decide) rfl (by decide)) rfl rfl (Or.inl rfl) rfl (by decide +kernel) (Nat.le_of_ble_eq_true rfl) (Nat.le_of_ble_eq_true rfl) dX7_init_22 (fun a5 H5 hW5 hS5 hz5 => ?_)
  refine zn_put (T := TX7) (k := 5) hx hb hts hinX7 tyX7 tyX7_ok nmX7 hown hK hW5 hS5 hAo rfl rfl (by decide) (hts (.fieldLink RX7 17 "HailCityModel" "other" "[I") (by decide +kernel)) (fun _ h9 => h9) (Or.inr ⟨rfl, hin2⟩) (ty := .array .int) (by decide +kernel) rfl rfl dX7_init_24 (fun H6 locs6 hW6 hS6 => ?_)
  obtain ⟨ad7, σ7, V7, hW7, hI⟩ : ∃ ad9 σ9 V9, zNW G ad9 A σ9 H6 30 o V9 ∧ zMI 46 ad9 σ9 V9 := ⟨_, _, _, hW6, hI.step (κ := 45) (a := a5) (by decide) (by decide) (by decide) (by decide) (by intro κ9 h8 h9; omega) (fun _ => show (0 : Nat) < 2 from by decide)⟩
  refine lv_aload_n hx hb dX7_init_27 rfl (zh_at hl 0 rfl) ?_
  refine zz_bipush hx hb dX7_init_28 rfl ?_
  refine zn_newa (κ := 46) (i := 0) (N := 20) (atype := .int) hx hb (hts (.arrayClass .int) (by decide +kernel)) hK hW7 hS6 hA (hI.free (by decide) (by decide) (by decide) (by decide) rfl (by decide)) rfl rfl (Or.inl rfl) rfl (by decide +kernel) (Nat.le_of_ble_eq_true rfl) (Nat.le_of_ble_eq_true rfl) dX7_init_30 (fun a8 H8 hW8 hS8 hz8 => ?_)
  refine zn_put (T := TX7) (k := 6) hx hb hts hinX7 tyX7 tyX7_ok nmX7 hown hK hW8 hS8 hAo rfl rfl (by decide) (hts (.fieldLink RX7 20 "HailCityModel" "takes" "[I") (by decide +kernel)) (fun _ h9 => h9) (Or.inr ⟨rfl, hin2⟩) (ty := .array .int) (by decide +kernel) rfl rfl dX7_init_32 (fun H9 locs9 hW9 hS9 => ?_)
  obtain ⟨ad10, σ10, V10, hW10, hI⟩ : ∃ ad9 σ9 V9, zNW G ad9 A σ9 H9 30 o V9 ∧ zMI 47 ad9 σ9 V9 := ⟨_, _, _, hW9, hI.step (κ := 46) (a := a8) (by decide) (by decide) (by decide) (by decide) (by intro κ9 h8 h9; omega) (fun _ => show (0 : Nat) < 2 from by decide)⟩
  refine lv_aload_n hx hb dX7_init_35 rfl (zh_at hl 0 rfl) ?_
  refine zz_bipush hx hb dX7_init_36 rfl ?_
  refine zn_newa (κ := 47) (i := 0) (N := 100) (atype := .int) hx hb (hts (.arrayClass .int) (by decide +kernel)) hK hW10 hS9 hA (hI.free (by decide) (by decide) (by decide) (by decide) rfl (by decide)) rfl rfl (Or.inl rfl) rfl (by decide +kernel) (Nat.le_of_ble_eq_true rfl) (Nat.le_of_ble_eq_true rfl) dX7_init_38 (fun a11 H11 hW11 hS11 hz11 => ?_)
  refine zn_put (T := TX7) (k := 7) hx hb hts hinX7 tyX7 tyX7_ok nmX7 hown hK hW11 hS11 hAo rfl rfl (by decide) (hts (.fieldLink RX7 23 "HailCityModel" "ways" "[I") (by decide +kernel)) (fun _ h9 => h9) (Or.inr ⟨rfl, hin2⟩) (ty := .array .int) (by decide +kernel) rfl rfl dX7_init_40 (fun H12 locs12 hW12 hS12 => ?_)
  obtain ⟨ad13, σ13, V13, hW13, hI⟩ : ∃ ad9 σ9 V9, zNW G ad9 A σ9 H12 30 o V9 ∧ zMI 48 ad9 σ9 V9 := ⟨_, _, _, hW12, hI.step (κ := 47) (a := a11) (by decide) (by decide) (by decide) (by decide) (by intro κ9 h8 h9; omega) (fun _ => show (0 : Nat) < 2 from by decide)⟩
  refine lv_aload_n hx hb dX7_init_43 rfl (zh_at hl 0 rfl) ?_
  refine zz_bipush hx hb dX7_init_44 rfl ?_
  refine zn_newa (κ := 49) (i := 0) (N := 8) (atype := .int) hx hb (hts (.arrayClass .int) (by decide +kernel)) hK hW13 hS12 hA (hI.free (by decide) (by decide) (by decide) (by decide) rfl (by decide)) rfl rfl (Or.inl rfl) rfl (by decide +kernel) (Nat.le_of_ble_eq_true rfl) (Nat.le_of_ble_eq_true rfl) dX7_init_46 (fun a14 H14 hW14 hS14 hz14 => ?_)
  refine zn_put (T := TX7) (k := 9) hx hb hts hinX7 tyX7 tyX7_ok nmX7 hown hK hW14 hS14 hAo rfl rfl (by decide) (hts (.fieldLink RX7 26 "HailCityModel" "place" "[I") (by decide +kernel)) (fun _ h9 => h9) (Or.inr ⟨rfl, hin2⟩) (ty := .array .int) (by decide +kernel) rfl rfl dX7_init_48 (fun H15 locs15 hW15 hS15 => ?_)
  obtain ⟨ad16, σ16, V16, hW16, hI⟩ : ∃ ad9 σ9 V9, zNW G ad9 A σ9 H15 30 o V9 ∧ zMI 50 ad9 σ9 V9 := ⟨_, _, _, hW15, hI.step (κ := 49) (a := a14) (by decide) (by decide) (by decide) (by decide) (by intro κ9 h8 h9; obtain rfl : κ9 = 48 := (by omega); rfl) (fun _ => show (0 : Nat) < 2 from by decide)⟩
  refine lv_aload_n hx hb dX7_init_51 rfl (zh_at hl 0 rfl) ?_
  refine zz_bipush hx hb dX7_init_52 rfl ?_
  refine zn_newa (κ := 50) (i := 0) (N := 8) (atype := .boolean) hx hb (hts (.arrayClass .boolean) (by decide +kernel)) hK hW16 hS15 hA (hI.free (by decide) (by decide) (by decide) (by decide) rfl (by decide)) rfl rfl (Or.inr rfl) rfl (by decide +kernel) (Nat.le_of_ble_eq_true rfl) (Nat.le_of_ble_eq_true rfl) dX7_init_54 (fun a17 H17 hW17 hS17 hz17 => ?_)
  refine zn_put (T := TX7) (k := 10) hx hb hts hinX7 tyX7 tyX7_ok nmX7 hown hK hW17 hS17 hAo rfl rfl (by decide) (hts (.fieldLink RX7 29 "HailCityModel" "isResting" "[Z") (by decide +kernel)) (fun _ h9 => h9) (Or.inr ⟨rfl, hin2⟩) (ty := .array .boolean) (by decide +kernel) rfl rfl dX7_init_56 (fun H18 locs18 hW18 hS18 => ?_)
  obtain ⟨ad19, σ19, V19, hW19, hI⟩ : ∃ ad9 σ9 V9, zNW G ad9 A σ9 H18 30 o V9 ∧ zMI 51 ad9 σ9 V9 := ⟨_, _, _, hW18, hI.step (κ := 50) (a := a17) (by decide) (by decide) (by decide) (by decide) (by intro κ9 h8 h9; omega) (fun _ => show (1 : Nat) < 2 from by decide)⟩
  refine lv_aload_n hx hb dX7_init_59 rfl (zh_at hl 0 rfl) ?_
  refine zz_bipush hx hb dX7_init_60 rfl ?_
  refine zn_newa (κ := 51) (i := 0) (N := 8) (atype := .boolean) hx hb (hts (.arrayClass .boolean) (by decide +kernel)) hK hW19 hS18 hA (hI.free (by decide) (by decide) (by decide) (by decide) rfl (by decide)) rfl rfl (Or.inr rfl) rfl (by decide +kernel) (Nat.le_of_ble_eq_true rfl) (Nat.le_of_ble_eq_true rfl) dX7_init_62 (fun a20 H20 hW20 hS20 hz20 => ?_)
  refine zn_put (T := TX7) (k := 11) hx hb hts hinX7 tyX7 tyX7_ok nmX7 hown hK hW20 hS20 hAo rfl rfl (by decide) (hts (.fieldLink RX7 33 "HailCityModel" "isBarred" "[Z") (by decide +kernel)) (fun _ h9 => h9) (Or.inr ⟨rfl, hin2⟩) (ty := .array .boolean) (by decide +kernel) rfl rfl dX7_init_64 (fun H21 locs21 hW21 hS21 => ?_)
  obtain ⟨ad22, σ22, V22, hW22, hI⟩ : ∃ ad9 σ9 V9, zNW G ad9 A σ9 H21 30 o V9 ∧ zMI 52 ad9 σ9 V9 := ⟨_, _, _, hW21, hI.step (κ := 51) (a := a20) (by decide) (by decide) (by decide) (by decide) (by intro κ9 h8 h9; omega) (fun _ => show (1 : Nat) < 2 from by decide)⟩
  refine lv_aload_n hx hb dX7_init_67 rfl (zh_at hl 0 rfl) ?_
  refine zz_bipush hx hb dX7_init_68 rfl ?_
  refine zn_newa (κ := 52) (i := 0) (N := 8) (atype := .int) hx hb (hts (.arrayClass .int) (by decide +kernel)) hK hW22 hS21 hA (hI.free (by decide) (by decide) (by decide) (by decide) rfl (by decide)) rfl rfl (Or.inl rfl) rfl (by decide +kernel) (Nat.le_of_ble_eq_true rfl) (Nat.le_of_ble_eq_true rfl) dX7_init_70 (fun a23 H23 hW23 hS23 hz23 => ?_)
  refine zn_put (T := TX7) (k := 12) hx hb hts hinX7 tyX7 tyX7_ok nmX7 hown hK hW23 hS23 hAo rfl rfl (by decide) (hts (.fieldLink RX7 36 "HailCityModel" "stops" "[I") (by decide +kernel)) (fun _ h9 => h9) (Or.inr ⟨rfl, hin2⟩) (ty := .array .int) (by decide +kernel) rfl rfl dX7_init_72 (fun H24 locs24 hW24 hS24 => ?_)
  obtain ⟨ad25, σ25, V25, hW25, hI⟩ : ∃ ad9 σ9 V9, zNW G ad9 A σ9 H24 30 o V9 ∧ zMI 53 ad9 σ9 V9 := ⟨_, _, _, hW24, hI.step (κ := 52) (a := a23) (by decide) (by decide) (by decide) (by decide) (by intro κ9 h8 h9; omega) (fun _ => show (0 : Nat) < 2 from by decide)⟩
  refine lv_aload_n hx hb dX7_init_75 rfl (zh_at hl 0 rfl) ?_
  refine zz_bipush hx hb dX7_init_76 rfl ?_
  refine zn_newa (κ := 53) (i := 0) (N := 64) (atype := .int) hx hb (hts (.arrayClass .int) (by decide +kernel)) hK hW25 hS24 hA (hI.free (by decide) (by decide) (by decide) (by decide) rfl (by decide)) rfl rfl (Or.inl rfl) rfl (by decide +kernel) (Nat.le_of_ble_eq_true rfl) (Nat.le_of_ble_eq_true rfl) dX7_init_78 (fun a26 H26 hW26 hS26 hz26 => ?_)
  refine zn_put (T := TX7) (k := 13) hx hb hts hinX7 tyX7 tyX7_ok nmX7 hown hK hW26 hS26 hAo rfl rfl (by decide) (hts (.fieldLink RX7 39 "HailCityModel" "stopAt" "[I") (by decide +kernel)) (fun _ h9 => h9) (Or.inr ⟨rfl, hin2⟩) (ty := .array .int) (by decide +kernel) rfl rfl dX7_init_80 (fun H27 locs27 hW27 hS27 => ?_)
  obtain ⟨ad28, σ28, V28, hW28, hI⟩ : ∃ ad9 σ9 V9, zNW G ad9 A σ9 H27 30 o V9 ∧ zMI 54 ad9 σ9 V9 := ⟨_, _, _, hW27, hI.step (κ := 53) (a := a26) (by decide) (by decide) (by decide) (by decide) (by intro κ9 h8 h9; omega) (fun _ => show (0 : Nat) < 2 from by decide)⟩
  refine lv_aload_n hx hb dX7_init_83 rfl (zh_at hl 0 rfl) ?_
  refine zz_bipush hx hb dX7_init_84 rfl ?_
  refine zn_newa (κ := 54) (i := 0) (N := 64) (atype := .int) hx hb (hts (.arrayClass .int) (by decide +kernel)) hK hW28 hS27 hA (hI.free (by decide) (by decide) (by decide) (by decide) rfl (by decide)) rfl rfl (Or.inl rfl) rfl (by decide +kernel) (Nat.le_of_ble_eq_true rfl) (Nat.le_of_ble_eq_true rfl) dX7_init_86 (fun a29 H29 hW29 hS29 hz29 => ?_)
  refine zn_put (T := TX7) (k := 14) hx hb hts hinX7 tyX7 tyX7_ok nmX7 hown hK hW29 hS29 hAo rfl rfl (by decide) (hts (.fieldLink RX7 42 "HailCityModel" "stopWhom" "[I") (by decide +kernel)) (fun _ h9 => h9) (Or.inr ⟨rfl, hin2⟩) (ty := .array .int) (by decide +kernel) rfl rfl dX7_init_88 (fun H30 locs30 hW30 hS30 => ?_)
  obtain ⟨ad31, σ31, V31, hW31, hI⟩ : ∃ ad9 σ9 V9, zNW G ad9 A σ9 H30 30 o V9 ∧ zMI 55 ad9 σ9 V9 := ⟨_, _, _, hW30, hI.step (κ := 54) (a := a29) (by decide) (by decide) (by decide) (by decide) (by intro κ9 h8 h9; omega) (fun _ => show (0 : Nat) < 2 from by decide)⟩
  refine lv_aload_n hx hb dX7_init_91 rfl (zh_at hl 0 rfl) ?_
  refine zz_bipush hx hb dX7_init_92 rfl ?_
  refine zn_newa (κ := 55) (i := 0) (N := 8) (atype := .int) hx hb (hts (.arrayClass .int) (by decide +kernel)) hK hW31 hS30 hA (hI.free (by decide) (by decide) (by decide) (by decide) rfl (by decide)) rfl rfl (Or.inl rfl) rfl (by decide +kernel) (Nat.le_of_ble_eq_true rfl) (Nat.le_of_ble_eq_true rfl) dX7_init_94 (fun a32 H32 hW32 hS32 hz32 => ?_)
  refine zn_put (T := TX7) (k := 15) hx hb hts hinX7 tyX7 tyX7_ok nmX7 hown hK hW32 hS32 hAo rfl rfl (by decide) (hts (.fieldLink RX7 45 "HailCityModel" "reached" "[I") (by decide +kernel)) (fun _ h9 => h9) (Or.inr ⟨rfl, hin2⟩) (ty := .array .int) (by decide +kernel) rfl rfl dX7_init_96 (fun H33 locs33 hW33 hS33 => ?_)
  obtain ⟨ad34, σ34, V34, hW34, hI⟩ : ∃ ad9 σ9 V9, zNW G ad9 A σ9 H33 30 o V9 ∧ zMI 56 ad9 σ9 V9 := ⟨_, _, _, hW33, hI.step (κ := 55) (a := a32) (by decide) (by decide) (by decide) (by decide) (by intro κ9 h8 h9; omega) (fun _ => show (0 : Nat) < 2 from by decide)⟩
  refine lv_aload_n hx hb dX7_init_99 rfl (zh_at hl 0 rfl) ?_
  refine zz_bipush hx hb dX7_init_100 rfl ?_
  refine zn_newa (κ := 56) (i := 0) (N := 8) (atype := .int) hx hb (hts (.arrayClass .int) (by decide +kernel)) hK hW34 hS33 hA (hI.free (by decide) (by decide) (by decide) (by decide) rfl (by decide)) rfl rfl (Or.inl rfl) rfl (by decide +kernel) (Nat.le_of_ble_eq_true rfl) (Nat.le_of_ble_eq_true rfl) dX7_init_102 (fun a35 H35 hW35 hS35 hz35 => ?_)
  refine zn_put (T := TX7) (k := 16) hx hb hts hinX7 tyX7 tyX7_ok nmX7 hown hK hW35 hS35 hAo rfl rfl (by decide) (hts (.fieldLink RX7 48 "HailCityModel" "freeSince" "[I") (by decide +kernel)) (fun _ h9 => h9) (Or.inr ⟨rfl, hin2⟩) (ty := .array .int) (by decide +kernel) rfl rfl dX7_init_104 (fun H36 locs36 hW36 hS36 => ?_)
  obtain ⟨ad37, σ37, V37, hW37, hI⟩ : ∃ ad9 σ9 V9, zNW G ad9 A σ9 H36 30 o V9 ∧ zMI 57 ad9 σ9 V9 := ⟨_, _, _, hW36, hI.step (κ := 56) (a := a35) (by decide) (by decide) (by decide) (by decide) (by intro κ9 h8 h9; omega) (fun _ => show (0 : Nat) < 2 from by decide)⟩
  refine lv_aload_n hx hb dX7_init_107 rfl (zh_at hl 0 rfl) ?_
  refine zz_bipush hx hb dX7_init_108 rfl ?_
  refine zn_newa (κ := 58) (i := 0) (N := 8) (atype := .int) hx hb (hts (.arrayClass .int) (by decide +kernel)) hK hW37 hS36 hA (hI.free (by decide) (by decide) (by decide) (by decide) rfl (by decide)) rfl rfl (Or.inl rfl) rfl (by decide +kernel) (Nat.le_of_ble_eq_true rfl) (Nat.le_of_ble_eq_true rfl) dX7_init_110 (fun a38 H38 hW38 hS38 hz38 => ?_)
  refine zn_put (T := TX7) (k := 18) hx hb hts hinX7 tyX7 tyX7_ok nmX7 hown hK hW38 hS38 hAo rfl rfl (by decide) (hts (.fieldLink RX7 51 "HailCityModel" "ratings" "[I") (by decide +kernel)) (fun _ h9 => h9) (Or.inr ⟨rfl, hin2⟩) (ty := .array .int) (by decide +kernel) rfl rfl dX7_init_112 (fun H39 locs39 hW39 hS39 => ?_)
  obtain ⟨ad40, σ40, V40, hW40, hI⟩ : ∃ ad9 σ9 V9, zNW G ad9 A σ9 H39 30 o V9 ∧ zMI 59 ad9 σ9 V9 := ⟨_, _, _, hW39, hI.step (κ := 58) (a := a38) (by decide) (by decide) (by decide) (by decide) (by intro κ9 h8 h9; obtain rfl : κ9 = 57 := (by omega); rfl) (fun _ => show (0 : Nat) < 2 from by decide)⟩
  refine lv_aload_n hx hb dX7_init_115 rfl (zh_at hl 0 rfl) ?_
  refine zz_bipush hx hb dX7_init_116 rfl ?_
  refine zn_newa (κ := 59) (i := 0) (N := 80) (atype := .int) hx hb (hts (.arrayClass .int) (by decide +kernel)) hK hW40 hS39 hA (hI.free (by decide) (by decide) (by decide) (by decide) rfl (by decide)) rfl rfl (Or.inl rfl) rfl (by decide +kernel) (Nat.le_of_ble_eq_true rfl) (Nat.le_of_ble_eq_true rfl) dX7_init_118 (fun a41 H41 hW41 hS41 hz41 => ?_)
  refine zn_put (T := TX7) (k := 19) hx hb hts hinX7 tyX7 tyX7_ok nmX7 hown hK hW41 hS41 hAo rfl rfl (by decide) (hts (.fieldLink RX7 54 "HailCityModel" "stars" "[I") (by decide +kernel)) (fun _ h9 => h9) (Or.inr ⟨rfl, hin2⟩) (ty := .array .int) (by decide +kernel) rfl rfl dX7_init_120 (fun H42 locs42 hW42 hS42 => ?_)
  obtain ⟨ad43, σ43, V43, hW43, hI⟩ : ∃ ad9 σ9 V9, zNW G ad9 A σ9 H42 30 o V9 ∧ zMI 60 ad9 σ9 V9 := ⟨_, _, _, hW42, hI.step (κ := 59) (a := a41) (by decide) (by decide) (by decide) (by decide) (by intro κ9 h8 h9; omega) (fun _ => show (0 : Nat) < 2 from by decide)⟩
  refine lv_aload_n hx hb dX7_init_123 rfl (zh_at hl 0 rfl) ?_
  refine zz_bipush hx hb dX7_init_124 rfl ?_
  refine zn_newa (κ := 60) (i := 0) (N := 8) (atype := .int) hx hb (hts (.arrayClass .int) (by decide +kernel)) hK hW43 hS42 hA (hI.free (by decide) (by decide) (by decide) (by decide) rfl (by decide)) rfl rfl (Or.inl rfl) rfl (by decide +kernel) (Nat.le_of_ble_eq_true rfl) (Nat.le_of_ble_eq_true rfl) dX7_init_126 (fun a44 H44 hW44 hS44 hz44 => ?_)
  refine zn_put (T := TX7) (k := 20) hx hb hts hinX7 tyX7 tyX7_ok nmX7 hown hK hW44 hS44 hAo rfl rfl (by decide) (hts (.fieldLink RX7 57 "HailCityModel" "counted" "[I") (by decide +kernel)) (fun _ h9 => h9) (Or.inr ⟨rfl, hin2⟩) (ty := .array .int) (by decide +kernel) rfl rfl dX7_init_128 (fun H45 locs45 hW45 hS45 => ?_)
  obtain ⟨ad46, σ46, V46, hW46, hI⟩ : ∃ ad9 σ9 V9, zNW G ad9 A σ9 H45 30 o V9 ∧ zMI 61 ad9 σ9 V9 := ⟨_, _, _, hW45, hI.step (κ := 60) (a := a44) (by decide) (by decide) (by decide) (by decide) (by intro κ9 h8 h9; omega) (fun _ => show (0 : Nat) < 2 from by decide)⟩
  refine lv_aload_n hx hb dX7_init_131 rfl (zh_at hl 0 rfl) ?_
  refine zz_bipush hx hb dX7_init_132 rfl ?_
  refine zn_newa (κ := 61) (i := 0) (N := 8) (atype := .int) hx hb (hts (.arrayClass .int) (by decide +kernel)) hK hW46 hS45 hA (hI.free (by decide) (by decide) (by decide) (by decide) rfl (by decide)) rfl rfl (Or.inl rfl) rfl (by decide +kernel) (Nat.le_of_ble_eq_true rfl) (Nat.le_of_ble_eq_true rfl) dX7_init_134 (fun a47 H47 hW47 hS47 hz47 => ?_)
  refine zn_put (T := TX7) (k := 21) hx hb hts hinX7 tyX7 tyX7_ok nmX7 hown hK hW47 hS47 hAo rfl rfl (by decide) (hts (.fieldLink RX7 60 "HailCityModel" "done" "[I") (by decide +kernel)) (fun _ h9 => h9) (Or.inr ⟨rfl, hin2⟩) (ty := .array .int) (by decide +kernel) rfl rfl dX7_init_136 (fun H48 locs48 hW48 hS48 => ?_)
  obtain ⟨ad49, σ49, V49, hW49, hI⟩ : ∃ ad9 σ9 V9, zNW G ad9 A σ9 H48 30 o V9 ∧ zMI 62 ad9 σ9 V9 := ⟨_, _, _, hW48, hI.step (κ := 61) (a := a47) (by decide) (by decide) (by decide) (by decide) (by intro κ9 h8 h9; omega) (fun _ => show (0 : Nat) < 2 from by decide)⟩
  refine lv_aload_n hx hb dX7_init_139 rfl (zh_at hl 0 rfl) ?_
  refine zz_bipush hx hb dX7_init_140 rfl ?_
  refine zn_newa (κ := 62) (i := 0) (N := 8) (atype := .int) hx hb (hts (.arrayClass .int) (by decide +kernel)) hK hW49 hS48 hA (hI.free (by decide) (by decide) (by decide) (by decide) rfl (by decide)) rfl rfl (Or.inl rfl) rfl (by decide +kernel) (Nat.le_of_ble_eq_true rfl) (Nat.le_of_ble_eq_true rfl) dX7_init_142 (fun a50 H50 hW50 hS50 hz50 => ?_)
  refine zn_put (T := TX7) (k := 22) hx hb hts hinX7 tyX7 tyX7_ok nmX7 hown hK hW50 hS50 hAo rfl rfl (by decide) (hts (.fieldLink RX7 63 "HailCityModel" "earned" "[I") (by decide +kernel)) (fun _ h9 => h9) (Or.inr ⟨rfl, hin2⟩) (ty := .array .int) (by decide +kernel) rfl rfl dX7_init_144 (fun H51 locs51 hW51 hS51 => ?_)
  obtain ⟨ad52, σ52, V52, hW52, hI⟩ : ∃ ad9 σ9 V9, zNW G ad9 A σ9 H51 30 o V9 ∧ zMI 63 ad9 σ9 V9 := ⟨_, _, _, hW51, hI.step (κ := 62) (a := a50) (by decide) (by decide) (by decide) (by decide) (by intro κ9 h8 h9; omega) (fun _ => show (0 : Nat) < 2 from by decide)⟩
  refine lv_aload_n hx hb dX7_init_147 rfl (zh_at hl 0 rfl) ?_
  refine zz_bipush hx hb dX7_init_148 rfl ?_
  refine zn_newa (κ := 64) (i := 0) (N := 60) (atype := .int) hx hb (hts (.arrayClass .int) (by decide +kernel)) hK hW52 hS51 hA (hI.free (by decide) (by decide) (by decide) (by decide) rfl (by decide)) rfl rfl (Or.inl rfl) rfl (by decide +kernel) (Nat.le_of_ble_eq_true rfl) (Nat.le_of_ble_eq_true rfl) dX7_init_150 (fun a53 H53 hW53 hS53 hz53 => ?_)
  refine zn_put (T := TX7) (k := 24) hx hb hts hinX7 tyX7 tyX7_ok nmX7 hown hK hW53 hS53 hAo rfl rfl (by decide) (hts (.fieldLink RX7 66 "HailCityModel" "state" "[I") (by decide +kernel)) (fun _ h9 => h9) (Or.inr ⟨rfl, hin2⟩) (ty := .array .int) (by decide +kernel) rfl rfl dX7_init_152 (fun H54 locs54 hW54 hS54 => ?_)
  obtain ⟨ad55, σ55, V55, hW55, hI⟩ : ∃ ad9 σ9 V9, zNW G ad9 A σ9 H54 30 o V9 ∧ zMI 65 ad9 σ9 V9 := ⟨_, _, _, hW54, hI.step (κ := 64) (a := a53) (by decide) (by decide) (by decide) (by decide) (by intro κ9 h8 h9; obtain rfl : κ9 = 63 := (by omega); rfl) (fun _ => show (0 : Nat) < 2 from by decide)⟩
  refine lv_aload_n hx hb dX7_init_155 rfl (zh_at hl 0 rfl) ?_
  refine zz_bipush hx hb dX7_init_156 rfl ?_
  refine zn_newa (κ := 65) (i := 0) (N := 60) (atype := .int) hx hb (hts (.arrayClass .int) (by decide +kernel)) hK hW55 hS54 hA (hI.free (by decide) (by decide) (by decide) (by decide) rfl (by decide)) rfl rfl (Or.inl rfl) rfl (by decide +kernel) (Nat.le_of_ble_eq_true rfl) (Nat.le_of_ble_eq_true rfl) dX7_init_158 (fun a56 H56 hW56 hS56 hz56 => ?_)
  refine zn_put (T := TX7) (k := 25) hx hb hts hinX7 tyX7 tyX7_ok nmX7 hown hK hW56 hS56 hAo rfl rfl (by decide) (hts (.fieldLink RX7 69 "HailCityModel" "from" "[I") (by decide +kernel)) (fun _ h9 => h9) (Or.inr ⟨rfl, hin2⟩) (ty := .array .int) (by decide +kernel) rfl rfl dX7_init_160 (fun H57 locs57 hW57 hS57 => ?_)
  obtain ⟨ad58, σ58, V58, hW58, hI⟩ : ∃ ad9 σ9 V9, zNW G ad9 A σ9 H57 30 o V9 ∧ zMI 66 ad9 σ9 V9 := ⟨_, _, _, hW57, hI.step (κ := 65) (a := a56) (by decide) (by decide) (by decide) (by decide) (by intro κ9 h8 h9; omega) (fun _ => show (0 : Nat) < 2 from by decide)⟩
  refine lv_aload_n hx hb dX7_init_163 rfl (zh_at hl 0 rfl) ?_
  refine zz_bipush hx hb dX7_init_164 rfl ?_
  refine zn_newa (κ := 66) (i := 0) (N := 60) (atype := .int) hx hb (hts (.arrayClass .int) (by decide +kernel)) hK hW58 hS57 hA (hI.free (by decide) (by decide) (by decide) (by decide) rfl (by decide)) rfl rfl (Or.inl rfl) rfl (by decide +kernel) (Nat.le_of_ble_eq_true rfl) (Nat.le_of_ble_eq_true rfl) dX7_init_166 (fun a59 H59 hW59 hS59 hz59 => ?_)
  refine zn_put (T := TX7) (k := 26) hx hb hts hinX7 tyX7 tyX7_ok nmX7 hown hK hW59 hS59 hAo rfl rfl (by decide) (hts (.fieldLink RX7 72 "HailCityModel" "to" "[I") (by decide +kernel)) (fun _ h9 => h9) (Or.inr ⟨rfl, hin2⟩) (ty := .array .int) (by decide +kernel) rfl rfl dX7_init_168 (fun H60 locs60 hW60 hS60 => ?_)
  obtain ⟨ad61, σ61, V61, hW61, hI⟩ : ∃ ad9 σ9 V9, zNW G ad9 A σ9 H60 30 o V9 ∧ zMI 67 ad9 σ9 V9 := ⟨_, _, _, hW60, hI.step (κ := 66) (a := a59) (by decide) (by decide) (by decide) (by decide) (by intro κ9 h8 h9; omega) (fun _ => show (0 : Nat) < 2 from by decide)⟩
  refine lv_aload_n hx hb dX7_init_171 rfl (zh_at hl 0 rfl) ?_
  refine zz_bipush hx hb dX7_init_172 rfl ?_
  refine zn_newa (κ := 67) (i := 0) (N := 60) (atype := .int) hx hb (hts (.arrayClass .int) (by decide +kernel)) hK hW61 hS60 hA (hI.free (by decide) (by decide) (by decide) (by decide) rfl (by decide)) rfl rfl (Or.inl rfl) rfl (by decide +kernel) (Nat.le_of_ble_eq_true rfl) (Nat.le_of_ble_eq_true rfl) dX7_init_174 (fun a62 H62 hW62 hS62 hz62 => ?_)
  refine zn_put (T := TX7) (k := 27) hx hb hts hinX7 tyX7 tyX7_ok nmX7 hown hK hW62 hS62 hAo rfl rfl (by decide) (hts (.fieldLink RX7 75 "HailCityModel" "until" "[I") (by decide +kernel)) (fun _ h9 => h9) (Or.inr ⟨rfl, hin2⟩) (ty := .array .int) (by decide +kernel) rfl rfl dX7_init_176 (fun H63 locs63 hW63 hS63 => ?_)
  obtain ⟨ad64, σ64, V64, hW64, hI⟩ : ∃ ad9 σ9 V9, zNW G ad9 A σ9 H63 30 o V9 ∧ zMI 68 ad9 σ9 V9 := ⟨_, _, _, hW63, hI.step (κ := 67) (a := a62) (by decide) (by decide) (by decide) (by decide) (by intro κ9 h8 h9; omega) (fun _ => show (0 : Nat) < 2 from by decide)⟩
  refine lv_aload_n hx hb dX7_init_179 rfl (zh_at hl 0 rfl) ?_
  refine zz_bipush hx hb dX7_init_180 rfl ?_
  refine zn_newa (κ := 68) (i := 0) (N := 60) (atype := .boolean) hx hb (hts (.arrayClass .boolean) (by decide +kernel)) hK hW64 hS63 hA (hI.free (by decide) (by decide) (by decide) (by decide) rfl (by decide)) rfl rfl (Or.inr rfl) rfl (by decide +kernel) (Nat.le_of_ble_eq_true rfl) (Nat.le_of_ble_eq_true rfl) dX7_init_182 (fun a65 H65 hW65 hS65 hz65 => ?_)
  refine zn_put (T := TX7) (k := 28) hx hb hts hinX7 tyX7 tyX7_ok nmX7 hown hK hW65 hS65 hAo rfl rfl (by decide) (hts (.fieldLink RX7 78 "HailCityModel" "isShared" "[Z") (by decide +kernel)) (fun _ h9 => h9) (Or.inr ⟨rfl, hin2⟩) (ty := .array .boolean) (by decide +kernel) rfl rfl dX7_init_184 (fun H66 locs66 hW66 hS66 => ?_)
  obtain ⟨ad67, σ67, V67, hW67, hI⟩ : ∃ ad9 σ9 V9, zNW G ad9 A σ9 H66 30 o V9 ∧ zMI 69 ad9 σ9 V9 := ⟨_, _, _, hW66, hI.step (κ := 68) (a := a65) (by decide) (by decide) (by decide) (by decide) (by intro κ9 h8 h9; omega) (fun _ => show (1 : Nat) < 2 from by decide)⟩
  refine lv_aload_n hx hb dX7_init_187 rfl (zh_at hl 0 rfl) ?_
  refine zz_bipush hx hb dX7_init_188 rfl ?_
  refine zn_newa (κ := 69) (i := 0) (N := 60) (atype := .int) hx hb (hts (.arrayClass .int) (by decide +kernel)) hK hW67 hS66 hA (hI.free (by decide) (by decide) (by decide) (by decide) rfl (by decide)) rfl rfl (Or.inl rfl) rfl (by decide +kernel) (Nat.le_of_ble_eq_true rfl) (Nat.le_of_ble_eq_true rfl) dX7_init_190 (fun a68 H68 hW68 hS68 hz68 => ?_)
  refine zn_put (T := TX7) (k := 29) hx hb hts hinX7 tyX7 tyX7_ok nmX7 hown hK hW68 hS68 hAo rfl rfl (by decide) (hts (.fieldLink RX7 81 "HailCityModel" "price" "[I") (by decide +kernel)) (fun _ h9 => h9) (Or.inr ⟨rfl, hin2⟩) (ty := .array .int) (by decide +kernel) rfl rfl dX7_init_192 (fun H69 locs69 hW69 hS69 => ?_)
  obtain ⟨ad70, σ70, V70, hW70, hI⟩ : ∃ ad9 σ9 V9, zNW G ad9 A σ9 H69 30 o V9 ∧ zMI 70 ad9 σ9 V9 := ⟨_, _, _, hW69, hI.step (κ := 69) (a := a68) (by decide) (by decide) (by decide) (by decide) (by intro κ9 h8 h9; omega) (fun _ => show (0 : Nat) < 2 from by decide)⟩
  refine lv_aload_n hx hb dX7_init_195 rfl (zh_at hl 0 rfl) ?_
  refine zz_bipush hx hb dX7_init_196 rfl ?_
  refine zn_newa (κ := 70) (i := 0) (N := 60) (atype := .int) hx hb (hts (.arrayClass .int) (by decide +kernel)) hK hW70 hS69 hA (hI.free (by decide) (by decide) (by decide) (by decide) rfl (by decide)) rfl rfl (Or.inl rfl) rfl (by decide +kernel) (Nat.le_of_ble_eq_true rfl) (Nat.le_of_ble_eq_true rfl) dX7_init_198 (fun a71 H71 hW71 hS71 hz71 => ?_)
  refine zn_put (T := TX7) (k := 30) hx hb hts hinX7 tyX7 tyX7_ok nmX7 hown hK hW71 hS71 hAo rfl rfl (by decide) (hts (.fieldLink RX7 84 "HailCityModel" "driverOf" "[I") (by decide +kernel)) (fun _ h9 => h9) (Or.inr ⟨rfl, hin2⟩) (ty := .array .int) (by decide +kernel) rfl rfl dX7_init_200 (fun H72 locs72 hW72 hS72 => ?_)
  obtain ⟨ad73, σ73, V73, hW73, hI⟩ : ∃ ad9 σ9 V9, zNW G ad9 A σ9 H72 30 o V9 ∧ zMI 71 ad9 σ9 V9 := ⟨_, _, _, hW72, hI.step (κ := 70) (a := a71) (by decide) (by decide) (by decide) (by decide) (by intro κ9 h8 h9; omega) (fun _ => show (0 : Nat) < 2 from by decide)⟩
  refine lv_aload_n hx hb dX7_init_203 rfl (zh_at hl 0 rfl) ?_
  refine zz_bipush hx hb dX7_init_204 rfl ?_
  refine zn_newa (κ := 71) (i := 0) (N := 60) (atype := .int) hx hb (hts (.arrayClass .int) (by decide +kernel)) hK hW73 hS72 hA (hI.free (by decide) (by decide) (by decide) (by decide) rfl (by decide)) rfl rfl (Or.inl rfl) rfl (by decide +kernel) (Nat.le_of_ble_eq_true rfl) (Nat.le_of_ble_eq_true rfl) dX7_init_206 (fun a74 H74 hW74 hS74 hz74 => ?_)
  refine zn_put (T := TX7) (k := 31) hx hb hts hinX7 tyX7 tyX7_ok nmX7 hown hK hW74 hS74 hAo rfl rfl (by decide) (hts (.fieldLink RX7 87 "HailCityModel" "promise" "[I") (by decide +kernel)) (fun _ h9 => h9) (Or.inr ⟨rfl, hin2⟩) (ty := .array .int) (by decide +kernel) rfl rfl dX7_init_208 (fun H75 locs75 hW75 hS75 => ?_)
  obtain ⟨ad76, σ76, V76, hW76, hI⟩ : ∃ ad9 σ9 V9, zNW G ad9 A σ9 H75 30 o V9 ∧ zMI 72 ad9 σ9 V9 := ⟨_, _, _, hW75, hI.step (κ := 71) (a := a74) (by decide) (by decide) (by decide) (by decide) (by intro κ9 h8 h9; omega) (fun _ => show (0 : Nat) < 2 from by decide)⟩
  refine lv_aload_n hx hb dX7_init_211 rfl (zh_at hl 0 rfl) ?_
  refine zz_bipush hx hb dX7_init_212 rfl ?_
  refine zn_newa (κ := 72) (i := 0) (N := 60) (atype := .int) hx hb (hts (.arrayClass .int) (by decide +kernel)) hK hW76 hS75 hA (hI.free (by decide) (by decide) (by decide) (by decide) rfl (by decide)) rfl rfl (Or.inl rfl) rfl (by decide +kernel) (Nat.le_of_ble_eq_true rfl) (Nat.le_of_ble_eq_true rfl) dX7_init_214 (fun a77 H77 hW77 hS77 hz77 => ?_)
  refine zn_put (T := TX7) (k := 32) hx hb hts hinX7 tyX7 tyX7_ok nmX7 hown hK hW77 hS77 hAo rfl rfl (by decide) (hts (.fieldLink RX7 90 "HailCityModel" "letOut" "[I") (by decide +kernel)) (fun _ h9 => h9) (Or.inr ⟨rfl, hin2⟩) (ty := .array .int) (by decide +kernel) rfl rfl dX7_init_216 (fun H78 locs78 hW78 hS78 => ?_)
  obtain ⟨ad79, σ79, V79, hW79, hI⟩ : ∃ ad9 σ9 V9, zNW G ad9 A σ9 H78 30 o V9 ∧ zMI 73 ad9 σ9 V9 := ⟨_, _, _, hW78, hI.step (κ := 72) (a := a77) (by decide) (by decide) (by decide) (by decide) (by intro κ9 h8 h9; omega) (fun _ => show (0 : Nat) < 2 from by decide)⟩
  refine lv_aload_n hx hb dX7_init_219 rfl (zh_at hl 0 rfl) ?_
  refine zz_bipush hx hb dX7_init_220 rfl ?_
  refine zn_newa (κ := 73) (i := 0) (N := 60) (atype := .int) hx hb (hts (.arrayClass .int) (by decide +kernel)) hK hW79 hS78 hA (hI.free (by decide) (by decide) (by decide) (by decide) rfl (by decide)) rfl rfl (Or.inl rfl) rfl (by decide +kernel) (Nat.le_of_ble_eq_true rfl) (Nat.le_of_ble_eq_true rfl) dX7_init_222 (fun a80 H80 hW80 hS80 hz80 => ?_)
  refine zn_put (T := TX7) (k := 33) hx hb hts hinX7 tyX7 tyX7_ok nmX7 hown hK hW80 hS80 hAo rfl rfl (by decide) (hts (.fieldLink RX7 93 "HailCityModel" "sentAt" "[I") (by decide +kernel)) (fun _ h9 => h9) (Or.inr ⟨rfl, hin2⟩) (ty := .array .int) (by decide +kernel) rfl rfl dX7_init_224 (fun H81 locs81 hW81 hS81 => ?_)
  obtain ⟨ad82, σ82, V82, hW82, hI⟩ : ∃ ad9 σ9 V9, zNW G ad9 A σ9 H81 30 o V9 ∧ zMI 74 ad9 σ9 V9 := ⟨_, _, _, hW81, hI.step (κ := 73) (a := a80) (by decide) (by decide) (by decide) (by decide) (by intro κ9 h8 h9; omega) (fun _ => show (0 : Nat) < 2 from by decide)⟩
  refine lv_aload_n hx hb dX7_init_227 rfl (zh_at hl 0 rfl) ?_
  refine zz_bipush hx hb dX7_init_228 rfl ?_
  refine zn_newa (κ := 74) (i := 0) (N := 60) (atype := .boolean) hx hb (hts (.arrayClass .boolean) (by decide +kernel)) hK hW82 hS81 hA (hI.free (by decide) (by decide) (by decide) (by decide) rfl (by decide)) rfl rfl (Or.inr rfl) rfl (by decide +kernel) (Nat.le_of_ble_eq_true rfl) (Nat.le_of_ble_eq_true rfl) dX7_init_230 (fun a83 H83 hW83 hS83 hz83 => ?_)
  refine zn_put (T := TX7) (k := 34) hx hb hts hinX7 tyX7 tyX7_ok nmX7 hown hK hW83 hS83 hAo rfl rfl (by decide) (hts (.fieldLink RX7 96 "HailCityModel" "isRated" "[Z") (by decide +kernel)) (fun _ h9 => h9) (Or.inr ⟨rfl, hin2⟩) (ty := .array .boolean) (by decide +kernel) rfl rfl dX7_init_232 (fun H84 locs84 hW84 hS84 => ?_)
  obtain ⟨ad85, σ85, V85, hW85, hI⟩ : ∃ ad9 σ9 V9, zNW G ad9 A σ9 H84 30 o V9 ∧ zMI 75 ad9 σ9 V9 := ⟨_, _, _, hW84, hI.step (κ := 74) (a := a83) (by decide) (by decide) (by decide) (by decide) (by intro κ9 h8 h9; omega) (fun _ => show (1 : Nat) < 2 from by decide)⟩
  refine lv_aload_n hx hb dX7_init_235 rfl (zh_at hl 0 rfl) ?_
  refine zz_iconst hx hb dX7_init_236 ?_
  refine zn_newa (κ := 75) (i := 0) (N := 5) (atype := .int) hx hb (hts (.arrayClass .int) (by decide +kernel)) hK hW85 hS84 hA (hI.free (by decide) (by decide) (by decide) (by decide) rfl (by decide)) rfl rfl (Or.inl rfl) rfl (by decide +kernel) (Nat.le_of_ble_eq_true rfl) (Nat.le_of_ble_eq_true rfl) dX7_init_237 (fun a86 H86 hW86 hS86 hz86 => ?_)
  refine zn_put (T := TX7) (k := 35) hx hb hts hinX7 tyX7 tyX7_ok nmX7 hown hK hW86 hS86 hAo rfl rfl (by decide) (hts (.fieldLink RX7 99 "HailCityModel" "asked" "[I") (by decide +kernel)) (fun _ h9 => h9) (Or.inr ⟨rfl, hin2⟩) (ty := .array .int) (by decide +kernel) rfl rfl dX7_init_239 (fun H87 locs87 hW87 hS87 => ?_)
  obtain ⟨ad88, σ88, V88, hW88, hI⟩ : ∃ ad9 σ9 V9, zNW G ad9 A σ9 H87 30 o V9 ∧ zMI 76 ad9 σ9 V9 := ⟨_, _, _, hW87, hI.step (κ := 75) (a := a86) (by decide) (by decide) (by decide) (by decide) (by intro κ9 h8 h9; omega) (fun _ => show (0 : Nat) < 2 from by decide)⟩
  refine lv_aload_n hx hb dX7_init_242 rfl (zh_at hl 0 rfl) ?_
  refine zz_iconst hx hb dX7_init_243 ?_
  refine zn_newa (κ := 76) (i := 0) (N := 5) (atype := .int) hx hb (hts (.arrayClass .int) (by decide +kernel)) hK hW88 hS87 hA (hI.free (by decide) (by decide) (by decide) (by decide) rfl (by decide)) rfl rfl (Or.inl rfl) rfl (by decide +kernel) (Nat.le_of_ble_eq_true rfl) (Nat.le_of_ble_eq_true rfl) dX7_init_244 (fun a89 H89 hW89 hS89 hz89 => ?_)
  refine zn_put (T := TX7) (k := 36) hx hb hts hinX7 tyX7 tyX7_ok nmX7 hown hK hW89 hS89 hAo rfl rfl (by decide) (hts (.fieldLink RX7 102 "HailCityModel" "given" "[I") (by decide +kernel)) (fun _ h9 => h9) (Or.inr ⟨rfl, hin2⟩) (ty := .array .int) (by decide +kernel) rfl rfl dX7_init_246 (fun H90 locs90 hW90 hS90 => ?_)
  obtain ⟨ad91, σ91, V91, hW91, hI⟩ : ∃ ad9 σ9 V9, zNW G ad9 A σ9 H90 30 o V9 ∧ zMI 77 ad9 σ9 V9 := ⟨_, _, _, hW90, hI.step (κ := 76) (a := a89) (by decide) (by decide) (by decide) (by decide) (by intro κ9 h8 h9; omega) (fun _ => show (0 : Nat) < 2 from by decide)⟩
  refine lv_aload_n hx hb dX7_init_249 rfl (zh_at hl 0 rfl) ?_
  refine zz_iconst hx hb dX7_init_250 ?_
  refine zn_newa (κ := 77) (i := 0) (N := 5) (atype := .int) hx hb (hts (.arrayClass .int) (by decide +kernel)) hK hW91 hS90 hA (hI.free (by decide) (by decide) (by decide) (by decide) rfl (by decide)) rfl rfl (Or.inl rfl) rfl (by decide +kernel) (Nat.le_of_ble_eq_true rfl) (Nat.le_of_ble_eq_true rfl) dX7_init_251 (fun a92 H92 hW92 hS92 hz92 => ?_)
  refine zn_put (T := TX7) (k := 37) hx hb hts hinX7 tyX7 tyX7_ok nmX7 hown hK hW92 hS92 hAo rfl rfl (by decide) (hts (.fieldLink RX7 105 "HailCityModel" "best" "[I") (by decide +kernel)) (fun _ h9 => h9) (Or.inr ⟨rfl, hin2⟩) (ty := .array .int) (by decide +kernel) rfl rfl dX7_init_253 (fun H93 locs93 hW93 hS93 => ?_)
  obtain ⟨ad94, σ94, V94, hW94, hI⟩ : ∃ ad9 σ9 V9, zNW G ad9 A σ9 H93 30 o V9 ∧ zMI 78 ad9 σ9 V9 := ⟨_, _, _, hW93, hI.step (κ := 77) (a := a92) (by decide) (by decide) (by decide) (by decide) (by intro κ9 h8 h9; omega) (fun _ => show (0 : Nat) < 2 from by decide)⟩
  refine lv_aload_n hx hb dX7_init_256 rfl (zh_at hl 0 rfl) ?_
  refine zz_bipush hx hb dX7_init_257 rfl ?_
  refine zn_newa (κ := 79) (i := 0) (N := 10) (atype := .int) hx hb (hts (.arrayClass .int) (by decide +kernel)) hK hW94 hS93 hA (hI.free (by decide) (by decide) (by decide) (by decide) rfl (by decide)) rfl rfl (Or.inl rfl) rfl (by decide +kernel) (Nat.le_of_ble_eq_true rfl) (Nat.le_of_ble_eq_true rfl) dX7_init_259 (fun a95 H95 hW95 hS95 hz95 => ?_)
  refine zn_put (T := TX7) (k := 39) hx hb hts hinX7 tyX7 tyX7_ok nmX7 hown hK hW95 hS95 hAo rfl rfl (by decide) (hts (.fieldLink RX7 108 "HailCityModel" "tryAt" "[I") (by decide +kernel)) (fun _ h9 => h9) (Or.inr ⟨rfl, hin2⟩) (ty := .array .int) (by decide +kernel) rfl rfl dX7_init_261 (fun H96 locs96 hW96 hS96 => ?_)
  obtain ⟨ad97, σ97, V97, hW97, hI⟩ : ∃ ad9 σ9 V9, zNW G ad9 A σ9 H96 30 o V9 ∧ zMI 80 ad9 σ9 V9 := ⟨_, _, _, hW96, hI.step (κ := 79) (a := a95) (by decide) (by decide) (by decide) (by decide) (by intro κ9 h8 h9; obtain rfl : κ9 = 78 := (by omega); rfl) (fun _ => show (0 : Nat) < 2 from by decide)⟩
  refine lv_aload_n hx hb dX7_init_264 rfl (zh_at hl 0 rfl) ?_
  refine zz_bipush hx hb dX7_init_265 rfl ?_
  refine zn_newa (κ := 80) (i := 0) (N := 10) (atype := .int) hx hb (hts (.arrayClass .int) (by decide +kernel)) hK hW97 hS96 hA (hI.free (by decide) (by decide) (by decide) (by decide) rfl (by decide)) rfl rfl (Or.inl rfl) rfl (by decide +kernel) (Nat.le_of_ble_eq_true rfl) (Nat.le_of_ble_eq_true rfl) dX7_init_267 (fun a98 H98 hW98 hS98 hz98 => ?_)
  refine zn_put (T := TX7) (k := 40) hx hb hts hinX7 tyX7 tyX7_ok nmX7 hown hK hW98 hS98 hAo rfl rfl (by decide) (hts (.fieldLink RX7 111 "HailCityModel" "tryWhom" "[I") (by decide +kernel)) (fun _ h9 => h9) (Or.inr ⟨rfl, hin2⟩) (ty := .array .int) (by decide +kernel) rfl rfl dX7_init_269 (fun H99 locs99 hW99 hS99 => ?_)
  obtain ⟨ad100, σ100, V100, hW100, hI⟩ : ∃ ad9 σ9 V9, zNW G ad9 A σ9 H99 30 o V9 ∧ zMI 81 ad9 σ9 V9 := ⟨_, _, _, hW99, hI.step (κ := 80) (a := a98) (by decide) (by decide) (by decide) (by decide) (by intro κ9 h8 h9; omega) (fun _ => show (0 : Nat) < 2 from by decide)⟩
  refine lv_aload_n hx hb dX7_init_272 rfl (zh_at hl 0 rfl) ?_
  refine zz_bipush hx hb dX7_init_273 rfl ?_
  refine zn_newa (κ := 81) (i := 0) (N := 10) (atype := .int) hx hb (hts (.arrayClass .int) (by decide +kernel)) hK hW100 hS99 hA (hI.free (by decide) (by decide) (by decide) (by decide) rfl (by decide)) rfl rfl (Or.inl rfl) rfl (by decide +kernel) (Nat.le_of_ble_eq_true rfl) (Nat.le_of_ble_eq_true rfl) dX7_init_275 (fun a101 H101 hW101 hS101 hz101 => ?_)
  refine zn_put (T := TX7) (k := 41) hx hb hts hinX7 tyX7 tyX7_ok nmX7 hown hK hW101 hS101 hAo rfl rfl (by decide) (hts (.fieldLink RX7 114 "HailCityModel" "tryTime" "[I") (by decide +kernel)) (fun _ h9 => h9) (Or.inr ⟨rfl, hin2⟩) (ty := .array .int) (by decide +kernel) rfl rfl dX7_init_277 (fun H102 locs102 hW102 hS102 => ?_)
  obtain ⟨ad103, σ103, V103, hW103, hI⟩ : ∃ ad9 σ9 V9, zNW G ad9 A σ9 H102 30 o V9 ∧ zMI 82 ad9 σ9 V9 := ⟨_, _, _, hW102, hI.step (κ := 81) (a := a101) (by decide) (by decide) (by decide) (by decide) (by intro κ9 h8 h9; omega) (fun _ => show (0 : Nat) < 2 from by decide)⟩
  have hE := hI.enter hW103 hAo
  have hM : zMm (zax ad103 30 0 o) := by
    intro κ h
    unfold zliveM at h
    by_cases c : κ = 30
    · subst c; rw [zax_same]; rfl
    · rw [zax_nk c]
      simp [c] at h
      obtain ⟨⟨a, e1, -⟩, -⟩ := (hI.1 κ (by omega) (by omega) (fun q => by simp [q] at h)).1 (by omega)
      rw [e1]; rfl
  refine lv_aload_n hx hb dX7_init_280 rfl (zh_at hl 0 rfl) ?_
  refine zz_callV (T := TX7) (N := 42) (As := []) (rest := []) (v := ((0 : Nat) : Int)) (κ := 30) ⟨hx, hb, hml, hown, hts⟩ (c_X7_findWays l G (zax ad103 30 0 o) A N0 (zsl σ103 30 0 (zup (zd0 30) 2 300)) hM 0 (by rw [zsl_same]; rfl) (by decide) (fun s9 h9 => absurd h9 (Nat.not_lt_zero s9))) (cwV 0 hts gX7_init_X7_findWays rfl rfl rfl (by decide +kernel) ⟨(Nat.le_of_ble_eq_true rfl), (Nat.le_of_ble_eq_true rfl)⟩) hK hE (zlN (hM 30 rfl)) rfl rfl (Nat.le_trans hsz hS102.1) hS102 rfl hl.1.1 (by rw [zr_nat, zax_same]; rfl) (Nat.le_of_ble_eq_true rfl) dX7_init_281 ⟨(Nat.le_of_ble_eq_true rfl), (Nat.le_of_ble_eq_true rfl)⟩ (fun x9 u9 H9 locs9 hp9 hW9 hz9 hS9 => ?_)
  refine zn_retv hx hb hr hlocks hW9 hS9 ⟨zax_same, hM, fun k => ?_, fun κ h1 h2 h3 h4 k => ?_, fun x y hx hy => ?_⟩ dX7_init_284
  · rw [hp9.2 _ _ _ (by omega), zsl_same]
  · rw [hp9.2 _ _ _ (by omega), zsl_nk (by omega)]
    exact ((hI.1 κ h1 h2 h3).1 (by omega)).2 k
  · rw [hp9.1 x y hx hy]
    exact ywf_n0 _ _ _ _ _ _ _
