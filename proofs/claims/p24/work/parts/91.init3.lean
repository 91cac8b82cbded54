/-! CONSTRUCTORS: Matching, CityMap, HailCity -/
theorem zaxs_ne {ad : zA} {κ N : Nat} {f : Nat → Nat} {κ' i' : Nat} (h : ¬ κ' = κ) : zaxs ad κ N f κ' i' = ad κ' i' := if_neg fun q => h q.1
theorem zslr_ne {σ : zS} {κ N κ' i' k : Nat} (h : ¬ κ' = κ) : zslr σ κ N κ' i' k = σ κ' i' k := if_neg fun q => h q.1
theorem zsl_nk {σ : zS} {κ i κ' i' k : Nat} {u : Nat → Int} (h : ¬ κ' = κ) : zsl σ κ i u κ' i' k = σ κ' i' k := zsl_ne fun q => h q.1
theorem zax_nk {ad : zA} {κ i a κ' i' : Nat} (h : ¬ κ' = κ) : zax ad κ i a κ' i' = ad κ' i' := zax_ne fun q => h q.1
section ZNG
variable {p : Program} {l : Launch} {e : Env} {R : Room} {s : State} {m : MethodId} {args : Array Value} {below : List Frame} {meth : Method} {c : Code} {H : Heap} {locs : List Loc} {cells slots : Nat} {Q : State → Prop}
variable {cc : ByteArray} {pc : Nat} {ls : Array Slot} {rest : List Value} {G : zG} {ad : zA} {A : Nat → Prop} {σ : zS} {H0 : Heap} {N0 : Nat}
theorem zn_get (hx : p.tables.exec = Jvm.exec) (hb : c.code = cc) {own ref C : String} {T : u_T} {N index κ k o : Nat} {V : Nat → Value} {w : Value} {Ts : List Cond} (hts : ∀ w ∈ Ts, w.before args s = true) (hin : ∀ w ∈ u_ws C T N, w ∈ Ts) (hown : s.vm.findClass own = some m.cls) (hK : zK G s) (hW : zNW G ad A σ H κ o V) (hc : vwCl[zc κ]? = some (C, T, N)) (hN : zn κ = N) (hk : k < N) (hlink : (Cond.fieldLink own index ref (T k).2.1 (T k).2.2.1).before args s = true) (hsame : ∀ x, s.fieldFound? (T k).1 (T k).2.1 (T k).2.2.1 = some x → s.fieldFound? ref (T k).2.1 (T k).2.2.1 = some x) (he : V k = w) (hdg : decode cc pc = .ok (.getfield index, 3))
    (kk : W p l e R s m args below meth c H locs cells slots Q (F0 m (pc + 3) ls (w :: rest))) : W p l e R s m args below meth c H locs cells slots Q (F0 m pc ls (.ref o :: rest)) := by
  obtain ⟨cell, q1, q2, q3, q4⟩ := hW.2.1
  obtain ⟨hS, hfc, kC, hkC, hkind⟩ := hK.1.1 _ _ hc
  obtain ⟨cf, kf, fi, f, hi, hsl⟩ := hS k hk
  refine W.getf hx hb hown hlink (hsame _ hi) (u_facts hfc hkC (u_lays hts hin hk) hi).1 q1 (by rw [q3]; exact fun h => by cases h) (v := w) ?_ rfl rfl hdg kk
  rw [hsl, q4 k (by rw [hN]; exact hk), ← he]
end ZNG
def zpMat (ad : zA) (σ : zS) (o : Nat) (ad' : zA) (u : zS) : Prop := ∃ a f b g c d, ad' = zax (zax (zax (zaxs (zax (zaxs (zax ad 8 0 a) 10 5 f) 9 0 b) 12 6 g) 11 0 c) 13 0 d) 7 0 o ∧ u = zsl (zsl (zsl (zslr (zsl (zslr (zsl σ 8 0 (zd0 8)) 10 5) 9 0 (zd0 9)) 12 6) 11 0 (zd0 11)) 13 0 (zd0 13)) 7 0 (zd0 7)
set_option maxHeartbeats 4000000 in
set_option maxRecDepth 100000 in
theorem c_X2_init (l : Launch) (G : zG) (ad : zA) (A : Nat → Prop) (N0 : Nat) (σ : zS) (o : Nat) (hA : ∀ q, N0 ≤ q → A q) (hAo : A o) (hn : ∀ κ i, 7 ≤ κ → κ ≤ 13 → ad κ i = none) (h0 : ad 0 0 = none) : Met l yX2_init wsX2_init ({ frames := 1, cells := 15, slots := 1624, locals := 12 }) (zPN G ad A N0 σ 7 o []) (zQN G A (zpMat ad σ o)) 15 1624 A := by
  refine zn_of (cc := cX2_init) (maxL := 1) (by decide) rfl rfl ⟨rfl, rfl⟩ (by intro v hv; cases hv) (Nat.le_of_ble_eq_true rfl) ?_
  intro p e s m below meth c hx hb hr hml hts hown hlocks hin2 hsz hW hK hAA ls hl
  have hS : va_S A s.heap s.heap [] := va_S.rf
  have hA : ∀ q, s.heap.size ≤ q → A q := fun q hq => hA q (Nat.le_trans hsz hq)
  have hl : zh ls 1 [(0, .ref o)] := hl
  have hinX2 : ∀ w ∈ u_ws RX2 TX2 6, w ∈ wsX2_init := by decide +kernel
  have h7 : ad 7 0 = none := hn 7 0 (by decide) (by decide)
  have h8 : ∀ i, ad 8 i = none := fun i => hn 8 i (by decide) (by decide)
  have h9 : ∀ i, ad 9 i = none := fun i => hn 9 i (by decide) (by decide)
  have h10 : ∀ i, ad 10 i = none := fun i => hn 10 i (by decide) (by decide)
  have h11 : ∀ i, ad 11 i = none := fun i => hn 11 i (by decide) (by decide)
  have h12 : ∀ i, ad 12 i = none := fun i => hn 12 i (by decide) (by decide)
  have h13 : ∀ i, ad 13 i = none := fun i => hn 13 i (by decide) (by decide)
  refine lv_aload_n hx hb dX2_init_0 rfl (zh_at hl 0 rfl) ?_
  refine W.objInit hx hb hown (hts (.methodLink RX2 3 objectInit) (by decide +kernel)) (hts (.instanceMethod objectInit) (by decide +kernel)) (hts _ (List.mem_of_getElem? (i := 3) rfl)) rfl (by rw [hml]; exact hl.1.1) rfl dX2_init_1 (Nat.le_of_ble_eq_true rfl) (Nat.le_of_ble_eq_true rfl) ?_
  refine lv_aload_n hx hb dX2_init_4 rfl (zh_at hl 0 rfl) ?_
  refine zz_iconst hx hb dX2_init_5 ?_
  refine zn_anewa (κ := 8) (i := 0) (N := 5) (C := RX3) hx hb hown (hts (.classLink RX2 9 RX3) (by decide +kernel)) hAA.2.2 hK hW hS hA ⟨by decide, by simp [zax, zaxs, h0, h7, h8, h9, h10, h11, h12, h13], by intro κ h; simp [zhl] at h; subst h; exact ⟨by simp [zax, zaxs, h0, h7, h8, h9, h10, h11, h12, h13], fun q => absurd q (by decide)⟩⟩ rfl rfl rfl (by decide +kernel) (Nat.le_of_ble_eq_true rfl) (Nat.le_of_ble_eq_true rfl) dX2_init_6 (fun a1 H1 hW1 hS1 hz1 => ?_)
  refine zn_put (T := TX2) (k := 0) hx hb hts hinX2 tyX2 tyX2_ok nmX2 hown hK hW1 hS1 hAo rfl rfl (by decide) (hts (.fieldLink RX2 11 "HailCity$Matching" "requests" "[LHailCity$Request;") (by decide +kernel)) (fun _ h9 => h9) (Or.inr ⟨rfl, hin2⟩) (ty := .array (.object RX3)) (by decide +kernel) rfl rfl dX2_init_9 (fun H2 locs2 hW2 hS2 => ?_)
  refine lv_aload_n hx hb dX2_init_12 rfl (zh_at hl 0 rfl) ?_
  refine zz_iconst hx hb dX2_init_13 ?_
  refine zz_bipush hx hb dX2_init_14 rfl ?_
  refine zn_multi (κo := 9) (κi := 10) (N := 5) (M := 8) hx hb hown (hts (.classLink RX2 17 "[[I") (by decide +kernel)) hK hAA hW2 hS2 hA rfl rfl (by decide) rfl rfl rfl rfl (by decide +kernel) (by decide +kernel) rfl (by decide) (by decide) (by intro j hj; simp [zax, zaxs, h0, h7, h8, h9, h10, h11, h12, h13]) (by intro j; simp [zax, zaxs, h0, h7, h8, h9, h10, h11, h12, h13]) ⟨by decide, by simp [zax, zaxs, h0, h7, h8, h9, h10, h11, h12, h13], by intro κ h; simp [zhl] at h; subst h; exact ⟨by simp [zax, zaxs, h0, h7, h8, h9, h10, h11, h12, h13], fun q => absurd q (by decide)⟩⟩ (by decide) (by decide) (by decide) (Nat.le_of_ble_eq_true rfl) (Nat.le_of_ble_eq_true rfl) dX2_init_16 (fun a3 f3 H3 locs3 hW3 hS3 => ?_)
  refine zn_put (T := TX2) (k := 1) hx hb hts hinX2 tyX2 tyX2_ok nmX2 hown hK hW3 hS3 hAo rfl rfl (by decide) (hts (.fieldLink RX2 19 "HailCity$Matching" "minutes" "[[I") (by decide +kernel)) (fun _ h9 => h9) (Or.inr ⟨rfl, hin2⟩) (ty := .array (.array .int)) (by decide +kernel) rfl rfl dX2_init_20 (fun H4 locs4 hW4 hS4 => ?_)
  refine lv_aload_n hx hb dX2_init_23 rfl (zh_at hl 0 rfl) ?_
  refine zz_bipush hx hb dX2_init_24 rfl ?_
  refine zz_sipush hx hb dX2_init_26 rfl ?_
  refine zn_multi (κo := 11) (κi := 12) (N := 6) (M := 256) hx hb hown (hts (.classLink RX2 17 "[[I") (by decide +kernel)) hK hAA hW4 hS4 hA rfl rfl (by decide) rfl rfl rfl rfl (by decide +kernel) (by decide +kernel) rfl (by decide) (by decide) (by intro j hj; simp [zax, zaxs, h0, h7, h8, h9, h10, h11, h12, h13]) (by intro j; simp [zax, zaxs, h0, h7, h8, h9, h10, h11, h12, h13]) ⟨by decide, by simp [zax, zaxs, h0, h7, h8, h9, h10, h11, h12, h13], by intro κ h; simp [zhl] at h; subst h; exact ⟨by simp [zax, zaxs, h0, h7, h8, h9, h10, h11, h12, h13], fun q => absurd q (by decide)⟩⟩ (by decide) (by decide) (by decide) (Nat.le_of_ble_eq_true rfl) (Nat.le_of_ble_eq_true rfl) dX2_init_29 (fun a5 f5 H5 locs5 hW5 hS5 => ?_)
  refine zn_put (T := TX2) (k := 2) hx hb hts hinX2 tyX2 tyX2_ok nmX2 hown hK hW5 hS5 hAo rfl rfl (by decide) (hts (.fieldLink RX2 22 "HailCity$Matching" "mostFrom" "[[I") (by decide +kernel)) (fun _ h9 => h9) (Or.inr ⟨rfl, hin2⟩) (ty := .array (.array .int)) (by decide +kernel) rfl rfl dX2_init_33 (fun H6 locs6 hW6 hS6 => ?_)
  refine lv_aload_n hx hb dX2_init_36 rfl (zh_at hl 0 rfl) ?_
  refine zz_bipush hx hb dX2_init_37 rfl ?_
  refine zn_newa (κ := 13) (i := 0) (N := 32) (atype := .int) hx hb (hts (.arrayClass .int) (by decide +kernel)) hK hW6 hS6 hA ⟨by decide, by simp [zax, zaxs, h0, h7, h8, h9, h10, h11, h12, h13], by intro κ h; simp [zhl] at h; subst h; exact ⟨by simp [zax, zaxs, h0, h7, h8, h9, h10, h11, h12, h13], fun q => absurd q (by decide)⟩⟩ rfl rfl (Or.inl rfl) rfl (by decide +kernel) (Nat.le_of_ble_eq_true rfl) (Nat.le_of_ble_eq_true rfl) dX2_init_39 (fun a7 H7 hW7 hS7 hz7 => ?_)
  refine zn_put (T := TX2) (k := 3) hx hb hts hinX2 tyX2 tyX2_ok nmX2 hown hK hW7 hS7 hAo rfl rfl (by decide) (hts (.fieldLink RX2 25 "HailCity$Matching" "mostOf" "[I") (by decide +kernel)) (fun _ h9 => h9) (Or.inr ⟨rfl, hin2⟩) (ty := .array .int) (by decide +kernel) rfl rfl dX2_init_41 (fun H8 locs8 hW8 hS8 => ?_)
  have hE := zNW.enter (i := 0) (zd0 7) hW8 ⟨by decide, by simp [zax, zaxs, h0, h7, h8, h9, h10, h11, h12, h13], by intro κ h; simp [zhl] at h; subst h; exact ⟨by simp [zax, zaxs, h0, h7, h8, h9, h10, h11, h12, h13], fun q => absurd q (by decide)⟩⟩ rfl hAo zd0_g zd0_b zd0_r (fun k hk => by
    have hk : k < 6 := hk
    rcases (by omega : k = 0 ∨ k = 1 ∨ k = 2 ∨ k = 3 ∨ k = 4 ∨ k = 5) with rfl | rfl | rfl | rfl | rfl | rfl <;> simp [updV, zdv, zv, zt, zr_nat, zr_z, zr_neg, zax, zaxs, va_rf, zd0, zup])
  exact zn_retv hx hb hr hlocks hE hS8 ⟨_, _, _, _, _, _, rfl, rfl⟩ dX2_init_44
def zpMap (ad : zA) (σ : zS) (o : Nat) (ad' : zA) (u : zS) : Prop := ∃ a b c f d, ad' = zax (zax (zaxs (zax (zax (zax ad 2 0 a) 3 0 b) 4 0 c) 6 10 f) 5 0 d) 1 0 o ∧ (∀ x y, x < 10 → y < 10 → u 6 x y = ywf 1000000 ((zsl (zsl (zslr (zsl (zsl (zsl σ 2 0 (zd0 2)) 3 0 (zd0 3)) 4 0 (zd0 4)) 6 10) 5 0 (zd0 5)) 1 0 (zd0 1)) 2 0) ((zsl (zsl (zslr (zsl (zsl (zsl σ 2 0 (zd0 2)) 3 0 (zd0 3)) 4 0 (zd0 4)) 6 10) 5 0 (zd0 5)) 1 0 (zd0 1)) 3 0) ((zsl (zsl (zslr (zsl (zsl (zsl σ 2 0 (zd0 2)) 3 0 (zd0 3)) 4 0 (zd0 4)) 6 10) 5 0 (zd0 5)) 1 0 (zd0 1)) 4 0) 0 10 x y) ∧ zfr (fun κ _ _ => κ = 6) (zsl (zsl (zslr (zsl (zsl (zsl σ 2 0 (zd0 2)) 3 0 (zd0 3)) 4 0 (zd0 4)) 6 10) 5 0 (zd0 5)) 1 0 (zd0 1)) u
set_option maxHeartbeats 4000000 in
set_option maxRecDepth 100000 in
theorem c_X0_init (l : Launch) (G : zG) (ad : zA) (A : Nat → Prop) (N0 : Nat) (σ : zS) (o : Nat) (hA : ∀ q, N0 ≤ q → A q) (hAo : A o) (hn : ∀ κ i, 1 ≤ κ → κ ≤ 6 → ad κ i = none) (h0 : ad 0 0 = none) (h14 : ad 14 0 = none) : Met l yX0_init wsX0_init ({ frames := 3, cells := 14, slots := 170, locals := 66 }) (zPN G ad A N0 σ 1 o []) (zQN G A (zpMap ad σ o)) 14 170 A := by
  refine zn_of (cc := cX0_init) (maxL := 1) (by decide) rfl rfl ⟨rfl, rfl⟩ (by intro v hv; cases hv) (Nat.le_of_ble_eq_true rfl) ?_
  intro p e s m below meth c hx hb hr hml hts hown hlocks hin2 hsz hW hK hAA ls hl
  have hS : va_S A s.heap s.heap [] := va_S.rf
  have hA : ∀ q, s.heap.size ≤ q → A q := fun q hq => hA q (Nat.le_trans hsz hq)
  have hl : zh ls 1 [(0, .ref o)] := hl
  have hinX0 : ∀ w ∈ u_ws RX0 TX0 5, w ∈ wsX0_init := by decide +kernel
  have h1 : ∀ i, ad 1 i = none := fun i => hn 1 i (by decide) (by decide)
  have h2 : ∀ i, ad 2 i = none := fun i => hn 2 i (by decide) (by decide)
  have h3 : ∀ i, ad 3 i = none := fun i => hn 3 i (by decide) (by decide)
  have h4 : ∀ i, ad 4 i = none := fun i => hn 4 i (by decide) (by decide)
  have h5 : ∀ i, ad 5 i = none := fun i => hn 5 i (by decide) (by decide)
  have h6 : ∀ i, ad 6 i = none := fun i => hn 6 i (by decide) (by decide)
  refine lv_aload_n hx hb dX0_init_0 rfl (zh_at hl 0 rfl) ?_
  refine W.objInit hx hb hown (hts (.methodLink RX0 3 objectInit) (by decide +kernel)) (hts (.instanceMethod objectInit) (by decide +kernel)) (hts _ (List.mem_of_getElem? (i := 3) rfl)) rfl (by rw [hml]; exact hl.1.1) rfl dX0_init_1 (Nat.le_of_ble_eq_true rfl) (Nat.le_of_ble_eq_true rfl) ?_
  refine lv_aload_n hx hb dX0_init_4 rfl (zh_at hl 0 rfl) ?_
  refine zz_bipush hx hb dX0_init_5 rfl ?_
  refine zn_newa (κ := 2) (i := 0) (N := 20) (atype := .int) hx hb (hts (.arrayClass .int) (by decide +kernel)) hK hW hS hA ⟨by decide, by simp [zax, zaxs, h0, h14, h1, h2, h3, h4, h5, h6], by intro κ h; simp [zhl] at h; subst h; exact ⟨by simp [zax, zaxs, h0, h14, h1, h2, h3, h4, h5, h6], fun q => absurd q (by decide)⟩⟩ rfl rfl (Or.inl rfl) rfl (by decide +kernel) (Nat.le_of_ble_eq_true rfl) (Nat.le_of_ble_eq_true rfl) dX0_init_7 (fun a1 H1 hW1 hS1 hz1 => ?_)
  refine zn_put (T := TX0) (k := 0) hx hb hts hinX0 tyX0 tyX0_ok nmX0 hown hK hW1 hS1 hAo rfl rfl (by decide) (hts (.fieldLink RX0 11 "HailCity$CityMap" "ends" "[I") (by decide +kernel)) (fun _ h9 => h9) (Or.inr ⟨rfl, hin2⟩) (ty := .array .int) (by decide +kernel) rfl rfl dX0_init_9 (fun H2 locs2 hW2 hS2 => ?_)
  refine lv_aload_n hx hb dX0_init_12 rfl (zh_at hl 0 rfl) ?_
  refine zz_bipush hx hb dX0_init_13 rfl ?_
  refine zn_newa (κ := 3) (i := 0) (N := 20) (atype := .int) hx hb (hts (.arrayClass .int) (by decide +kernel)) hK hW2 hS2 hA ⟨by decide, by simp [zax, zaxs, h0, h14, h1, h2, h3, h4, h5, h6], by intro κ h; simp [zhl] at h; subst h; exact ⟨by simp [zax, zaxs, h0, h14, h1, h2, h3, h4, h5, h6], fun q => absurd q (by decide)⟩⟩ rfl rfl (Or.inl rfl) rfl (by decide +kernel) (Nat.le_of_ble_eq_true rfl) (Nat.le_of_ble_eq_true rfl) dX0_init_15 (fun a3 H3 hW3 hS3 hz3 => ?_)
  refine zn_put (T := TX0) (k := 1) hx hb hts hinX0 tyX0 tyX0_ok nmX0 hown hK hW3 hS3 hAo rfl rfl (by decide) (hts (.fieldLink RX0 15 "HailCity$CityMap" "otherEnds" "[I") (by decide +kernel)) (fun _ h9 => h9) (Or.inr ⟨rfl, hin2⟩) (ty := .array .int) (by decide +kernel) rfl rfl dX0_init_17 (fun H4 locs4 hW4 hS4 => ?_)
  refine lv_aload_n hx hb dX0_init_20 rfl (zh_at hl 0 rfl) ?_
  refine zz_bipush hx hb dX0_init_21 rfl ?_
  refine zn_newa (κ := 4) (i := 0) (N := 20) (atype := .int) hx hb (hts (.arrayClass .int) (by decide +kernel)) hK hW4 hS4 hA ⟨by decide, by simp [zax, zaxs, h0, h14, h1, h2, h3, h4, h5, h6], by intro κ h; simp [zhl] at h; subst h; exact ⟨by simp [zax, zaxs, h0, h14, h1, h2, h3, h4, h5, h6], fun q => absurd q (by decide)⟩⟩ rfl rfl (Or.inl rfl) rfl (by decide +kernel) (Nat.le_of_ble_eq_true rfl) (Nat.le_of_ble_eq_true rfl) dX0_init_23 (fun a5 H5 hW5 hS5 hz5 => ?_)
  refine zn_put (T := TX0) (k := 2) hx hb hts hinX0 tyX0 tyX0_ok nmX0 hown hK hW5 hS5 hAo rfl rfl (by decide) (hts (.fieldLink RX0 18 "HailCity$CityMap" "streetMinutes" "[I") (by decide +kernel)) (fun _ h9 => h9) (Or.inr ⟨rfl, hin2⟩) (ty := .array .int) (by decide +kernel) rfl rfl dX0_init_25 (fun H6 locs6 hW6 hS6 => ?_)
  refine lv_aload_n hx hb dX0_init_28 rfl (zh_at hl 0 rfl) ?_
  refine zz_bipush hx hb dX0_init_29 rfl ?_
  refine zz_bipush hx hb dX0_init_31 rfl ?_
  refine zn_multi (κo := 5) (κi := 6) (N := 10) (M := 10) hx hb hown (hts (.classLink RX0 21 "[[I") (by decide +kernel)) hK hAA hW6 hS6 hA rfl rfl (by decide) rfl rfl rfl rfl (by decide +kernel) (by decide +kernel) rfl (by decide) (by decide) (by intro j hj; simp [zax, zaxs, h0, h14, h1, h2, h3, h4, h5, h6]) (by intro j; simp [zax, zaxs, h0, h14, h1, h2, h3, h4, h5, h6]) ⟨by decide, by simp [zax, zaxs, h0, h14, h1, h2, h3, h4, h5, h6], by intro κ h; simp [zhl] at h; subst h; exact ⟨by simp [zax, zaxs, h0, h14, h1, h2, h3, h4, h5, h6], fun q => absurd q (by decide)⟩⟩ (by decide) (by decide) (by decide) (Nat.le_of_ble_eq_true rfl) (Nat.le_of_ble_eq_true rfl) dX0_init_33 (fun a7 f7 H7 locs7 hW7 hS7 => ?_)
  refine zn_put (T := TX0) (k := 3) hx hb hts hinX0 tyX0 tyX0_ok nmX0 hown hK hW7 hS7 hAo rfl rfl (by decide) (hts (.fieldLink RX0 23 "HailCity$CityMap" "between" "[[I") (by decide +kernel)) (fun _ h9 => h9) (Or.inr ⟨rfl, hin2⟩) (ty := .array (.array .int)) (by decide +kernel) rfl rfl dX0_init_37 (fun H8 locs8 hW8 hS8 => ?_)
  have hE := zNW.enter (i := 0) (zd0 1) hW8 ⟨by decide, by simp [zax, zaxs, h0, h14, h1, h2, h3, h4, h5, h6], by intro κ h; simp [zhl] at h; rcases h with rfl | rfl <;> exact ⟨by simp [zax, zaxs, h0, h14, h1, h2, h3, h4, h5, h6], fun q => absurd q (by decide)⟩⟩ rfl hAo zd0_g zd0_b zd0_r (fun k hk => by
    have hk : k < 5 := hk
    rcases (by omega : k = 0 ∨ k = 1 ∨ k = 2 ∨ k = 3 ∨ k = 4) with rfl | rfl | rfl | rfl | rfl <;> simp [updV, zdv, zv, zt, zr_nat, zr_z, zr_neg, zax, zaxs, va_rf, zd0, zup])
  have hX : zX6 (zax (zax (zaxs (zax (zax (zax ad 2 0 a1) 3 0 a3) 4 0 a5) 6 10 f7) 5 0 a7) 1 0 o) := by
    intro κ i h
    unfold zlive6 at h
    split at h <;> simp at h <;> simp [zax, zaxs, h]
  refine lv_aload_n hx hb dX0_init_40 rfl (zh_at hl 0 rfl) ?_
  refine zz_callV (T := TX0) (N := 5) (As := []) (rest := []) (v := ((0 : Nat) : Int)) (κ := 1) ⟨hx, hb, hml, hown, hts⟩ (c_X0_measure6 l G (zax (zax (zaxs (zax (zax (zax ad 2 0 a1) 3 0 a3) 4 0 a5) 6 10 f7) 5 0 a7) 1 0 o) A N0 (zsl (zsl (zslr (zsl (zsl (zsl σ 2 0 (zd0 2)) 3 0 (zd0 3)) 4 0 (zd0 4)) 6 10) 5 0 (zd0 5)) 1 0 (zd0 1)) hX 0 rfl (by decide) (fun s9 h9 => absurd h9 (Nat.not_lt_zero s9))) (cwV 0 hts gX0_init_X0_measure rfl rfl rfl (by decide +kernel) ⟨(Nat.le_of_ble_eq_true rfl), (Nat.le_of_ble_eq_true rfl)⟩) hK hE (zlN (hX 1 0 rfl)) rfl rfl (Nat.le_trans hsz hS8.1) hS8 rfl hl.1.1 (by rw [zr_nat, zax_same]; rfl) (Nat.le_of_ble_eq_true rfl) dX0_init_41 ⟨(Nat.le_of_ble_eq_true rfl), (Nat.le_of_ble_eq_true rfl)⟩ (fun x9 u9 H9 locs9 hp9 hW9 hz9 hS9 => ?_)
  exact zn_retv hx hb hr hlocks hW9 hS9 ⟨_, _, _, _, _, rfl, hp9.1, hp9.2⟩ dX0_init_44
