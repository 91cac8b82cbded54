/-! P24: THE DRIVES -/
theorem zr_to {ad ad' : zA} {κ i : Nat} (h : ad' κ i = ad κ i) : zr ad κ ((i : Nat) : Int) = zr ad' κ ((i : Nat) : Int) := by
  unfold zr zq
  rw [if_neg (by omega), if_neg (by omega), Int.toNat_natCast, h]
theorem w_triv {G : zG} {A : Nat → Prop} {H : Heap} : ZW G (fun _ _ => none) A (fun _ _ _ => 0) H := ⟨fun κ i a h => (by cases h), fun _ _ _ _ _ h => (by cases h), fun _ _ _ => zg_01 (Or.inl rfl), fun _ _ _ h => (by cases h), fun _ _ _ _ => Or.inl rfl⟩
theorem zax3 {ad : zA} {a1 a2 a3 κ i : Nat} (h : κ < 86) : zax (zax (zax ad 86 0 a1) 87 0 a2) 88 0 a3 κ i = ad κ i := by
  rw [zax_ne (by omega), zax_ne (by omega), zax_ne (by omega)]
theorem zsl3 {u : zS} {κ i k : Nat} (h : κ < 86) : zsl (zsl (zsl u 86 0 (fun _ => 0)) 87 0 (fun _ => 0)) 88 0 (fun _ => 0) κ i k = u κ i k := by
  rw [zsl_ne (by omega), zsl_ne (by omega), zsl_ne (by omega)]
theorem zsl30 {u : zS} {κ j : Nat} (h1 : 86 ≤ κ) (h2 : κ ≤ 88) : zsl (zsl (zsl u 86 0 (fun _ => 0)) 87 0 (fun _ => 0)) 88 0 (fun _ => 0) κ 0 j = 0 := by
  rcases (by omega : κ = 86 ∨ κ = 87 ∨ κ = 88) with rfl | rfl | rfl
  · rw [zsl_ne (by omega), zsl_ne (by omega), zsl_same]
  · rw [zsl_ne (by omega), zsl_same]
  · rw [zsl_same]
theorem pC_start {o : Nat} {ad1 : zA} {u1 : zS} {a1 a2 a3 : Nat} (hp1 : zpHail o (fun _ _ => none) (fun _ _ _ => 0) ad1 u1) : pC (zax (zax (zax ad1 86 0 a1) 87 0 a2) 88 0 a3) (zsl (zsl (zsl u1 86 0 (fun _ => 0)) 87 0 (fun _ => 0)) 88 0 (fun _ => 0)) pS0 0 0 0 0 := by
  have h0 : pC (zax (zax (zax ad1 86 0 a1) 87 0 a2) 88 0 a3) u1 pS0 0 0 0 0 := by
    refine ⟨fun κ i h => ?_, fun κ i q1 q2 _ => ?_, CP_start hp1 pS0_ok, yWF_B (yWF_start pS0_ok) (by decide) (by decide), by decide, by decide⟩
    · rw [zax3 (by have := zlive_lo h; omega)]
      exact hp1.2.1 κ i h
    · rw [zax3 (by omega)]
      exact hp1.2.2.1 κ i q1 (by omega)
  exact pC_hi h0 (fun κ i k h => zsl3 h)
set_option maxHeartbeats 4000000 in
set_option maxRecDepth 100000 in
theorem c_L_drives (l : Launch) (hst : l.stackTraces = false) (G : zG) (A : Nat → Prop) (N0 b L : Nat) (xs : Nat → Int32) (hL : L ≤ 260) (hA : ∀ q, N0 ≤ q → A q) (hbA : ¬ A b) (at9 sw : Int) (hat : 0 ≤ at9 ∧ at9 ≤ 200) (hsw : sw = 0 ∨ sw = 1) : Met l yL_drives wsD ({ frames := 12, cells := 87000, slots := 525000, locals := 354 }) (va_Pc [Value.ref b, .int (zi at9), .int (zi sw)] (zPR G A N0 b L xs)) (zQg A (fun r => 1 = r)) 87000 525000 A := by
  refine zd_of (cc := cL_drives) (maxL := 13) (ret := some .boolean) (by decide) rfl (by intro v hv; simp only [List.mem_cons, List.not_mem_nil, or_false] at hv; rcases hv with rfl | rfl | rfl <;> rfl) (Nat.le_of_ble_eq_true rfl) ?_
  intro p e s m below meth c9 hx hb hr hml hts hown hlocks hP ls hl
  obtain ⟨⟨hXs, hbl⟩, hsz, hK, hE, hAA, hNC⟩ := hP
  obtain ⟨k1, k2, k3, k8, k9, k7, -⟩ := wD_in
  have S : CallFix p m c9 cL_drives 13 s ([Value.ref b, .int (zi at9), .int (zi sw)] : List Value).toArray wsD RL := ⟨hx, hb, hml, hown, hts⟩
  have hA0 : ∀ q, s.heap.size ≤ q → A q := fun q hq => hA q (Nat.le_trans hsz hq)
  have hS0 : va_S A s.heap s.heap [] := va_S.rf
  have hl : zh ls 13 [(0, Value.ref b), (1, .int (zi at9)), (2, .int (zi sw))] := hl
  refine zn_new (κ := 0) (T := TX6) (N := 10) (C := RX6) (own := RL) hx hb hts inD6 tyX6 tyX6_ok hown (hts _ k1) (hts _ k2) (hts _ k3) hK rfl rfl (by decide +kernel) (w_triv (A := A)) hS0 (Nat.le_of_ble_eq_true rfl) (Nat.le_of_ble_eq_true rfl) dL_drives_0 (fun o1 H1 hN1 ho1 hz1 hk1 hS1 => ?_)
  refine lv_dup hx hb dL_drives_3 rfl ?_
  refine zn_callI (A' := A) (N0 := H1.size) (As := []) (rest := [.ref o1]) S (c_X6_init l G (fun _ _ => none) A H1.size (fun _ _ _ => 0) o1 (fun q h => hA0 q (Nat.le_trans hS1.1 h)) (hA0 o1 (Nat.le_of_eq ho1)) (fun _ _ _ => rfl)) (cwI 0 hts gD_X6_init rfl rfl rfl (hts _ k3) (hts _ k8) (hts _ k9) rfl (by decide +kernel) ⟨Nat.le_of_ble_eq_true rfl, Nat.le_of_ble_eq_true rfl⟩) hK hAA hN1 (Nat.le_refl _) hS1 (fun q h => h) rfl hl.1.1 rfl (Nat.le_of_ble_eq_true rfl) dL_drives_4 ⟨Nat.le_of_ble_eq_true rfl, Nat.le_of_ble_eq_true rfl⟩ (fun ad1 u1 H2 locs2 hp1 hW2 hz2 hk2 hS2 => ?_)
  refine W.eq (g2 := F0 m 7 ls [zr ad1 0 ((0 : Nat) : Int)]) (by rw [zr_nat, hp1.1]; rfl) ?_
  refine zz_astore_n (lv' := [(3, zr ad1 0 ((0 : Nat) : Int)), (0, Value.ref b), (1, .int (zi at9)), (2, .int (zi sw))]) hx hb hl dL_drives_7 rfl (by decide) rfl (fun ls hl => ?_)
  refine zz_iconst hx hb dL_drives_8 ?_
  refine zd_newarr (κ := 86) (N := 4) hx hb (Or.inl rfl) (hts _ k7) hK hW2 hS2 hA0 (hp1.2.2.1 86 0 (by decide) (by decide)) rfl (Nat.le_of_ble_eq_true rfl) (Nat.le_of_ble_eq_true rfl) dL_drives_9 (fun a1 H3 hW3 hS3 => ?_)
  refine zz_astore (lv' := [(4, zr (zax ad1 86 0 a1) 86 ((0 : Nat) : Int)), (3, zr ad1 0 ((0 : Nat) : Int)), (0, Value.ref b), (1, .int (zi at9)), (2, .int (zi sw))]) hx hb hl dL_drives_11 (by decide) rfl (fun ls hl => ?_)
  refine zz_bipush hx hb dL_drives_13 (by decide +kernel) ?_
  refine zd_newarr (κ := 87) (N := 48) hx hb (Or.inr (Or.inl rfl)) (hts _ k7) hK hW3 hS3 hA0 ((zax_ne (by decide)).trans (hp1.2.2.1 87 0 (by decide) (by decide))) rfl (Nat.le_of_ble_eq_true rfl) (Nat.le_of_ble_eq_true rfl) dL_drives_15 (fun a2 H4 hW4 hS4 => ?_)
  refine zz_astore (lv' := [(5, zr (zax (zax ad1 86 0 a1) 87 0 a2) 87 ((0 : Nat) : Int)), (4, zr (zax ad1 86 0 a1) 86 ((0 : Nat) : Int)), (3, zr ad1 0 ((0 : Nat) : Int)), (0, Value.ref b), (1, .int (zi at9)), (2, .int (zi sw))]) hx hb hl dL_drives_17 (by decide) rfl (fun ls hl => ?_)
  refine zz_iconst hx hb dL_drives_19 ?_
  refine zd_newarr (κ := 88) (N := 3) hx hb (Or.inr (Or.inr rfl)) (hts _ k7) hK hW4 hS4 hA0 ((zax_ne (by decide)).trans ((zax_ne (by decide)).trans (hp1.2.2.1 88 0 (by decide) (by decide)))) rfl (Nat.le_of_ble_eq_true rfl) (Nat.le_of_ble_eq_true rfl) dL_drives_20 (fun a3 H5 hW5 hS5 => ?_)
  refine zz_astore (lv' := [(6, zr (zax (zax (zax ad1 86 0 a1) 87 0 a2) 88 0 a3) 88 ((0 : Nat) : Int)), (5, zr (zax (zax ad1 86 0 a1) 87 0 a2) 87 ((0 : Nat) : Int)), (4, zr (zax ad1 86 0 a1) 86 ((0 : Nat) : Int)), (3, zr ad1 0 ((0 : Nat) : Int)), (0, Value.ref b), (1, .int (zi at9)), (2, .int (zi sw))]) hx hb hl dL_drives_22 (by decide) rfl (fun ls hl => ?_)
  rw [show zr ad1 0 ((0 : Nat) : Int) = zr (zax (zax (zax ad1 86 0 a1) 87 0 a2) 88 0 a3) 0 ((0 : Nat) : Int) from zr_to (zax3 (by decide)), show zr (zax ad1 86 0 a1) 86 ((0 : Nat) : Int) = zr (zax (zax (zax ad1 86 0 a1) 87 0 a2) 88 0 a3) 86 ((0 : Nat) : Int) from zr_to ((zax_ne (by decide)).trans (zax_ne (by decide))), show zr (zax (zax ad1 86 0 a1) 87 0 a2) 87 ((0 : Nat) : Int) = zr (zax (zax (zax ad1 86 0 a1) 87 0 a2) 88 0 a3) 87 ((0 : Nat) : Int) from zr_to (zax_ne (by decide))] at hl
  have hl : zh ls 13 [(6, zr (zax (zax (zax ad1 86 0 a1) 87 0 a2) 88 0 a3) 88 ((0 : Nat) : Int)), (5, zr (zax (zax (zax ad1 86 0 a1) 87 0 a2) 88 0 a3) 87 ((0 : Nat) : Int)), (4, zr (zax (zax (zax ad1 86 0 a1) 87 0 a2) 88 0 a3) 86 ((0 : Nat) : Int)), (3, zr (zax (zax (zax ad1 86 0 a1) 87 0 a2) 88 0 a3) 0 ((0 : Nat) : Int)), (2, .int (zi sw)), (1, .int (zi at9)), (0, Value.ref b)] := zh_sub hl [0, 1, 2, 3, 6, 5, 4] rfl
  refine zw_widen (k := 42) (n := 2000) (Nat.le_of_ble_eq_true rfl) (Nat.le_of_ble_eq_true rfl) ?_
  exact w_drives hx hb hr hml hts hown hlocks hst hsz hA hbA hXs hbl hL hat hsw hK hE hAA hNC (pC_start hp1) (by rw [zax_ne (by decide), zax_ne (by decide), zax_same]; rfl) (by rw [zax_ne (by decide), zax_same]; rfl) (by rw [zax_same]; rfl) (pSt_v pS0_ok) (fun κ j h1 h2 => zsl30 h1 h2) hW5 hS5 hl
