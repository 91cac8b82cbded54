set_option maxHeartbeats 8000000 in
set_option maxRecDepth 100000 in
theorem w_drives {p : Program} {l : Launch} {e : Env} {s : State} {m : MethodId} {below : List Frame} {meth : Method} {c9 : Code} {G : zG} {A : Nat → Prop} {ad : zA} {σ t : zS} {H0 : Heap} {locs0 : List Loc} {ls : Array Slot} {b L N0 : Nat} {xs : Nat → Int32} {at9 sw : Int} (hx : p.tables.exec = Jvm.exec) (hb : c9.code = cL_drives) (hr : meth.sig.returnType = some .boolean) (hml : c9.maxLocals = 13) (hts : ∀ w ∈ wsD, w.before ([Value.ref b, .int (zi at9), .int (zi sw)] : List Value).toArray s = true) (hown : s.vm.findClass RL = some m.cls) (hlocks : meth.locks = false) (hst : l.stackTraces = false) (hsz : N0 ≤ s.heap.size) (hA : ∀ q, N0 ≤ q → A q) (hbA : ¬ A b) (hXs : va_X b L xs s s.heap) (hbl : b < s.heap.size) (hL : L ≤ 260) (hat : 0 ≤ at9 ∧ at9 ≤ 200) (hsw : sw = 0 ∨ sw = 1) (hK : zK G s) (hE : zE A s) (hAA : zAA G s) (hNC : zNC s) (hC : pC ad σ t 0 0 0 0) (hn : (ad 86 0).isSome = true) (hh : (ad 87 0).isSome = true) (hp9 : (ad 88 0).isSome = true) (ht9 : t 30 0 1 = 0 ∧ t 30 0 2 = 300) (hz0 : ∀ κ j, 86 ≤ κ → κ ≤ 88 → σ κ 0 j = 0) (hW0 : ZW G ad A σ H0) (hS0 : va_S A s.heap H0 locs0) (hl : zh ls 13 [(6, zr ad 88 ((0 : Nat) : Int)), (5, zr ad 87 ((0 : Nat) : Int)), (4, zr ad 86 ((0 : Nat) : Int)), (3, zr ad 0 ((0 : Nat) : Int)), (2, .int (zi sw)), (1, .int (zi at9)), (0, Value.ref b)]) : W p l e ({ frames := 12, cells := 87000, slots := 525000, locals := 354 }) s m ([Value.ref b, .int (zi at9), .int (zi sw)] : List Value).toArray below meth c9 H0 locs0 42 2000 (MQ below (zQg A (fun r => 1 = r)) ([Value.ref b, .int (zi at9), .int (zi sw)] : List Value).toArray s 87000 525000 A) (F0 m 24 ls []) := by
  have hA0 : ∀ q, s.heap.size ≤ q → A q := fun q hq => hA q (Nat.le_trans hsz hq)
  have h00 := hC.1 0 0 rfl
  refine zz_aload hx hb hl 2 dL_drives_24 rfl ?_
  refine zz_iconst hx hb dL_drives_26 ?_
  refine zz_sipush hx hb dL_drives_27 (by decide +kernel) ?_
  refine zz_iast (y := 300) hx hb hK hW0 hS0 (zlN hn) rfl rfl rfl (by show (0 : Int) ≤ 2; omega) (by show 2 < (4 : Int); omega) ⟨by decide, by decide⟩ dL_drives_30 (fun H1 locs1 hW1' hS1 => ?_)
  obtain ⟨σ1, hs1⟩ : ∃ z, z = zu σ 86 0 2 300 := ⟨_, rfl⟩
  have hW1 : ZW G ad A σ1 H1 := by rw [hs1]; exact hW1'
  refine lv_aload_n hx hb dL_drives_31 rfl (zh_at hl 6 rfl) ?_
  refine zz_iload_n hx hb hl 5 dL_drives_32 rfl rfl ?_
  refine zl_drawn (b := b) (L := L) (xs := xs) (k := at9) (rest := []) hL ⟨by omega, by omega⟩ ⟨hx, hb, hml, hown, hts⟩ (va_cwS 2 hts gD_L_drawn rfl rfl rfl (by decide +kernel) ⟨Nat.le_of_ble_eq_true rfl, Nat.le_of_ble_eq_true rfl⟩) hXs hbl hbA hS1 hl.1.1 (Nat.le_of_ble_eq_true rfl) dL_drives_33 ⟨show _ ≤ 87000 from by omega, show _ ≤ 525000 from by omega⟩ (fun x2 H2 locs2 hx0 hgx hz2 hk2 hS2 => ?_)
  have hW2 := hW1.heap hk2
  refine W.eq (g2 := F0 m 36 ls [.int (zi x2)]) rfl ?_
  refine zz_ldc (n := 2000000000) (v := 2000000000) hx hb hown (hts _ wD_in.2.2.2.2.2.2) (by decide +kernel) dL_drives_36 ?_
  refine zz_irem hx hb dL_drives_38 hgx ⟨by decide, by decide⟩ (by omega) (by omega) ?_
  refine zz_istore (lv' := [(7, .int (zi (x2 % 2000000000))), (6, zr ad 88 ((0 : Nat) : Int)), (5, zr ad 87 ((0 : Nat) : Int)), (4, zr ad 86 ((0 : Nat) : Int)), (3, zr ad 0 ((0 : Nat) : Int)), (2, .int (zi sw)), (1, .int (zi at9)), (0, Value.ref b)]) hx hb hl dL_drives_39 (by decide) rfl (fun ls hl => ?_)
  refine zz_iconst hx hb dL_drives_41 ?_
  refine zz_istore (lv' := [(8, .int (zi 1)), (7, .int (zi (x2 % 2000000000))), (6, zr ad 88 ((0 : Nat) : Int)), (5, zr ad 87 ((0 : Nat) : Int)), (4, zr ad 86 ((0 : Nat) : Int)), (3, zr ad 0 ((0 : Nat) : Int)), (2, .int (zi sw)), (1, .int (zi at9)), (0, Value.ref b)]) hx hb hl dL_drives_42 (by decide) rfl (fun ls hl => ?_)
  refine zz_iconst hx hb dL_drives_44 ?_
  refine zz_istore (lv' := [(9, .int (zi 0)), (8, .int (zi 1)), (7, .int (zi (x2 % 2000000000))), (6, zr ad 88 ((0 : Nat) : Int)), (5, zr ad 87 ((0 : Nat) : Int)), (4, zr ad 86 ((0 : Nat) : Int)), (3, zr ad 0 ((0 : Nat) : Int)), (2, .int (zi sw)), (1, .int (zi at9)), (0, Value.ref b)]) hx hb hl dL_drives_45 (by decide) rfl (fun ls hl => ?_)
  have hcut47 : ∀ (n9 : Nat) (k : Nat) (y9 : Int) (t9 : zS)  (σ9 : zS) (H9 : Heap) (locs9 : List Loc) (ls : Array Slot), (k ≤ 5 ∧ (0 ≤ y9 ∧ y9 < 2000000000) ∧ pC ad σ9 t9 0 0 k ((k : Nat) : Int) ∧ (t9 30 0 1 = 0 ∧ t9 30 0 2 = 300) ∧ (∀ κ j, 86 ≤ κ → κ ≤ 88 → σ9 κ 0 j = if κ = 86 ∧ j = 2 then 300 else 0)) → (5 - k) < n9 → ZW G ad A σ9 H9 → va_S A s.heap H9 locs9 → zh ls 13 [(0, Value.ref b), (1, .int (zi at9)), (2, .int (zi sw)), (3, zr ad 0 ((0 : Nat) : Int)), (4, zr ad 86 ((0 : Nat) : Int)), (5, zr ad 87 ((0 : Nat) : Int)), (6, zr ad 88 ((0 : Nat) : Int)), (7, .int (zi y9)), (8, .int (zi 1)), (9, .int (zi ((k : Nat) : Int)))] → W p l e ({ frames := 12, cells := 87000, slots := 525000, locals := 354 }) s m ([Value.ref b, .int (zi at9), .int (zi sw)] : List Value).toArray below meth c9 H9 locs9 (42 + 5 * k) (2000 + 30 * k) (MQ below (zQg A (fun r => 1 = r)) ([Value.ref b, .int (zi at9), .int (zi sw)] : List Value).toArray s 87000 525000 A) (F0 m 47 ls []) := by
    intro n9
    induction n9 with
    | zero =>
      intro k y9 t9 σ3 H3 locs3 ls hI47 hm47 hW3 hS3 hl
      exact absurd hm47 (Nat.not_lt_zero _)
    | succ n9 ih47 =>
      intro k y9 t9 σ3 H3 locs3 ls hI47 hm47 hW3 hS3 hl
      obtain ⟨hk5, ⟨hy0, hy1⟩, hCk, ⟨ht1, ht2⟩, hz9⟩ := hI47
      refine zz_iload hx hb hl 9 dL_drives_47 rfl ?_
      refine zz_iconst hx hb dL_drives_49 ?_
      refine zz_icmp_ge (tgt := 110) hx hb dL_drives_50 (by decide) ⟨by omega, by omega⟩ ⟨by decide, by decide⟩ (fun hc50 => ?_) (fun hc50 => ?_)
      · refine zz_iconst hx hb dL_drives_110 ?_
        refine zz_istore (lv' := [(9, .int (zi 0)), (0, Value.ref b), (1, .int (zi at9)), (2, .int (zi sw)), (3, zr ad 0 ((0 : Nat) : Int)), (4, zr ad 86 ((0 : Nat) : Int)), (5, zr ad 87 ((0 : Nat) : Int)), (6, zr ad 88 ((0 : Nat) : Int)), (7, .int (zi y9)), (8, .int (zi 1))]) hx hb hl dL_drives_111 (by decide) rfl (fun ls hl => ?_)
        have hcut113 : ∀ (n9 : Nat) (k : Nat) (ad9 : zA) (t9 : zS)  (σ9 : zS) (H9 : Heap) (locs9 : List Loc) (ls : Array Slot), (k ≤ 3 ∧ pC ad9 σ9 t9 k 0 5 ((5 + k : Nat) : Int) ∧ pV t9 False k 0 ∧ pE t9 k 0 ∧ (t9 30 0 1 = 0 ∧ t9 30 0 2 = 300) ∧ (∀ κ j, 86 ≤ κ → κ ≤ 88 → σ9 κ 0 j = if κ = 86 ∧ j = 2 then 300 else 0) ∧ (ad9 86 0).isSome = true ∧ (ad9 87 0).isSome = true ∧ (ad9 88 0).isSome = true) → (3 - k) < n9 → ZW G ad9 A σ9 H9 → va_S A s.heap H9 locs9 → zh ls 13 [(0, Value.ref b), (1, .int (zi at9)), (2, .int (zi sw)), (3, zr ad9 0 ((0 : Nat) : Int)), (4, zr ad9 86 ((0 : Nat) : Int)), (5, zr ad9 87 ((0 : Nat) : Int)), (6, zr ad9 88 ((0 : Nat) : Int)), (8, .int (zi 1)), (9, .int (zi ((k : Nat) : Int)))] → W p l e ({ frames := 12, cells := 87000, slots := 525000, locals := 354 }) s m ([Value.ref b, .int (zi at9), .int (zi sw)] : List Value).toArray below meth c9 H9 locs9 (67 + 8 * k) (2150 + 63 * k) (MQ below (zQg A (fun r => 1 = r)) ([Value.ref b, .int (zi at9), .int (zi sw)] : List Value).toArray s 87000 525000 A) (F0 m 113 ls []) := by
          intro n9
          induction n9 with
          | zero =>
            intro k ad9 t9 σ4 H4 locs4 ls hI113 hm113 hW4 hS4 hl
            exact absurd hm113 (Nat.not_lt_zero _)
          | succ n9 ih113 =>
            intro k ad9 t9 σ4 H4 locs4 ls hI113 hm113 hW4 hS4 hl
            obtain ⟨hk3, hCk, hvk, hEk, ⟨ht1, ht2⟩, hz9, hn, hh, hp9⟩ := hI113
            have h00 := hCk.1 0 0 rfl
            refine zz_iload hx hb hl 8 dL_drives_113 rfl ?_
            refine zz_iconst hx hb dL_drives_115 ?_
            refine zz_icmp_ge (tgt := 161) hx hb dL_drives_116 (by decide) ⟨by omega, by omega⟩ ⟨by decide, by decide⟩ (fun hc116 => ?_) (fun hc116 => ?_)
            · refine zz_iconst hx hb dL_drives_161 ?_
              refine zz_istore (lv' := [(9, .int (zi 2)), (0, Value.ref b), (1, .int (zi at9)), (2, .int (zi sw)), (3, zr ad9 0 ((0 : Nat) : Int)), (4, zr ad9 86 ((0 : Nat) : Int)), (5, zr ad9 87 ((0 : Nat) : Int)), (6, zr ad9 88 ((0 : Nat) : Int)), (8, .int (zi 1))]) hx hb hl dL_drives_162 (by decide) rfl (fun ls hl => ?_)
              have hcut164 : ∀ (n9 : Nat) (k nr9 : Nat) (ad9 : zA) (t9 : zS) (sl9 : Prop)  (σ9 : zS) (H9 : Heap) (locs9 : List Loc) (ls : Array Slot), ((2 ≤ k ∧ k ≤ 45) ∧ pC ad9 σ9 t9 3 nr9 5 ((k + 6 : Nat) : Int) ∧ pV t9 sl9 3 nr9 ∧ pE t9 3 nr9 ∧ pIn σ9 t9 sl9 nr9 ∧ (∀ d, d < 3 → σ9 88 0 d ≤ ypy t9 d) ∧ (ad9 86 0).isSome = true ∧ (ad9 87 0).isSome = true ∧ (ad9 88 0).isSome = true) → (45 - k) < n9 → ZW G ad9 A σ9 H9 → va_S A s.heap H9 locs9 → zh ls 13 [(0, Value.ref b), (1, .int (zi at9)), (2, .int (zi sw)), (3, zr ad9 0 ((0 : Nat) : Int)), (4, zr ad9 86 ((0 : Nat) : Int)), (5, zr ad9 87 ((0 : Nat) : Int)), (6, zr ad9 88 ((0 : Nat) : Int)), (8, .int (zi 1)), (9, .int (zi ((k : Nat) : Int)))] → W p l e ({ frames := 12, cells := 87000, slots := 525000, locals := 354 }) s m ([Value.ref b, .int (zi at9), .int (zi sw)] : List Value).toArray below meth c9 H9 locs9 (91 + 1927 * k) (2339 + 11568 * k) (MQ below (zQg A (fun r => 1 = r)) ([Value.ref b, .int (zi at9), .int (zi sw)] : List Value).toArray s 87000 525000 A) (F0 m 164 ls []) := by
                intro n9
                induction n9 with
                | zero =>
                  intro k nr9 ad9 t9 sl9 σ5 H5 locs5 ls hI164 hm164 hW5 hS5 hl
                  exact absurd hm164 (Nat.not_lt_zero _)
                | succ n9 ih164 =>
                  intro k nr9 ad9 t9 sl9 σ5 H5 locs5 ls hI164 hm164 hW5 hS5 hl
                  obtain ⟨⟨hk2, hk45⟩, hCk, hvk, hEk, hin, hpay, hn, hh, hp9⟩ := hI164
                  have h00 := hCk.1 0 0 rfl
                  have hWFk := hCk.2.2.2.1
                  refine zz_iload hx hb hl 8 dL_drives_164 rfl ?_
                  refine zz_bipush hx hb dL_drives_166 (by decide +kernel) ?_
                  refine zz_icmp_ge (tgt := 298) hx hb dL_drives_168 (by decide) ⟨by omega, by omega⟩ ⟨by decide, by decide⟩ (fun hc168 => ?_) (fun hc168 => ?_)
                  · refine zz_iload hx hb hl 7 dL_drives_298 rfl ?_
                    refine W.eq (g2 := F0 m 300 ls [.int (zi 1)]) rfl ?_
                    refine zw_widen (k := 87000) (n := 525000) (show _ ≤ 87000 from by omega) (show _ ≤ 525000 from by omega) ?_
                    exact zd_retz hx hb hr hlocks hS5 (Or.inr rfl) rfl dL_drives_300
                  · refine zz_iload hx hb hl 7 dL_drives_171 rfl ?_
                    refine zz_if_eq (tgt := 298) hx hb dL_drives_173 (by decide) ⟨by decide, by decide⟩ (fun hc173 => ?_) (fun hc173 => ?_)
                    · exfalso; exact absurd hc173 (by decide)
                    · refine lv_aload_n hx hb dL_drives_176 rfl (zh_at hl 0 rfl) ?_
                      refine zz_iload_n hx hb hl 1 dL_drives_177 rfl rfl ?_
                      refine zz_iload hx hb hl 8 dL_drives_178 rfl ?_
                      refine zz_iadd hx hb dL_drives_180 ?_
                      refine zl_drawn (b := b) (L := L) (xs := xs) (k := (at9 + ((k : Nat) : Int))) (rest := []) hL ⟨by omega, by omega⟩ ⟨hx, hb, hml, hown, hts⟩ (va_cwS 2 hts gD_L_drawn rfl rfl rfl (by decide +kernel) ⟨Nat.le_of_ble_eq_true rfl, Nat.le_of_ble_eq_true rfl⟩) hXs hbl hbA hS5 hl.1.1 (Nat.le_of_ble_eq_true rfl) dL_drives_181 ⟨show _ ≤ 87000 from by omega, show _ ≤ 525000 from by omega⟩ (fun x6 H6 locs6 hx0 hgx hz6 hk6 hS6 => ?_)
                      have hW6 := hW5.heap hk6
                      refine W.eq (g2 := F0 m 184 ls [.int (zi x6)]) rfl ?_
                      refine zz_ldc (n := 2000000000) (v := 2000000000) hx hb hown (hts _ wD_in.2.2.2.2.2.2) (by decide +kernel) dL_drives_184 ?_
                      refine zz_irem hx hb dL_drives_186 hgx ⟨by decide, by decide⟩ (by omega) (by omega) ?_
                      refine zz_istore (lv' := [(10, .int (zi (x6 % 2000000000))), (0, Value.ref b), (1, .int (zi at9)), (2, .int (zi sw)), (3, zr ad9 0 ((0 : Nat) : Int)), (4, zr ad9 86 ((0 : Nat) : Int)), (5, zr ad9 87 ((0 : Nat) : Int)), (6, zr ad9 88 ((0 : Nat) : Int)), (8, .int (zi 1)), (9, .int (zi ((k : Nat) : Int)))]) hx hb hl dL_drives_187 (by decide) rfl (fun ls hl => ?_)
                      have hcut229 : ∀ (z9 : Int)  (H9 : Heap) (locs9 : List Loc) (ls : Array Slot), (0 ≤ z9 ∧ z9 < 2000000000) → ZW G ad9 A σ5 H9 → va_S A s.heap H9 locs9 → zh ls 13 [(0, Value.ref b), (1, .int (zi at9)), (2, .int (zi sw)), (3, zr ad9 0 ((0 : Nat) : Int)), (4, zr ad9 86 ((0 : Nat) : Int)), (5, zr ad9 87 ((0 : Nat) : Int)), (6, zr ad9 88 ((0 : Nat) : Int)), (8, .int (zi 1)), (9, .int (zi ((k : Nat) : Int))), (10, .int (zi z9))] → W p l e ({ frames := 12, cells := 87000, slots := 525000, locals := 354 }) s m ([Value.ref b, .int (zi at9), .int (zi sw)] : List Value).toArray below meth c9 H9 locs9 (91 + 1927 * k) (2339 + 11568 * k) (MQ below (zQg A (fun r => 1 = r)) ([Value.ref b, .int (zi at9), .int (zi sw)] : List Value).toArray s 87000 525000 A) (F0 m 229 ls []) := by
                        intro z9 H7 locs7 ls hI229 hW7 hS7 hl
                        have hz99 := hI229
                        refine zz_aload_n hx hb hl 3 dL_drives_229 rfl rfl ?_
                        refine zl_callPM (As := [zr (zr8 ad9) 0 ((0 : Nat) : Int)]) (rest := []) ⟨hx, hb, hml, hown, hts⟩ (c_L_sum l hst G (zr8 ad9) (zcA (zr8 ad9) H7.size) H7.size σ5 t9 3 nr9 5 ((k + 6 : Nat) : Int) (pC_r8 hCk) hW7.2.2.1 ) (va_cwS 1 hts gD_L_sum rfl rfl rfl (by decide +kernel) ⟨Nat.le_of_ble_eq_true rfl, Nat.le_of_ble_eq_true rfl⟩) hK hE hAA hNC hW7 hA0 hS7 rfl hl.1.1 rfl (Nat.le_of_ble_eq_true rfl) dL_drives_230 ⟨show _ ≤ 87000 from by omega, show _ ≤ 525000 from by omega⟩ (fun x8 u8 H8 locs8 hp8 hW8 hz8 hS8 => ?_)
                        obtain ⟨σ8, hs8⟩ : ∃ z, z = zg8 σ5 u8 := ⟨_, rfl⟩
                        have hf8 : ∀ κ i k, 86 ≤ κ → σ8 κ i k = σ5 κ i k := fun κ i k h => by rw [hs8]; exact zg8_hi h
                        rw [← hs8] at hW8
                        obtain ⟨hpc8, rfl⟩ := hp8
                        have hC8 : pC ad9 σ8 t9 3 nr9 5 ((k + 6 : Nat) : Int) := by rw [hs8]; exact pC_g hpc8
                        have hin1 := pIn_cg hin hf8
                        have hpay1 : ∀ d, d < 3 → σ8 88 0 d ≤ ypy t9 d := fun d hd => by rw [hf8 _ _ _ (by decide)]; exact hpay d hd
                        refine W.eq (g2 := F0 m 233 ls [.int (zi ((zi (pSM t9 3 nr9 56)).toInt))]) rfl ?_
                        refine zz_istore (lv' := [(11, .int (zi ((zi (pSM t9 3 nr9 56)).toInt))), (0, Value.ref b), (1, .int (zi at9)), (2, .int (zi sw)), (3, zr ad9 0 ((0 : Nat) : Int)), (4, zr ad9 86 ((0 : Nat) : Int)), (5, zr ad9 87 ((0 : Nat) : Int)), (6, zr ad9 88 ((0 : Nat) : Int)), (8, .int (zi 1)), (9, .int (zi ((k : Nat) : Int))), (10, .int (zi z9))]) hx hb hl dL_drives_233 (by decide) rfl (fun ls hl => ?_)
                        refine zz_aload_n hx hb hl 4 dL_drives_235 rfl rfl ?_
                        refine zz_aload hx hb hl 5 dL_drives_236 rfl ?_
                        refine zz_aload hx hb hl 6 dL_drives_238 rfl ?_
                        refine zz_iload hx hb hl 10 dL_drives_240 rfl ?_
                        refine zz_iload_n hx hb hl 3 dL_drives_242 rfl rfl ?_
                        refine zl_callMD (As := [zr ad9 0 ((0 : Nat) : Int), zr ad9 86 ((0 : Nat) : Int), zr ad9 87 ((0 : Nat) : Int), .int (zi z9), .int (zi sw)]) (rest := []) ⟨hx, hb, hml, hown, hts⟩ (c_L_does l hst G ad9 A N0 σ8 t9 3 nr9 5 ((k + 6 : Nat) : Int) hC8 hW8.2.2.1 hA sl9 hvk hEk (by omega) hin1 hn hh z9 hz99 sw hsw) (va_cwS 5 hts gD_L_does rfl rfl rfl (by decide +kernel) ⟨Nat.le_of_ble_eq_true rfl, Nat.le_of_ble_eq_true rfl⟩) hK hE hAA hNC hW8 (Nat.le_trans hsz hS8.1) hS8 (fun q h => h) rfl hl.1.1 rfl (Nat.le_of_ble_eq_true rfl) dL_drives_243 ⟨show _ ≤ 87000 from by omega, show _ ≤ 525000 from by omega⟩ (fun a9 x9 u9 H9 locs9 hp9 hW9 hz9 hk9 hS9 => ?_)
                        obtain ⟨σ9, hs9⟩ : ∃ z, z = u9 := ⟨_, rfl⟩
                        rw [← hs9] at hp9 hW9
                        obtain ⟨⟨hne5, hgx5⟩, t2, nr2, sl2, hrf, ⟨hC2, hv2, hE2, hM2⟩, ⟨hnn, hn12⟩, ⟨hu0, hu1, hu2, hu3, hHm⟩, hu88, hlo⟩ := hp9
                        have hpay2 : ∀ d, d < 3 → σ9 88 0 d ≤ ypy t2 d := fun d hd => by
                          rw [hu88 d hd]
                          exact Int.le_trans (hpay1 d hd) (pPY_up hWFk hEk hC2.2.2.2.1 hE2 hd (hM2.2 d hd).1 (hM2.2 d hd).2)
                        have z0 : zr ad9 0 ((0 : Nat) : Int) = zr a9 0 ((0 : Nat) : Int) := zr_cg (fun i => (hlo 0 i (by decide)).symm)
                        have z86 : zr ad9 86 ((0 : Nat) : Int) = zr a9 86 ((0 : Nat) : Int) := zr_cg (fun i => (hlo 86 i (by decide)).symm)
                        have z87 : zr ad9 87 ((0 : Nat) : Int) = zr a9 87 ((0 : Nat) : Int) := zr_cg (fun i => (hlo 87 i (by decide)).symm)
                        have z88 : zr ad9 88 ((0 : Nat) : Int) = zr a9 88 ((0 : Nat) : Int) := zr_cg (fun i => (hlo 88 i (by decide)).symm)
                        rw [z0, z86, z87, z88] at hl
                        replace h00 : (a9 0 0).isSome = true := by rw [hlo 0 0 (by decide)]; exact h00
                        replace hn : (a9 86 0).isSome = true := by rw [hlo 86 0 (by decide)]; exact hn
                        replace hh : (a9 87 0).isSome = true := by rw [hlo 87 0 (by decide)]; exact hh
                        replace hp9 : (a9 88 0).isSome = true := by rw [hlo 88 0 (by decide)]; exact hp9
                        refine W.eq (g2 := F0 m 246 ls [.int (zi x9)]) rfl ?_
                        refine zz_istore (lv' := [(12, .int (zi x9)), (11, .int (zi ((zi (pSM t9 3 nr9 56)).toInt))), (0, Value.ref b), (1, .int (zi at9)), (2, .int (zi sw)), (3, zr a9 0 ((0 : Nat) : Int)), (4, zr a9 86 ((0 : Nat) : Int)), (5, zr a9 87 ((0 : Nat) : Int)), (6, zr a9 88 ((0 : Nat) : Int)), (8, .int (zi 1)), (9, .int (zi ((k : Nat) : Int))), (10, .int (zi z9))]) hx hb hl dL_drives_246 (by decide) rfl (fun ls hl => ?_)
                        refine zz_iload hx hb hl 0 dL_drives_248 rfl ?_
                        refine zz_bipush hx hb dL_drives_250 (by decide +kernel) ?_
                        refine zz_icmp_eq (tgt := 289) hx hb dL_drives_252 (by decide) hgx5 ⟨by decide, by decide⟩ (fun hc252 => ?_) (fun hc252 => ?_)
                        · exact absurd hc252 hne5
                        · refine zz_iload hx hb hl 0 dL_drives_255 rfl ?_
                          refine zl_callM (As := [.int (zi x9)]) (rest := []) ⟨hx, hb, hml, hown, hts⟩ (c_L_isRefused l G a9 A N0 σ9 x9 hgx5) (va_cwS 1 hts gD_L_isRefused rfl rfl rfl (by decide +kernel) ⟨Nat.le_of_ble_eq_true rfl, Nat.le_of_ble_eq_true rfl⟩) hK hE hAA hNC hW9 (Nat.le_trans hsz hS9.1) hS9 (fun q h => h) rfl hl.1.1 rfl (Nat.le_of_ble_eq_true rfl) dL_drives_257 ⟨show _ ≤ 87000 from by omega, show _ ≤ 525000 from by omega⟩ (fun x10 u10 H10 locs10 hp10 hW10 hz10 hk10 hS10 => ?_)
                          obtain ⟨rfl, rfl⟩ := hp10
                          refine W.eq (g2 := F0 m 260 ls [.int (zi (zb (pRf x9)))]) rfl ?_
                          refine zz_if_eqb (tgt := 272) hx hb dL_drives_260 (by decide) (fun hc260 => ?_) (fun hc260 => ?_)
                          · have hw0 : σ9 86 0 0 = ((nr2 : Nat) : Int) := hu0
                            have hw1 : σ9 86 0 1 = t2 30 0 1 := hu1
                            have hw2 : σ9 86 0 2 = t2 30 0 2 := hu2
                            have hw3 : σ9 86 0 3 = 1 ∨ ¬ sl2 := hu3
                            have hwH : pHm σ9 t2 nr2 := hHm
                            have hwP : ∀ d, d < 3 → σ9 88 0 d ≤ ypy t2 d := hpay2
                            refine zz_aload_n hx hb hl 5 dL_drives_272 rfl rfl ?_
                            refine zz_aload hx hb hl 6 dL_drives_273 rfl ?_
                            refine zz_aload hx hb hl 7 dL_drives_275 rfl ?_
                            refine zz_aload hx hb hl 8 dL_drives_277 rfl ?_
                            refine zl_callM (As := [zr a9 0 ((0 : Nat) : Int), zr a9 86 ((0 : Nat) : Int), zr a9 87 ((0 : Nat) : Int), zr a9 88 ((0 : Nat) : Int)]) (rest := []) ⟨hx, hb, hml, hown, hts⟩ (c_L_isLawful l hst G a9 A N0 σ9 t2 3 nr2 5 (((k + 6 : Nat) : Int) + 1) hC2 hW10.2.2.1 hA sl2 hv2 hE2 hn12 hn hh hp9 rfl hw0 hw1 hw2 hw3 hwH hwP) (va_cwS 4 hts gD_L_isLawful rfl rfl rfl (by decide +kernel) ⟨Nat.le_of_ble_eq_true rfl, Nat.le_of_ble_eq_true rfl⟩) hK hE hAA hNC hW10 (Nat.le_trans hsz hS10.1) hS10 (fun q h => h) rfl hl.1.1 rfl (Nat.le_of_ble_eq_true rfl) dL_drives_279 ⟨show _ ≤ 87000 from by omega, show _ ≤ 525000 from by omega⟩ (fun x11 u11 H11 locs11 hp11 hW11 hz11 hk11 hS11 => ?_)
                            obtain ⟨σ11, hs11⟩ : ∃ z, z = u11 := ⟨_, rfl⟩
                            rw [← hs11] at hp11 hW11
                            obtain ⟨rfl, hC7, hHe7, hpy7, h867⟩ := hp11
                            refine W.eq (g2 := F0 m 282 ls [.int (zi 1)]) rfl ?_
                            refine zz_if_eq (tgt := 289) hx hb dL_drives_282 (by decide) ⟨by decide, by decide⟩ (fun hc282 => ?_) (fun hc282 => ?_)
                            · exfalso; exact absurd hc282 (by decide)
                            · refine zz_iconst hx hb dL_drives_285 ?_
                              refine zz_goto (tgt := 290) hx hb dL_drives_286 (by decide) ?_
                              refine zz_istore (lv' := [(8, .int (zi 1)), (12, .int (zi x9)), (11, .int (zi ((zi (pSM t9 3 nr9 56)).toInt))), (0, Value.ref b), (1, .int (zi at9)), (2, .int (zi sw)), (3, zr a9 0 ((0 : Nat) : Int)), (4, zr a9 86 ((0 : Nat) : Int)), (5, zr a9 87 ((0 : Nat) : Int)), (6, zr a9 88 ((0 : Nat) : Int)), (9, .int (zi ((k : Nat) : Int))), (10, .int (zi z9))]) hx hb hl dL_drives_290 (by decide) rfl (fun ls hl => ?_)
                              refine zz_iinc (lv' := [(9, .int (zi ((k + 1 : Nat) : Int))), (8, .int (zi 1)), (12, .int (zi x9)), (11, .int (zi ((zi (pSM t9 3 nr9 56)).toInt))), (0, Value.ref b), (1, .int (zi at9)), (2, .int (zi sw)), (3, zr a9 0 ((0 : Nat) : Int)), (4, zr a9 86 ((0 : Nat) : Int)), (5, zr a9 87 ((0 : Nat) : Int)), (6, zr a9 88 ((0 : Nat) : Int)), (10, .int (zi z9))]) hx hb hl dL_drives_292 (k0 := 10) rfl (by decide) rfl (fun ls hl => ?_)
                              refine zz_goto (tgt := 164) hx hb dL_drives_295 (by decide) ?_
                              refine zw_widen (k := (91 + 1927 * (k + 1))) (n := (2339 + 11568 * (k + 1))) (show _ ≤ _ from by omega) (show _ ≤ _ from by omega) ?_
                              refine ih164 (k + 1) nr2 a9 t2 sl2 σ11 H11 locs11 ls ?_ (by omega) hW11 hS11 (zh_sub hl [4, 5, 6, 7, 8, 9, 10, 1, 0] rfl)
                              exact ⟨⟨by omega, by omega⟩, pC_cc hC7 (by omega), hv2, hE2, ⟨hn12, (h867 0).trans hw0, (h867 1).trans hw1, (h867 2).trans hw2, by rw [h867 3]; exact hw3, hHe7⟩, fun d hd => by rw [hpy7 d hd]; exact Int.le_refl _, hn, hh, hp9⟩
                          · refine zz_aload_n hx hb hl 5 dL_drives_263 rfl rfl ?_
                            refine zl_callPM (As := [zr (zr8 a9) 0 ((0 : Nat) : Int)]) (rest := []) ⟨hx, hb, hml, hown, hts⟩ (c_L_sum l hst G (zr8 a9) (zcA (zr8 a9) H10.size) H10.size σ9 t2 3 nr2 5 (((k + 6 : Nat) : Int) + 1) (pC_r8 hC2) hW10.2.2.1 ) (va_cwS 1 hts gD_L_sum rfl rfl rfl (by decide +kernel) ⟨Nat.le_of_ble_eq_true rfl, Nat.le_of_ble_eq_true rfl⟩) hK hE hAA hNC hW10 hA0 hS10 rfl hl.1.1 rfl (Nat.le_of_ble_eq_true rfl) dL_drives_264 ⟨show _ ≤ 87000 from by omega, show _ ≤ 525000 from by omega⟩ (fun x12 u12 H12 locs12 hp12 hW12 hz12 hS12 => ?_)
                            obtain ⟨σ12, hs12⟩ : ∃ z, z = zg8 σ9 u12 := ⟨_, rfl⟩
                            have hf12 : ∀ κ i k, 86 ≤ κ → σ12 κ i k = σ9 κ i k := fun κ i k h => by rw [hs12]; exact zg8_hi h
                            rw [← hs12] at hW12
                            obtain ⟨hpc12, rfl⟩ := hp12
                            have hC12 : pC a9 σ12 t2 3 nr2 5 (((k + 6 : Nat) : Int) + 1) := by rw [hs12]; exact pC_g hpc12
                            refine W.eq (g2 := F0 m 267 ls [.int (zi ((zi (pSM t2 3 nr2 56)).toInt))]) rfl ?_
                            refine zz_iload hx hb hl 1 dL_drives_267 rfl ?_
                            refine zz_icmp_ne (tgt := 289) hx hb dL_drives_269 (by decide) (zg_toInt _) (zg_toInt _) (fun hc269 => ?_) (fun hc269 => ?_)
                            · obtain ⟨e1, e2⟩ := hrf hc260
                              exact absurd (by rw [e1, e2]) hc269
                            · have hw0 : σ12 86 0 0 = ((nr2 : Nat) : Int) := by rw [hf12 _ _ _ (by decide)]; exact hu0
                              have hw1 : σ12 86 0 1 = t2 30 0 1 := by rw [hf12 _ _ _ (by decide)]; exact hu1
                              have hw2 : σ12 86 0 2 = t2 30 0 2 := by rw [hf12 _ _ _ (by decide)]; exact hu2
                              have hw3 : σ12 86 0 3 = 1 ∨ ¬ sl2 := by rw [hf12 _ _ _ (by decide)]; exact hu3
                              have hwH : pHm σ12 t2 nr2 := pHm_cg hHm hf12
                              have hwP : ∀ d, d < 3 → σ12 88 0 d ≤ ypy t2 d := fun d hd => by rw [hf12 _ _ _ (by decide)]; exact hpay2 d hd
                              refine zz_aload_n hx hb hl 5 dL_drives_272 rfl rfl ?_
                              refine zz_aload hx hb hl 6 dL_drives_273 rfl ?_
                              refine zz_aload hx hb hl 7 dL_drives_275 rfl ?_
                              refine zz_aload hx hb hl 8 dL_drives_277 rfl ?_
                              refine zl_callM (As := [zr a9 0 ((0 : Nat) : Int), zr a9 86 ((0 : Nat) : Int), zr a9 87 ((0 : Nat) : Int), zr a9 88 ((0 : Nat) : Int)]) (rest := []) ⟨hx, hb, hml, hown, hts⟩ (c_L_isLawful l hst G a9 A N0 σ12 t2 3 nr2 5 (((k + 6 : Nat) : Int) + 1) hC12 hW12.2.2.1 hA sl2 hv2 hE2 hn12 hn hh hp9 rfl hw0 hw1 hw2 hw3 hwH hwP) (va_cwS 4 hts gD_L_isLawful rfl rfl rfl (by decide +kernel) ⟨Nat.le_of_ble_eq_true rfl, Nat.le_of_ble_eq_true rfl⟩) hK hE hAA hNC hW12 (Nat.le_trans hsz hS12.1) hS12 (fun q h => h) rfl hl.1.1 rfl (Nat.le_of_ble_eq_true rfl) dL_drives_279 ⟨show _ ≤ 87000 from by omega, show _ ≤ 525000 from by omega⟩ (fun x13 u13 H13 locs13 hp13 hW13 hz13 hk13 hS13 => ?_)
                              obtain ⟨σ13, hs13⟩ : ∃ z, z = u13 := ⟨_, rfl⟩
                              rw [← hs13] at hp13 hW13
                              obtain ⟨rfl, hC7, hHe7, hpy7, h867⟩ := hp13
                              refine W.eq (g2 := F0 m 282 ls [.int (zi 1)]) rfl ?_
                              refine zz_if_eq (tgt := 289) hx hb dL_drives_282 (by decide) ⟨by decide, by decide⟩ (fun hc282 => ?_) (fun hc282 => ?_)
                              · exfalso; exact absurd hc282 (by decide)
                              · refine zz_iconst hx hb dL_drives_285 ?_
                                refine zz_goto (tgt := 290) hx hb dL_drives_286 (by decide) ?_
                                refine zz_istore (lv' := [(8, .int (zi 1)), (12, .int (zi x9)), (11, .int (zi ((zi (pSM t9 3 nr9 56)).toInt))), (0, Value.ref b), (1, .int (zi at9)), (2, .int (zi sw)), (3, zr a9 0 ((0 : Nat) : Int)), (4, zr a9 86 ((0 : Nat) : Int)), (5, zr a9 87 ((0 : Nat) : Int)), (6, zr a9 88 ((0 : Nat) : Int)), (9, .int (zi ((k : Nat) : Int))), (10, .int (zi z9))]) hx hb hl dL_drives_290 (by decide) rfl (fun ls hl => ?_)
                                refine zz_iinc (lv' := [(9, .int (zi ((k + 1 : Nat) : Int))), (8, .int (zi 1)), (12, .int (zi x9)), (11, .int (zi ((zi (pSM t9 3 nr9 56)).toInt))), (0, Value.ref b), (1, .int (zi at9)), (2, .int (zi sw)), (3, zr a9 0 ((0 : Nat) : Int)), (4, zr a9 86 ((0 : Nat) : Int)), (5, zr a9 87 ((0 : Nat) : Int)), (6, zr a9 88 ((0 : Nat) : Int)), (10, .int (zi z9))]) hx hb hl dL_drives_292 (k0 := 10) rfl (by decide) rfl (fun ls hl => ?_)
                                refine zz_goto (tgt := 164) hx hb dL_drives_295 (by decide) ?_
                                refine zw_widen (k := (91 + 1927 * (k + 1))) (n := (2339 + 11568 * (k + 1))) (show _ ≤ _ from by omega) (show _ ≤ _ from by omega) ?_
                                refine ih164 (k + 1) nr2 a9 t2 sl2 σ13 H13 locs13 ls ?_ (by omega) hW13 hS13 (zh_sub hl [4, 5, 6, 7, 8, 9, 10, 1, 0] rfl)
                                exact ⟨⟨by omega, by omega⟩, pC_cc hC7 (by omega), hv2, hE2, ⟨hn12, (h867 0).trans hw0, (h867 1).trans hw1, (h867 2).trans hw2, by rw [h867 3]; exact hw3, hHe7⟩, fun d hd => by rw [hpy7 d hd]; exact Int.le_refl _, hn, hh, hp9⟩
                      refine zz_iload hx hb hl 9 dL_drives_189 rfl ?_
                      refine zz_iconst hx hb dL_drives_191 ?_
                      refine zz_icmp_ge (tgt := 206) hx hb dL_drives_192 (by decide) ⟨by omega, by omega⟩ ⟨by decide, by decide⟩ (fun hc192 => ?_) (fun hc192 => ?_)
                      · refine zz_iload hx hb hl 9 dL_drives_206 rfl ?_
                        refine zz_iconst hx hb dL_drives_208 ?_
                        refine zz_icmp_ne (tgt := 225) hx hb dL_drives_209 (by decide) ⟨by omega, by omega⟩ ⟨by decide, by decide⟩ (fun hc209 => ?_) (fun hc209 => ?_)
                        · refine zz_iload hx hb hl 0 dL_drives_225 rfl ?_
                          refine zz_istore (lv' := [(10, .int (zi (x6 % 2000000000))), (0, Value.ref b), (1, .int (zi at9)), (2, .int (zi sw)), (3, zr ad9 0 ((0 : Nat) : Int)), (4, zr ad9 86 ((0 : Nat) : Int)), (5, zr ad9 87 ((0 : Nat) : Int)), (6, zr ad9 88 ((0 : Nat) : Int)), (8, .int (zi 1)), (9, .int (zi ((k : Nat) : Int)))]) hx hb hl dL_drives_227 (by decide) rfl (fun ls hl => ?_)
                          refine zw_widen (k := (91 + 1927 * k)) (n := (2339 + 11568 * k)) (show _ ≤ _ from by omega) (show _ ≤ _ from by omega) ?_
                          refine hcut229 (x6 % 2000000000) H6 locs6 ls ?_ hW6 hS6 (zh_sub hl [1, 2, 3, 4, 5, 6, 7, 8, 9, 0] rfl)
                          exact ⟨by omega, by omega⟩
                        · refine zz_bipush hx hb dL_drives_212 (by decide +kernel) ?_
                          refine zz_iload hx hb hl 0 dL_drives_214 rfl ?_
                          refine zz_bipush hx hb dL_drives_216 (by decide +kernel) ?_
                          refine zz_idiv hx hb dL_drives_218 ⟨by omega, by omega⟩ ⟨by decide, by decide⟩ (by omega) (by omega) ?_
                          refine zz_imul hx hb dL_drives_219 ?_
                          refine zz_iconst hx hb dL_drives_220 ?_
                          refine zz_iadd hx hb dL_drives_221 ?_
                          refine zz_goto (tgt := 227) hx hb dL_drives_222 (by decide) ?_
                          refine zz_istore (lv' := [(10, .int (zi ((20 * ((x6 % 2000000000) / 20)) + 5))), (0, Value.ref b), (1, .int (zi at9)), (2, .int (zi sw)), (3, zr ad9 0 ((0 : Nat) : Int)), (4, zr ad9 86 ((0 : Nat) : Int)), (5, zr ad9 87 ((0 : Nat) : Int)), (6, zr ad9 88 ((0 : Nat) : Int)), (8, .int (zi 1)), (9, .int (zi ((k : Nat) : Int)))]) hx hb hl dL_drives_227 (by decide) rfl (fun ls hl => ?_)
                          refine zw_widen (k := (91 + 1927 * k)) (n := (2339 + 11568 * k)) (show _ ≤ _ from by omega) (show _ ≤ _ from by omega) ?_
                          refine hcut229 ((20 * ((x6 % 2000000000) / 20)) + 5) H6 locs6 ls ?_ hW6 hS6 (zh_sub hl [1, 2, 3, 4, 5, 6, 7, 8, 9, 0] rfl)
                          exact ⟨by omega, by omega⟩
                      · refine zz_bipush hx hb dL_drives_195 (by decide +kernel) ?_
                        refine zz_iload hx hb hl 0 dL_drives_197 rfl ?_
                        refine zz_bipush hx hb dL_drives_199 (by decide +kernel) ?_
                        refine zz_idiv hx hb dL_drives_201 ⟨by omega, by omega⟩ ⟨by decide, by decide⟩ (by omega) (by omega) ?_
                        refine zz_imul hx hb dL_drives_202 ?_
                        refine zz_goto (tgt := 227) hx hb dL_drives_203 (by decide) ?_
                        refine zz_istore (lv' := [(10, .int (zi (20 * ((x6 % 2000000000) / 20)))), (0, Value.ref b), (1, .int (zi at9)), (2, .int (zi sw)), (3, zr ad9 0 ((0 : Nat) : Int)), (4, zr ad9 86 ((0 : Nat) : Int)), (5, zr ad9 87 ((0 : Nat) : Int)), (6, zr ad9 88 ((0 : Nat) : Int)), (8, .int (zi 1)), (9, .int (zi ((k : Nat) : Int)))]) hx hb hl dL_drives_227 (by decide) rfl (fun ls hl => ?_)
                        refine zw_widen (k := (91 + 1927 * k)) (n := (2339 + 11568 * k)) (show _ ≤ _ from by omega) (show _ ≤ _ from by omega) ?_
                        refine hcut229 (20 * ((x6 % 2000000000) / 20)) H6 locs6 ls ?_ hW6 hS6 (zh_sub hl [1, 2, 3, 4, 5, 6, 7, 8, 9, 0] rfl)
                        exact ⟨by omega, by omega⟩
              refine zw_widen (k := (91 + 1927 * 2)) (n := (2339 + 11568 * 2)) (show _ ≤ _ from by omega) (show _ ≤ _ from by omega) ?_
              refine hcut164 _ 2 0 ad9 t9 False σ4 H4 locs4 ls ?_ (Nat.lt_succ_self _) hW4 hS4 (zh_sub hl [1, 2, 3, 4, 5, 6, 7, 8, 0] rfl)
              have e3 : k = 3 := by omega
              have hC3 : pC ad9 σ4 t9 3 0 5 ((2 + 6 : Nat) : Int) := by
                have h9 := hCk
                rw [e3] at h9
                exact h9
              have hv3 : pV t9 False 3 0 := by rw [← e3]; exact hvk
              have hE3 : pE t9 3 0 := by rw [← e3]; exact hEk
              refine ⟨⟨by decide, by decide⟩, hC3, hv3, hE3, ⟨by decide, (hz9 86 0 (by decide) (by decide)).trans (if_neg (by decide)), ((hz9 86 1 (by decide) (by decide)).trans (if_neg (by decide))).trans ht1.symm, ((hz9 86 2 (by decide) (by decide)).trans (if_pos ⟨rfl, rfl⟩)).trans ht2.symm, Or.inr (fun h => h), fun q hq => absurd hq (Nat.not_lt_zero q)⟩, fun d hd => ?_, hn, hh, hp9⟩
              obtain ⟨y1, y2, y3, y4, y5⟩ := pPY hC3.2.2.2.1 hE3 hd
              rw [hz9 88 d (by decide) (by decide), if_neg (by omega), y1]
              omega
            · refine zz_iload hx hb hl 7 dL_drives_119 rfl ?_
              refine zz_if_eq (tgt := 161) hx hb dL_drives_121 (by decide) ⟨by decide, by decide⟩ (fun hc121 => ?_) (fun hc121 => ?_)
              · exfalso; exact absurd hc121 (by decide)
              · refine zz_aload_n hx hb hl 3 dL_drives_124 rfl rfl ?_
                refine lv_aload_n hx hb dL_drives_125 rfl (zh_at hl 0 rfl) ?_
                refine zz_iload_n hx hb hl 1 dL_drives_126 rfl rfl ?_
                refine zz_iconst hx hb dL_drives_127 ?_
                refine zz_iadd hx hb dL_drives_128 ?_
                refine zl_drawn (b := b) (L := L) (xs := xs) (k := (at9 + 1)) (rest := [zr ad9 0 ((0 : Nat) : Int)]) hL ⟨by omega, by omega⟩ ⟨hx, hb, hml, hown, hts⟩ (va_cwS 2 hts gD_L_drawn rfl rfl rfl (by decide +kernel) ⟨Nat.le_of_ble_eq_true rfl, Nat.le_of_ble_eq_true rfl⟩) hXs hbl hbA hS4 hl.1.1 (by simp only [List.map, zr_cat, zcat_i]; decide) dL_drives_129 ⟨show _ ≤ 87000 from by omega, show _ ≤ 525000 from by omega⟩ (fun x14 H14 locs14 hx0 hgx hz14 hk14 hS14 => ?_)
                have hW14 := hW4.heap hk14
                refine W.eq (g2 := F0 m 132 ls [.int (zi x14), zr ad9 0 ((0 : Nat) : Int)]) rfl ?_
                refine zz_iload hx hb hl 8 dL_drives_132 rfl ?_
                refine zz_iconst hx hb dL_drives_134 ?_
                refine zz_iadd hx hb dL_drives_135 ?_
                refine zz_idiv hx hb dL_drives_136 hgx ⟨by omega, by omega⟩ hx0 (by omega) ?_
                have hq0 : 0 ≤ x14 / (((k : Nat) : Int) + 1) := Int.ediv_nonneg hx0 (by omega)
                have hq1 : x14 / (((k : Nat) : Int) + 1) ≤ x14 := Int.ediv_le_self _ hx0
                have hgx9 := hgx.2
                generalize x14 / (((k : Nat) : Int) + 1) = q9 at hq0 hq1 ⊢
                refine zz_bipush hx hb dL_drives_137 (by decide +kernel) ?_
                refine zz_irem hx hb dL_drives_139 ⟨by omega, by omega⟩ ⟨by decide, by decide⟩ (by omega) (by omega) ?_
                refine zl_callPD (As := [zr (zr8 ad9) 0 ((0 : Nat) : Int), .int (zi (q9 % 6))]) (rest := []) ⟨hx, hb, hml, hown, hts⟩ (cl_driver l hst G (zr8 ad9) (zcA (zr8 ad9) H14.size) H14.size σ4 t9 k 0 5 ((5 + k : Nat) : Int) (pC_r8 hCk) hW14.2.2.1 False hvk hEk (fun q h => Or.inr h) (by omega) (q9 % 6) ⟨by omega, by omega⟩ (by omega)) (vx_cwSW 2 hts gD_L_driver rfl rfl rfl (by decide +kernel) ⟨Nat.le_of_ble_eq_true rfl, Nat.le_of_ble_eq_true rfl⟩) hK hE hAA hNC hW14 hA0 hS14 rfl hl.1.1 rfl (Nat.le_of_ble_eq_true rfl) dL_drives_140 ⟨show _ ≤ 87000 from by omega, show _ ≤ 525000 from by omega⟩ (fun a15 x15 u15 H15 locs15 hp15 hW15 hz15 hS15 => ?_)
                obtain ⟨σ15, hs15⟩ : ∃ z, z = zg8 σ4 u15 := ⟨_, rfl⟩
                have hf15 : ∀ κ i k, 86 ≤ κ → σ15 κ i k = σ4 κ i k := fun κ i k h => by rw [hs15]; exact zg8_hi h
                obtain ⟨t2, hC2, hv2, hE2, rfl, h12, h22, hfr15⟩ := hp15
                obtain ⟨ad8, had8⟩ : ∃ z, z = za8 ad9 a15 := ⟨_, rfl⟩
                rw [← hs15, ← had8] at hW15
                have hlo : ∀ κ i, ¬ (17 ≤ κ ∧ κ ≤ 23) → ad8 κ i = ad9 κ i := fun κ i h => by
                  rw [had8]
                  by_cases h8 : κ < 86
                  · rw [za8_lo h8, hfr15 κ i h, zr8_lo h8]
                  · rw [za8_hi (by omega)]
                replace hC2 : pC ad8 σ15 t2 (k + 1) 0 5 (((5 + k : Nat) : Int) + 1) := by rw [hs15, had8]; exact pC_g8 hC2
                have z0 : zr ad9 0 ((0 : Nat) : Int) = zr ad8 0 ((0 : Nat) : Int) := zr_cg (fun i => (hlo 0 i (by decide)).symm)
                have z86 : zr ad9 86 ((0 : Nat) : Int) = zr ad8 86 ((0 : Nat) : Int) := zr_cg (fun i => (hlo 86 i (by decide)).symm)
                have z87 : zr ad9 87 ((0 : Nat) : Int) = zr ad8 87 ((0 : Nat) : Int) := zr_cg (fun i => (hlo 87 i (by decide)).symm)
                have z88 : zr ad9 88 ((0 : Nat) : Int) = zr ad8 88 ((0 : Nat) : Int) := zr_cg (fun i => (hlo 88 i (by decide)).symm)
                rw [z0, z86, z87, z88] at hl
                replace h00 : (ad8 0 0).isSome = true := by rw [hlo 0 0 (by decide)]; exact h00
                replace hn : (ad8 86 0).isSome = true := by rw [hlo 86 0 (by decide)]; exact hn
                replace hh : (ad8 87 0).isSome = true := by rw [hlo 87 0 (by decide)]; exact hh
                replace hp9 : (ad8 88 0).isSome = true := by rw [hlo 88 0 (by decide)]; exact hp9
                refine W.eq (g2 := F0 m 143 ls [.int (zi ((k : Nat) : Int))]) rfl ?_
                refine zz_iload hx hb hl 8 dL_drives_143 rfl ?_
                refine zz_icmp_ne (tgt := 152) hx hb dL_drives_145 (by decide) ⟨by omega, by omega⟩ ⟨by omega, by omega⟩ (fun hc145 => ?_) (fun hc145 => ?_)
                · exact absurd rfl hc145
                · refine zz_iconst hx hb dL_drives_148 ?_
                  refine zz_goto (tgt := 153) hx hb dL_drives_149 (by decide) ?_
                  refine zz_istore (lv' := [(8, .int (zi 1)), (0, Value.ref b), (1, .int (zi at9)), (2, .int (zi sw)), (3, zr ad8 0 ((0 : Nat) : Int)), (4, zr ad8 86 ((0 : Nat) : Int)), (5, zr ad8 87 ((0 : Nat) : Int)), (6, zr ad8 88 ((0 : Nat) : Int)), (9, .int (zi ((k : Nat) : Int)))]) hx hb hl dL_drives_153 (by decide) rfl (fun ls hl => ?_)
                  refine zz_iinc (lv' := [(9, .int (zi ((k + 1 : Nat) : Int))), (8, .int (zi 1)), (0, Value.ref b), (1, .int (zi at9)), (2, .int (zi sw)), (3, zr ad8 0 ((0 : Nat) : Int)), (4, zr ad8 86 ((0 : Nat) : Int)), (5, zr ad8 87 ((0 : Nat) : Int)), (6, zr ad8 88 ((0 : Nat) : Int))]) hx hb hl dL_drives_155 (k0 := 8) rfl (by decide) rfl (fun ls hl => ?_)
                  refine zz_goto (tgt := 113) hx hb dL_drives_158 (by decide) ?_
                  refine zw_widen (k := (67 + 8 * (k + 1))) (n := (2150 + 63 * (k + 1))) (show _ ≤ _ from by omega) (show _ ≤ _ from by omega) ?_
                  refine ih113 (k + 1) ad8 t2 σ15 H15 locs15 ls ?_ (by omega) hW15 hS15 (zh_sub hl [2, 3, 4, 5, 6, 7, 8, 1, 0] rfl)
                  exact ⟨by omega, pC_cc hC2 (by omega), hv2, hE2, ⟨h12.trans ht1, h22.trans ht2⟩, fun κ j h1 h2 => by rw [hf15 _ _ _ h1]; exact hz9 κ j h1 h2, hn, hh, hp9⟩
        refine zw_widen (k := (67 + 8 * 0)) (n := (2150 + 63 * 0)) (show _ ≤ _ from by omega) (show _ ≤ _ from by omega) ?_
        refine hcut113 _ 0 ad t9 σ3 H3 locs3 ls ?_ (Nat.lt_succ_self _) hW3 hS3 (zh_sub hl [1, 2, 3, 4, 5, 6, 7, 9, 0] rfl)
        have hC5 : pC ad σ3 t9 0 0 5 ((5 : Nat) : Int) := by
          have e : k = 5 := by omega
          rw [← e]
          exact hCk
        exact ⟨by decide, hC5, pV_00, pE_00, ⟨ht1, ht2⟩, hz9, hn, hh, hp9⟩
      · refine zz_iload hx hb hl 8 dL_drives_53 rfl ?_
        refine zz_if_eq (tgt := 110) hx hb dL_drives_55 (by decide) ⟨by decide, by decide⟩ (fun hc55 => ?_) (fun hc55 => ?_)
        · exfalso; exact absurd hc55 (by decide)
        · refine zz_aload_n hx hb hl 3 dL_drives_58 rfl rfl ?_
          refine zz_iload hx hb hl 9 dL_drives_59 rfl ?_
          refine zz_iload hx hb hl 9 dL_drives_61 rfl ?_
          refine zz_iconst hx hb dL_drives_63 ?_
          refine zz_iadd hx hb dL_drives_64 ?_
          refine zz_iload hx hb hl 7 dL_drives_65 rfl ?_
          refine zz_iconst hx hb dL_drives_67 ?_
          refine zz_irem hx hb dL_drives_68 ⟨by omega, by omega⟩ ⟨by decide, by decide⟩ (by omega) (by omega) ?_
          refine zz_iadd hx hb dL_drives_69 ?_
          refine zz_bipush hx hb dL_drives_70 (by decide +kernel) ?_
          refine zz_irem hx hb dL_drives_72 ⟨by omega, by omega⟩ ⟨by decide, by decide⟩ (by omega) (by omega) ?_
          refine zz_iconst hx hb dL_drives_73 ?_
          refine zz_iload hx hb hl 7 dL_drives_74 rfl ?_
          refine zz_iconst hx hb dL_drives_76 ?_
          refine zz_idiv hx hb dL_drives_77 ⟨by omega, by omega⟩ ⟨by decide, by decide⟩ (by omega) (by omega) ?_
          refine zz_bipush hx hb dL_drives_78 (by decide +kernel) ?_
          refine zz_irem hx hb dL_drives_80 ⟨by omega, by omega⟩ ⟨by decide, by decide⟩ (by omega) (by omega) ?_
          refine zz_iadd hx hb dL_drives_81 ?_
          refine zl_callP (As := [zr (zr8 ad) 0 ((0 : Nat) : Int), .int (zi ((k : Nat) : Int)), .int (zi ((((k + 1 : Nat) : Int) + (y9 % 2)) % 6)), .int (zi (1 + ((y9 / 2) % 9)))]) (rest := []) ⟨hx, hb, hml, hown, hts⟩ (cl_street l hst G (zr8 ad) (zcA (zr8 ad) H3.size) H3.size σ3 t9 0 0 k ((k : Nat) : Int) (pC_r8 hCk) hW3.2.2.1 (by omega) ((k : Nat) : Int) ((((k + 1 : Nat) : Int) + (y9 % 2)) % 6) (1 + ((y9 / 2) % 9)) ⟨by omega, by omega⟩ ⟨by omega, by omega⟩ (by omega) ⟨by omega, by omega⟩ rfl rfl (by omega)) (vx_cwSW 4 hts gD_L_street rfl rfl rfl (by decide +kernel) ⟨Nat.le_of_ble_eq_true rfl, Nat.le_of_ble_eq_true rfl⟩) hK hE hAA hNC hW3 hA0 hS3 rfl hl.1.1 rfl (Nat.le_of_ble_eq_true rfl) dL_drives_82 ⟨show _ ≤ 87000 from by omega, show _ ≤ 525000 from by omega⟩ (fun x16 u16 H16 locs16 hp16 hW16 hz16 hS16 => ?_)
          obtain ⟨σ16, hs16⟩ : ∃ z, z = zg8 σ3 u16 := ⟨_, rfl⟩
          have hf16 : ∀ κ i k, 86 ≤ κ → σ16 κ i k = σ3 κ i k := fun κ i k h => by rw [hs16]; exact zg8_hi h
          rw [← hs16] at hW16
          obtain ⟨rfl, t2, hC2, h12, h22⟩ := hp16
          replace hC2 : pC ad σ16 t2 0 0 (k + 1) (((k : Nat) : Int) + 1) := by rw [hs16]; exact pC_g hC2
          refine W.eq (g2 := F0 m 85 ls [.int (zi ((k : Nat) : Int))]) rfl ?_
          refine zz_iload hx hb hl 9 dL_drives_85 rfl ?_
          refine zz_icmp_ne (tgt := 94) hx hb dL_drives_87 (by decide) ⟨by omega, by omega⟩ ⟨by omega, by omega⟩ (fun hc87 => ?_) (fun hc87 => ?_)
          · exact absurd rfl hc87
          · refine zz_iconst hx hb dL_drives_90 ?_
            refine zz_goto (tgt := 95) hx hb dL_drives_91 (by decide) ?_
            refine zz_istore (lv' := [(8, .int (zi 1)), (0, Value.ref b), (1, .int (zi at9)), (2, .int (zi sw)), (3, zr ad 0 ((0 : Nat) : Int)), (4, zr ad 86 ((0 : Nat) : Int)), (5, zr ad 87 ((0 : Nat) : Int)), (6, zr ad 88 ((0 : Nat) : Int)), (7, .int (zi y9)), (9, .int (zi ((k : Nat) : Int)))]) hx hb hl dL_drives_95 (by decide) rfl (fun ls hl => ?_)
            refine zz_iload hx hb hl 8 dL_drives_97 rfl ?_
            refine zz_bipush hx hb dL_drives_99 (by decide +kernel) ?_
            refine zz_idiv hx hb dL_drives_101 ⟨by omega, by omega⟩ ⟨by decide, by decide⟩ (by omega) (by omega) ?_
            refine zz_istore (lv' := [(7, .int (zi (y9 / 18))), (8, .int (zi 1)), (0, Value.ref b), (1, .int (zi at9)), (2, .int (zi sw)), (3, zr ad 0 ((0 : Nat) : Int)), (4, zr ad 86 ((0 : Nat) : Int)), (5, zr ad 87 ((0 : Nat) : Int)), (6, zr ad 88 ((0 : Nat) : Int)), (9, .int (zi ((k : Nat) : Int)))]) hx hb hl dL_drives_102 (by decide) rfl (fun ls hl => ?_)
            refine zz_iinc (lv' := [(9, .int (zi ((k + 1 : Nat) : Int))), (7, .int (zi (y9 / 18))), (8, .int (zi 1)), (0, Value.ref b), (1, .int (zi at9)), (2, .int (zi sw)), (3, zr ad 0 ((0 : Nat) : Int)), (4, zr ad 86 ((0 : Nat) : Int)), (5, zr ad 87 ((0 : Nat) : Int)), (6, zr ad 88 ((0 : Nat) : Int))]) hx hb hl dL_drives_104 (k0 := 9) rfl (by decide) rfl (fun ls hl => ?_)
            refine zz_goto (tgt := 47) hx hb dL_drives_107 (by decide) ?_
            refine zw_widen (k := (42 + 5 * (k + 1))) (n := (2000 + 30 * (k + 1))) (show _ ≤ _ from by omega) (show _ ≤ _ from by omega) ?_
            refine ih47 (k + 1) (y9 / 18) t2 σ16 H16 locs16 ls ?_ (by omega) hW16 hS16 (zh_sub hl [3, 4, 5, 6, 7, 8, 9, 1, 2, 0] rfl)
            exact ⟨by omega, ⟨by omega, by omega⟩, pC_cc hC2 (by omega), ⟨h12.trans ht1, h22.trans ht2⟩, fun κ j h1 h2 => by rw [hf16 _ _ _ h1]; exact hz9 κ j h1 h2⟩
  refine zw_widen (k := (42 + 5 * 0)) (n := (2000 + 30 * 0)) (show _ ≤ _ from by omega) (show _ ≤ _ from by omega) ?_
  refine hcut47 _ 0 (x2 % 2000000000) t σ1 H2 locs2 ls ?_ (Nat.lt_succ_self _) hW2 hS2 (zh_sub hl [9, 8, 7, 6, 5, 4, 3, 2, 1, 0] rfl)
  refine ⟨by decide, ⟨by omega, by omega⟩, pC_hi hC (fun κ i k h => by rw [hs1]; exact zu_k (by omega)), ht9, fun κ j h1 h2 => ?_⟩
  by_cases e : κ = 86 ∧ j = 2
  · rw [if_pos e, hs1, e.1, e.2, zu_same]
  · rw [if_neg e, hs1, zu_ne (by omega)]; exact hz0 κ j h1 h2
