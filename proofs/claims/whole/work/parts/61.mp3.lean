section ZTD
variable {p : Program} {l : Launch} {e : Env} {R : Room} {s : State} {m : MethodId} {args : Array Value} {below : List Frame} {meth : Method} {c : Code} {H : Heap} {locs : List Loc} {cells slots : Nat} {Q : State → Prop}
variable {cc : ByteArray} {pc : Nat} {ls : Array Slot} {rest : List Value}
def ydv (x y : Int) : Int := (zi x / zi y).toInt
theorem zz_idivT (hx : p.tables.exec = Jvm.exec) (hb : c.code = cc) {x y : Int} (hdg : decode cc pc = .ok (.idiv, 1)) (gy : zg y) (h0 : y ≠ 0)
    (k : W p l e R s m args below meth c H locs cells slots Q (F0 m (pc + 1) ls (.int (zi (ydv x y)) :: rest))) : W p l e R s m args below meth c H locs cells slots Q (F0 m pc ls (.int (zi y) :: .int (zi x) :: rest)) := lv_idiv hx hb hdg (fun h => h0 ((zi_eq0 gy).1 h)) (by rw [show zi x / zi y = zi (ydv x y) from zi_of _]; exact k)
end ZTD

def ypy (σ : zS) (d : Nat) : Int := max (ydv (σ 62 0 d * 75) 100) (σ 60 0 d * 30)

set_option maxHeartbeats 4000000 in
set_option maxRecDepth 100000 in
theorem c_X7_pay (l : Launch) (G : zG) (ad : zA) (A : Nat → Prop) (N0 : Nat) (σ : zS) (hM : zMm ad) (a : Int) (ga : zg a) (hn : 0 ≤ σ 30 0 8 ∧ σ 30 0 8 ≤ 8) (hcn : ∀ d : Nat, (d : Int) < σ 30 0 8 → 0 ≤ σ 60 0 d ∧ σ 60 0 d ≤ 20000) : Met l yX7_pay wsX7_pay ({ frames := 2, cells := 0, slots := 0, locals := 43 }) (zP G ad A N0 σ [zr ad 30 ((0 : Nat) : Int), .int (zi a)]) (zQ G ad A zri (fun r u => (¬ (0 ≤ a ∧ a ≤ σ 30 0 8 - 1) ∧ 0 = r ∧ u = zu σ 30 0 0 1) ∨ ((0 ≤ a ∧ a ≤ σ 30 0 8 - 1) ∧ ypy σ a.toNat = r ∧ u = zu σ 30 0 0 0))) 0 0 A := by
  refine zz_of (cc := cX7_pay) (maxL := 4) (ret := (some .int)) (by decide) rfl ⟨rfl, rfl⟩ (List.forall_mem_cons.mpr ⟨zr_cat _ _ _, List.forall_mem_cons.mpr ⟨rfl, fun _ h => absurd h List.not_mem_nil⟩⟩) (Nat.le_of_ble_eq_true rfl) ?_
  intro p e s m below meth c hx hb hr hml hts hown hlocks hsz hW0 hK ls hl
  have hS0 : va_S A s.heap s.heap [] := va_S.rf
  have hl : zh ls 4 [(0, zr ad 30 ((0 : Nat) : Int)), (1, .int (zi a))] := hl
  have hinX7 : ∀ w ∈ u_ws RX7 TX7 42, w ∈ wsX7_pay := by decide +kernel
  refine zz_aload_n hx hb hl 0 dX7_pay_0 rfl rfl ?_
  refine zz_aload_n hx hb hl 0 dX7_pay_1 rfl rfl ?_
  refine zz_iload_n hx hb hl 1 dX7_pay_2 rfl rfl ?_
  refine zz_callV (T := TX7) (N := 42) (As := [.int (zi a)]) (rest := [zr ad 30 ((0 : Nat) : Int)]) (v := ((0 : Nat) : Int)) (κ := 30) ⟨hx, hb, hml, hown, hts⟩ (c_X7_isDriver l G ad A N0 σ hM a ga hn) (cwV 1 hts gX7_pay_X7_isDriver rfl rfl rfl (by decide +kernel) ⟨Nat.le_of_ble_eq_true rfl, Nat.le_of_ble_eq_true rfl⟩) hK hW0 (zlN (hM 30 rfl)) rfl rfl (Nat.le_trans hsz hS0.1) hS0 rfl hl.1.1 rfl (by simp [zr_cat, zcat_i]) dX7_pay_3 ⟨Nat.le_of_ble_eq_true rfl, Nat.le_of_ble_eq_true rfl⟩ (fun x1 σ1 H1 locs1 hp1 hW1 hz1 hS1 => ?_)
  obtain ⟨rfl, rfl⟩ := hp1
  refine W.eq (g2 := F0 m 6 ls [.int (zi (zb (0 ≤ a ∧ a ≤ σ 30 0 8 - 1))), zr ad 30 ((0 : Nat) : Int)]) rfl ?_
  refine zz_if_eqb (tgt := 13) hx hb dX7_pay_6 (by decide) (fun hc6 => ?_) (fun hc6 => ?_)
  · refine zz_iconst hx hb dX7_pay_13 ?_
    refine zz_callV (T := TX7) (N := 42) (As := [.int (zi 1)]) (rest := []) (v := ((0 : Nat) : Int)) (κ := 30) ⟨hx, hb, hml, hown, hts⟩ (c_X7_refused l G ad A N0 σ hM (1) ⟨by decide, by decide⟩) (cwV 1 hts gX7_pay_X7_refused rfl rfl rfl (by decide +kernel) ⟨Nat.le_of_ble_eq_true rfl, Nat.le_of_ble_eq_true rfl⟩) hK hW1 (zlN (hM 30 rfl)) rfl rfl (Nat.le_trans hsz hS1.1) hS1 rfl hl.1.1 rfl (Nat.le_of_ble_eq_true rfl) dX7_pay_14 ⟨Nat.le_of_ble_eq_true rfl, Nat.le_of_ble_eq_true rfl⟩ (fun x2 σ2 H2 locs2 hp2 hW2 hz2 hS2 => ?_)
    have hs2 : σ2 = zu σ 30 0 0 (1) := hp2.1.symm
    obtain rfl := hp2.2
    refine W.eq (g2 := F0 m 17 ls [.int (zi (zb ((1 : Int) ≠ 0)))]) rfl ?_
    refine zz_if_eqb (tgt := 22) hx hb dX7_pay_17 (by decide) (fun hc17 => ?_) (fun hc17 => ?_)
    · exact absurd (by decide) hc17
    · refine zz_iconst hx hb dX7_pay_20 ?_
      refine W.eq (g2 := F0 m 21 ls [.int (zi 0)]) rfl ?_
      refine zz_reti hx hb hr hlocks hW2 hS2 ?_ dX7_pay_21
      exact Or.inl ⟨hc6, rfl, by rw [hs2]⟩
  · refine zz_iconst hx hb dX7_pay_9 ?_
    refine zz_goto (tgt := 14) hx hb dX7_pay_10 (by decide) ?_
    refine zz_callV (T := TX7) (N := 42) (As := [.int (zi 0)]) (rest := []) (v := ((0 : Nat) : Int)) (κ := 30) ⟨hx, hb, hml, hown, hts⟩ (c_X7_refused l G ad A N0 σ hM (0) ⟨by decide, by decide⟩) (cwV 1 hts gX7_pay_X7_refused rfl rfl rfl (by decide +kernel) ⟨Nat.le_of_ble_eq_true rfl, Nat.le_of_ble_eq_true rfl⟩) hK hW1 (zlN (hM 30 rfl)) rfl rfl (Nat.le_trans hsz hS1.1) hS1 rfl hl.1.1 rfl (Nat.le_of_ble_eq_true rfl) dX7_pay_14 ⟨Nat.le_of_ble_eq_true rfl, Nat.le_of_ble_eq_true rfl⟩ (fun x3 σ3 H3 locs3 hp3 hW3 hz3 hS3 => ?_)
    have hs3 : σ3 = zu σ 30 0 0 (0) := hp3.1.symm
    obtain rfl := hp3.2
    refine W.eq (g2 := F0 m 17 ls [.int (zi (zb ((0 : Int) ≠ 0)))]) rfl ?_
    refine zz_if_eqb (tgt := 22) hx hb dX7_pay_17 (by decide) (fun hc17 => ?_) (fun hc17 => ?_)
    · have ea : (a : Int) = ((a.toNat : Nat) : Int) := by omega
      have hl : zh ls 4 [(0, zr ad 30 ((0 : Nat) : Int)), (1, .int (zi ((a.toNat : Nat) : Int)))] := by
        rw [← ea]
        exact hl
      have hcn9 := hcn a.toNat (by omega)
      refine zz_aload_n hx hb hl 0 dX7_pay_22 rfl rfl ?_
      refine zz_get (T := TX7) (N := 42) (k := 22) (κ := 30) (w := zr ad 62 ((0 : Nat) : Int)) hx hb hts hinX7 hown hK hW3 (zlN (hM 30 rfl)) rfl rfl rfl (by decide) (hts (.fieldLink RX7 63 "HailCityModel" "earned" "[I") (by decide +kernel)) (fun _ h9 => h9) rfl dX7_pay_23 ?_
      refine zz_iload_n hx hb hl 1 dX7_pay_26 rfl rfl ?_
      refine zz_iald (w := σ 62 0 a.toNat) hx hb hK hW3 (zlN (hM 62 rfl)) rfl rfl rfl (by show (0 : Int) ≤ ((a.toNat : Nat) : Int); omega) (by show ((a.toNat : Nat) : Int) < (8 : Int); omega) (show σ3 62 0 a.toNat = σ 62 0 a.toNat from by rw [hs3, zu_k (by decide)]) dX7_pay_27 ?_
      refine zz_bipush hx hb dX7_pay_28 (by decide +kernel) ?_
      refine zz_imul hx hb dX7_pay_30 ?_
      refine zz_bipush hx hb dX7_pay_31 (by decide +kernel) ?_
      refine zz_idivT hx hb dX7_pay_33 ⟨by decide, by decide⟩ (by decide) ?_
      refine zz_istore_n (lv' := [(2, .int (zi (ydv ((σ 62 0 a.toNat) * 75) 100))), (0, zr ad 30 ((0 : Nat) : Int)), (1, .int (zi ((a.toNat : Nat) : Int)))]) hx hb hl dX7_pay_34 rfl (by decide) rfl (fun ls hl => ?_)
      refine zz_aload_n hx hb hl 1 dX7_pay_35 rfl rfl ?_
      refine zz_get (T := TX7) (N := 42) (k := 20) (κ := 30) (w := zr ad 60 ((0 : Nat) : Int)) hx hb hts hinX7 hown hK hW3 (zlN (hM 30 rfl)) rfl rfl rfl (by decide) (hts (.fieldLink RX7 57 "HailCityModel" "counted" "[I") (by decide +kernel)) (fun _ h9 => h9) rfl dX7_pay_36 ?_
      refine zz_iload_n hx hb hl 2 dX7_pay_39 rfl rfl ?_
      refine zz_iald (w := σ 60 0 a.toNat) hx hb hK hW3 (zlN (hM 60 rfl)) rfl rfl rfl (by show (0 : Int) ≤ ((a.toNat : Nat) : Int); omega) (by show ((a.toNat : Nat) : Int) < (8 : Int); omega) (show σ3 60 0 a.toNat = σ 60 0 a.toNat from by rw [hs3, zu_k (by decide)]) dX7_pay_40 ?_
      refine zz_bipush hx hb dX7_pay_41 (by decide +kernel) ?_
      refine zz_imul hx hb dX7_pay_43 ?_
      refine zz_istore_n (lv' := [(3, .int (zi ((σ 60 0 a.toNat) * 30))), (2, .int (zi (ydv ((σ 62 0 a.toNat) * 75) 100))), (0, zr ad 30 ((0 : Nat) : Int)), (1, .int (zi ((a.toNat : Nat) : Int)))]) hx hb hl dX7_pay_44 rfl (by decide) rfl (fun ls hl => ?_)
      refine zz_iload_n hx hb hl 1 dX7_pay_45 rfl rfl ?_
      refine zz_iload_n hx hb hl 0 dX7_pay_46 rfl rfl ?_
      refine zz_icmp_le (tgt := 54) hx hb dX7_pay_47 (by decide) (zg_toInt _) ⟨by omega, by omega⟩ (fun hc47 => ?_) (fun hc47 => ?_)
      · refine zz_iload_n hx hb hl 0 dX7_pay_54 rfl rfl ?_
        refine W.eq (g2 := F0 m 55 ls [.int (zi ((σ 60 0 a.toNat) * 30))]) rfl ?_
        refine zz_reti hx hb hr hlocks hW3 hS3 ?_ dX7_pay_55
        refine Or.inr ⟨hc6, ?_, by rw [hs3]⟩
        unfold ypy
        omega
      · refine zz_iload_n hx hb hl 1 dX7_pay_50 rfl rfl ?_
        refine zz_goto (tgt := 55) hx hb dX7_pay_51 (by decide) ?_
        refine W.eq (g2 := F0 m 55 ls [.int (zi (ydv ((σ 62 0 a.toNat) * 75) 100))]) rfl ?_
        refine zz_reti hx hb hr hlocks hW3 hS3 ?_ dX7_pay_55
        refine Or.inr ⟨hc6, ?_, by rw [hs3]⟩
        unfold ypy
        omega
    · exact absurd rfl hc17

set_option maxHeartbeats 4000000 in
set_option maxRecDepth 100000 in
theorem c_X7_pass (l : Launch) (G : zG) (ad : zA) (A : Nat → Prop) (N0 : Nat) (σ : zS) (hM : zMm ad) (nd nr ns : Nat) (c9 B9 : Int) (hWF : yWF σ nd nr ns c9 B9) (hB9 : B9 ≤ 1000000) (a : Int) (ga : zg a) : Met l yX7_pass wsX7_pass ({ frames := 4, cells := 0, slots := 0, locals := 85 }) (zP G ad A N0 σ [zr ad 30 ((0 : Nat) : Int), .int (zi a)]) (zQ G ad A zri (fun r u => (¬ (1 ≤ a ∧ a ≤ 120) ∧ 0 = r ∧ u = zu σ 30 0 0 1) ∨ ((1 ≤ a ∧ a ≤ 120) ∧ ¬ (σ 30 0 1 + a ≤ 20000) ∧ 0 = r ∧ u = zu σ 30 0 0 2) ∨ ((1 ≤ a ∧ a ≤ 120) ∧ σ 30 0 1 + a ≤ 20000 ∧ u 30 0 1 = r ∧ u = yPN nd nr a.toNat (zu σ 30 0 0 0)))) 0 0 A := by
  refine zz_of (cc := cX7_pass) (maxL := 3) (ret := (some .int)) (by decide) rfl ⟨rfl, rfl⟩ (List.forall_mem_cons.mpr ⟨zr_cat _ _ _, List.forall_mem_cons.mpr ⟨rfl, fun _ h => absurd h List.not_mem_nil⟩⟩) (Nat.le_of_ble_eq_true rfl) ?_
  intro p e s m below meth c hx hb hr hml hts hown hlocks hsz hW0 hK ls hl
  have hS0 : va_S A s.heap s.heap [] := va_S.rf
  have hl : zh ls 3 [(0, zr ad 30 ((0 : Nat) : Int)), (1, .int (zi a))] := hl
  have hinX7 : ∀ w ∈ u_ws RX7 TX7 42, w ∈ wsX7_pass := by decide +kernel
  have h8 := hWF.1.2.1.1
  have h23 := hWF.1.2.1.2.1
  have hnd := hWF.1.1.1
  have hnr := hWF.1.1.2.1
  have hnow := hWF.1.2.2.1
  have hord := hWF.1.2.2.2.2.1
  refine zz_aload_n hx hb hl 0 dX7_pass_0 rfl rfl ?_
  refine zz_iload_n hx hb hl 1 dX7_pass_1 rfl rfl ?_
  refine zz_iconst hx hb dX7_pass_2 ?_
  refine zz_bipush hx hb dX7_pass_3 (by decide +kernel) ?_
  refine zz_callS (As := [.int (zi a), .int (zi 1), .int (zi 120)]) (rest := [zr ad 30 ((0 : Nat) : Int)]) ⟨hx, hb, hml, hown, hts⟩ (c_X7_in l G ad A N0 σ a 1 120 ga ⟨by decide, by decide⟩ ⟨by decide, by decide⟩) (va_cwS 3 hts gX7_pass_X7_in rfl rfl rfl (by decide +kernel) ⟨Nat.le_of_ble_eq_true rfl, Nat.le_of_ble_eq_true rfl⟩) hK hW0 (Nat.le_trans hsz hS0.1) hS0 rfl hl.1.1 rfl (by simp [zr_cat, zcat_i]) dX7_pass_5 ⟨Nat.le_of_ble_eq_true rfl, Nat.le_of_ble_eq_true rfl⟩ (fun x1 σ1 H1 locs1 hp1 hW1 hz1 hS1 => ?_)
  obtain ⟨rfl, rfl⟩ := hp1
  refine W.eq (g2 := F0 m 8 ls [.int (zi (zb (1 ≤ a ∧ a ≤ 120))), zr ad 30 ((0 : Nat) : Int)]) rfl ?_
  refine zz_if_neb (tgt := 15) hx hb dX7_pass_8 (by decide) (fun hc8 => ?_) (fun hc8 => ?_)
  · refine zz_aload_n hx hb hl 0 dX7_pass_15 rfl rfl ?_
    refine zz_get (T := TX7) (N := 42) (k := 1) (κ := 30) (w := .int (zi (σ 30 0 1))) hx hb hts hinX7 hown hK hW1 (zlN (hM 30 rfl)) rfl rfl rfl (by decide) (hts (.fieldLink RX7 161 "HailCityModel" "now" "I") (by decide +kernel)) (fun _ h9 => h9) rfl dX7_pass_16 ?_
    refine zz_iload_n hx hb hl 1 dX7_pass_19 rfl rfl ?_
    refine zz_iadd hx hb dX7_pass_20 ?_
    refine zz_sipush hx hb dX7_pass_21 (by decide +kernel) ?_
    refine zz_icmp_le (tgt := 31) hx hb dX7_pass_24 (by decide) ⟨by omega, by omega⟩ ⟨by decide, by decide⟩ (fun hc24 => ?_) (fun hc24 => ?_)
    · refine zz_iconst hx hb dX7_pass_31 ?_
      refine zz_callV (T := TX7) (N := 42) (As := [.int (zi 0)]) (rest := []) (v := ((0 : Nat) : Int)) (κ := 30) ⟨hx, hb, hml, hown, hts⟩ (c_X7_refused l G ad A N0 σ hM (0) ⟨by decide, by decide⟩) (cwV 1 hts gX7_pass_X7_refused rfl rfl rfl (by decide +kernel) ⟨Nat.le_of_ble_eq_true rfl, Nat.le_of_ble_eq_true rfl⟩) hK hW1 (zlN (hM 30 rfl)) rfl rfl (Nat.le_trans hsz hS1.1) hS1 rfl hl.1.1 rfl (Nat.le_of_ble_eq_true rfl) dX7_pass_32 ⟨Nat.le_of_ble_eq_true rfl, Nat.le_of_ble_eq_true rfl⟩ (fun x2 σ2 H2 locs2 hp2 hW2 hz2 hS2 => ?_)
      have hs2 : σ2 = zu σ 30 0 0 (0) := hp2.1.symm
      obtain rfl := hp2.2
      refine W.eq (g2 := F0 m 35 ls [.int (zi (zb ((0 : Int) ≠ 0)))]) rfl ?_
      refine zz_if_eqb (tgt := 40) hx hb dX7_pass_35 (by decide) (fun hc35 => ?_) (fun hc35 => ?_)
      · refine zz_iconst hx hb dX7_pass_40 ?_
        refine zz_istore_n (lv' := [(2, .int (zi 0)), (0, zr ad 30 ((0 : Nat) : Int)), (1, .int (zi a))]) hx hb hl dX7_pass_41 rfl (by decide) rfl (fun ls hl => ?_)
        have hcut42 : ∀ (n9 : Nat) (i : Nat)  (σ9 : zS) (H9 : Heap) (locs9 : List Loc) (ls : Array Slot), ((i : Int) ≤ a ∧ σ9 = yPN nd nr i (zu σ 30 0 0 0)) → (a.toNat - i) < n9 → ZW G ad A σ9 H9 → va_S A s.heap H9 locs9 → zh ls 3 [(0, zr ad 30 ((0 : Nat) : Int)), (1, .int (zi a)), (2, .int (zi ((i : Nat) : Int)))] → W p l e ({ frames := 4, cells := 0, slots := 0, locals := 85 }) s m ([zr ad 30 ((0 : Nat) : Int), .int (zi a)] : List Value).toArray below meth c H9 locs9 0 0 (MQ below (zQ G ad A zri (fun r u => (¬ (1 ≤ a ∧ a ≤ 120) ∧ 0 = r ∧ u = zu σ 30 0 0 1) ∨ ((1 ≤ a ∧ a ≤ 120) ∧ ¬ (σ 30 0 1 + a ≤ 20000) ∧ 0 = r ∧ u = zu σ 30 0 0 2) ∨ ((1 ≤ a ∧ a ≤ 120) ∧ σ 30 0 1 + a ≤ 20000 ∧ u 30 0 1 = r ∧ u = yPN nd nr a.toNat (zu σ 30 0 0 0)))) ([zr ad 30 ((0 : Nat) : Int), .int (zi a)] : List Value).toArray s 0 0 A) (F0 m 42 ls []) := by
          intro n9
          induction n9 with
          | zero =>
            intro i σ3 H3 locs3 ls hI42 hm42 hW3 hS3 hl
            exact absurd hm42 (Nat.not_lt_zero _)
          | succ n9 ih42 =>
            intro i σ3 H3 locs3 ls hI42 hm42 hW3 hS3 hl
            obtain ⟨hi1, hi2⟩ := hI42
            have hw := yWF_PN (yWF_z (x := 0) hWF) i (by rw [zu_ne (by omega)]; omega)
            rw [← hi2, zu_ne (κ' := 30) (k' := 1) (by omega)] at hw
            refine zz_iload_n hx hb hl 2 dX7_pass_42 rfl rfl ?_
            refine zz_iload_n hx hb hl 1 dX7_pass_43 rfl rfl ?_
            refine zz_icmp_ge (tgt := 57) hx hb dX7_pass_44 (by decide) ⟨by omega, by omega⟩ ga (fun hc44 => ?_) (fun hc44 => ?_)
            · refine zz_aload_n hx hb hl 0 dX7_pass_57 rfl rfl ?_
              refine zz_get (T := TX7) (N := 42) (k := 1) (κ := 30) (w := .int (zi (σ3 30 0 1))) hx hb hts hinX7 hown hK hW3 (zlN (hM 30 rfl)) rfl rfl rfl (by decide) (hts (.fieldLink RX7 161 "HailCityModel" "now" "I") (by decide +kernel)) (fun _ h9 => h9) rfl dX7_pass_58 ?_
              refine W.eq (g2 := F0 m 61 ls [.int (zi (σ3 30 0 1))]) rfl ?_
              refine zz_reti hx hb hr hlocks hW3 hS3 ?_ dX7_pass_61
              exact Or.inr (Or.inr ⟨hc8, by omega, rfl, by rw [hi2, show i = a.toNat by omega]⟩)
            · refine zz_aload_n hx hb hl 0 dX7_pass_47 rfl rfl ?_
              refine zz_callV (T := TX7) (N := 42) (As := []) (rest := []) (v := ((0 : Nat) : Int)) (κ := 30) ⟨hx, hb, hml, hown, hts⟩ (c_X7_passes l G ad A N0 σ3 hM nd nr hnd hnr hw.1.1.2.1.1 hw.1.1.2.1.2.1 (fun d hd => ⟨_, yWF_mok hw.1 hd⟩) (by have := hw.1.1.2.2.1; omega) (fun d hd => by have h9 := (hw.1.2.1 d hd).2.2.2.2.2.2.1; have := hw.1.1.2.2.1; omega) (by have := hw.1.1.2.2.2.2.1; omega)) (cwV 0 hts gX7_pass_X7_passes rfl rfl rfl (by decide +kernel) ⟨Nat.le_of_ble_eq_true rfl, Nat.le_of_ble_eq_true rfl⟩) hK hW3 (zlN (hM 30 rfl)) rfl rfl (Nat.le_trans hsz hS3.1) hS3 rfl hl.1.1 rfl (Nat.le_of_ble_eq_true rfl) dX7_pass_48 ⟨Nat.le_of_ble_eq_true rfl, Nat.le_of_ble_eq_true rfl⟩ (fun x4 σ4 H4 locs4 hp4 hW4 hz4 hS4 => ?_)
              refine W.eq (g2 := F0 m 51 ls []) rfl ?_
              refine zz_iinc (lv' := [(2, .int (zi ((i + 1 : Nat) : Int))), (0, zr ad 30 ((0 : Nat) : Int)), (1, .int (zi a))]) hx hb hl dX7_pass_51 (k0 := 2) rfl (by decide) rfl (fun ls hl => ?_)
              refine zz_goto (tgt := 42) hx hb dX7_pass_54 (by decide) ?_
              refine ih42 (i + 1) σ4 H4 locs4 ls ?_ (by omega) hW4 hS4 (zh_sub hl [1, 2, 0] rfl)
              exact ⟨by omega, by rw [← hp4, hi2]; rfl⟩
        refine hcut42 _ 0 σ2 H2 locs2 ls ?_ (Nat.lt_succ_self _) hW2 hS2 (zh_sub hl [1, 2, 0] rfl)
        exact ⟨by omega, by rw [hs2]; rfl⟩
      · exact absurd rfl hc35
    · refine zz_iconst hx hb dX7_pass_27 ?_
      refine zz_goto (tgt := 32) hx hb dX7_pass_28 (by decide) ?_
      refine zz_callV (T := TX7) (N := 42) (As := [.int (zi 2)]) (rest := []) (v := ((0 : Nat) : Int)) (κ := 30) ⟨hx, hb, hml, hown, hts⟩ (c_X7_refused l G ad A N0 σ hM (2) ⟨by decide, by decide⟩) (cwV 1 hts gX7_pass_X7_refused rfl rfl rfl (by decide +kernel) ⟨Nat.le_of_ble_eq_true rfl, Nat.le_of_ble_eq_true rfl⟩) hK hW1 (zlN (hM 30 rfl)) rfl rfl (Nat.le_trans hsz hS1.1) hS1 rfl hl.1.1 rfl (Nat.le_of_ble_eq_true rfl) dX7_pass_32 ⟨Nat.le_of_ble_eq_true rfl, Nat.le_of_ble_eq_true rfl⟩ (fun x5 σ5 H5 locs5 hp5 hW5 hz5 hS5 => ?_)
      have hs5 : σ5 = zu σ 30 0 0 (2) := hp5.1.symm
      obtain rfl := hp5.2
      refine W.eq (g2 := F0 m 35 ls [.int (zi (zb ((2 : Int) ≠ 0)))]) rfl ?_
      refine zz_if_eqb (tgt := 40) hx hb dX7_pass_35 (by decide) (fun hc35 => ?_) (fun hc35 => ?_)
      · exact absurd (by decide) hc35
      · refine zz_iconst hx hb dX7_pass_38 ?_
        refine W.eq (g2 := F0 m 39 ls [.int (zi 0)]) rfl ?_
        refine zz_reti hx hb hr hlocks hW5 hS5 ?_ dX7_pass_39
        exact Or.inr (Or.inl ⟨hc8, by omega, rfl, by rw [hs5]⟩)
  · refine zz_iconst hx hb dX7_pass_11 ?_
    refine zz_goto (tgt := 32) hx hb dX7_pass_12 (by decide) ?_
    refine zz_callV (T := TX7) (N := 42) (As := [.int (zi 1)]) (rest := []) (v := ((0 : Nat) : Int)) (κ := 30) ⟨hx, hb, hml, hown, hts⟩ (c_X7_refused l G ad A N0 σ hM (1) ⟨by decide, by decide⟩) (cwV 1 hts gX7_pass_X7_refused rfl rfl rfl (by decide +kernel) ⟨Nat.le_of_ble_eq_true rfl, Nat.le_of_ble_eq_true rfl⟩) hK hW1 (zlN (hM 30 rfl)) rfl rfl (Nat.le_trans hsz hS1.1) hS1 rfl hl.1.1 rfl (Nat.le_of_ble_eq_true rfl) dX7_pass_32 ⟨Nat.le_of_ble_eq_true rfl, Nat.le_of_ble_eq_true rfl⟩ (fun x6 σ6 H6 locs6 hp6 hW6 hz6 hS6 => ?_)
    have hs6 : σ6 = zu σ 30 0 0 (1) := hp6.1.symm
    obtain rfl := hp6.2
    refine W.eq (g2 := F0 m 35 ls [.int (zi (zb ((1 : Int) ≠ 0)))]) rfl ?_
    refine zz_if_eqb (tgt := 40) hx hb dX7_pass_35 (by decide) (fun hc35 => ?_) (fun hc35 => ?_)
    · exact absurd (by decide) hc35
    · refine zz_iconst hx hb dX7_pass_38 ?_
      refine W.eq (g2 := F0 m 39 ls [.int (zi 0)]) rfl ?_
      refine zz_reti hx hb hr hlocks hW6 hS6 ?_ dX7_pass_39
      exact Or.inl ⟨hc8, rfl, by rw [hs6]⟩

noncomputable def yht (σ : zS) (nd nr : Nat) (z : Int) : Int := min (max (100 + yhs (ym1 σ z) nr - yhs (ym2 σ z) nd) 100) (σ 30 0 2)
noncomputable def yrp (σ : zS) (nd nr : Nat) (a b : Nat) : Int := (300 + 40 * σ 47 0 (10 * a + b)) * yht σ nd nr ((a : Int) / 3) / 100
/-- a request is told -/
noncomputable def yrq (σ : zS) (nd nr : Nat) (a b : Nat) (t x : Int) : zS := zu (zu (zu (zu (zu (zu (zu (zu (zu (zu σ 30 0 0 0) 69 0 nr (yrp (zu σ 30 0 0 0) nd nr a b)) 65 0 nr (a : Int)) 66 0 nr (b : Int)) 67 0 nr (σ 30 0 1 + t)) 68 0 nr x) 70 0 nr (-1)) 71 0 nr (-1)) 72 0 nr (-1)) 30 0 23 ((nr : Int) + 1)
theorem yht_rg {σ : zS} {nd nr : Nat} {z : Int} (h : 100 ≤ σ 30 0 2 ∧ σ 30 0 2 ≤ 300) : 100 ≤ yht σ nd nr z ∧ yht σ nd nr z ≤ 300 := by
  unfold yht
  omega
theorem yprice_rg {w H : Int} (hw : 0 ≤ w ∧ w ≤ 20480) (hH : 100 ≤ H ∧ H ≤ 300) : 0 ≤ (300 + 40 * w) * H ∧ (300 + 40 * w) * H ≤ 300000000 := by
  have h1 : (300 + 40 * w) * H ≤ 819500 * H := Int.mul_le_mul_of_nonneg_right (by omega) (by omega)
  exact ⟨Int.mul_nonneg (by omega) (by omega), by omega⟩

set_option maxHeartbeats 4000000 in
set_option maxRecDepth 100000 in
theorem c_X7_request (l : Launch) (G : zG) (ad : zA) (A : Nat → Prop) (N0 : Nat) (σ : zS) (hM : zMm ad) (nd nr ns : Nat) (c9 B9 : Int) (hWF : yWF σ nd nr ns c9 B9) (hB9 : B9 ≤ 1000000) (a b t x : Int) (ga : zg a) (gb : zg b) (gt : zg t) (hx01 : x = 0 ∨ x = 1) : Met l yX7_request wsX7_request ({ frames := 2, cells := 0, slots := 0, locals := 44 }) (zP G ad A N0 σ [zr ad 30 ((0 : Nat) : Int), .int (zi a), .int (zi b), .int (zi t), .int (zi x)]) (zQ G ad A zri (fun r u => (¬ ((0 ≤ a ∧ a ≤ 9) ∧ (0 ≤ b ∧ b ≤ 9)) ∧ 0 = r ∧ u = zu σ 30 0 0 1) ∨ (((0 ≤ a ∧ a ≤ 9) ∧ (0 ≤ b ∧ b ≤ 9)) ∧ ¬ (a ≠ b ∧ (1 ≤ t ∧ t ≤ 60)) ∧ 0 = r ∧ u = zu σ 30 0 0 2) ∨ (((0 ≤ a ∧ a ≤ 9) ∧ (0 ≤ b ∧ b ≤ 9)) ∧ (a ≠ b ∧ (1 ≤ t ∧ t ≤ 60)) ∧ (nr = 60 ∨ 100000 ≤ σ 47 0 (10 * a.toNat + b.toNat)) ∧ 0 = r ∧ u = zu σ 30 0 0 3) ∨ (((0 ≤ a ∧ a ≤ 9) ∧ (0 ≤ b ∧ b ≤ 9)) ∧ (a ≠ b ∧ (1 ≤ t ∧ t ≤ 60)) ∧ (nr < 60 ∧ σ 47 0 (10 * a.toNat + b.toNat) < 100000) ∧ (nr : Int) = r ∧ u = yrq σ nd nr a.toNat b.toNat t x))) 0 0 A := by
  refine zz_of (cc := cX7_request) (maxL := 7) (ret := (some .int)) (by decide) rfl ⟨rfl, rfl⟩ (List.forall_mem_cons.mpr ⟨zr_cat _ _ _, List.forall_mem_cons.mpr ⟨rfl, List.forall_mem_cons.mpr ⟨rfl, List.forall_mem_cons.mpr ⟨rfl, List.forall_mem_cons.mpr ⟨rfl, fun _ h => absurd h List.not_mem_nil⟩⟩⟩⟩⟩) (Nat.le_of_ble_eq_true rfl) ?_
  intro p e s m below meth c hx hb hr hml hts hown hlocks hsz hW0 hK ls hl
  have hS0 : va_S A s.heap s.heap [] := va_S.rf
  have hl : zh ls 7 [(0, zr ad 30 ((0 : Nat) : Int)), (1, .int (zi a)), (2, .int (zi b)), (3, .int (zi t)), (4, .int (zi x))] := hl
  have hinX7 : ∀ w ∈ u_ws RX7 TX7 42, w ∈ wsX7_request := by decide +kernel
  have h8 := hWF.1.2.1.1
  have h23 := hWF.1.2.1.2.1
  have hnd := hWF.1.1.1
  have hnr := hWF.1.1.2.1
  have hnow := hWF.1.2.2.1
  have hord := hWF.1.2.2.2.2.1
  refine zz_iload_n hx hb hl 1 dX7_request_0 rfl rfl ?_
  refine zz_callS (As := [.int (zi a)]) (rest := []) ⟨hx, hb, hml, hown, hts⟩ (c_X7_isPlace l G ad A N0 σ a ga) (va_cwS 1 hts gX7_request_X7_isPlace rfl rfl rfl (by decide +kernel) ⟨Nat.le_of_ble_eq_true rfl, Nat.le_of_ble_eq_true rfl⟩) hK hW0 (Nat.le_trans hsz hS0.1) hS0 rfl hl.1.1 rfl (Nat.le_of_ble_eq_true rfl) dX7_request_1 ⟨Nat.le_of_ble_eq_true rfl, Nat.le_of_ble_eq_true rfl⟩ (fun x1 σ1 H1 locs1 hp1 hW1 hz1 hS1 => ?_)
  obtain ⟨rfl, rfl⟩ := hp1
  refine W.eq (g2 := F0 m 4 ls [.int (zi (zb (0 ≤ a ∧ a ≤ 9)))]) rfl ?_
  refine zz_if_eqb (tgt := 18) hx hb dX7_request_4 (by decide) (fun hc4 => ?_) (fun hc4 => ?_)
  · refine zz_iconst hx hb dX7_request_18 ?_
    refine zz_istore (lv' := [(5, .int (zi 0)), (0, zr ad 30 ((0 : Nat) : Int)), (1, .int (zi a)), (2, .int (zi b)), (3, .int (zi t)), (4, .int (zi x))]) hx hb hl dX7_request_19 (by decide) rfl (fun ls hl => ?_)
    refine zz_iload_n hx hb hl 2 dX7_request_21 rfl rfl ?_
    refine zz_iload_n hx hb hl 3 dX7_request_22 rfl rfl ?_
    refine zz_icmp_eq (tgt := 40) hx hb dX7_request_23 (by decide) ga gb (fun hc23 => ?_) (fun hc23 => ?_)
    · refine zz_iconst hx hb dX7_request_40 ?_
      refine zz_istore (lv' := [(6, .int (zi 0)), (5, .int (zi 0)), (0, zr ad 30 ((0 : Nat) : Int)), (1, .int (zi a)), (2, .int (zi b)), (3, .int (zi t)), (4, .int (zi x))]) hx hb hl dX7_request_41 (by decide) rfl (fun ls hl => ?_)
      refine zz_aload_n hx hb hl 2 dX7_request_43 rfl rfl ?_
      refine zz_iload hx hb hl 1 dX7_request_44 rfl ?_
      refine zz_if_ne (tgt := 53) hx hb dX7_request_46 (by decide) ⟨by decide, by decide⟩ (fun hc46 => ?_) (fun hc46 => ?_)
      · exact absurd rfl hc46
      · refine zz_iconst hx hb dX7_request_49 ?_
        refine zz_goto (tgt := 87) hx hb dX7_request_50 (by decide) ?_
        refine zz_callV (T := TX7) (N := 42) (As := [.int (zi 1)]) (rest := []) (v := ((0 : Nat) : Int)) (κ := 30) ⟨hx, hb, hml, hown, hts⟩ (c_X7_refused l G ad A N0 σ hM (1) ⟨by decide, by decide⟩) (cwV 1 hts gX7_request_X7_refused rfl rfl rfl (by decide +kernel) ⟨Nat.le_of_ble_eq_true rfl, Nat.le_of_ble_eq_true rfl⟩) hK hW1 (zlN (hM 30 rfl)) rfl rfl (Nat.le_trans hsz hS1.1) hS1 rfl hl.1.1 rfl (Nat.le_of_ble_eq_true rfl) dX7_request_87 ⟨Nat.le_of_ble_eq_true rfl, Nat.le_of_ble_eq_true rfl⟩ (fun x2 σ2 H2 locs2 hp2 hW2 hz2 hS2 => ?_)
        have hs2 : σ2 = zu σ 30 0 0 (1) := hp2.1.symm
        obtain rfl := hp2.2
        refine W.eq (g2 := F0 m 90 ls [.int (zi (zb ((1 : Int) ≠ 0)))]) rfl ?_
        refine zz_if_eqb (tgt := 95) hx hb dX7_request_90 (by decide) (fun hc90 => ?_) (fun hc90 => ?_)
        · exact absurd (by decide) hc90
        · refine zz_iconst hx hb dX7_request_93 ?_
          refine W.eq (g2 := F0 m 94 ls [.int (zi 0)]) rfl ?_
          refine zz_reti hx hb hr hlocks hW2 hS2 ?_ dX7_request_94
          exact Or.inl ⟨(fun q9 => by first | exact hc4 q9.1 | exact hc11 q9.2), rfl, by rw [hs2]⟩
    · refine zz_iload_n hx hb hl 4 dX7_request_26 rfl rfl ?_
      refine zz_iconst hx hb dX7_request_27 ?_
      refine zz_bipush hx hb dX7_request_28 (by decide +kernel) ?_
      refine zz_callS (As := [.int (zi t), .int (zi 1), .int (zi 60)]) (rest := []) ⟨hx, hb, hml, hown, hts⟩ (c_X7_in l G ad A N0 σ t 1 60 gt ⟨by decide, by decide⟩ ⟨by decide, by decide⟩) (va_cwS 3 hts gX7_request_X7_in rfl rfl rfl (by decide +kernel) ⟨Nat.le_of_ble_eq_true rfl, Nat.le_of_ble_eq_true rfl⟩) hK hW1 (Nat.le_trans hsz hS1.1) hS1 rfl hl.1.1 rfl (Nat.le_of_ble_eq_true rfl) dX7_request_30 ⟨Nat.le_of_ble_eq_true rfl, Nat.le_of_ble_eq_true rfl⟩ (fun x3 σ3 H3 locs3 hp3 hW3 hz3 hS3 => ?_)
      obtain ⟨rfl, rfl⟩ := hp3
      refine W.eq (g2 := F0 m 33 ls [.int (zi (zb (1 ≤ t ∧ t ≤ 60)))]) rfl ?_
      refine zz_if_eqb (tgt := 40) hx hb dX7_request_33 (by decide) (fun hc33 => ?_) (fun hc33 => ?_)
      · refine zz_iconst hx hb dX7_request_40 ?_
        refine zz_istore (lv' := [(6, .int (zi 0)), (5, .int (zi 0)), (0, zr ad 30 ((0 : Nat) : Int)), (1, .int (zi a)), (2, .int (zi b)), (3, .int (zi t)), (4, .int (zi x))]) hx hb hl dX7_request_41 (by decide) rfl (fun ls hl => ?_)
        refine zz_aload_n hx hb hl 2 dX7_request_43 rfl rfl ?_
        refine zz_iload hx hb hl 1 dX7_request_44 rfl ?_
        refine zz_if_ne (tgt := 53) hx hb dX7_request_46 (by decide) ⟨by decide, by decide⟩ (fun hc46 => ?_) (fun hc46 => ?_)
        · exact absurd rfl hc46
        · refine zz_iconst hx hb dX7_request_49 ?_
          refine zz_goto (tgt := 87) hx hb dX7_request_50 (by decide) ?_
          refine zz_callV (T := TX7) (N := 42) (As := [.int (zi 1)]) (rest := []) (v := ((0 : Nat) : Int)) (κ := 30) ⟨hx, hb, hml, hown, hts⟩ (c_X7_refused l G ad A N0 σ hM (1) ⟨by decide, by decide⟩) (cwV 1 hts gX7_request_X7_refused rfl rfl rfl (by decide +kernel) ⟨Nat.le_of_ble_eq_true rfl, Nat.le_of_ble_eq_true rfl⟩) hK hW3 (zlN (hM 30 rfl)) rfl rfl (Nat.le_trans hsz hS3.1) hS3 rfl hl.1.1 rfl (Nat.le_of_ble_eq_true rfl) dX7_request_87 ⟨Nat.le_of_ble_eq_true rfl, Nat.le_of_ble_eq_true rfl⟩ (fun x4 σ4 H4 locs4 hp4 hW4 hz4 hS4 => ?_)
          have hs4 : σ4 = zu σ 30 0 0 (1) := hp4.1.symm
          obtain rfl := hp4.2
          refine W.eq (g2 := F0 m 90 ls [.int (zi (zb ((1 : Int) ≠ 0)))]) rfl ?_
          refine zz_if_eqb (tgt := 95) hx hb dX7_request_90 (by decide) (fun hc90 => ?_) (fun hc90 => ?_)
          · exact absurd (by decide) hc90
          · refine zz_iconst hx hb dX7_request_93 ?_
            refine W.eq (g2 := F0 m 94 ls [.int (zi 0)]) rfl ?_
            refine zz_reti hx hb hr hlocks hW4 hS4 ?_ dX7_request_94
            exact Or.inl ⟨(fun q9 => by first | exact hc4 q9.1 | exact hc11 q9.2), rfl, by rw [hs4]⟩
      · refine zz_iconst hx hb dX7_request_36 ?_
        refine zz_goto (tgt := 41) hx hb dX7_request_37 (by decide) ?_
        refine zz_istore (lv' := [(6, .int (zi 1)), (5, .int (zi 0)), (0, zr ad 30 ((0 : Nat) : Int)), (1, .int (zi a)), (2, .int (zi b)), (3, .int (zi t)), (4, .int (zi x))]) hx hb hl dX7_request_41 (by decide) rfl (fun ls hl => ?_)
        refine zz_aload_n hx hb hl 2 dX7_request_43 rfl rfl ?_
        refine zz_iload hx hb hl 1 dX7_request_44 rfl ?_
        refine zz_if_ne (tgt := 53) hx hb dX7_request_46 (by decide) ⟨by decide, by decide⟩ (fun hc46 => ?_) (fun hc46 => ?_)
        · exact absurd rfl hc46
        · refine zz_iconst hx hb dX7_request_49 ?_
          refine zz_goto (tgt := 87) hx hb dX7_request_50 (by decide) ?_
          refine zz_callV (T := TX7) (N := 42) (As := [.int (zi 1)]) (rest := []) (v := ((0 : Nat) : Int)) (κ := 30) ⟨hx, hb, hml, hown, hts⟩ (c_X7_refused l G ad A N0 σ hM (1) ⟨by decide, by decide⟩) (cwV 1 hts gX7_request_X7_refused rfl rfl rfl (by decide +kernel) ⟨Nat.le_of_ble_eq_true rfl, Nat.le_of_ble_eq_true rfl⟩) hK hW3 (zlN (hM 30 rfl)) rfl rfl (Nat.le_trans hsz hS3.1) hS3 rfl hl.1.1 rfl (Nat.le_of_ble_eq_true rfl) dX7_request_87 ⟨Nat.le_of_ble_eq_true rfl, Nat.le_of_ble_eq_true rfl⟩ (fun x5 σ5 H5 locs5 hp5 hW5 hz5 hS5 => ?_)
          have hs5 : σ5 = zu σ 30 0 0 (1) := hp5.1.symm
          obtain rfl := hp5.2
          refine W.eq (g2 := F0 m 90 ls [.int (zi (zb ((1 : Int) ≠ 0)))]) rfl ?_
          refine zz_if_eqb (tgt := 95) hx hb dX7_request_90 (by decide) (fun hc90 => ?_) (fun hc90 => ?_)
          · exact absurd (by decide) hc90
          · refine zz_iconst hx hb dX7_request_93 ?_
            refine W.eq (g2 := F0 m 94 ls [.int (zi 0)]) rfl ?_
            refine zz_reti hx hb hr hlocks hW5 hS5 ?_ dX7_request_94
            exact Or.inl ⟨(fun q9 => by first | exact hc4 q9.1 | exact hc11 q9.2), rfl, by rw [hs5]⟩
  · refine zz_iload_n hx hb hl 2 dX7_request_7 rfl rfl ?_
    refine zz_callS (As := [.int (zi b)]) (rest := []) ⟨hx, hb, hml, hown, hts⟩ (c_X7_isPlace l G ad A N0 σ b gb) (va_cwS 1 hts gX7_request_X7_isPlace rfl rfl rfl (by decide +kernel) ⟨Nat.le_of_ble_eq_true rfl, Nat.le_of_ble_eq_true rfl⟩) hK hW1 (Nat.le_trans hsz hS1.1) hS1 rfl hl.1.1 rfl (Nat.le_of_ble_eq_true rfl) dX7_request_8 ⟨Nat.le_of_ble_eq_true rfl, Nat.le_of_ble_eq_true rfl⟩ (fun x6 σ6 H6 locs6 hp6 hW6 hz6 hS6 => ?_)
    obtain ⟨rfl, rfl⟩ := hp6
    refine W.eq (g2 := F0 m 11 ls [.int (zi (zb (0 ≤ b ∧ b ≤ 9)))]) rfl ?_
    refine zz_if_eqb (tgt := 18) hx hb dX7_request_11 (by decide) (fun hc11 => ?_) (fun hc11 => ?_)
    · refine zz_iconst hx hb dX7_request_18 ?_
      refine zz_istore (lv' := [(5, .int (zi 0)), (0, zr ad 30 ((0 : Nat) : Int)), (1, .int (zi a)), (2, .int (zi b)), (3, .int (zi t)), (4, .int (zi x))]) hx hb hl dX7_request_19 (by decide) rfl (fun ls hl => ?_)
      refine zz_iload_n hx hb hl 2 dX7_request_21 rfl rfl ?_
      refine zz_iload_n hx hb hl 3 dX7_request_22 rfl rfl ?_
      refine zz_icmp_eq (tgt := 40) hx hb dX7_request_23 (by decide) ga gb (fun hc23 => ?_) (fun hc23 => ?_)
      · refine zz_iconst hx hb dX7_request_40 ?_
        refine zz_istore (lv' := [(6, .int (zi 0)), (5, .int (zi 0)), (0, zr ad 30 ((0 : Nat) : Int)), (1, .int (zi a)), (2, .int (zi b)), (3, .int (zi t)), (4, .int (zi x))]) hx hb hl dX7_request_41 (by decide) rfl (fun ls hl => ?_)
        refine zz_aload_n hx hb hl 2 dX7_request_43 rfl rfl ?_
        refine zz_iload hx hb hl 1 dX7_request_44 rfl ?_
        refine zz_if_ne (tgt := 53) hx hb dX7_request_46 (by decide) ⟨by decide, by decide⟩ (fun hc46 => ?_) (fun hc46 => ?_)
        · exact absurd rfl hc46
        · refine zz_iconst hx hb dX7_request_49 ?_
          refine zz_goto (tgt := 87) hx hb dX7_request_50 (by decide) ?_
          refine zz_callV (T := TX7) (N := 42) (As := [.int (zi 1)]) (rest := []) (v := ((0 : Nat) : Int)) (κ := 30) ⟨hx, hb, hml, hown, hts⟩ (c_X7_refused l G ad A N0 σ hM (1) ⟨by decide, by decide⟩) (cwV 1 hts gX7_request_X7_refused rfl rfl rfl (by decide +kernel) ⟨Nat.le_of_ble_eq_true rfl, Nat.le_of_ble_eq_true rfl⟩) hK hW6 (zlN (hM 30 rfl)) rfl rfl (Nat.le_trans hsz hS6.1) hS6 rfl hl.1.1 rfl (Nat.le_of_ble_eq_true rfl) dX7_request_87 ⟨Nat.le_of_ble_eq_true rfl, Nat.le_of_ble_eq_true rfl⟩ (fun x7 σ7 H7 locs7 hp7 hW7 hz7 hS7 => ?_)
          have hs7 : σ7 = zu σ 30 0 0 (1) := hp7.1.symm
          obtain rfl := hp7.2
          refine W.eq (g2 := F0 m 90 ls [.int (zi (zb ((1 : Int) ≠ 0)))]) rfl ?_
          refine zz_if_eqb (tgt := 95) hx hb dX7_request_90 (by decide) (fun hc90 => ?_) (fun hc90 => ?_)
          · exact absurd (by decide) hc90
          · refine zz_iconst hx hb dX7_request_93 ?_
            refine W.eq (g2 := F0 m 94 ls [.int (zi 0)]) rfl ?_
            refine zz_reti hx hb hr hlocks hW7 hS7 ?_ dX7_request_94
            exact Or.inl ⟨(fun q9 => by first | exact hc4 q9.1 | exact hc11 q9.2), rfl, by rw [hs7]⟩
      · refine zz_iload_n hx hb hl 4 dX7_request_26 rfl rfl ?_
        refine zz_iconst hx hb dX7_request_27 ?_
        refine zz_bipush hx hb dX7_request_28 (by decide +kernel) ?_
        refine zz_callS (As := [.int (zi t), .int (zi 1), .int (zi 60)]) (rest := []) ⟨hx, hb, hml, hown, hts⟩ (c_X7_in l G ad A N0 σ t 1 60 gt ⟨by decide, by decide⟩ ⟨by decide, by decide⟩) (va_cwS 3 hts gX7_request_X7_in rfl rfl rfl (by decide +kernel) ⟨Nat.le_of_ble_eq_true rfl, Nat.le_of_ble_eq_true rfl⟩) hK hW6 (Nat.le_trans hsz hS6.1) hS6 rfl hl.1.1 rfl (Nat.le_of_ble_eq_true rfl) dX7_request_30 ⟨Nat.le_of_ble_eq_true rfl, Nat.le_of_ble_eq_true rfl⟩ (fun x8 σ8 H8 locs8 hp8 hW8 hz8 hS8 => ?_)
        obtain ⟨rfl, rfl⟩ := hp8
        refine W.eq (g2 := F0 m 33 ls [.int (zi (zb (1 ≤ t ∧ t ≤ 60)))]) rfl ?_
        refine zz_if_eqb (tgt := 40) hx hb dX7_request_33 (by decide) (fun hc33 => ?_) (fun hc33 => ?_)
        · refine zz_iconst hx hb dX7_request_40 ?_
          refine zz_istore (lv' := [(6, .int (zi 0)), (5, .int (zi 0)), (0, zr ad 30 ((0 : Nat) : Int)), (1, .int (zi a)), (2, .int (zi b)), (3, .int (zi t)), (4, .int (zi x))]) hx hb hl dX7_request_41 (by decide) rfl (fun ls hl => ?_)
          refine zz_aload_n hx hb hl 2 dX7_request_43 rfl rfl ?_
          refine zz_iload hx hb hl 1 dX7_request_44 rfl ?_
          refine zz_if_ne (tgt := 53) hx hb dX7_request_46 (by decide) ⟨by decide, by decide⟩ (fun hc46 => ?_) (fun hc46 => ?_)
          · exact absurd rfl hc46
          · refine zz_iconst hx hb dX7_request_49 ?_
            refine zz_goto (tgt := 87) hx hb dX7_request_50 (by decide) ?_
            refine zz_callV (T := TX7) (N := 42) (As := [.int (zi 1)]) (rest := []) (v := ((0 : Nat) : Int)) (κ := 30) ⟨hx, hb, hml, hown, hts⟩ (c_X7_refused l G ad A N0 σ hM (1) ⟨by decide, by decide⟩) (cwV 1 hts gX7_request_X7_refused rfl rfl rfl (by decide +kernel) ⟨Nat.le_of_ble_eq_true rfl, Nat.le_of_ble_eq_true rfl⟩) hK hW8 (zlN (hM 30 rfl)) rfl rfl (Nat.le_trans hsz hS8.1) hS8 rfl hl.1.1 rfl (Nat.le_of_ble_eq_true rfl) dX7_request_87 ⟨Nat.le_of_ble_eq_true rfl, Nat.le_of_ble_eq_true rfl⟩ (fun x9 σ9 H9 locs9 hp9 hW9 hz9 hS9 => ?_)
            have hs9 : σ9 = zu σ 30 0 0 (1) := hp9.1.symm
            obtain rfl := hp9.2
            refine W.eq (g2 := F0 m 90 ls [.int (zi (zb ((1 : Int) ≠ 0)))]) rfl ?_
            refine zz_if_eqb (tgt := 95) hx hb dX7_request_90 (by decide) (fun hc90 => ?_) (fun hc90 => ?_)
            · exact absurd (by decide) hc90
            · refine zz_iconst hx hb dX7_request_93 ?_
              refine W.eq (g2 := F0 m 94 ls [.int (zi 0)]) rfl ?_
              refine zz_reti hx hb hr hlocks hW9 hS9 ?_ dX7_request_94
              exact Or.inl ⟨(fun q9 => by first | exact hc4 q9.1 | exact hc11 q9.2), rfl, by rw [hs9]⟩
        · refine zz_iconst hx hb dX7_request_36 ?_
          refine zz_goto (tgt := 41) hx hb dX7_request_37 (by decide) ?_
          refine zz_istore (lv' := [(6, .int (zi 1)), (5, .int (zi 0)), (0, zr ad 30 ((0 : Nat) : Int)), (1, .int (zi a)), (2, .int (zi b)), (3, .int (zi t)), (4, .int (zi x))]) hx hb hl dX7_request_41 (by decide) rfl (fun ls hl => ?_)
          refine zz_aload_n hx hb hl 2 dX7_request_43 rfl rfl ?_
          refine zz_iload hx hb hl 1 dX7_request_44 rfl ?_
          refine zz_if_ne (tgt := 53) hx hb dX7_request_46 (by decide) ⟨by decide, by decide⟩ (fun hc46 => ?_) (fun hc46 => ?_)
          · exact absurd rfl hc46
          · refine zz_iconst hx hb dX7_request_49 ?_
            refine zz_goto (tgt := 87) hx hb dX7_request_50 (by decide) ?_
            refine zz_callV (T := TX7) (N := 42) (As := [.int (zi 1)]) (rest := []) (v := ((0 : Nat) : Int)) (κ := 30) ⟨hx, hb, hml, hown, hts⟩ (c_X7_refused l G ad A N0 σ hM (1) ⟨by decide, by decide⟩) (cwV 1 hts gX7_request_X7_refused rfl rfl rfl (by decide +kernel) ⟨Nat.le_of_ble_eq_true rfl, Nat.le_of_ble_eq_true rfl⟩) hK hW8 (zlN (hM 30 rfl)) rfl rfl (Nat.le_trans hsz hS8.1) hS8 rfl hl.1.1 rfl (Nat.le_of_ble_eq_true rfl) dX7_request_87 ⟨Nat.le_of_ble_eq_true rfl, Nat.le_of_ble_eq_true rfl⟩ (fun x10 σ10 H10 locs10 hp10 hW10 hz10 hS10 => ?_)
            have hs10 : σ10 = zu σ 30 0 0 (1) := hp10.1.symm
            obtain rfl := hp10.2
            refine W.eq (g2 := F0 m 90 ls [.int (zi (zb ((1 : Int) ≠ 0)))]) rfl ?_
            refine zz_if_eqb (tgt := 95) hx hb dX7_request_90 (by decide) (fun hc90 => ?_) (fun hc90 => ?_)
            · exact absurd (by decide) hc90
            · refine zz_iconst hx hb dX7_request_93 ?_
              refine W.eq (g2 := F0 m 94 ls [.int (zi 0)]) rfl ?_
              refine zz_reti hx hb hr hlocks hW10 hS10 ?_ dX7_request_94
              exact Or.inl ⟨(fun q9 => by first | exact hc4 q9.1 | exact hc11 q9.2), rfl, by rw [hs10]⟩
    · refine zz_iconst hx hb dX7_request_14 ?_
      refine zz_goto (tgt := 19) hx hb dX7_request_15 (by decide) ?_
      refine zz_istore (lv' := [(5, .int (zi 1)), (0, zr ad 30 ((0 : Nat) : Int)), (1, .int (zi a)), (2, .int (zi b)), (3, .int (zi t)), (4, .int (zi x))]) hx hb hl dX7_request_19 (by decide) rfl (fun ls hl => ?_)
      refine zz_iload_n hx hb hl 2 dX7_request_21 rfl rfl ?_
      refine zz_iload_n hx hb hl 3 dX7_request_22 rfl rfl ?_
      refine zz_icmp_eq (tgt := 40) hx hb dX7_request_23 (by decide) ga gb (fun hc23 => ?_) (fun hc23 => ?_)
      · refine zz_iconst hx hb dX7_request_40 ?_
        refine zz_istore (lv' := [(6, .int (zi 0)), (5, .int (zi 1)), (0, zr ad 30 ((0 : Nat) : Int)), (1, .int (zi a)), (2, .int (zi b)), (3, .int (zi t)), (4, .int (zi x))]) hx hb hl dX7_request_41 (by decide) rfl (fun ls hl => ?_)
        refine zz_aload_n hx hb hl 2 dX7_request_43 rfl rfl ?_
        refine zz_iload hx hb hl 1 dX7_request_44 rfl ?_
        refine zz_if_ne (tgt := 53) hx hb dX7_request_46 (by decide) ⟨by decide, by decide⟩ (fun hc46 => ?_) (fun hc46 => ?_)
        · refine zz_iload hx hb hl 0 dX7_request_53 rfl ?_
          refine zz_if_ne (tgt := 62) hx hb dX7_request_55 (by decide) ⟨by decide, by decide⟩ (fun hc55 => ?_) (fun hc55 => ?_)
          · exact absurd rfl hc55
          · refine zz_iconst hx hb dX7_request_58 ?_
            refine zz_goto (tgt := 87) hx hb dX7_request_59 (by decide) ?_
            refine zz_callV (T := TX7) (N := 42) (As := [.int (zi 2)]) (rest := []) (v := ((0 : Nat) : Int)) (κ := 30) ⟨hx, hb, hml, hown, hts⟩ (c_X7_refused l G ad A N0 σ hM (2) ⟨by decide, by decide⟩) (cwV 1 hts gX7_request_X7_refused rfl rfl rfl (by decide +kernel) ⟨Nat.le_of_ble_eq_true rfl, Nat.le_of_ble_eq_true rfl⟩) hK hW6 (zlN (hM 30 rfl)) rfl rfl (Nat.le_trans hsz hS6.1) hS6 rfl hl.1.1 rfl (Nat.le_of_ble_eq_true rfl) dX7_request_87 ⟨Nat.le_of_ble_eq_true rfl, Nat.le_of_ble_eq_true rfl⟩ (fun x11 σ11 H11 locs11 hp11 hW11 hz11 hS11 => ?_)
            have hs11 : σ11 = zu σ 30 0 0 (2) := hp11.1.symm
            obtain rfl := hp11.2
            refine W.eq (g2 := F0 m 90 ls [.int (zi (zb ((2 : Int) ≠ 0)))]) rfl ?_
            refine zz_if_eqb (tgt := 95) hx hb dX7_request_90 (by decide) (fun hc90 => ?_) (fun hc90 => ?_)
            · exact absurd (by decide) hc90
            · refine zz_iconst hx hb dX7_request_93 ?_
              refine W.eq (g2 := F0 m 94 ls [.int (zi 0)]) rfl ?_
              refine zz_reti hx hb hr hlocks hW11 hS11 ?_ dX7_request_94
              exact Or.inr (Or.inl ⟨⟨hc4, hc11⟩, (fun q9 => by first | exact q9.1 hc23 | exact hc33 q9.2), rfl, by rw [hs11]⟩)
        · exact absurd hc46 (by decide)
      · refine zz_iload_n hx hb hl 4 dX7_request_26 rfl rfl ?_
        refine zz_iconst hx hb dX7_request_27 ?_
        refine zz_bipush hx hb dX7_request_28 (by decide +kernel) ?_
        refine zz_callS (As := [.int (zi t), .int (zi 1), .int (zi 60)]) (rest := []) ⟨hx, hb, hml, hown, hts⟩ (c_X7_in l G ad A N0 σ t 1 60 gt ⟨by decide, by decide⟩ ⟨by decide, by decide⟩) (va_cwS 3 hts gX7_request_X7_in rfl rfl rfl (by decide +kernel) ⟨Nat.le_of_ble_eq_true rfl, Nat.le_of_ble_eq_true rfl⟩) hK hW6 (Nat.le_trans hsz hS6.1) hS6 rfl hl.1.1 rfl (Nat.le_of_ble_eq_true rfl) dX7_request_30 ⟨Nat.le_of_ble_eq_true rfl, Nat.le_of_ble_eq_true rfl⟩ (fun x12 σ12 H12 locs12 hp12 hW12 hz12 hS12 => ?_)
        obtain ⟨rfl, rfl⟩ := hp12
        refine W.eq (g2 := F0 m 33 ls [.int (zi (zb (1 ≤ t ∧ t ≤ 60)))]) rfl ?_
        refine zz_if_eqb (tgt := 40) hx hb dX7_request_33 (by decide) (fun hc33 => ?_) (fun hc33 => ?_)
        · refine zz_iconst hx hb dX7_request_40 ?_
          refine zz_istore (lv' := [(6, .int (zi 0)), (5, .int (zi 1)), (0, zr ad 30 ((0 : Nat) : Int)), (1, .int (zi a)), (2, .int (zi b)), (3, .int (zi t)), (4, .int (zi x))]) hx hb hl dX7_request_41 (by decide) rfl (fun ls hl => ?_)
          refine zz_aload_n hx hb hl 2 dX7_request_43 rfl rfl ?_
          refine zz_iload hx hb hl 1 dX7_request_44 rfl ?_
          refine zz_if_ne (tgt := 53) hx hb dX7_request_46 (by decide) ⟨by decide, by decide⟩ (fun hc46 => ?_) (fun hc46 => ?_)
          · refine zz_iload hx hb hl 0 dX7_request_53 rfl ?_
            refine zz_if_ne (tgt := 62) hx hb dX7_request_55 (by decide) ⟨by decide, by decide⟩ (fun hc55 => ?_) (fun hc55 => ?_)
            · exact absurd rfl hc55
            · refine zz_iconst hx hb dX7_request_58 ?_
              refine zz_goto (tgt := 87) hx hb dX7_request_59 (by decide) ?_
              refine zz_callV (T := TX7) (N := 42) (As := [.int (zi 2)]) (rest := []) (v := ((0 : Nat) : Int)) (κ := 30) ⟨hx, hb, hml, hown, hts⟩ (c_X7_refused l G ad A N0 σ hM (2) ⟨by decide, by decide⟩) (cwV 1 hts gX7_request_X7_refused rfl rfl rfl (by decide +kernel) ⟨Nat.le_of_ble_eq_true rfl, Nat.le_of_ble_eq_true rfl⟩) hK hW12 (zlN (hM 30 rfl)) rfl rfl (Nat.le_trans hsz hS12.1) hS12 rfl hl.1.1 rfl (Nat.le_of_ble_eq_true rfl) dX7_request_87 ⟨Nat.le_of_ble_eq_true rfl, Nat.le_of_ble_eq_true rfl⟩ (fun x13 σ13 H13 locs13 hp13 hW13 hz13 hS13 => ?_)
              have hs13 : σ13 = zu σ 30 0 0 (2) := hp13.1.symm
              obtain rfl := hp13.2
              refine W.eq (g2 := F0 m 90 ls [.int (zi (zb ((2 : Int) ≠ 0)))]) rfl ?_
              refine zz_if_eqb (tgt := 95) hx hb dX7_request_90 (by decide) (fun hc90 => ?_) (fun hc90 => ?_)
              · exact absurd (by decide) hc90
              · refine zz_iconst hx hb dX7_request_93 ?_
                refine W.eq (g2 := F0 m 94 ls [.int (zi 0)]) rfl ?_
                refine zz_reti hx hb hr hlocks hW13 hS13 ?_ dX7_request_94
                exact Or.inr (Or.inl ⟨⟨hc4, hc11⟩, (fun q9 => by first | exact q9.1 hc23 | exact hc33 q9.2), rfl, by rw [hs13]⟩)
          · exact absurd hc46 (by decide)
        · refine zz_iconst hx hb dX7_request_36 ?_
          refine zz_goto (tgt := 41) hx hb dX7_request_37 (by decide) ?_
          refine zz_istore (lv' := [(6, .int (zi 1)), (5, .int (zi 1)), (0, zr ad 30 ((0 : Nat) : Int)), (1, .int (zi a)), (2, .int (zi b)), (3, .int (zi t)), (4, .int (zi x))]) hx hb hl dX7_request_41 (by decide) rfl (fun ls hl => ?_)
          refine zz_aload_n hx hb hl 2 dX7_request_43 rfl rfl ?_
          refine zz_iload hx hb hl 1 dX7_request_44 rfl ?_
          refine zz_if_ne (tgt := 53) hx hb dX7_request_46 (by decide) ⟨by decide, by decide⟩ (fun hc46 => ?_) (fun hc46 => ?_)
          · refine zz_iload hx hb hl 0 dX7_request_53 rfl ?_
            refine zz_if_ne (tgt := 62) hx hb dX7_request_55 (by decide) ⟨by decide, by decide⟩ (fun hc55 => ?_) (fun hc55 => ?_)
            · have ea : (a : Int) = ((a.toNat : Nat) : Int) := by omega
              have eb : (b : Int) = ((b.toNat : Nat) : Int) := by omega
              have hwy := yWF_w hWF a.toNat b.toNat (by omega) (by omega)
              have hl : zh ls 7 [(6, .int (zi 1)), (5, .int (zi 1)), (0, zr ad 30 ((0 : Nat) : Int)), (1, .int (zi ((a.toNat : Nat) : Int))), (2, .int (zi ((b.toNat : Nat) : Int))), (3, .int (zi t)), (4, .int (zi x))] := by
                rw [← ea, ← eb]
                exact hl
              refine zz_aload_n hx hb hl 2 dX7_request_62 rfl rfl ?_
              refine zz_get (T := TX7) (N := 42) (k := 23) (κ := 30) (w := .int (zi ((nr : Nat) : Int))) hx hb hts hinX7 hown hK hW12 (zlN (hM 30 rfl)) rfl rfl rfl (by decide) (hts (.fieldLink RX7 130 "HailCityModel" "requests" "I") (by decide +kernel)) (fun _ h9 => h9) (congrArg (fun z => Value.int (zi z)) (show σ 30 0 23 = ((nr : Nat) : Int) from by rw [h23])) dX7_request_63 ?_
              refine zz_bipush hx hb dX7_request_66 (by decide +kernel) ?_
              refine zz_icmp_eq (tgt := 82) hx hb dX7_request_68 (by decide) ⟨by omega, by omega⟩ ⟨by decide, by decide⟩ (fun hc68 => ?_) (fun hc68 => ?_)
              · refine zz_iconst hx hb dX7_request_82 ?_
                refine zz_goto (tgt := 87) hx hb dX7_request_83 (by decide) ?_
                refine zz_callV (T := TX7) (N := 42) (As := [.int (zi 3)]) (rest := []) (v := ((0 : Nat) : Int)) (κ := 30) ⟨hx, hb, hml, hown, hts⟩ (c_X7_refused l G ad A N0 σ hM (3) ⟨by decide, by decide⟩) (cwV 1 hts gX7_request_X7_refused rfl rfl rfl (by decide +kernel) ⟨Nat.le_of_ble_eq_true rfl, Nat.le_of_ble_eq_true rfl⟩) hK hW12 (zlN (hM 30 rfl)) rfl rfl (Nat.le_trans hsz hS12.1) hS12 rfl hl.1.1 rfl (Nat.le_of_ble_eq_true rfl) dX7_request_87 ⟨Nat.le_of_ble_eq_true rfl, Nat.le_of_ble_eq_true rfl⟩ (fun x14 σ14 H14 locs14 hp14 hW14 hz14 hS14 => ?_)
                have hs14 : σ14 = zu σ 30 0 0 (3) := hp14.1.symm
                obtain rfl := hp14.2
                refine W.eq (g2 := F0 m 90 ls [.int (zi (zb ((3 : Int) ≠ 0)))]) rfl ?_
                refine zz_if_eqb (tgt := 95) hx hb dX7_request_90 (by decide) (fun hc90 => ?_) (fun hc90 => ?_)
                · exact absurd (by decide) hc90
                · refine zz_iconst hx hb dX7_request_93 ?_
                  refine W.eq (g2 := F0 m 94 ls [.int (zi 0)]) rfl ?_
                  refine zz_reti hx hb hr hlocks hW14 hS14 ?_ dX7_request_94
                  exact Or.inr (Or.inr (Or.inl ⟨⟨hc4, hc11⟩, ⟨hc23, hc33⟩, by omega, rfl, by rw [hs14]⟩))
              · refine zz_aload_n hx hb hl 2 dX7_request_71 rfl rfl ?_
                refine zz_iload_n hx hb hl 3 dX7_request_72 rfl rfl ?_
                refine zz_iload_n hx hb hl 4 dX7_request_73 rfl rfl ?_
                refine zz_callV (T := TX7) (N := 42) (As := [.int (zi ((a.toNat : Nat) : Int)), .int (zi ((b.toNat : Nat) : Int))]) (rest := [zr ad 30 ((0 : Nat) : Int)]) (v := ((0 : Nat) : Int)) (κ := 30) ⟨hx, hb, hml, hown, hts⟩ (c_X7_wayOf l G ad A N0 σ hM a.toNat b.toNat (by omega) (by omega)) (cwV 2 hts gX7_request_X7_wayOf rfl rfl rfl (by decide +kernel) ⟨Nat.le_of_ble_eq_true rfl, Nat.le_of_ble_eq_true rfl⟩) hK hW12 (zlN (hM 30 rfl)) rfl rfl (Nat.le_trans hsz hS12.1) hS12 rfl hl.1.1 rfl (by simp [zr_cat, zcat_i]) dX7_request_74 ⟨Nat.le_of_ble_eq_true rfl, Nat.le_of_ble_eq_true rfl⟩ (fun x15 σ15 H15 locs15 hp15 hW15 hz15 hS15 => ?_)
                obtain ⟨rfl, hx9⟩ := hp15
                obtain rfl := hx9
                refine W.eq (g2 := F0 m 77 ls [.int (zi (σ 47 0 (10 * a.toNat + b.toNat))), zr ad 30 ((0 : Nat) : Int)]) rfl ?_
                refine zz_ldc (n := 100000) (v := 100000) hx hb hown (hts (.constant RX7 133 (100000)) (by decide +kernel)) (by decide +kernel) dX7_request_77 ?_
                refine zz_icmp_lt (tgt := 86) hx hb dX7_request_79 (by decide) ⟨by omega, by omega⟩ ⟨by decide, by decide⟩ (fun hc79 => ?_) (fun hc79 => ?_)
                · refine zz_iconst hx hb dX7_request_86 ?_
                  refine zz_callV (T := TX7) (N := 42) (As := [.int (zi 0)]) (rest := []) (v := ((0 : Nat) : Int)) (κ := 30) ⟨hx, hb, hml, hown, hts⟩ (c_X7_refused l G ad A N0 σ hM (0) ⟨by decide, by decide⟩) (cwV 1 hts gX7_request_X7_refused rfl rfl rfl (by decide +kernel) ⟨Nat.le_of_ble_eq_true rfl, Nat.le_of_ble_eq_true rfl⟩) hK hW15 (zlN (hM 30 rfl)) rfl rfl (Nat.le_trans hsz hS15.1) hS15 rfl hl.1.1 rfl (Nat.le_of_ble_eq_true rfl) dX7_request_87 ⟨Nat.le_of_ble_eq_true rfl, Nat.le_of_ble_eq_true rfl⟩ (fun x16 σ16 H16 locs16 hp16 hW16 hz16 hS16 => ?_)
                  have hs16 : σ16 = zu σ 30 0 0 (0) := hp16.1.symm
                  obtain rfl := hp16.2
                  refine W.eq (g2 := F0 m 90 ls [.int (zi (zb ((0 : Int) ≠ 0)))]) rfl ?_
                  refine zz_if_eqb (tgt := 95) hx hb dX7_request_90 (by decide) (fun hc90 => ?_) (fun hc90 => ?_)
                  · refine zz_aload_n hx hb hl 2 dX7_request_95 rfl rfl ?_
                    refine zz_get (T := TX7) (N := 42) (k := 29) (κ := 30) (w := zr ad 69 ((0 : Nat) : Int)) hx hb hts hinX7 hown hK hW16 (zlN (hM 30 rfl)) rfl rfl rfl (by decide) (hts (.fieldLink RX7 81 "HailCityModel" "price" "[I") (by decide +kernel)) (fun _ h9 => h9) rfl dX7_request_96 ?_
                    refine zz_aload_n hx hb hl 2 dX7_request_99 rfl rfl ?_
                    refine zz_get (T := TX7) (N := 42) (k := 23) (κ := 30) (w := .int (zi ((nr : Nat) : Int))) hx hb hts hinX7 hown hK hW16 (zlN (hM 30 rfl)) rfl rfl rfl (by decide) (hts (.fieldLink RX7 130 "HailCityModel" "requests" "I") (by decide +kernel)) (fun _ h9 => h9) (congrArg (fun z => Value.int (zi z)) (show σ16 30 0 23 = ((nr : Nat) : Int) from by rw [hs16, zu_s (by decide), h23])) dX7_request_100 ?_
                    refine zz_sipush hx hb dX7_request_103 (by decide +kernel) ?_
                    refine zz_bipush hx hb dX7_request_106 (by decide +kernel) ?_
                    refine zz_aload_n hx hb hl 2 dX7_request_108 rfl rfl ?_
                    refine zz_iload_n hx hb hl 3 dX7_request_109 rfl rfl ?_
                    refine zz_iload_n hx hb hl 4 dX7_request_110 rfl rfl ?_
                    refine zz_callV (T := TX7) (N := 42) (As := [.int (zi ((a.toNat : Nat) : Int)), .int (zi ((b.toNat : Nat) : Int))]) (rest := [.int (zi 40), .int (zi 300), .int (zi ((nr : Nat) : Int)), zr ad 69 ((0 : Nat) : Int)]) (v := ((0 : Nat) : Int)) (κ := 30) ⟨hx, hb, hml, hown, hts⟩ (c_X7_wayOf l G ad A N0 σ16 hM a.toNat b.toNat (by omega) (by omega)) (cwV 2 hts gX7_request_X7_wayOf rfl rfl rfl (by decide +kernel) ⟨Nat.le_of_ble_eq_true rfl, Nat.le_of_ble_eq_true rfl⟩) hK hW16 (zlN (hM 30 rfl)) rfl rfl (Nat.le_trans hsz hS16.1) hS16 rfl hl.1.1 rfl (by simp [zr_cat, zcat_i]) dX7_request_111 ⟨Nat.le_of_ble_eq_true rfl, Nat.le_of_ble_eq_true rfl⟩ (fun x17 σ17 H17 locs17 hp17 hW17 hz17 hS17 => ?_)
                    obtain ⟨rfl, hx9⟩ := hp17
                    rw [hs16, zu_ne (by omega)] at hx9
                    obtain rfl := hx9
                    refine W.eq (g2 := F0 m 114 ls [.int (zi (σ 47 0 (10 * a.toNat + b.toNat))), .int (zi 40), .int (zi 300), .int (zi ((nr : Nat) : Int)), zr ad 69 ((0 : Nat) : Int)]) rfl ?_
                    refine zz_imul hx hb dX7_request_114 ?_
                    refine zz_iadd hx hb dX7_request_115 ?_
                    refine zz_aload_n hx hb hl 2 dX7_request_116 rfl rfl ?_
                    refine zz_iload_n hx hb hl 3 dX7_request_117 rfl rfl ?_
                    refine zz_iconst hx hb dX7_request_118 ?_
                    refine zz_idiv hx hb dX7_request_119 ⟨by omega, by omega⟩ ⟨by decide, by decide⟩ (by omega) (by omega) ?_
                    refine zz_callV (T := TX7) (N := 42) (As := [.int (zi (((a.toNat : Nat) : Int) / 3))]) (rest := [.int (zi (300 + (40 * (σ 47 0 (10 * a.toNat + b.toNat))))), .int (zi ((nr : Nat) : Int)), zr ad 69 ((0 : Nat) : Int)]) (v := ((0 : Nat) : Int)) (κ := 30) ⟨hx, hb, hml, hown, hts⟩ (c_X7_heightOf l G ad A N0 σ16 hM nd nr hnd hnr (by rw [hs16, zu_ne (by omega)]; exact h8) (by rw [hs16, zu_ne (by omega)]; exact h23) (((a.toNat : Nat) : Int) / 3) ⟨by omega, by omega⟩ (fun i hi => by rw [hs16, zu_ne (by omega)]; exact (hWF.2.2.1 i hi).1.1) (fun i hi => by rw [hs16, zu_ne (by omega)]; exact (hWF.2.1 i hi).1.1.1)) (cwV 1 hts gX7_request_X7_heightOf rfl rfl rfl (by decide +kernel) ⟨Nat.le_of_ble_eq_true rfl, Nat.le_of_ble_eq_true rfl⟩) hK hW17 (zlN (hM 30 rfl)) rfl rfl (Nat.le_trans hsz hS17.1) hS17 rfl hl.1.1 rfl (by simp [zr_cat, zcat_i]) dX7_request_120 ⟨Nat.le_of_ble_eq_true rfl, Nat.le_of_ble_eq_true rfl⟩ (fun x18 σ18 H18 locs18 hp18 hW18 hz18 hS18 => ?_)
                    obtain ⟨rfl, hx9⟩ := hp18
                    have hz0 : σ16 = zu σ 30 0 0 0 := by rw [hs16]
                    rw [hz0] at hx9
                    have hht := yht_rg (σ := zu σ 30 0 0 0) (nd := nd) (nr := nr) (z := ((a.toNat : Nat) : Int) / 3) (by rw [zu_ne (by omega)]; exact hWF.1.2.2.2.1)
                    obtain rfl : yht (zu σ 30 0 0 0) nd nr (((a.toNat : Nat) : Int) / 3) = x18 := hx9
                    have hpr := yprice_rg (w := σ 47 0 (10 * a.toNat + b.toNat)) (H := yht (zu σ 30 0 0 0) nd nr (((a.toNat : Nat) : Int) / 3)) ⟨hwy.1, hwy.2.2.1 (by omega)⟩ hht
                    refine W.eq (g2 := F0 m 123 ls [.int (zi (yht (zu σ 30 0 0 0) nd nr (((a.toNat : Nat) : Int) / 3))), .int (zi (300 + (40 * (σ 47 0 (10 * a.toNat + b.toNat))))), .int (zi ((nr : Nat) : Int)), zr ad 69 ((0 : Nat) : Int)]) rfl ?_
                    refine zz_imul hx hb dX7_request_123 ?_
                    refine zz_bipush hx hb dX7_request_124 (by decide +kernel) ?_
                    refine zz_idiv hx hb dX7_request_126 ⟨by omega, by omega⟩ ⟨by decide, by decide⟩ (by omega) (by omega) ?_
                    refine zz_iast (y := (((300 + (40 * (σ 47 0 (10 * a.toNat + b.toNat)))) * (yht (zu σ 30 0 0 0) nd nr (((a.toNat : Nat) : Int) / 3))) / 100)) hx hb hK hW18 hS18 (zlN (hM 69 rfl)) rfl rfl rfl (by show (0 : Int) ≤ ((nr : Nat) : Int); omega) (by show ((nr : Nat) : Int) < (60 : Int); omega) ⟨by omega, by omega⟩ dX7_request_127 (fun H19 locs19 hW19' hS19 => ?_)
                    obtain ⟨σ19, hs19⟩ : ∃ z, z = zu σ16 69 0 nr (((300 + (40 * (σ 47 0 (10 * a.toNat + b.toNat)))) * (yht (zu σ 30 0 0 0) nd nr (((a.toNat : Nat) : Int) / 3))) / 100) := ⟨_, rfl⟩
                    have hW19 : ZW G ad A σ19 H19 := by rw [hs19]; exact hW19'
                    refine zz_aload_n hx hb hl 2 dX7_request_128 rfl rfl ?_
                    refine zz_get (T := TX7) (N := 42) (k := 25) (κ := 30) (w := zr ad 65 ((0 : Nat) : Int)) hx hb hts hinX7 hown hK hW19 (zlN (hM 30 rfl)) rfl rfl rfl (by decide) (hts (.fieldLink RX7 69 "HailCityModel" "from" "[I") (by decide +kernel)) (fun _ h9 => h9) rfl dX7_request_129 ?_
                    refine zz_aload_n hx hb hl 2 dX7_request_132 rfl rfl ?_
                    refine zz_get (T := TX7) (N := 42) (k := 23) (κ := 30) (w := .int (zi ((nr : Nat) : Int))) hx hb hts hinX7 hown hK hW19 (zlN (hM 30 rfl)) rfl rfl rfl (by decide) (hts (.fieldLink RX7 130 "HailCityModel" "requests" "I") (by decide +kernel)) (fun _ h9 => h9) (congrArg (fun z => Value.int (zi z)) (show σ19 30 0 23 = ((nr : Nat) : Int) from by rw [hs19, zu_k (by decide), hs16, zu_s (by decide), h23])) dX7_request_133 ?_
                    refine zz_iload_n hx hb hl 3 dX7_request_136 rfl rfl ?_
                    refine zz_iast (y := ((a.toNat : Nat) : Int)) hx hb hK hW19 hS19 (zlN (hM 65 rfl)) rfl rfl rfl (by show (0 : Int) ≤ ((nr : Nat) : Int); omega) (by show ((nr : Nat) : Int) < (60 : Int); omega) ⟨by omega, by omega⟩ dX7_request_137 (fun H20 locs20 hW20' hS20 => ?_)
                    obtain ⟨σ20, hs20⟩ : ∃ z, z = zu σ19 65 0 nr ((a.toNat : Nat) : Int) := ⟨_, rfl⟩
                    have hW20 : ZW G ad A σ20 H20 := by rw [hs20]; exact hW20'
                    refine zz_aload_n hx hb hl 2 dX7_request_138 rfl rfl ?_
                    refine zz_get (T := TX7) (N := 42) (k := 26) (κ := 30) (w := zr ad 66 ((0 : Nat) : Int)) hx hb hts hinX7 hown hK hW20 (zlN (hM 30 rfl)) rfl rfl rfl (by decide) (hts (.fieldLink RX7 72 "HailCityModel" "to" "[I") (by decide +kernel)) (fun _ h9 => h9) rfl dX7_request_139 ?_
                    refine zz_aload_n hx hb hl 2 dX7_request_142 rfl rfl ?_
                    refine zz_get (T := TX7) (N := 42) (k := 23) (κ := 30) (w := .int (zi ((nr : Nat) : Int))) hx hb hts hinX7 hown hK hW20 (zlN (hM 30 rfl)) rfl rfl rfl (by decide) (hts (.fieldLink RX7 130 "HailCityModel" "requests" "I") (by decide +kernel)) (fun _ h9 => h9) (congrArg (fun z => Value.int (zi z)) (show σ20 30 0 23 = ((nr : Nat) : Int) from by rw [hs20, zu_k (by decide), hs19, zu_k (by decide), hs16, zu_s (by decide), h23])) dX7_request_143 ?_
                    refine zz_iload_n hx hb hl 4 dX7_request_146 rfl rfl ?_
                    refine zz_iast (y := ((b.toNat : Nat) : Int)) hx hb hK hW20 hS20 (zlN (hM 66 rfl)) rfl rfl rfl (by show (0 : Int) ≤ ((nr : Nat) : Int); omega) (by show ((nr : Nat) : Int) < (60 : Int); omega) ⟨by omega, by omega⟩ dX7_request_147 (fun H21 locs21 hW21' hS21 => ?_)
                    obtain ⟨σ21, hs21⟩ : ∃ z, z = zu σ20 66 0 nr ((b.toNat : Nat) : Int) := ⟨_, rfl⟩
                    have hW21 : ZW G ad A σ21 H21 := by rw [hs21]; exact hW21'
                    refine zz_aload_n hx hb hl 2 dX7_request_148 rfl rfl ?_
                    refine zz_get (T := TX7) (N := 42) (k := 27) (κ := 30) (w := zr ad 67 ((0 : Nat) : Int)) hx hb hts hinX7 hown hK hW21 (zlN (hM 30 rfl)) rfl rfl rfl (by decide) (hts (.fieldLink RX7 75 "HailCityModel" "until" "[I") (by decide +kernel)) (fun _ h9 => h9) rfl dX7_request_149 ?_
                    refine zz_aload_n hx hb hl 2 dX7_request_152 rfl rfl ?_
                    refine zz_get (T := TX7) (N := 42) (k := 23) (κ := 30) (w := .int (zi ((nr : Nat) : Int))) hx hb hts hinX7 hown hK hW21 (zlN (hM 30 rfl)) rfl rfl rfl (by decide) (hts (.fieldLink RX7 130 "HailCityModel" "requests" "I") (by decide +kernel)) (fun _ h9 => h9) (congrArg (fun z => Value.int (zi z)) (show σ21 30 0 23 = ((nr : Nat) : Int) from by rw [hs21, zu_k (by decide), hs20, zu_k (by decide), hs19, zu_k (by decide), hs16, zu_s (by decide), h23])) dX7_request_153 ?_
                    refine zz_aload_n hx hb hl 2 dX7_request_156 rfl rfl ?_
                    refine zz_get (T := TX7) (N := 42) (k := 1) (κ := 30) (w := .int (zi (σ 30 0 1))) hx hb hts hinX7 hown hK hW21 (zlN (hM 30 rfl)) rfl rfl rfl (by decide) (hts (.fieldLink RX7 161 "HailCityModel" "now" "I") (by decide +kernel)) (fun _ h9 => h9) (congrArg (fun z => Value.int (zi z)) (show σ21 30 0 1 = σ 30 0 1 from by rw [hs21, zu_k (by decide), hs20, zu_k (by decide), hs19, zu_k (by decide), hs16, zu_s (by decide)])) dX7_request_157 ?_
                    refine zz_iload_n hx hb hl 5 dX7_request_160 rfl rfl ?_
                    refine zz_iadd hx hb dX7_request_161 ?_
                    refine zz_iast (y := ((σ 30 0 1) + t)) hx hb hK hW21 hS21 (zlN (hM 67 rfl)) rfl rfl rfl (by show (0 : Int) ≤ ((nr : Nat) : Int); omega) (by show ((nr : Nat) : Int) < (60 : Int); omega) ⟨by omega, by omega⟩ dX7_request_162 (fun H22 locs22 hW22' hS22 => ?_)
                    obtain ⟨σ22, hs22⟩ : ∃ z, z = zu σ21 67 0 nr ((σ 30 0 1) + t) := ⟨_, rfl⟩
                    have hW22 : ZW G ad A σ22 H22 := by rw [hs22]; exact hW22'
                    refine zz_aload_n hx hb hl 2 dX7_request_163 rfl rfl ?_
                    refine zz_get (T := TX7) (N := 42) (k := 28) (κ := 30) (w := zr ad 68 ((0 : Nat) : Int)) hx hb hts hinX7 hown hK hW22 (zlN (hM 30 rfl)) rfl rfl rfl (by decide) (hts (.fieldLink RX7 78 "HailCityModel" "isShared" "[Z") (by decide +kernel)) (fun _ h9 => h9) rfl dX7_request_164 ?_
                    refine zz_aload_n hx hb hl 2 dX7_request_167 rfl rfl ?_
                    refine zz_get (T := TX7) (N := 42) (k := 23) (κ := 30) (w := .int (zi ((nr : Nat) : Int))) hx hb hts hinX7 hown hK hW22 (zlN (hM 30 rfl)) rfl rfl rfl (by decide) (hts (.fieldLink RX7 130 "HailCityModel" "requests" "I") (by decide +kernel)) (fun _ h9 => h9) (congrArg (fun z => Value.int (zi z)) (show σ22 30 0 23 = ((nr : Nat) : Int) from by rw [hs22, zu_k (by decide), hs21, zu_k (by decide), hs20, zu_k (by decide), hs19, zu_k (by decide), hs16, zu_s (by decide), h23])) dX7_request_168 ?_
                    refine zz_iload hx hb hl 6 dX7_request_171 rfl ?_
                    refine zz_zast (y := x) hx hb hK hW22 hS22 (zlN (hM 68 rfl)) rfl rfl rfl (by show (0 : Int) ≤ ((nr : Nat) : Int); omega) (by show ((nr : Nat) : Int) < (60 : Int); omega) hx01 dX7_request_173 (fun H23 locs23 hW23' hS23 => ?_)
                    obtain ⟨σ23, hs23⟩ : ∃ z, z = zu σ22 68 0 nr x := ⟨_, rfl⟩
                    have hW23 : ZW G ad A σ23 H23 := by rw [hs23]; exact hW23'
                    refine zz_aload_n hx hb hl 2 dX7_request_174 rfl rfl ?_
                    refine zz_get (T := TX7) (N := 42) (k := 30) (κ := 30) (w := zr ad 70 ((0 : Nat) : Int)) hx hb hts hinX7 hown hK hW23 (zlN (hM 30 rfl)) rfl rfl rfl (by decide) (hts (.fieldLink RX7 84 "HailCityModel" "driverOf" "[I") (by decide +kernel)) (fun _ h9 => h9) rfl dX7_request_175 ?_
                    refine zz_aload_n hx hb hl 2 dX7_request_178 rfl rfl ?_
                    refine zz_get (T := TX7) (N := 42) (k := 23) (κ := 30) (w := .int (zi ((nr : Nat) : Int))) hx hb hts hinX7 hown hK hW23 (zlN (hM 30 rfl)) rfl rfl rfl (by decide) (hts (.fieldLink RX7 130 "HailCityModel" "requests" "I") (by decide +kernel)) (fun _ h9 => h9) (congrArg (fun z => Value.int (zi z)) (show σ23 30 0 23 = ((nr : Nat) : Int) from by rw [hs23, zu_k (by decide), hs22, zu_k (by decide), hs21, zu_k (by decide), hs20, zu_k (by decide), hs19, zu_k (by decide), hs16, zu_s (by decide), h23])) dX7_request_179 ?_
                    refine zz_iconst hx hb dX7_request_182 ?_
                    refine zz_iast (y := (-1)) hx hb hK hW23 hS23 (zlN (hM 70 rfl)) rfl rfl rfl (by show (0 : Int) ≤ ((nr : Nat) : Int); omega) (by show ((nr : Nat) : Int) < (60 : Int); omega) ⟨by decide, by decide⟩ dX7_request_183 (fun H24 locs24 hW24' hS24 => ?_)
                    obtain ⟨σ24, hs24⟩ : ∃ z, z = zu σ23 70 0 nr (-1) := ⟨_, rfl⟩
                    have hW24 : ZW G ad A σ24 H24 := by rw [hs24]; exact hW24'
                    refine zz_aload_n hx hb hl 2 dX7_request_184 rfl rfl ?_
                    refine zz_get (T := TX7) (N := 42) (k := 31) (κ := 30) (w := zr ad 71 ((0 : Nat) : Int)) hx hb hts hinX7 hown hK hW24 (zlN (hM 30 rfl)) rfl rfl rfl (by decide) (hts (.fieldLink RX7 87 "HailCityModel" "promise" "[I") (by decide +kernel)) (fun _ h9 => h9) rfl dX7_request_185 ?_
                    refine zz_aload_n hx hb hl 2 dX7_request_188 rfl rfl ?_
                    refine zz_get (T := TX7) (N := 42) (k := 23) (κ := 30) (w := .int (zi ((nr : Nat) : Int))) hx hb hts hinX7 hown hK hW24 (zlN (hM 30 rfl)) rfl rfl rfl (by decide) (hts (.fieldLink RX7 130 "HailCityModel" "requests" "I") (by decide +kernel)) (fun _ h9 => h9) (congrArg (fun z => Value.int (zi z)) (show σ24 30 0 23 = ((nr : Nat) : Int) from by rw [hs24, zu_k (by decide), hs23, zu_k (by decide), hs22, zu_k (by decide), hs21, zu_k (by decide), hs20, zu_k (by decide), hs19, zu_k (by decide), hs16, zu_s (by decide), h23])) dX7_request_189 ?_
                    refine zz_iconst hx hb dX7_request_192 ?_
                    refine zz_iast (y := (-1)) hx hb hK hW24 hS24 (zlN (hM 71 rfl)) rfl rfl rfl (by show (0 : Int) ≤ ((nr : Nat) : Int); omega) (by show ((nr : Nat) : Int) < (60 : Int); omega) ⟨by decide, by decide⟩ dX7_request_193 (fun H25 locs25 hW25' hS25 => ?_)
                    obtain ⟨σ25, hs25⟩ : ∃ z, z = zu σ24 71 0 nr (-1) := ⟨_, rfl⟩
                    have hW25 : ZW G ad A σ25 H25 := by rw [hs25]; exact hW25'
                    refine zz_aload_n hx hb hl 2 dX7_request_194 rfl rfl ?_
                    refine zz_get (T := TX7) (N := 42) (k := 32) (κ := 30) (w := zr ad 72 ((0 : Nat) : Int)) hx hb hts hinX7 hown hK hW25 (zlN (hM 30 rfl)) rfl rfl rfl (by decide) (hts (.fieldLink RX7 90 "HailCityModel" "letOut" "[I") (by decide +kernel)) (fun _ h9 => h9) rfl dX7_request_195 ?_
                    refine zz_aload_n hx hb hl 2 dX7_request_198 rfl rfl ?_
                    refine zz_get (T := TX7) (N := 42) (k := 23) (κ := 30) (w := .int (zi ((nr : Nat) : Int))) hx hb hts hinX7 hown hK hW25 (zlN (hM 30 rfl)) rfl rfl rfl (by decide) (hts (.fieldLink RX7 130 "HailCityModel" "requests" "I") (by decide +kernel)) (fun _ h9 => h9) (congrArg (fun z => Value.int (zi z)) (show σ25 30 0 23 = ((nr : Nat) : Int) from by rw [hs25, zu_k (by decide), hs24, zu_k (by decide), hs23, zu_k (by decide), hs22, zu_k (by decide), hs21, zu_k (by decide), hs20, zu_k (by decide), hs19, zu_k (by decide), hs16, zu_s (by decide), h23])) dX7_request_199 ?_
                    refine zz_iconst hx hb dX7_request_202 ?_
                    refine zz_iast (y := (-1)) hx hb hK hW25 hS25 (zlN (hM 72 rfl)) rfl rfl rfl (by show (0 : Int) ≤ ((nr : Nat) : Int); omega) (by show ((nr : Nat) : Int) < (60 : Int); omega) ⟨by decide, by decide⟩ dX7_request_203 (fun H26 locs26 hW26' hS26 => ?_)
                    obtain ⟨σ26, hs26⟩ : ∃ z, z = zu σ25 72 0 nr (-1) := ⟨_, rfl⟩
                    have hW26 : ZW G ad A σ26 H26 := by rw [hs26]; exact hW26'
                    refine zz_aload_n hx hb hl 2 dX7_request_204 rfl rfl ?_
                    refine lv_dup hx hb dX7_request_205 (zr_cat _ _ _) ?_
                    refine zz_get (T := TX7) (N := 42) (k := 23) (κ := 30) (w := .int (zi ((nr : Nat) : Int))) hx hb hts hinX7 hown hK hW26 (zlN (hM 30 rfl)) rfl rfl rfl (by decide) (hts (.fieldLink RX7 130 "HailCityModel" "requests" "I") (by decide +kernel)) (fun _ h9 => h9) (congrArg (fun z => Value.int (zi z)) (show σ26 30 0 23 = ((nr : Nat) : Int) from by rw [hs26, zu_k (by decide), hs25, zu_k (by decide), hs24, zu_k (by decide), hs23, zu_k (by decide), hs22, zu_k (by decide), hs21, zu_k (by decide), hs20, zu_k (by decide), hs19, zu_k (by decide), hs16, zu_s (by decide), h23])) dX7_request_206 ?_
                    refine zz_iconst hx hb dX7_request_209 ?_
                    refine zz_iadd hx hb dX7_request_210 ?_
                    refine zz_put (T := TX7) (N := 42) (k := 23) (κ := 30) (v := ((0 : Nat) : Int)) (x := ((nr + 1 : Nat) : Int)) (ty := .int) hx hb hts hinX7 tyX7 tyX7_ok nmX7 hown hK hW26 hS26 (zlN (hM 30 rfl)) rfl rfl rfl (by decide) (hts (.fieldLink RX7 130 "HailCityModel" "requests" "I") (by decide +kernel)) (fun _ h9 => h9) rfl (by decide +kernel) rfl rfl rfl ⟨by omega, by omega⟩ (fun h9 _ => absurd h9 (by decide)) (fun h9 => absurd h9 (by decide)) dX7_request_211 (fun H27 locs27 hW27' hS27 => ?_)
                    obtain ⟨σ27, hs27⟩ : ∃ z, z = zu σ26 30 0 23 ((nr + 1 : Nat) : Int) := ⟨_, rfl⟩
                    have hW27 : ZW G ad A σ27 H27 := by rw [hs27]; exact hW27'
                    refine zz_aload_n hx hb hl 2 dX7_request_214 rfl rfl ?_
                    refine zz_get (T := TX7) (N := 42) (k := 23) (κ := 30) (w := .int (zi (((nr : Nat) : Int) + 1))) hx hb hts hinX7 hown hK hW27 (zlN (hM 30 rfl)) rfl rfl rfl (by decide) (hts (.fieldLink RX7 130 "HailCityModel" "requests" "I") (by decide +kernel)) (fun _ h9 => h9) (congrArg (fun z => Value.int (zi z)) (show σ27 30 0 23 = ((nr : Nat) : Int) + 1 from by rw [hs27, zu_same]; rfl)) dX7_request_215 ?_
                    refine zz_iconst hx hb dX7_request_218 ?_
                    refine zz_isub hx hb dX7_request_219 ?_
                    refine W.eq (g2 := F0 m 220 ls [.int (zi ((((nr : Nat) : Int) + 1) - 1))]) rfl ?_
                    refine zz_reti hx hb hr hlocks hW27 hS27 ?_ dX7_request_220
                    refine Or.inr (Or.inr (Or.inr ⟨⟨hc4, hc11⟩, ⟨hc23, hc33⟩, ⟨by omega, by omega⟩, by omega, ?_⟩))
                    unfold yrq yrp
                    rw [hs27, hs26, hs25, hs24, hs23, hs22, hs21, hs20, hs19, hs16, zu_ne (κ' := 47) (κ := 30) (by omega)]
                    rfl
                  · exact absurd rfl hc90
                · refine zz_iconst hx hb dX7_request_82 ?_
                  refine zz_goto (tgt := 87) hx hb dX7_request_83 (by decide) ?_
                  refine zz_callV (T := TX7) (N := 42) (As := [.int (zi 3)]) (rest := []) (v := ((0 : Nat) : Int)) (κ := 30) ⟨hx, hb, hml, hown, hts⟩ (c_X7_refused l G ad A N0 σ hM (3) ⟨by decide, by decide⟩) (cwV 1 hts gX7_request_X7_refused rfl rfl rfl (by decide +kernel) ⟨Nat.le_of_ble_eq_true rfl, Nat.le_of_ble_eq_true rfl⟩) hK hW15 (zlN (hM 30 rfl)) rfl rfl (Nat.le_trans hsz hS15.1) hS15 rfl hl.1.1 rfl (Nat.le_of_ble_eq_true rfl) dX7_request_87 ⟨Nat.le_of_ble_eq_true rfl, Nat.le_of_ble_eq_true rfl⟩ (fun x28 σ28 H28 locs28 hp28 hW28 hz28 hS28 => ?_)
                  have hs28 : σ28 = zu σ 30 0 0 (3) := hp28.1.symm
                  obtain rfl := hp28.2
                  refine W.eq (g2 := F0 m 90 ls [.int (zi (zb ((3 : Int) ≠ 0)))]) rfl ?_
                  refine zz_if_eqb (tgt := 95) hx hb dX7_request_90 (by decide) (fun hc90 => ?_) (fun hc90 => ?_)
                  · exact absurd (by decide) hc90
                  · refine zz_iconst hx hb dX7_request_93 ?_
                    refine W.eq (g2 := F0 m 94 ls [.int (zi 0)]) rfl ?_
                    refine zz_reti hx hb hr hlocks hW28 hS28 ?_ dX7_request_94
                    exact Or.inr (Or.inr (Or.inl ⟨⟨hc4, hc11⟩, ⟨hc23, hc33⟩, by omega, rfl, by rw [hs28]⟩))
            · exact absurd hc55 (by decide)
          · exact absurd hc46 (by decide)

theorem zsum_r5 {f : Nat → Int} {B : Int} : ∀ n : Nat, (∀ j, j < n → 0 ≤ f j ∧ f j ≤ B) → 0 ≤ zsum f n ∧ zsum f n ≤ B * n
  | 0, _ => by
    show (0 : Int) ≤ 0 ∧ (0 : Int) ≤ B * ((0 : Nat) : Int)
    omega
  | n + 1, h => by
    have h1 := zsum_r5 n (fun j hj => h j (by omega))
    have h2 := h n (by omega)
    have h3 : B * ((n + 1 : Nat) : Int) = B * (n : Int) + B := by
      rw [show ((n + 1 : Nat) : Int) = (n : Int) + 1 from rfl, Int.mul_add, Int.mul_one]
    show 0 ≤ zsum f n + f n ∧ zsum f n + f n ≤ _
    omega
theorem yrt_rg {σ : zS} {d : Nat} (h1 : 0 ≤ σ 58 0 d) (h2 : ∀ j, j < 10 → 0 ≤ σ 59 0 (10 * d + j) ∧ σ 59 0 (10 * d + j) ≤ 5) : 0 ≤ yrt σ d ∧ yrt σ d ≤ 500 := by
  unfold yrt
  by_cases c : min (σ 58 0 d) 10 = 0
  · rw [if_pos c]; omega
  · rw [if_neg c]
    have h3 := zsum_r5 (f := fun j => σ 59 0 (10 * d + j)) (B := 5) (min (σ 58 0 d) 10).toNat (fun j hj => h2 j (by omega))
    have h4 : (((min (σ 58 0 d) 10).toNat : Nat) : Int) = min (σ 58 0 d) 10 := by omega
    rw [h4] at h3
    refine ⟨Int.ediv_nonneg (by omega) (by omega), ?_⟩
    have h5 : 100 * zsum (fun j => σ 59 0 (10 * d + j)) (min (σ 58 0 d) 10).toNat < 501 * min (σ 58 0 d) 10 := by omega
    have h6 := Int.ediv_lt_of_lt_mul (by omega) h5
    omega
/-- a rating is told -/
def yrv (σ : zS) (q D K : Nat) (t : Int) : zS := zu (zu (zu (zu σ 30 0 0 0) 74 0 q 1) 59 0 (10 * D + K) t) 58 0 D (σ 58 0 D + 1)
noncomputable def yrw (σ : zS) (q D K : Nat) (t : Int) : zS := zu (yrv σ q D K t) 51 0 D (zb (5 ≤ σ 58 0 D + 1 ∧ yrt (yrv σ q D K t) D < 350))
noncomputable def yra (σ : zS) (q D K : Nat) (t : Int) : zS := if σ 51 0 D ≠ 0 ∧ yrw σ q D K t 51 0 D = 0 then ybf (yrw σ q D K t) D else yrw σ q D K t
theorem yrv_st {σ : zS} {q D K : Nat} {t : Int} (hD : D < 8) (ht : 0 ≤ t ∧ t ≤ 5) (h : ∀ j, j < 10 → 0 ≤ σ 59 0 (10 * D + j) ∧ σ 59 0 (10 * D + j) ≤ 5) : ∀ j, j < 10 → 0 ≤ yrv σ q D K t 59 0 (10 * D + j) ∧ yrv σ q D K t 59 0 (10 * D + j) ≤ 5 := fun j hj => by
  unfold yrv
  rw [zu_ne (by omega)]
  by_cases e : j = K
  · subst e; rw [zu_same]; exact ht
  · rw [zu_ne (by omega), zu_ne (by omega), zu_ne (by omega)]; exact h j hj

theorem yrt_fr {σ u : zS} {d : Nat} (h1 : u 58 0 d = σ 58 0 d) (h2 : ∀ k, u 59 0 k = σ 59 0 k) : yrt u d = yrt σ d := by
  unfold yrt
  rw [h1]
  simp only [h2]
theorem ybf_56 {σ : zS} {d κ k : Nat} (h : κ ≠ 56 ∧ ¬ (κ = 30 ∧ k = 17)) : ybf σ d κ 0 k = σ κ 0 k := by
  unfold ybf
  split
  · rw [zu_ne (by omega), zu_ne (by omega)]
  · rfl

set_option maxHeartbeats 4000000 in
set_option maxRecDepth 100000 in
theorem c_X7_rate (l : Launch) (G : zG) (ad : zA) (A : Nat → Prop) (N0 : Nat) (σ : zS) (hM : zMm ad) (nd nr ns : Nat) (c9 B9 : Int) (hWF : yWF σ nd nr ns c9 B9) (hB9 : B9 ≤ 1000000) (hc9 : c9 < 1000) (a t : Int) (ga : zg a) (gt : zg t) : Met l yX7_rate wsX7_rate ({ frames := 2, cells := 0, slots := 0, locals := 43 }) (zP G ad A N0 σ [zr ad 30 ((0 : Nat) : Int), .int (zi a), .int (zi t)]) (zQ G ad A zri (fun r u => (¬ (0 ≤ a ∧ a ≤ σ 30 0 23 - 1) ∧ 0 = r ∧ u = zu σ 30 0 0 1) ∨ ((0 ≤ a ∧ a ≤ σ 30 0 23 - 1) ∧ ¬ (1 ≤ t ∧ t ≤ 5) ∧ 0 = r ∧ u = zu σ 30 0 0 2) ∨ ((0 ≤ a ∧ a ≤ σ 30 0 23 - 1) ∧ (1 ≤ t ∧ t ≤ 5) ∧ ¬ (σ 64 0 a.toNat = 3 ∧ σ 74 0 a.toNat = 0) ∧ 0 = r ∧ u = zu σ 30 0 0 3) ∨ ((0 ≤ a ∧ a ≤ σ 30 0 23 - 1) ∧ (1 ≤ t ∧ t ≤ 5) ∧ (σ 64 0 a.toNat = 3 ∧ σ 74 0 a.toNat = 0) ∧ yrt u (σ 70 0 a.toNat).toNat = r ∧ u = yra σ a.toNat (σ 70 0 a.toNat).toNat ((σ 58 0 (σ 70 0 a.toNat).toNat).toNat % 10) t))) 0 0 A := by
  refine zz_of (cc := cX7_rate) (maxL := 7) (ret := (some .int)) (by decide) rfl ⟨rfl, rfl⟩ (List.forall_mem_cons.mpr ⟨zr_cat _ _ _, List.forall_mem_cons.mpr ⟨rfl, List.forall_mem_cons.mpr ⟨rfl, fun _ h => absurd h List.not_mem_nil⟩⟩⟩) (Nat.le_of_ble_eq_true rfl) ?_
  intro p e s m below meth c hx hb hr hml hts hown hlocks hsz hW0 hK ls hl
  have hS0 : va_S A s.heap s.heap [] := va_S.rf
  have hl : zh ls 7 [(0, zr ad 30 ((0 : Nat) : Int)), (1, .int (zi a)), (2, .int (zi t))] := hl
  have hinX7 : ∀ w ∈ u_ws RX7 TX7 42, w ∈ wsX7_rate := by decide +kernel
  have h8 := hWF.1.2.1.1
  have h23 := hWF.1.2.1.2.1
  have hnd := hWF.1.1.1
  have hnr := hWF.1.1.2.1
  have hnow := hWF.1.2.2.1
  have hord := hWF.1.2.2.2.2.1
  refine zz_aload_n hx hb hl 0 dX7_rate_0 rfl rfl ?_
  refine zz_iload_n hx hb hl 1 dX7_rate_1 rfl rfl ?_
  refine zz_callV (T := TX7) (N := 42) (As := [.int (zi a)]) (rest := []) (v := ((0 : Nat) : Int)) (κ := 30) ⟨hx, hb, hml, hown, hts⟩ (c_X7_isRequest l G ad A N0 σ hM a ga (by omega)) (cwV 1 hts gX7_rate_X7_isRequest rfl rfl rfl (by decide +kernel) ⟨Nat.le_of_ble_eq_true rfl, Nat.le_of_ble_eq_true rfl⟩) hK hW0 (zlN (hM 30 rfl)) rfl rfl (Nat.le_trans hsz hS0.1) hS0 rfl hl.1.1 rfl (Nat.le_of_ble_eq_true rfl) dX7_rate_2 ⟨Nat.le_of_ble_eq_true rfl, Nat.le_of_ble_eq_true rfl⟩ (fun x1 σ1 H1 locs1 hp1 hW1 hz1 hS1 => ?_)
  obtain ⟨rfl, rfl⟩ := hp1
  refine W.eq (g2 := F0 m 5 ls [.int (zi (zb (0 ≤ a ∧ a ≤ σ 30 0 23 - 1)))]) rfl ?_
  refine zz_istore_n (lv' := [(3, .int (zi (zb (0 ≤ a ∧ a ≤ σ 30 0 23 - 1)))), (0, zr ad 30 ((0 : Nat) : Int)), (1, .int (zi a)), (2, .int (zi t))]) hx hb hl dX7_rate_5 rfl (by decide) rfl (fun ls hl => ?_)
  refine zz_iload_n hx hb hl 3 dX7_rate_6 rfl rfl ?_
  refine zz_iconst hx hb dX7_rate_7 ?_
  refine zz_iconst hx hb dX7_rate_8 ?_
  refine zz_callS (As := [.int (zi t), .int (zi 1), .int (zi 5)]) (rest := []) ⟨hx, hb, hml, hown, hts⟩ (c_X7_in l G ad A N0 σ t 1 5 gt ⟨by decide, by decide⟩ ⟨by decide, by decide⟩) (va_cwS 3 hts gX7_rate_X7_in rfl rfl rfl (by decide +kernel) ⟨Nat.le_of_ble_eq_true rfl, Nat.le_of_ble_eq_true rfl⟩) hK hW1 (Nat.le_trans hsz hS1.1) hS1 rfl hl.1.1 rfl (Nat.le_of_ble_eq_true rfl) dX7_rate_9 ⟨Nat.le_of_ble_eq_true rfl, Nat.le_of_ble_eq_true rfl⟩ (fun x2 σ2 H2 locs2 hp2 hW2 hz2 hS2 => ?_)
  obtain ⟨rfl, rfl⟩ := hp2
  refine W.eq (g2 := F0 m 12 ls [.int (zi (zb (1 ≤ t ∧ t ≤ 5)))]) rfl ?_
  refine zz_istore (lv' := [(4, .int (zi (zb (1 ≤ t ∧ t ≤ 5)))), (3, .int (zi (zb (0 ≤ a ∧ a ≤ σ 30 0 23 - 1)))), (0, zr ad 30 ((0 : Nat) : Int)), (1, .int (zi a)), (2, .int (zi t))]) hx hb hl dX7_rate_12 (by decide) rfl (fun ls hl => ?_)
  refine zz_aload_n hx hb hl 2 dX7_rate_14 rfl rfl ?_
  refine zz_iload_n hx hb hl 1 dX7_rate_15 rfl rfl ?_
  refine zz_if_neb (tgt := 23) hx hb dX7_rate_16 (by decide) (fun hc16 => ?_) (fun hc16 => ?_)
  · refine zz_iload hx hb hl 0 dX7_rate_23 rfl ?_
    refine zz_if_neb (tgt := 32) hx hb dX7_rate_25 (by decide) (fun hc25 => ?_) (fun hc25 => ?_)
    · refine zz_aload_n hx hb hl 2 dX7_rate_32 rfl rfl ?_
      refine zz_get (T := TX7) (N := 42) (k := 24) (κ := 30) (w := zr ad 64 ((0 : Nat) : Int)) hx hb hts hinX7 hown hK hW2 (zlN (hM 30 rfl)) rfl rfl rfl (by decide) (hts (.fieldLink RX7 66 "HailCityModel" "state" "[I") (by decide +kernel)) (fun _ h9 => h9) rfl dX7_rate_33 ?_
      refine zz_iload_n hx hb hl 3 dX7_rate_36 rfl rfl ?_
      refine zz_iald (w := σ 64 0 a.toNat) hx hb hK hW2 (zlN (hM 64 rfl)) rfl rfl rfl (by show (0 : Int) ≤ a; omega) (by show a < (60 : Int); omega) rfl dX7_rate_37 ?_
      refine zz_iconst hx hb dX7_rate_38 ?_
      refine zz_icmp_ne (tgt := 51) hx hb dX7_rate_39 (by decide) (hW0.2.2.1 _ _ _) ⟨by decide, by decide⟩ (fun hc39 => ?_) (fun hc39 => ?_)
      · refine zz_iconst hx hb dX7_rate_51 ?_
        refine zz_goto (tgt := 56) hx hb dX7_rate_52 (by decide) ?_
        refine zz_callV (T := TX7) (N := 42) (As := [.int (zi 3)]) (rest := []) (v := ((0 : Nat) : Int)) (κ := 30) ⟨hx, hb, hml, hown, hts⟩ (c_X7_refused l G ad A N0 σ hM (3) ⟨by decide, by decide⟩) (cwV 1 hts gX7_rate_X7_refused rfl rfl rfl (by decide +kernel) ⟨Nat.le_of_ble_eq_true rfl, Nat.le_of_ble_eq_true rfl⟩) hK hW2 (zlN (hM 30 rfl)) rfl rfl (Nat.le_trans hsz hS2.1) hS2 rfl hl.1.1 rfl (Nat.le_of_ble_eq_true rfl) dX7_rate_56 ⟨Nat.le_of_ble_eq_true rfl, Nat.le_of_ble_eq_true rfl⟩ (fun x3 σ3 H3 locs3 hp3 hW3 hz3 hS3 => ?_)
        have hs3 : σ3 = zu σ 30 0 0 (3) := hp3.1.symm
        obtain rfl := hp3.2
        refine W.eq (g2 := F0 m 59 ls [.int (zi (zb ((3 : Int) ≠ 0)))]) rfl ?_
        refine zz_if_eqb (tgt := 64) hx hb dX7_rate_59 (by decide) (fun hc59 => ?_) (fun hc59 => ?_)
        · exact absurd (by decide) hc59
        · refine zz_iconst hx hb dX7_rate_62 ?_
          refine W.eq (g2 := F0 m 63 ls [.int (zi 0)]) rfl ?_
          refine zz_reti hx hb hr hlocks hW3 hS3 ?_ dX7_rate_63
          exact Or.inr (Or.inr (Or.inl ⟨hc16, hc25, fun q9 => by have q1 := q9.1; have q2 := q9.2; omega, rfl, by rw [hs3]⟩))
      · refine zz_aload_n hx hb hl 2 dX7_rate_42 rfl rfl ?_
        refine zz_get (T := TX7) (N := 42) (k := 34) (κ := 30) (w := zr ad 74 ((0 : Nat) : Int)) hx hb hts hinX7 hown hK hW2 (zlN (hM 30 rfl)) rfl rfl rfl (by decide) (hts (.fieldLink RX7 96 "HailCityModel" "isRated" "[Z") (by decide +kernel)) (fun _ h9 => h9) rfl dX7_rate_43 ?_
        refine zz_iload_n hx hb hl 3 dX7_rate_46 rfl rfl ?_
        refine zz_zald (w := σ 74 0 a.toNat) hx hb hK hW2 (zlN (hM 74 rfl)) rfl rfl rfl (by show (0 : Int) ≤ a; omega) (by show a < (60 : Int); omega) rfl dX7_rate_47 ?_
        refine zz_if_eq (tgt := 55) hx hb dX7_rate_48 (by decide) (hW0.2.2.1 _ _ _) (fun hc48 => ?_) (fun hc48 => ?_)
        · refine zz_iconst hx hb dX7_rate_55 ?_
          refine zz_callV (T := TX7) (N := 42) (As := [.int (zi 0)]) (rest := []) (v := ((0 : Nat) : Int)) (κ := 30) ⟨hx, hb, hml, hown, hts⟩ (c_X7_refused l G ad A N0 σ hM (0) ⟨by decide, by decide⟩) (cwV 1 hts gX7_rate_X7_refused rfl rfl rfl (by decide +kernel) ⟨Nat.le_of_ble_eq_true rfl, Nat.le_of_ble_eq_true rfl⟩) hK hW2 (zlN (hM 30 rfl)) rfl rfl (Nat.le_trans hsz hS2.1) hS2 rfl hl.1.1 rfl (Nat.le_of_ble_eq_true rfl) dX7_rate_56 ⟨Nat.le_of_ble_eq_true rfl, Nat.le_of_ble_eq_true rfl⟩ (fun x4 σ4 H4 locs4 hp4 hW4 hz4 hS4 => ?_)
          have hs4 : σ4 = zu σ 30 0 0 (0) := hp4.1.symm
          obtain rfl := hp4.2
          refine W.eq (g2 := F0 m 59 ls [.int (zi (zb ((0 : Int) ≠ 0)))]) rfl ?_
          refine zz_if_eqb (tgt := 64) hx hb dX7_rate_59 (by decide) (fun hc59 => ?_) (fun hc59 => ?_)
          · have ea : (a : Int) = ((a.toNat : Nat) : Int) := by omega
            have hwq := hWF.2.2.1 a.toNat (by omega)
            have h70 := hwq.2.2.2.2.2.2.2.1
            have h709 := hwq.2.2.2.2.2.2.2.2.1 (by omega) (by omega)
            obtain ⟨D, hD⟩ : ∃ z, z = (σ 70 0 a.toNat).toNat := ⟨_, rfl⟩
            obtain ⟨K, hK9⟩ : ∃ z, z = (σ 58 0 D).toNat % 10 := ⟨_, rfl⟩
            have hDn : D < nd := by omega
            have hwd := (hWF.2.1 D hDn).2.2.2.2.2.1
            have hl : zh ls 7 [(4, .int (zi (zb (1 ≤ t ∧ t ≤ 5)))), (3, .int (zi (zb (0 ≤ a ∧ a ≤ σ 30 0 23 - 1)))), (0, zr ad 30 ((0 : Nat) : Int)), (1, .int (zi ((a.toNat : Nat) : Int))), (2, .int (zi t))] := by
              rw [← ea]
              exact hl
            refine zz_aload_n hx hb hl 2 dX7_rate_64 rfl rfl ?_
            refine zz_get (T := TX7) (N := 42) (k := 34) (κ := 30) (w := zr ad 74 ((0 : Nat) : Int)) hx hb hts hinX7 hown hK hW4 (zlN (hM 30 rfl)) rfl rfl rfl (by decide) (hts (.fieldLink RX7 96 "HailCityModel" "isRated" "[Z") (by decide +kernel)) (fun _ h9 => h9) rfl dX7_rate_65 ?_
            refine zz_iload_n hx hb hl 3 dX7_rate_68 rfl rfl ?_
            refine zz_iconst hx hb dX7_rate_69 ?_
            refine zz_zast (y := 1) hx hb hK hW4 hS4 (zlN (hM 74 rfl)) rfl rfl rfl (by show (0 : Int) ≤ ((a.toNat : Nat) : Int); omega) (by show ((a.toNat : Nat) : Int) < (60 : Int); omega) (by decide) dX7_rate_70 (fun H5 locs5 hW5' hS5 => ?_)
            obtain ⟨σ5, hs5⟩ : ∃ z, z = zu σ4 74 0 a.toNat 1 := ⟨_, rfl⟩
            have hW5 : ZW G ad A σ5 H5 := by rw [hs5]; exact hW5'
            refine zz_aload_n hx hb hl 2 dX7_rate_71 rfl rfl ?_
            refine zz_get (T := TX7) (N := 42) (k := 30) (κ := 30) (w := zr ad 70 ((0 : Nat) : Int)) hx hb hts hinX7 hown hK hW5 (zlN (hM 30 rfl)) rfl rfl rfl (by decide) (hts (.fieldLink RX7 84 "HailCityModel" "driverOf" "[I") (by decide +kernel)) (fun _ h9 => h9) rfl dX7_rate_72 ?_
            refine zz_iload_n hx hb hl 3 dX7_rate_75 rfl rfl ?_
            refine zz_iald (w := ((D : Nat) : Int)) hx hb hK hW5 (zlN (hM 70 rfl)) rfl rfl rfl (by show (0 : Int) ≤ ((a.toNat : Nat) : Int); omega) (by show ((a.toNat : Nat) : Int) < (60 : Int); omega) (show σ5 70 0 a.toNat = ((D : Nat) : Int) from by rw [hs5, zu_k (by decide), hs4, zu_k (by decide)]; omega) dX7_rate_76 ?_
            refine zz_istore (lv' := [(5, .int (zi ((D : Nat) : Int))), (4, .int (zi (zb (1 ≤ t ∧ t ≤ 5)))), (3, .int (zi (zb (0 ≤ a ∧ a ≤ σ 30 0 23 - 1)))), (0, zr ad 30 ((0 : Nat) : Int)), (1, .int (zi ((a.toNat : Nat) : Int))), (2, .int (zi t))]) hx hb hl dX7_rate_77 (by decide) rfl (fun ls hl => ?_)
            refine zz_aload_n hx hb hl 3 dX7_rate_79 rfl rfl ?_
            refine zz_get (T := TX7) (N := 42) (k := 19) (κ := 30) (w := zr ad 59 ((0 : Nat) : Int)) hx hb hts hinX7 hown hK hW5 (zlN (hM 30 rfl)) rfl rfl rfl (by decide) (hts (.fieldLink RX7 54 "HailCityModel" "stars" "[I") (by decide +kernel)) (fun _ h9 => h9) rfl dX7_rate_80 ?_
            refine zz_bipush hx hb dX7_rate_83 (by decide +kernel) ?_
            refine zz_iload hx hb hl 0 dX7_rate_85 rfl ?_
            refine zz_imul hx hb dX7_rate_87 ?_
            refine zz_aload_n hx hb hl 3 dX7_rate_88 rfl rfl ?_
            refine zz_get (T := TX7) (N := 42) (k := 18) (κ := 30) (w := zr ad 58 ((0 : Nat) : Int)) hx hb hts hinX7 hown hK hW5 (zlN (hM 30 rfl)) rfl rfl rfl (by decide) (hts (.fieldLink RX7 51 "HailCityModel" "ratings" "[I") (by decide +kernel)) (fun _ h9 => h9) rfl dX7_rate_89 ?_
            refine zz_iload hx hb hl 0 dX7_rate_92 rfl ?_
            refine zz_iald (w := (((σ 58 0 D).toNat : Nat) : Int)) hx hb hK hW5 (zlN (hM 58 rfl)) rfl rfl rfl (by show (0 : Int) ≤ ((D : Nat) : Int); omega) (by show ((D : Nat) : Int) < (8 : Int); omega) (show σ5 58 0 D = (((σ 58 0 D).toNat : Nat) : Int) from by rw [hs5, zu_k (by decide), hs4, zu_k (by decide)]; omega) dX7_rate_94 ?_
            refine zz_bipush hx hb dX7_rate_95 (by decide +kernel) ?_
            refine zz_iremw (w := ((K : Nat) : Int)) hx hb (by omega) dX7_rate_97 ⟨by omega, by omega⟩ ⟨by decide, by decide⟩ (by omega) (by decide) ?_
            refine zz_iadd hx hb dX7_rate_98 ?_
            refine zz_iload_n hx hb hl 5 dX7_rate_99 rfl rfl ?_
            refine zz_iast (y := t) hx hb hK hW5 hS5 (zlN (hM 59 rfl)) rfl rfl rfl (by show (0 : Int) ≤ (((10 * D) + K : Nat) : Int); omega) (by show (((10 * D) + K : Nat) : Int) < (80 : Int); omega) gt dX7_rate_100 (fun H6 locs6 hW6' hS6 => ?_)
            obtain ⟨σ6, hs6⟩ : ∃ z, z = zu σ5 59 0 ((10 * D) + K) t := ⟨_, rfl⟩
            have hW6 : ZW G ad A σ6 H6 := by rw [hs6]; exact hW6'
            refine zz_aload_n hx hb hl 3 dX7_rate_101 rfl rfl ?_
            refine zz_get (T := TX7) (N := 42) (k := 18) (κ := 30) (w := zr ad 58 ((0 : Nat) : Int)) hx hb hts hinX7 hown hK hW6 (zlN (hM 30 rfl)) rfl rfl rfl (by decide) (hts (.fieldLink RX7 51 "HailCityModel" "ratings" "[I") (by decide +kernel)) (fun _ h9 => h9) rfl dX7_rate_102 ?_
            refine zz_iload hx hb hl 0 dX7_rate_105 rfl ?_
            refine zz_dup2 hx hb dX7_rate_107 rfl (zr_cat _ _ _) ?_
            refine zz_iald (w := σ 58 0 D) hx hb hK hW6 (zlN (hM 58 rfl)) rfl rfl rfl (by show (0 : Int) ≤ ((D : Nat) : Int); omega) (by show ((D : Nat) : Int) < (8 : Int); omega) (show σ6 58 0 D = σ 58 0 D from by rw [hs6, zu_k (by decide), hs5, zu_k (by decide), hs4, zu_k (by decide)]) dX7_rate_108 ?_
            refine zz_iconst hx hb dX7_rate_109 ?_
            refine zz_iadd hx hb dX7_rate_110 ?_
            refine zz_iast (y := ((σ 58 0 D) + 1)) hx hb hK hW6 hS6 (zlN (hM 58 rfl)) rfl rfl rfl (by show (0 : Int) ≤ ((D : Nat) : Int); omega) (by show ((D : Nat) : Int) < (8 : Int); omega) ⟨by omega, by omega⟩ dX7_rate_111 (fun H7 locs7 hW7' hS7 => ?_)
            obtain ⟨σ7, hs7⟩ : ∃ z, z = zu σ6 58 0 D ((σ 58 0 D) + 1) := ⟨_, rfl⟩
            have hW7 : ZW G ad A σ7 H7 := by rw [hs7]; exact hW7'
            have hv : σ7 = yrv σ a.toNat D K t := by rw [hs7, hs6, hs5, hs4]; rfl
            have hst9 := yrv_st (q := a.toNat) (K := K) (t := t) (by omega : D < 8) (by omega) hwd.2
            have h589 : yrv σ a.toNat D K t 58 0 D = σ 58 0 D + 1 := by unfold yrv; exact zu_same
            have hrg9 := yrt_rg (σ := yrv σ a.toNat D K t) (d := D) (by omega) hst9
            refine zz_aload_n hx hb hl 3 dX7_rate_112 rfl rfl ?_
            refine zz_get (T := TX7) (N := 42) (k := 11) (κ := 30) (w := zr ad 51 ((0 : Nat) : Int)) hx hb hts hinX7 hown hK hW7 (zlN (hM 30 rfl)) rfl rfl rfl (by decide) (hts (.fieldLink RX7 33 "HailCityModel" "isBarred" "[Z") (by decide +kernel)) (fun _ h9 => h9) rfl dX7_rate_113 ?_
            refine zz_iload hx hb hl 0 dX7_rate_116 rfl ?_
            refine zz_zald (w := σ 51 0 D) hx hb hK hW7 (zlN (hM 51 rfl)) rfl rfl rfl (by show (0 : Int) ≤ ((D : Nat) : Int); omega) (by show ((D : Nat) : Int) < (8 : Int); omega) (show σ7 51 0 D = σ 51 0 D from by rw [hs7, zu_k (by decide), hs6, zu_k (by decide), hs5, zu_k (by decide), hs4, zu_k (by decide)]) dX7_rate_118 ?_
            refine zz_istore (lv' := [(6, .int (zi (σ 51 0 D))), (5, .int (zi ((D : Nat) : Int))), (4, .int (zi (zb (1 ≤ t ∧ t ≤ 5)))), (3, .int (zi (zb (0 ≤ a ∧ a ≤ σ 30 0 23 - 1)))), (0, zr ad 30 ((0 : Nat) : Int)), (1, .int (zi ((a.toNat : Nat) : Int))), (2, .int (zi t))]) hx hb hl dX7_rate_119 (by decide) rfl (fun ls hl => ?_)
            refine zz_aload_n hx hb hl 4 dX7_rate_121 rfl rfl ?_
            refine zz_get (T := TX7) (N := 42) (k := 11) (κ := 30) (w := zr ad 51 ((0 : Nat) : Int)) hx hb hts hinX7 hown hK hW7 (zlN (hM 30 rfl)) rfl rfl rfl (by decide) (hts (.fieldLink RX7 33 "HailCityModel" "isBarred" "[Z") (by decide +kernel)) (fun _ h9 => h9) rfl dX7_rate_122 ?_
            refine zz_iload hx hb hl 1 dX7_rate_125 rfl ?_
            refine zz_aload_n hx hb hl 4 dX7_rate_127 rfl rfl ?_
            refine zz_get (T := TX7) (N := 42) (k := 18) (κ := 30) (w := zr ad 58 ((0 : Nat) : Int)) hx hb hts hinX7 hown hK hW7 (zlN (hM 30 rfl)) rfl rfl rfl (by decide) (hts (.fieldLink RX7 51 "HailCityModel" "ratings" "[I") (by decide +kernel)) (fun _ h9 => h9) rfl dX7_rate_128 ?_
            refine zz_iload hx hb hl 1 dX7_rate_131 rfl ?_
            refine zz_iald (w := (σ 58 0 D) + 1) hx hb hK hW7 (zlN (hM 58 rfl)) rfl rfl rfl (by show (0 : Int) ≤ ((D : Nat) : Int); omega) (by show ((D : Nat) : Int) < (8 : Int); omega) (show σ7 58 0 D = (σ 58 0 D) + 1 from by rw [hs7, zu_same]) dX7_rate_133 ?_
            refine zz_iconst hx hb dX7_rate_134 ?_
            refine zz_icmp_lt (tgt := 154) hx hb dX7_rate_135 (by decide) ⟨by omega, by omega⟩ ⟨by decide, by decide⟩ (fun hc135 => ?_) (fun hc135 => ?_)
            · refine zz_iconst hx hb dX7_rate_154 ?_
              refine zz_zast (y := 0) hx hb hK hW7 hS7 (zlN (hM 51 rfl)) rfl rfl rfl (by show (0 : Int) ≤ ((D : Nat) : Int); omega) (by show ((D : Nat) : Int) < (8 : Int); omega) (by decide) dX7_rate_155 (fun H8 locs8 hW8' hS8 => ?_)
              obtain ⟨σ8, hs8⟩ : ∃ z, z = zu σ7 51 0 D 0 := ⟨_, rfl⟩
              have hW8 : ZW G ad A σ8 H8 := by rw [hs8]; exact hW8'
              have hw9 : σ8 = yrw σ a.toNat D K t := by
                unfold yrw
                rw [zb_f (P := 5 ≤ σ 58 0 D + 1 ∧ yrt (yrv σ a.toNat D K t) D < 350) (fun q9 => by have q1 := q9.1; have q2 := q9.2; omega), hs8, hv]
              have h519 : yrw σ a.toNat D K t 51 0 D = 0 := by rw [← hw9, hs8, zu_same]
              have hfr9 : ∀ κ k, κ ≠ 51 → yrw σ a.toNat D K t κ 0 k = yrv σ a.toNat D K t κ 0 k := fun κ k h => zu_ne (by omega)
              refine zz_iload hx hb hl 0 dX7_rate_156 rfl ?_
              refine zz_if_eq (tgt := 177) hx hb dX7_rate_158 (by decide) (hW2.2.2.1 _ _ _) (fun hc158 => ?_) (fun hc158 => ?_)
              · refine zz_aload_n hx hb hl 4 dX7_rate_177 rfl rfl ?_
                refine zz_iload hx hb hl 1 dX7_rate_178 rfl ?_
                refine zz_callV (T := TX7) (N := 42) (As := [.int (zi ((D : Nat) : Int))]) (rest := []) (v := ((0 : Nat) : Int)) (κ := 30) ⟨hx, hb, hml, hown, hts⟩ (c_X7_ratingOf l G ad A N0 σ8 hM D (by omega) (by rw [hw9, hfr9 _ _ (by decide)]; omega) (fun j hj => by rw [hw9, hfr9 _ _ (by decide)]; exact hst9 j hj)) (cwV 1 hts gX7_rate_X7_ratingOf rfl rfl rfl (by decide +kernel) ⟨Nat.le_of_ble_eq_true rfl, Nat.le_of_ble_eq_true rfl⟩) hK hW8 (zlN (hM 30 rfl)) rfl rfl (Nat.le_trans hsz hS8.1) hS8 rfl hl.1.1 rfl (Nat.le_of_ble_eq_true rfl) dX7_rate_180 ⟨Nat.le_of_ble_eq_true rfl, Nat.le_of_ble_eq_true rfl⟩ (fun x9 σ9 H9 locs9 hp9 hW9 hz9 hS9 => ?_)
                refine W.eq (g2 := F0 m 183 ls [.int (zi x9)]) rfl ?_
                refine W.eq (g2 := F0 m 183 ls [.int (zi x9)]) rfl ?_
                refine zz_reti hx hb hr hlocks hW9 hS9 ?_ dX7_rate_183
                obtain ⟨hu9, hr9⟩ := hp9
                refine Or.inr (Or.inr (Or.inr ⟨hc16, hc25, ⟨by omega, by omega⟩, by rw [← hu9, ← hD]; exact hr9, ?_⟩))
                rw [← hu9, ← hD, ← hK9]
                unfold yra
                first
                  | (rw [if_neg (fun q9 => by have q1 := q9.1; have q2 := q9.2; omega)]; exact hw9)
                  | (rw [if_pos ⟨by omega, by omega⟩, ← hw9]; exact (hp8).symm)
              · refine zz_aload_n hx hb hl 4 dX7_rate_161 rfl rfl ?_
                refine zz_get (T := TX7) (N := 42) (k := 11) (κ := 30) (w := zr ad 51 ((0 : Nat) : Int)) hx hb hts hinX7 hown hK hW8 (zlN (hM 30 rfl)) rfl rfl rfl (by decide) (hts (.fieldLink RX7 33 "HailCityModel" "isBarred" "[Z") (by decide +kernel)) (fun _ h9 => h9) rfl dX7_rate_162 ?_
                refine zz_iload hx hb hl 1 dX7_rate_165 rfl ?_
                refine zz_zald (w := 0) hx hb hK hW8 (zlN (hM 51 rfl)) rfl rfl rfl (by show (0 : Int) ≤ ((D : Nat) : Int); omega) (by show ((D : Nat) : Int) < (8 : Int); omega) (show σ8 51 0 D = 0 from by rw [hs8, zu_same]) dX7_rate_167 ?_
                refine zz_if_ne (tgt := 177) hx hb dX7_rate_168 (by decide) ⟨by decide, by decide⟩ (fun hc168 => ?_) (fun hc168 => ?_)
                · exact absurd rfl hc168
                · refine zz_aload_n hx hb hl 4 dX7_rate_171 rfl rfl ?_
                  refine zz_iload hx hb hl 1 dX7_rate_172 rfl ?_
                  refine zz_callV (T := TX7) (N := 42) (As := [.int (zi ((D : Nat) : Int))]) (rest := []) (v := ((0 : Nat) : Int)) (κ := 30) ⟨hx, hb, hml, hown, hts⟩ (c_X7_becomesFree l G ad A N0 σ8 hM D (by omega) (by rw [hw9, hfr9 _ _ (by decide)]; unfold yrv; rw [zu_ne (by omega), zu_ne (by omega), zu_ne (by omega), zu_ne (by omega)]; omega)) (cwV 1 hts gX7_rate_X7_becomesFree rfl rfl rfl (by decide +kernel) ⟨Nat.le_of_ble_eq_true rfl, Nat.le_of_ble_eq_true rfl⟩) hK hW8 (zlN (hM 30 rfl)) rfl rfl (Nat.le_trans hsz hS8.1) hS8 rfl hl.1.1 rfl (Nat.le_of_ble_eq_true rfl) dX7_rate_174 ⟨Nat.le_of_ble_eq_true rfl, Nat.le_of_ble_eq_true rfl⟩ (fun x10 σ10 H10 locs10 hp10 hW10 hz10 hS10 => ?_)
                  refine W.eq (g2 := F0 m 177 ls []) rfl ?_
                  refine zz_aload_n hx hb hl 4 dX7_rate_177 rfl rfl ?_
                  refine zz_iload hx hb hl 1 dX7_rate_178 rfl ?_
                  refine zz_callV (T := TX7) (N := 42) (As := [.int (zi ((D : Nat) : Int))]) (rest := []) (v := ((0 : Nat) : Int)) (κ := 30) ⟨hx, hb, hml, hown, hts⟩ (c_X7_ratingOf l G ad A N0 σ10 hM D (by omega) (by rw [← hp10, hw9, ybf_56 (by omega), hfr9 _ _ (by decide)]; omega) (fun j hj => by rw [← hp10, hw9, ybf_56 (by omega), hfr9 _ _ (by decide)]; exact hst9 j hj)) (cwV 1 hts gX7_rate_X7_ratingOf rfl rfl rfl (by decide +kernel) ⟨Nat.le_of_ble_eq_true rfl, Nat.le_of_ble_eq_true rfl⟩) hK hW10 (zlN (hM 30 rfl)) rfl rfl (Nat.le_trans hsz hS10.1) hS10 rfl hl.1.1 rfl (Nat.le_of_ble_eq_true rfl) dX7_rate_180 ⟨Nat.le_of_ble_eq_true rfl, Nat.le_of_ble_eq_true rfl⟩ (fun x11 σ11 H11 locs11 hp11 hW11 hz11 hS11 => ?_)
                  refine W.eq (g2 := F0 m 183 ls [.int (zi x11)]) rfl ?_
                  refine W.eq (g2 := F0 m 183 ls [.int (zi x11)]) rfl ?_
                  refine zz_reti hx hb hr hlocks hW11 hS11 ?_ dX7_rate_183
                  obtain ⟨hu9, hr9⟩ := hp11
                  refine Or.inr (Or.inr (Or.inr ⟨hc16, hc25, ⟨by omega, by omega⟩, by rw [← hu9, ← hD]; exact hr9, ?_⟩))
                  rw [← hu9, ← hD, ← hK9]
                  unfold yra
                  first
                    | (rw [if_neg (fun q9 => by have q1 := q9.1; have q2 := q9.2; omega)]; exact hw9)
                    | (rw [if_pos ⟨by omega, by omega⟩, ← hw9]; exact (hp10).symm)
            · refine zz_aload_n hx hb hl 4 dX7_rate_138 rfl rfl ?_
              refine zz_iload hx hb hl 1 dX7_rate_139 rfl ?_
              refine zz_callV (T := TX7) (N := 42) (As := [.int (zi ((D : Nat) : Int))]) (rest := [.int (zi ((D : Nat) : Int)), zr ad 51 ((0 : Nat) : Int)]) (v := ((0 : Nat) : Int)) (κ := 30) ⟨hx, hb, hml, hown, hts⟩ (c_X7_ratingOf l G ad A N0 σ7 hM D (by omega) (by rw [hv]; omega) (by rw [hv]; exact hst9)) (cwV 1 hts gX7_rate_X7_ratingOf rfl rfl rfl (by decide +kernel) ⟨Nat.le_of_ble_eq_true rfl, Nat.le_of_ble_eq_true rfl⟩) hK hW7 (zlN (hM 30 rfl)) rfl rfl (Nat.le_trans hsz hS7.1) hS7 rfl hl.1.1 rfl (by simp [zr_cat, zcat_i]) dX7_rate_141 ⟨Nat.le_of_ble_eq_true rfl, Nat.le_of_ble_eq_true rfl⟩ (fun x12 σ12 H12 locs12 hp12 hW12 hz12 hS12 => ?_)
              obtain ⟨rfl, hx9⟩ := hp12
              rw [hv] at hx9
              obtain rfl := hx9
              refine W.eq (g2 := F0 m 144 ls [.int (zi (yrt (yrv σ a.toNat D K t) D)), .int (zi ((D : Nat) : Int)), zr ad 51 ((0 : Nat) : Int)]) rfl ?_
              refine zz_sipush hx hb dX7_rate_144 (by decide +kernel) ?_
              refine zz_icmp_ge (tgt := 154) hx hb dX7_rate_147 (by decide) ⟨by omega, by omega⟩ ⟨by decide, by decide⟩ (fun hc147 => ?_) (fun hc147 => ?_)
              · refine zz_iconst hx hb dX7_rate_154 ?_
                refine zz_zast (y := 0) hx hb hK hW12 hS12 (zlN (hM 51 rfl)) rfl rfl rfl (by show (0 : Int) ≤ ((D : Nat) : Int); omega) (by show ((D : Nat) : Int) < (8 : Int); omega) (by decide) dX7_rate_155 (fun H13 locs13 hW13' hS13 => ?_)
                obtain ⟨σ13, hs13⟩ : ∃ z, z = zu σ7 51 0 D 0 := ⟨_, rfl⟩
                have hW13 : ZW G ad A σ13 H13 := by rw [hs13]; exact hW13'
                have hw9 : σ13 = yrw σ a.toNat D K t := by
                  unfold yrw
                  rw [zb_f (P := 5 ≤ σ 58 0 D + 1 ∧ yrt (yrv σ a.toNat D K t) D < 350) (fun q9 => by have q1 := q9.1; have q2 := q9.2; omega), hs13, hv]
                have h519 : yrw σ a.toNat D K t 51 0 D = 0 := by rw [← hw9, hs13, zu_same]
                have hfr9 : ∀ κ k, κ ≠ 51 → yrw σ a.toNat D K t κ 0 k = yrv σ a.toNat D K t κ 0 k := fun κ k h => zu_ne (by omega)
                refine zz_iload hx hb hl 0 dX7_rate_156 rfl ?_
                refine zz_if_eq (tgt := 177) hx hb dX7_rate_158 (by decide) (hW2.2.2.1 _ _ _) (fun hc158 => ?_) (fun hc158 => ?_)
                · refine zz_aload_n hx hb hl 4 dX7_rate_177 rfl rfl ?_
                  refine zz_iload hx hb hl 1 dX7_rate_178 rfl ?_
                  refine zz_callV (T := TX7) (N := 42) (As := [.int (zi ((D : Nat) : Int))]) (rest := []) (v := ((0 : Nat) : Int)) (κ := 30) ⟨hx, hb, hml, hown, hts⟩ (c_X7_ratingOf l G ad A N0 σ13 hM D (by omega) (by rw [hw9, hfr9 _ _ (by decide)]; omega) (fun j hj => by rw [hw9, hfr9 _ _ (by decide)]; exact hst9 j hj)) (cwV 1 hts gX7_rate_X7_ratingOf rfl rfl rfl (by decide +kernel) ⟨Nat.le_of_ble_eq_true rfl, Nat.le_of_ble_eq_true rfl⟩) hK hW13 (zlN (hM 30 rfl)) rfl rfl (Nat.le_trans hsz hS13.1) hS13 rfl hl.1.1 rfl (Nat.le_of_ble_eq_true rfl) dX7_rate_180 ⟨Nat.le_of_ble_eq_true rfl, Nat.le_of_ble_eq_true rfl⟩ (fun x14 σ14 H14 locs14 hp14 hW14 hz14 hS14 => ?_)
                  refine W.eq (g2 := F0 m 183 ls [.int (zi x14)]) rfl ?_
                  refine W.eq (g2 := F0 m 183 ls [.int (zi x14)]) rfl ?_
                  refine zz_reti hx hb hr hlocks hW14 hS14 ?_ dX7_rate_183
                  obtain ⟨hu9, hr9⟩ := hp14
                  refine Or.inr (Or.inr (Or.inr ⟨hc16, hc25, ⟨by omega, by omega⟩, by rw [← hu9, ← hD]; exact hr9, ?_⟩))
                  rw [← hu9, ← hD, ← hK9]
                  unfold yra
                  first
                    | (rw [if_neg (fun q9 => by have q1 := q9.1; have q2 := q9.2; omega)]; exact hw9)
                    | (rw [if_pos ⟨by omega, by omega⟩, ← hw9]; exact (hp13).symm)
                · refine zz_aload_n hx hb hl 4 dX7_rate_161 rfl rfl ?_
                  refine zz_get (T := TX7) (N := 42) (k := 11) (κ := 30) (w := zr ad 51 ((0 : Nat) : Int)) hx hb hts hinX7 hown hK hW13 (zlN (hM 30 rfl)) rfl rfl rfl (by decide) (hts (.fieldLink RX7 33 "HailCityModel" "isBarred" "[Z") (by decide +kernel)) (fun _ h9 => h9) rfl dX7_rate_162 ?_
                  refine zz_iload hx hb hl 1 dX7_rate_165 rfl ?_
                  refine zz_zald (w := 0) hx hb hK hW13 (zlN (hM 51 rfl)) rfl rfl rfl (by show (0 : Int) ≤ ((D : Nat) : Int); omega) (by show ((D : Nat) : Int) < (8 : Int); omega) (show σ13 51 0 D = 0 from by rw [hs13, zu_same]) dX7_rate_167 ?_
                  refine zz_if_ne (tgt := 177) hx hb dX7_rate_168 (by decide) ⟨by decide, by decide⟩ (fun hc168 => ?_) (fun hc168 => ?_)
                  · exact absurd rfl hc168
                  · refine zz_aload_n hx hb hl 4 dX7_rate_171 rfl rfl ?_
                    refine zz_iload hx hb hl 1 dX7_rate_172 rfl ?_
                    refine zz_callV (T := TX7) (N := 42) (As := [.int (zi ((D : Nat) : Int))]) (rest := []) (v := ((0 : Nat) : Int)) (κ := 30) ⟨hx, hb, hml, hown, hts⟩ (c_X7_becomesFree l G ad A N0 σ13 hM D (by omega) (by rw [hw9, hfr9 _ _ (by decide)]; unfold yrv; rw [zu_ne (by omega), zu_ne (by omega), zu_ne (by omega), zu_ne (by omega)]; omega)) (cwV 1 hts gX7_rate_X7_becomesFree rfl rfl rfl (by decide +kernel) ⟨Nat.le_of_ble_eq_true rfl, Nat.le_of_ble_eq_true rfl⟩) hK hW13 (zlN (hM 30 rfl)) rfl rfl (Nat.le_trans hsz hS13.1) hS13 rfl hl.1.1 rfl (Nat.le_of_ble_eq_true rfl) dX7_rate_174 ⟨Nat.le_of_ble_eq_true rfl, Nat.le_of_ble_eq_true rfl⟩ (fun x15 σ15 H15 locs15 hp15 hW15 hz15 hS15 => ?_)
                    refine W.eq (g2 := F0 m 177 ls []) rfl ?_
                    refine zz_aload_n hx hb hl 4 dX7_rate_177 rfl rfl ?_
                    refine zz_iload hx hb hl 1 dX7_rate_178 rfl ?_
                    refine zz_callV (T := TX7) (N := 42) (As := [.int (zi ((D : Nat) : Int))]) (rest := []) (v := ((0 : Nat) : Int)) (κ := 30) ⟨hx, hb, hml, hown, hts⟩ (c_X7_ratingOf l G ad A N0 σ15 hM D (by omega) (by rw [← hp15, hw9, ybf_56 (by omega), hfr9 _ _ (by decide)]; omega) (fun j hj => by rw [← hp15, hw9, ybf_56 (by omega), hfr9 _ _ (by decide)]; exact hst9 j hj)) (cwV 1 hts gX7_rate_X7_ratingOf rfl rfl rfl (by decide +kernel) ⟨Nat.le_of_ble_eq_true rfl, Nat.le_of_ble_eq_true rfl⟩) hK hW15 (zlN (hM 30 rfl)) rfl rfl (Nat.le_trans hsz hS15.1) hS15 rfl hl.1.1 rfl (Nat.le_of_ble_eq_true rfl) dX7_rate_180 ⟨Nat.le_of_ble_eq_true rfl, Nat.le_of_ble_eq_true rfl⟩ (fun x16 σ16 H16 locs16 hp16 hW16 hz16 hS16 => ?_)
                    refine W.eq (g2 := F0 m 183 ls [.int (zi x16)]) rfl ?_
                    refine W.eq (g2 := F0 m 183 ls [.int (zi x16)]) rfl ?_
                    refine zz_reti hx hb hr hlocks hW16 hS16 ?_ dX7_rate_183
                    obtain ⟨hu9, hr9⟩ := hp16
                    refine Or.inr (Or.inr (Or.inr ⟨hc16, hc25, ⟨by omega, by omega⟩, by rw [← hu9, ← hD]; exact hr9, ?_⟩))
                    rw [← hu9, ← hD, ← hK9]
                    unfold yra
                    first
                      | (rw [if_neg (fun q9 => by have q1 := q9.1; have q2 := q9.2; omega)]; exact hw9)
                      | (rw [if_pos ⟨by omega, by omega⟩, ← hw9]; exact (hp15).symm)
              · refine zz_iconst hx hb dX7_rate_150 ?_
                refine zz_goto (tgt := 155) hx hb dX7_rate_151 (by decide) ?_
                refine zz_zast (y := 1) hx hb hK hW12 hS12 (zlN (hM 51 rfl)) rfl rfl rfl (by show (0 : Int) ≤ ((D : Nat) : Int); omega) (by show ((D : Nat) : Int) < (8 : Int); omega) (by decide) dX7_rate_155 (fun H17 locs17 hW17' hS17 => ?_)
                obtain ⟨σ17, hs17⟩ : ∃ z, z = zu σ7 51 0 D 1 := ⟨_, rfl⟩
                have hW17 : ZW G ad A σ17 H17 := by rw [hs17]; exact hW17'
                have hw9 : σ17 = yrw σ a.toNat D K t := by
                  unfold yrw
                  rw [zb_t (P := 5 ≤ σ 58 0 D + 1 ∧ yrt (yrv σ a.toNat D K t) D < 350) ⟨by omega, by omega⟩, hs17, hv]
                have h519 : yrw σ a.toNat D K t 51 0 D = 1 := by rw [← hw9, hs17, zu_same]
                have hfr9 : ∀ κ k, κ ≠ 51 → yrw σ a.toNat D K t κ 0 k = yrv σ a.toNat D K t κ 0 k := fun κ k h => zu_ne (by omega)
                refine zz_iload hx hb hl 0 dX7_rate_156 rfl ?_
                refine zz_if_eq (tgt := 177) hx hb dX7_rate_158 (by decide) (hW2.2.2.1 _ _ _) (fun hc158 => ?_) (fun hc158 => ?_)
                · refine zz_aload_n hx hb hl 4 dX7_rate_177 rfl rfl ?_
                  refine zz_iload hx hb hl 1 dX7_rate_178 rfl ?_
                  refine zz_callV (T := TX7) (N := 42) (As := [.int (zi ((D : Nat) : Int))]) (rest := []) (v := ((0 : Nat) : Int)) (κ := 30) ⟨hx, hb, hml, hown, hts⟩ (c_X7_ratingOf l G ad A N0 σ17 hM D (by omega) (by rw [hw9, hfr9 _ _ (by decide)]; omega) (fun j hj => by rw [hw9, hfr9 _ _ (by decide)]; exact hst9 j hj)) (cwV 1 hts gX7_rate_X7_ratingOf rfl rfl rfl (by decide +kernel) ⟨Nat.le_of_ble_eq_true rfl, Nat.le_of_ble_eq_true rfl⟩) hK hW17 (zlN (hM 30 rfl)) rfl rfl (Nat.le_trans hsz hS17.1) hS17 rfl hl.1.1 rfl (Nat.le_of_ble_eq_true rfl) dX7_rate_180 ⟨Nat.le_of_ble_eq_true rfl, Nat.le_of_ble_eq_true rfl⟩ (fun x18 σ18 H18 locs18 hp18 hW18 hz18 hS18 => ?_)
                  refine W.eq (g2 := F0 m 183 ls [.int (zi x18)]) rfl ?_
                  refine W.eq (g2 := F0 m 183 ls [.int (zi x18)]) rfl ?_
                  refine zz_reti hx hb hr hlocks hW18 hS18 ?_ dX7_rate_183
                  obtain ⟨hu9, hr9⟩ := hp18
                  refine Or.inr (Or.inr (Or.inr ⟨hc16, hc25, ⟨by omega, by omega⟩, by rw [← hu9, ← hD]; exact hr9, ?_⟩))
                  rw [← hu9, ← hD, ← hK9]
                  unfold yra
                  first
                    | (rw [if_neg (fun q9 => by have q1 := q9.1; have q2 := q9.2; omega)]; exact hw9)
                    | (rw [if_pos ⟨by omega, by omega⟩, ← hw9]; exact (hp17).symm)
                · refine zz_aload_n hx hb hl 4 dX7_rate_161 rfl rfl ?_
                  refine zz_get (T := TX7) (N := 42) (k := 11) (κ := 30) (w := zr ad 51 ((0 : Nat) : Int)) hx hb hts hinX7 hown hK hW17 (zlN (hM 30 rfl)) rfl rfl rfl (by decide) (hts (.fieldLink RX7 33 "HailCityModel" "isBarred" "[Z") (by decide +kernel)) (fun _ h9 => h9) rfl dX7_rate_162 ?_
                  refine zz_iload hx hb hl 1 dX7_rate_165 rfl ?_
                  refine zz_zald (w := 1) hx hb hK hW17 (zlN (hM 51 rfl)) rfl rfl rfl (by show (0 : Int) ≤ ((D : Nat) : Int); omega) (by show ((D : Nat) : Int) < (8 : Int); omega) (show σ17 51 0 D = 1 from by rw [hs17, zu_same]) dX7_rate_167 ?_
                  refine zz_if_ne (tgt := 177) hx hb dX7_rate_168 (by decide) ⟨by decide, by decide⟩ (fun hc168 => ?_) (fun hc168 => ?_)
                  · refine zz_aload_n hx hb hl 4 dX7_rate_177 rfl rfl ?_
                    refine zz_iload hx hb hl 1 dX7_rate_178 rfl ?_
                    refine zz_callV (T := TX7) (N := 42) (As := [.int (zi ((D : Nat) : Int))]) (rest := []) (v := ((0 : Nat) : Int)) (κ := 30) ⟨hx, hb, hml, hown, hts⟩ (c_X7_ratingOf l G ad A N0 σ17 hM D (by omega) (by rw [hw9, hfr9 _ _ (by decide)]; omega) (fun j hj => by rw [hw9, hfr9 _ _ (by decide)]; exact hst9 j hj)) (cwV 1 hts gX7_rate_X7_ratingOf rfl rfl rfl (by decide +kernel) ⟨Nat.le_of_ble_eq_true rfl, Nat.le_of_ble_eq_true rfl⟩) hK hW17 (zlN (hM 30 rfl)) rfl rfl (Nat.le_trans hsz hS17.1) hS17 rfl hl.1.1 rfl (Nat.le_of_ble_eq_true rfl) dX7_rate_180 ⟨Nat.le_of_ble_eq_true rfl, Nat.le_of_ble_eq_true rfl⟩ (fun x19 σ19 H19 locs19 hp19 hW19 hz19 hS19 => ?_)
                    refine W.eq (g2 := F0 m 183 ls [.int (zi x19)]) rfl ?_
                    refine W.eq (g2 := F0 m 183 ls [.int (zi x19)]) rfl ?_
                    refine zz_reti hx hb hr hlocks hW19 hS19 ?_ dX7_rate_183
                    obtain ⟨hu9, hr9⟩ := hp19
                    refine Or.inr (Or.inr (Or.inr ⟨hc16, hc25, ⟨by omega, by omega⟩, by rw [← hu9, ← hD]; exact hr9, ?_⟩))
                    rw [← hu9, ← hD, ← hK9]
                    unfold yra
                    first
                      | (rw [if_neg (fun q9 => by have q1 := q9.1; have q2 := q9.2; omega)]; exact hw9)
                      | (rw [if_pos ⟨by omega, by omega⟩, ← hw9]; exact (hp18).symm)
                  · exact absurd hc168 (by decide)
          · exact absurd rfl hc59
        · refine zz_iconst hx hb dX7_rate_51 ?_
          refine zz_goto (tgt := 56) hx hb dX7_rate_52 (by decide) ?_
          refine zz_callV (T := TX7) (N := 42) (As := [.int (zi 3)]) (rest := []) (v := ((0 : Nat) : Int)) (κ := 30) ⟨hx, hb, hml, hown, hts⟩ (c_X7_refused l G ad A N0 σ hM (3) ⟨by decide, by decide⟩) (cwV 1 hts gX7_rate_X7_refused rfl rfl rfl (by decide +kernel) ⟨Nat.le_of_ble_eq_true rfl, Nat.le_of_ble_eq_true rfl⟩) hK hW2 (zlN (hM 30 rfl)) rfl rfl (Nat.le_trans hsz hS2.1) hS2 rfl hl.1.1 rfl (Nat.le_of_ble_eq_true rfl) dX7_rate_56 ⟨Nat.le_of_ble_eq_true rfl, Nat.le_of_ble_eq_true rfl⟩ (fun x20 σ20 H20 locs20 hp20 hW20 hz20 hS20 => ?_)
          have hs20 : σ20 = zu σ 30 0 0 (3) := hp20.1.symm
          obtain rfl := hp20.2
          refine W.eq (g2 := F0 m 59 ls [.int (zi (zb ((3 : Int) ≠ 0)))]) rfl ?_
          refine zz_if_eqb (tgt := 64) hx hb dX7_rate_59 (by decide) (fun hc59 => ?_) (fun hc59 => ?_)
          · exact absurd (by decide) hc59
          · refine zz_iconst hx hb dX7_rate_62 ?_
            refine W.eq (g2 := F0 m 63 ls [.int (zi 0)]) rfl ?_
            refine zz_reti hx hb hr hlocks hW20 hS20 ?_ dX7_rate_63
            exact Or.inr (Or.inr (Or.inl ⟨hc16, hc25, fun q9 => by have q1 := q9.1; have q2 := q9.2; omega, rfl, by rw [hs20]⟩))
    · refine zz_iconst hx hb dX7_rate_28 ?_
      refine zz_goto (tgt := 56) hx hb dX7_rate_29 (by decide) ?_
      refine zz_callV (T := TX7) (N := 42) (As := [.int (zi 2)]) (rest := []) (v := ((0 : Nat) : Int)) (κ := 30) ⟨hx, hb, hml, hown, hts⟩ (c_X7_refused l G ad A N0 σ hM (2) ⟨by decide, by decide⟩) (cwV 1 hts gX7_rate_X7_refused rfl rfl rfl (by decide +kernel) ⟨Nat.le_of_ble_eq_true rfl, Nat.le_of_ble_eq_true rfl⟩) hK hW2 (zlN (hM 30 rfl)) rfl rfl (Nat.le_trans hsz hS2.1) hS2 rfl hl.1.1 rfl (Nat.le_of_ble_eq_true rfl) dX7_rate_56 ⟨Nat.le_of_ble_eq_true rfl, Nat.le_of_ble_eq_true rfl⟩ (fun x21 σ21 H21 locs21 hp21 hW21 hz21 hS21 => ?_)
      have hs21 : σ21 = zu σ 30 0 0 (2) := hp21.1.symm
      obtain rfl := hp21.2
      refine W.eq (g2 := F0 m 59 ls [.int (zi (zb ((2 : Int) ≠ 0)))]) rfl ?_
      refine zz_if_eqb (tgt := 64) hx hb dX7_rate_59 (by decide) (fun hc59 => ?_) (fun hc59 => ?_)
      · exact absurd (by decide) hc59
      · refine zz_iconst hx hb dX7_rate_62 ?_
        refine W.eq (g2 := F0 m 63 ls [.int (zi 0)]) rfl ?_
        refine zz_reti hx hb hr hlocks hW21 hS21 ?_ dX7_rate_63
        exact Or.inr (Or.inl ⟨hc16, hc25, rfl, by rw [hs21]⟩)
  · refine zz_iconst hx hb dX7_rate_19 ?_
    refine zz_goto (tgt := 56) hx hb dX7_rate_20 (by decide) ?_
    refine zz_callV (T := TX7) (N := 42) (As := [.int (zi 1)]) (rest := []) (v := ((0 : Nat) : Int)) (κ := 30) ⟨hx, hb, hml, hown, hts⟩ (c_X7_refused l G ad A N0 σ hM (1) ⟨by decide, by decide⟩) (cwV 1 hts gX7_rate_X7_refused rfl rfl rfl (by decide +kernel) ⟨Nat.le_of_ble_eq_true rfl, Nat.le_of_ble_eq_true rfl⟩) hK hW2 (zlN (hM 30 rfl)) rfl rfl (Nat.le_trans hsz hS2.1) hS2 rfl hl.1.1 rfl (Nat.le_of_ble_eq_true rfl) dX7_rate_56 ⟨Nat.le_of_ble_eq_true rfl, Nat.le_of_ble_eq_true rfl⟩ (fun x22 σ22 H22 locs22 hp22 hW22 hz22 hS22 => ?_)
    have hs22 : σ22 = zu σ 30 0 0 (1) := hp22.1.symm
    obtain rfl := hp22.2
    refine W.eq (g2 := F0 m 59 ls [.int (zi (zb ((1 : Int) ≠ 0)))]) rfl ?_
    refine zz_if_eqb (tgt := 64) hx hb dX7_rate_59 (by decide) (fun hc59 => ?_) (fun hc59 => ?_)
    · exact absurd (by decide) hc59
    · refine zz_iconst hx hb dX7_rate_62 ?_
      refine W.eq (g2 := F0 m 63 ls [.int (zi 0)]) rfl ?_
      refine zz_reti hx hb hr hlocks hW22 hS22 ?_ dX7_rate_63
      exact Or.inl ⟨hc16, rfl, by rw [hs22]⟩
