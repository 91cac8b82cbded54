/-! the checks of HailCity, which throw -/
theorem zw_widen {p : Program} {l : Launch} {e : Env} {R : Room} {s : State} {m : MethodId} {args : Array Value} {below : List Frame} {meth : Method} {c : Code} {H : Heap} {locs : List Loc} {cells slots : Nat} {Q : State → Prop} {g : JFrame} {k n : Nat} (h1 : cells ≤ k) (h2 : slots ≤ n) (kk : W p l e R s m args below meth c H locs k n Q g) : W p l e R s m args below meth c H locs cells slots Q g := fun T hT X => kk T hT (stand_widen X h1 h2)

set_option maxHeartbeats 4000000 in
set_option maxRecDepth 100000 in
theorem c_X6_checkPlace (l : Launch) (hst : l.stackTraces = false) (G : zG) (ad : zA) (A : Nat → Prop) (N0 : Nat) (σ : zS) (a : Int) (ga : zg a) : vx_Met l yX6_checkPlace wsX6_checkPlace ({ frames := 6, cells := 1, slots := 6, locals := 200 }) (zPx G ad A N0 σ [.int (zi a)]) (zQ G ad A zrv (fun _ u => σ = u ∧ (0 ≤ a ∧ a < 10))) (zXC G ad A (fun E u => E = "java/lang/IndexOutOfBoundsException" ∧ σ = u ∧ ¬ (0 ≤ a ∧ a < 10))) 1 6 A := by
  refine zx_of (cc := cX6_checkPlace) (maxL := 1) (ret := none) (by decide) rfl (List.forall_mem_cons.mpr ⟨rfl, fun _ h => absurd h List.not_mem_nil⟩) (Nat.le_of_ble_eq_true rfl) ?_
  intro p e s m below meth c hx hb hr hml hts hown hlocks hout hsz hW0 hK hE ls hl
  have hS0 : va_S A s.heap s.heap [] := va_S.rf
  have hl : zh ls 1 [(0, .int (zi a))] := hl
  refine zz_iload_n hx hb hl 0 dX6_checkPlace_0 rfl rfl ?_
  refine zz_callS (As := [.int (zi a)]) (rest := []) ⟨hx, hb, hml, hown, hts⟩ (c_X0_isPlace l G ad A N0 σ a ga) (va_cwS 1 hts gX6_checkPlace_X0_isPlace rfl rfl rfl (by decide +kernel) ⟨Nat.le_of_ble_eq_true rfl, Nat.le_of_ble_eq_true rfl⟩) hK hW0 (Nat.le_trans hsz hS0.1) hS0 rfl hl.1.1 rfl (Nat.le_of_ble_eq_true rfl) dX6_checkPlace_1 ⟨Nat.le_of_ble_eq_true rfl, Nat.le_of_ble_eq_true rfl⟩ (fun x1 σ1 H1 locs1 hp1 hW1 hz1 hS1 => ?_)
  obtain ⟨rfl, rfl⟩ := hp1
  refine W.eq (g2 := F0 m 4 ls [.int (zi (zb (0 ≤ a ∧ a < 10)))]) rfl ?_
  refine zz_if_neb (tgt := 18) hx hb dX6_checkPlace_4 (by decide) (fun hc4 => ?_) (fun hc4 => ?_)
  · refine W.eq (g2 := F0 m 18 ls []) rfl ?_
    refine zw_widen (k := 1) (n := 6) (Nat.le_of_ble_eq_true rfl) (Nat.le_of_ble_eq_true rfl) (vx_ret ?_)
    refine zz_retv hx hb hr hlocks hW1 hS1 ?_ dX6_checkPlace_18
    exact ⟨rfl, hc4⟩
  · refine zx_throwW (ik := 75) (is := 273) (ic := 79) (cls := "java/lang/IndexOutOfBoundsException") (text := "no such place") (rest := []) ⟨hx, hb, hml, hown, hts⟩ hst hlocks hout hE hW1 hS1 (by decide +kernel) (by decide) (by decide +kernel) (by decide +kernel) (by decide +kernel) zat0 zot0 (by decide) hl.1.1 dX6_checkPlace_7 dX6_checkPlace_10 dX6_checkPlace_11 dX6_checkPlace_14 dX6_checkPlace_17 ⟨Nat.le_of_ble_eq_true rfl, (Nat.le_of_ble_eq_true rfl), Nat.le_of_ble_eq_true rfl, Nat.le_of_ble_eq_true rfl⟩ (Nat.le_of_ble_eq_true rfl) (Nat.le_of_ble_eq_true rfl) ?_
    exact ⟨rfl, rfl, hc4⟩

set_option maxHeartbeats 4000000 in
set_option maxRecDepth 100000 in
theorem c_X6_checkRange (l : Launch) (hst : l.stackTraces = false) (G : zG) (ad : zA) (A : Nat → Prop) (N0 : Nat) (σ : zS) (a lo hi : Int) (ga : zg a) (glo : zg lo) (ghi : zg hi) : vx_Met l yX6_checkRange wsX6_checkRange ({ frames := 6, cells := 1, slots := 6, locals := 200 }) (zPx G ad A N0 σ [.int (zi a), .int (zi lo), .int (zi hi)]) (zQ G ad A zrv (fun _ u => σ = u ∧ (lo ≤ a ∧ a ≤ hi))) (zXC G ad A (fun E u => E = "java/lang/IllegalArgumentException" ∧ σ = u ∧ ¬ (lo ≤ a ∧ a ≤ hi))) 1 6 A := by
  refine zx_of (cc := cX6_checkRange) (maxL := 3) (ret := none) (by decide) rfl (List.forall_mem_cons.mpr ⟨rfl, List.forall_mem_cons.mpr ⟨rfl, List.forall_mem_cons.mpr ⟨rfl, fun _ h => absurd h List.not_mem_nil⟩⟩⟩) (Nat.le_of_ble_eq_true rfl) ?_
  intro p e s m below meth c hx hb hr hml hts hown hlocks hout hsz hW0 hK hE ls hl
  have hS0 : va_S A s.heap s.heap [] := va_S.rf
  have hl : zh ls 3 [(0, .int (zi a)), (1, .int (zi lo)), (2, .int (zi hi))] := hl
  have hcut10 : ∀  (H9 : Heap) (locs9 : List Loc) (ls : Array Slot), (¬ (lo ≤ a ∧ a ≤ hi)) → ZW G ad A σ H9 → va_S A s.heap H9 locs9 → zh ls 3 [(0, .int (zi a)), (1, .int (zi lo)), (2, .int (zi hi))] → W p l e ({ frames := 6, cells := 1, slots := 6, locals := 200 }) s m ([.int (zi a), .int (zi lo), .int (zi hi)] : List Value).toArray below meth c H9 locs9 0 0 (vx_MQ below (zQ G ad A zrv (fun _ u => σ = u ∧ (lo ≤ a ∧ a ≤ hi))) (zXC G ad A (fun E u => E = "java/lang/IllegalArgumentException" ∧ σ = u ∧ ¬ (lo ≤ a ∧ a ≤ hi))) ([.int (zi a), .int (zi lo), .int (zi hi)] : List Value).toArray s 1 6 A) (F0 m 10 ls []) := by
    intro  H1 locs1 ls hI10 hW1 hS1 hl
    refine zx_throwW (ik := 52) (is := 275) (ic := 56) (cls := "java/lang/IllegalArgumentException") (text := "out of range") (rest := []) ⟨hx, hb, hml, hown, hts⟩ hst hlocks hout hE hW1 hS1 (by decide +kernel) (by decide) (by decide +kernel) (by decide +kernel) (by decide +kernel) zat1 zot1 (by decide) hl.1.1 dX6_checkRange_10 dX6_checkRange_13 dX6_checkRange_14 dX6_checkRange_17 dX6_checkRange_20 ⟨Nat.le_of_ble_eq_true rfl, (Nat.le_of_ble_eq_true rfl), Nat.le_of_ble_eq_true rfl, Nat.le_of_ble_eq_true rfl⟩ (Nat.le_of_ble_eq_true rfl) (Nat.le_of_ble_eq_true rfl) ?_
    exact ⟨rfl, rfl, hI10⟩
  refine zz_iload_n hx hb hl 0 dX6_checkRange_0 rfl rfl ?_
  refine zz_iload_n hx hb hl 1 dX6_checkRange_1 rfl rfl ?_
  refine zz_icmp_lt (tgt := 10) hx hb dX6_checkRange_2 (by decide) ga glo (fun hc2 => ?_) (fun hc2 => ?_)
  · refine hcut10  s.heap [] ls ?_ hW0 hS0 (zh_sub hl [0, 1, 2] rfl)
    omega
  · refine zz_iload_n hx hb hl 0 dX6_checkRange_5 rfl rfl ?_
    refine zz_iload_n hx hb hl 2 dX6_checkRange_6 rfl rfl ?_
    refine zz_icmp_le (tgt := 21) hx hb dX6_checkRange_7 (by decide) ga ghi (fun hc7 => ?_) (fun hc7 => ?_)
    · refine W.eq (g2 := F0 m 21 ls []) rfl ?_
      refine zw_widen (k := 1) (n := 6) (Nat.le_of_ble_eq_true rfl) (Nat.le_of_ble_eq_true rfl) (vx_ret ?_)
      refine zz_retv hx hb hr hlocks hW0 hS0 ?_ dX6_checkRange_21
      exact ⟨rfl, by omega, by omega⟩
    · refine hcut10  s.heap [] ls ?_ hW0 hS0 (zh_sub hl [0, 1, 2] rfl)
      omega

set_option maxHeartbeats 4000000 in
set_option maxRecDepth 100000 in
theorem c_X6_knownDriver (l : Launch) (hst : l.stackTraces = false) (G : zG) (ad : zA) (A : Nat → Prop) (N0 : Nat) (σ : zS) (nd nr : Nat) (hX : zX ad nd nr) (hnd : nd ≤ 8) (hnr : nr ≤ 60) (h5 : σ 0 0 5 = (nd : Int)) (h6 : σ 0 0 6 = (nr : Int)) (hD : ∀ i, i < nd → σ 15 0 i = (i : Int)) (hQ : ∀ i, i < nr → σ 16 0 i = (i : Int)) (a : Int) (ga : zg a) : vx_Met l yX6_knownDriver wsX6_knownDriver ({ frames := 6, cells := 1, slots := 6, locals := 200 }) (zPx G ad A N0 σ [zr ad 0 ((0 : Nat) : Int), .int (zi a)]) (zQ G ad A (zrr ad 17) (fun r u => σ = u ∧ (0 ≤ a ∧ a < nd) ∧ r = a)) (zXC G ad A (fun E u => E = "java/lang/IndexOutOfBoundsException" ∧ σ = u ∧ ¬ (0 ≤ a ∧ a < nd))) 1 6 A := by
  refine zx_of (cc := cX6_knownDriver) (maxL := 3) (ret := (some (.object "HailCity$Driver"))) (by decide) rfl (List.forall_mem_cons.mpr ⟨zr_cat _ _ _, List.forall_mem_cons.mpr ⟨rfl, fun _ h => absurd h List.not_mem_nil⟩⟩) (Nat.le_of_ble_eq_true rfl) ?_
  intro p e s m below meth c hx hb hr hml hts hown hlocks hout hsz hW0 hK hE ls hl
  have hS0 : va_S A s.heap s.heap [] := va_S.rf
  have hl : zh ls 3 [(0, zr ad 0 ((0 : Nat) : Int)), (1, .int (zi a))] := hl
  have hinX6 : ∀ w ∈ u_ws RX6 TX6 10, w ∈ wsX6_knownDriver := by decide +kernel
  have hcut22 : ∀ (r : Int)  (H9 : Heap) (locs9 : List Loc) (ls : Array Slot), (zln ad 17 r ∧ (r < 0 → ¬ (0 ≤ a ∧ a < nd)) ∧ (0 ≤ r → (0 ≤ a ∧ a < nd) ∧ r = a)) → ZW G ad A σ H9 → va_S A s.heap H9 locs9 → zh ls 3 [(0, zr ad 0 ((0 : Nat) : Int)), (1, .int (zi a))] → W p l e ({ frames := 6, cells := 1, slots := 6, locals := 200 }) s m ([zr ad 0 ((0 : Nat) : Int), .int (zi a)] : List Value).toArray below meth c H9 locs9 0 0 (vx_MQ below (zQ G ad A (zrr ad 17) (fun r u => σ = u ∧ (0 ≤ a ∧ a < nd) ∧ r = a)) (zXC G ad A (fun E u => E = "java/lang/IndexOutOfBoundsException" ∧ σ = u ∧ ¬ (0 ≤ a ∧ a < nd))) ([zr ad 0 ((0 : Nat) : Int), .int (zi a)] : List Value).toArray s 1 6 A) (F0 m 22 ls [zr ad 17 r]) := by
    intro r H1 locs1 ls hI22 hW1 hS1 hl
    refine zz_astore_n (lv' := [(2, zr ad 17 r), (0, zr ad 0 ((0 : Nat) : Int)), (1, .int (zi a))]) hx hb hl dX6_knownDriver_22 rfl (by decide) rfl (fun ls hl => ?_)
    refine zz_aload_n hx hb hl 0 dX6_knownDriver_23 rfl rfl ?_
    refine zz_ifnonnull (tgt := 38) hx hb hI22.1 dX6_knownDriver_24 (by decide) (fun hc24 => ?_) (fun hc24 => ?_)
    · refine zz_aload_n hx hb hl 0 dX6_knownDriver_38 rfl rfl ?_
      refine W.eq (g2 := F0 m 39 ls [zr ad 17 r]) rfl ?_
      refine zw_widen (k := 1) (n := 6) (Nat.le_of_ble_eq_true rfl) (Nat.le_of_ble_eq_true rfl) (vx_ret ?_)
      refine zz_reta hx hb hr hlocks hW1 hS1 ?_ dX6_knownDriver_39
      exact ⟨rfl, hI22.2.2 hc24.1⟩
    · refine zx_throwW (ik := 75) (is := 277) (ic := 79) (cls := "java/lang/IndexOutOfBoundsException") (text := "no such driver") (rest := []) ⟨hx, hb, hml, hown, hts⟩ hst hlocks hout hE hW1 hS1 (by decide +kernel) (by decide) (by decide +kernel) (by decide +kernel) (by decide +kernel) zat0 zot0 (by decide) hl.1.1 dX6_knownDriver_27 dX6_knownDriver_30 dX6_knownDriver_31 dX6_knownDriver_34 dX6_knownDriver_37 ⟨Nat.le_of_ble_eq_true rfl, (Nat.le_of_ble_eq_true rfl), Nat.le_of_ble_eq_true rfl, Nat.le_of_ble_eq_true rfl⟩ (Nat.le_of_ble_eq_true rfl) (Nat.le_of_ble_eq_true rfl) ?_
      exact ⟨rfl, rfl, hI22.2.1 hc24⟩
  have hcut12 : ∀  (H9 : Heap) (locs9 : List Loc) (ls : Array Slot), (¬ (0 ≤ a ∧ a < nd)) → ZW G ad A σ H9 → va_S A s.heap H9 locs9 → zh ls 3 [(0, zr ad 0 ((0 : Nat) : Int)), (1, .int (zi a))] → W p l e ({ frames := 6, cells := 1, slots := 6, locals := 200 }) s m ([zr ad 0 ((0 : Nat) : Int), .int (zi a)] : List Value).toArray below meth c H9 locs9 0 0 (vx_MQ below (zQ G ad A (zrr ad 17) (fun r u => σ = u ∧ (0 ≤ a ∧ a < nd) ∧ r = a)) (zXC G ad A (fun E u => E = "java/lang/IndexOutOfBoundsException" ∧ σ = u ∧ ¬ (0 ≤ a ∧ a < nd))) ([zr ad 0 ((0 : Nat) : Int), .int (zi a)] : List Value).toArray s 1 6 A) (F0 m 12 ls []) := by
    intro  H2 locs2 ls hI12 hW2 hS2 hl
    refine zz_null hx hb dX6_knownDriver_12 ad 17 ?_
    refine zz_goto (tgt := 22) hx hb dX6_knownDriver_13 (by decide) ?_
    refine W.eq (g2 := F0 m 22 ls [zr ad 17 (-1)]) (rfl) ?_
    refine hcut22 (-1) H2 locs2 ls ?_ hW2 hS2 (zh_sub hl [0, 1] rfl)
    exact ⟨Or.inl (by decide), fun _ => hI12, fun h => absurd h (by decide)⟩
  refine zz_iload_n hx hb hl 1 dX6_knownDriver_0 rfl rfl ?_
  refine zz_if_lt (tgt := 12) hx hb dX6_knownDriver_1 (by decide) ga (fun hc1 => ?_) (fun hc1 => ?_)
  · refine hcut12  s.heap [] ls ?_ hW0 hS0 (zh_sub hl [0, 1] rfl)
    omega
  · refine zz_iload_n hx hb hl 1 dX6_knownDriver_4 rfl rfl ?_
    refine zz_aload_n hx hb hl 0 dX6_knownDriver_5 rfl rfl ?_
    refine zz_get (T := TX6) (N := 10) (k := 5) (κ := 0) (w := .int (zi ((nd : Nat) : Int))) hx hb hts hinX6 hown hK hW0 (zlN (hX 0 0 rfl)) rfl rfl rfl (by decide) (hts (.fieldLink RX6 87 "HailCity" "driverCount" "I") (by decide +kernel)) (fun _ h9 => h9) (congrArg (fun z => Value.int (zi z)) (show σ 0 0 5 = ((nd : Nat) : Int) from by rw [h5])) dX6_knownDriver_6 ?_
    refine zz_icmp_lt (tgt := 16) hx hb dX6_knownDriver_9 (by decide) ga ⟨by omega, by omega⟩ (fun hc9 => ?_) (fun hc9 => ?_)
    · refine zz_aload_n hx hb hl 0 dX6_knownDriver_16 rfl rfl ?_
      refine zz_get (T := TX6) (N := 10) (k := 1) (κ := 0) (w := zr ad 15 ((0 : Nat) : Int)) hx hb hts hinX6 hown hK hW0 (zlN (hX 0 0 rfl)) rfl rfl rfl (by decide) (hts (.fieldLink RX6 18 "HailCity" "drivers" "[LHailCity$Driver;") (by decide +kernel)) (fun _ h9 => h9) rfl dX6_knownDriver_17 ?_
      refine zz_iload_n hx hb hl 1 dX6_knownDriver_20 rfl rfl ?_
      refine zz_aald (w := zr ad 17 a) hx hb hK hW0 (zlN (hX 15 0 rfl)) rfl rfl (by show (0 : Int) ≤ a; omega) (by show a < (8 : Int); omega) ((zv_r (Nat.le_of_ble_eq_true rfl) (Nat.le_of_ble_eq_true rfl)).trans (congrArg (zr ad 17) (show σ 15 0 a.toNat = a from by rw [hD a.toNat (by omega)]; omega))) dX6_knownDriver_21 ?_
      refine W.eq (g2 := F0 m 22 ls [zr ad 17 a]) (rfl) ?_
      refine hcut22 a s.heap [] ls ?_ hW0 hS0 (zh_sub hl [0, 1] rfl)
      exact ⟨Or.inr (show zl ad 17 a from ⟨by omega, hX 17 a.toNat (decide_eq_true (by omega))⟩), fun h => absurd h (by omega), fun _ => ⟨⟨by omega, by omega⟩, rfl⟩⟩
    · refine hcut12  s.heap [] ls ?_ hW0 hS0 (zh_sub hl [0, 1] rfl)
      omega

set_option maxHeartbeats 4000000 in
set_option maxRecDepth 100000 in
theorem c_X6_knownRequest (l : Launch) (hst : l.stackTraces = false) (G : zG) (ad : zA) (A : Nat → Prop) (N0 : Nat) (σ : zS) (nd nr : Nat) (hX : zX ad nd nr) (hnd : nd ≤ 8) (hnr : nr ≤ 60) (h5 : σ 0 0 5 = (nd : Int)) (h6 : σ 0 0 6 = (nr : Int)) (hD : ∀ i, i < nd → σ 15 0 i = (i : Int)) (hQ : ∀ i, i < nr → σ 16 0 i = (i : Int)) (a : Int) (ga : zg a) : vx_Met l yX6_knownRequest wsX6_knownRequest ({ frames := 6, cells := 1, slots := 6, locals := 200 }) (zPx G ad A N0 σ [zr ad 0 ((0 : Nat) : Int), .int (zi a)]) (zQ G ad A (zrr ad 23) (fun r u => σ = u ∧ (0 ≤ a ∧ a < nr) ∧ r = a)) (zXC G ad A (fun E u => E = "java/lang/IndexOutOfBoundsException" ∧ σ = u ∧ ¬ (0 ≤ a ∧ a < nr))) 1 6 A := by
  refine zx_of (cc := cX6_knownRequest) (maxL := 3) (ret := (some (.object "HailCity$Request"))) (by decide) rfl (List.forall_mem_cons.mpr ⟨zr_cat _ _ _, List.forall_mem_cons.mpr ⟨rfl, fun _ h => absurd h List.not_mem_nil⟩⟩) (Nat.le_of_ble_eq_true rfl) ?_
  intro p e s m below meth c hx hb hr hml hts hown hlocks hout hsz hW0 hK hE ls hl
  have hS0 : va_S A s.heap s.heap [] := va_S.rf
  have hl : zh ls 3 [(0, zr ad 0 ((0 : Nat) : Int)), (1, .int (zi a))] := hl
  have hinX6 : ∀ w ∈ u_ws RX6 TX6 10, w ∈ wsX6_knownRequest := by decide +kernel
  have hcut22 : ∀ (r : Int)  (H9 : Heap) (locs9 : List Loc) (ls : Array Slot), (zln ad 23 r ∧ (r < 0 → ¬ (0 ≤ a ∧ a < nr)) ∧ (0 ≤ r → (0 ≤ a ∧ a < nr) ∧ r = a)) → ZW G ad A σ H9 → va_S A s.heap H9 locs9 → zh ls 3 [(0, zr ad 0 ((0 : Nat) : Int)), (1, .int (zi a))] → W p l e ({ frames := 6, cells := 1, slots := 6, locals := 200 }) s m ([zr ad 0 ((0 : Nat) : Int), .int (zi a)] : List Value).toArray below meth c H9 locs9 0 0 (vx_MQ below (zQ G ad A (zrr ad 23) (fun r u => σ = u ∧ (0 ≤ a ∧ a < nr) ∧ r = a)) (zXC G ad A (fun E u => E = "java/lang/IndexOutOfBoundsException" ∧ σ = u ∧ ¬ (0 ≤ a ∧ a < nr))) ([zr ad 0 ((0 : Nat) : Int), .int (zi a)] : List Value).toArray s 1 6 A) (F0 m 22 ls [zr ad 23 r]) := by
    intro r H1 locs1 ls hI22 hW1 hS1 hl
    refine zz_astore_n (lv' := [(2, zr ad 23 r), (0, zr ad 0 ((0 : Nat) : Int)), (1, .int (zi a))]) hx hb hl dX6_knownRequest_22 rfl (by decide) rfl (fun ls hl => ?_)
    refine zz_aload_n hx hb hl 0 dX6_knownRequest_23 rfl rfl ?_
    refine zz_ifnonnull (tgt := 38) hx hb hI22.1 dX6_knownRequest_24 (by decide) (fun hc24 => ?_) (fun hc24 => ?_)
    · refine zz_aload_n hx hb hl 0 dX6_knownRequest_38 rfl rfl ?_
      refine W.eq (g2 := F0 m 39 ls [zr ad 23 r]) rfl ?_
      refine zw_widen (k := 1) (n := 6) (Nat.le_of_ble_eq_true rfl) (Nat.le_of_ble_eq_true rfl) (vx_ret ?_)
      refine zz_reta hx hb hr hlocks hW1 hS1 ?_ dX6_knownRequest_39
      exact ⟨rfl, hI22.2.2 hc24.1⟩
    · refine zx_throwW (ik := 75) (is := 279) (ic := 79) (cls := "java/lang/IndexOutOfBoundsException") (text := "no such request") (rest := []) ⟨hx, hb, hml, hown, hts⟩ hst hlocks hout hE hW1 hS1 (by decide +kernel) (by decide) (by decide +kernel) (by decide +kernel) (by decide +kernel) zat0 zot0 (by decide) hl.1.1 dX6_knownRequest_27 dX6_knownRequest_30 dX6_knownRequest_31 dX6_knownRequest_34 dX6_knownRequest_37 ⟨Nat.le_of_ble_eq_true rfl, (Nat.le_of_ble_eq_true rfl), Nat.le_of_ble_eq_true rfl, Nat.le_of_ble_eq_true rfl⟩ (Nat.le_of_ble_eq_true rfl) (Nat.le_of_ble_eq_true rfl) ?_
      exact ⟨rfl, rfl, hI22.2.1 hc24⟩
  have hcut12 : ∀  (H9 : Heap) (locs9 : List Loc) (ls : Array Slot), (¬ (0 ≤ a ∧ a < nr)) → ZW G ad A σ H9 → va_S A s.heap H9 locs9 → zh ls 3 [(0, zr ad 0 ((0 : Nat) : Int)), (1, .int (zi a))] → W p l e ({ frames := 6, cells := 1, slots := 6, locals := 200 }) s m ([zr ad 0 ((0 : Nat) : Int), .int (zi a)] : List Value).toArray below meth c H9 locs9 0 0 (vx_MQ below (zQ G ad A (zrr ad 23) (fun r u => σ = u ∧ (0 ≤ a ∧ a < nr) ∧ r = a)) (zXC G ad A (fun E u => E = "java/lang/IndexOutOfBoundsException" ∧ σ = u ∧ ¬ (0 ≤ a ∧ a < nr))) ([zr ad 0 ((0 : Nat) : Int), .int (zi a)] : List Value).toArray s 1 6 A) (F0 m 12 ls []) := by
    intro  H2 locs2 ls hI12 hW2 hS2 hl
    refine zz_null hx hb dX6_knownRequest_12 ad 23 ?_
    refine zz_goto (tgt := 22) hx hb dX6_knownRequest_13 (by decide) ?_
    refine W.eq (g2 := F0 m 22 ls [zr ad 23 (-1)]) (rfl) ?_
    refine hcut22 (-1) H2 locs2 ls ?_ hW2 hS2 (zh_sub hl [0, 1] rfl)
    exact ⟨Or.inl (by decide), fun _ => hI12, fun h => absurd h (by decide)⟩
  refine zz_iload_n hx hb hl 1 dX6_knownRequest_0 rfl rfl ?_
  refine zz_if_lt (tgt := 12) hx hb dX6_knownRequest_1 (by decide) ga (fun hc1 => ?_) (fun hc1 => ?_)
  · refine hcut12  s.heap [] ls ?_ hW0 hS0 (zh_sub hl [0, 1] rfl)
    omega
  · refine zz_iload_n hx hb hl 1 dX6_knownRequest_4 rfl rfl ?_
    refine zz_aload_n hx hb hl 0 dX6_knownRequest_5 rfl rfl ?_
    refine zz_get (T := TX6) (N := 10) (k := 6) (κ := 0) (w := .int (zi ((nr : Nat) : Int))) hx hb hts hinX6 hown hK hW0 (zlN (hX 0 0 rfl)) rfl rfl rfl (by decide) (hts (.fieldLink RX6 146 "HailCity" "requestCount" "I") (by decide +kernel)) (fun _ h9 => h9) (congrArg (fun z => Value.int (zi z)) (show σ 0 0 6 = ((nr : Nat) : Int) from by rw [h6])) dX6_knownRequest_6 ?_
    refine zz_icmp_lt (tgt := 16) hx hb dX6_knownRequest_9 (by decide) ga ⟨by omega, by omega⟩ (fun hc9 => ?_) (fun hc9 => ?_)
    · refine zz_aload_n hx hb hl 0 dX6_knownRequest_16 rfl rfl ?_
      refine zz_get (T := TX6) (N := 10) (k := 2) (κ := 0) (w := zr ad 16 ((0 : Nat) : Int)) hx hb hts hinX6 hown hK hW0 (zlN (hX 0 0 rfl)) rfl rfl rfl (by decide) (hts (.fieldLink RX6 24 "HailCity" "requests" "[LHailCity$Request;") (by decide +kernel)) (fun _ h9 => h9) rfl dX6_knownRequest_17 ?_
      refine zz_iload_n hx hb hl 1 dX6_knownRequest_20 rfl rfl ?_
      refine zz_aald (w := zr ad 23 a) hx hb hK hW0 (zlN (hX 16 0 rfl)) rfl rfl (by show (0 : Int) ≤ a; omega) (by show a < (60 : Int); omega) ((zv_r (Nat.le_of_ble_eq_true rfl) (Nat.le_of_ble_eq_true rfl)).trans (congrArg (zr ad 23) (show σ 16 0 a.toNat = a from by rw [hQ a.toNat (by omega)]; omega))) dX6_knownRequest_21 ?_
      refine W.eq (g2 := F0 m 22 ls [zr ad 23 a]) (rfl) ?_
      refine hcut22 a s.heap [] ls ?_ hW0 hS0 (zh_sub hl [0, 1] rfl)
      exact ⟨Or.inr (show zl ad 23 a from ⟨by omega, hX 23 a.toNat (decide_eq_true (by omega))⟩), fun h => absurd h (by omega), fun _ => ⟨⟨by omega, by omega⟩, rfl⟩⟩
    · refine hcut12  s.heap [] ls ?_ hW0 hS0 (zh_sub hl [0, 1] rfl)
      omega
