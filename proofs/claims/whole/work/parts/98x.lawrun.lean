/-! THE LAW'S WALK: its rows -/
def zsx (xs : Nat → Int32) (k : Nat) : Int := (xs k).toInt
theorem zsx_g (xs : Nat → Int32) (k : Nat) : zg (zsx xs k) := zg_toInt _
def zA0 (s : State) : Nat → Prop := fun q => s.heap.size ≤ q
/-- both worlds, side by side, and coupled -/
def zLV (G : zG) (ad1 ad2 : zA) (A0 : Nat → Prop) (H : Heap) (c : Int) (σ τ : zS) (nd nr ns : Nat) : Prop :=
  ZW G ad1 A0 σ H ∧ ZW G ad2 A0 τ H ∧ zDj ad1 ad2 ∧ zX ad1 nd nr ∧ (ad1 90 0).isSome = true ∧ (∀ κ i, 17 ≤ κ → κ ≤ 23 → zlive κ i nd nr = false → ad1 κ i = none) ∧ zMm ad2 ∧ CP σ τ nd nr ns ∧ yWF τ nd nr ns c (1000 * c)
theorem zr_to {ad ad' : zA} {κ i : Nat} (h : ad' κ i = ad κ i) : zr ad κ ((i : Nat) : Int) = zr ad' κ ((i : Nat) : Int) := by
  unfold zr zq
  rw [if_neg (by omega), if_neg (by omega), Int.toNat_natCast, h]
theorem zDj.grow {G : zG} {ad1 ad8 ad2 : zA} {A0 : Nat → Prop} {v τ : zS} {H H1 : Heap} (hd : zDj ad1 ad2) (h1 : ZW G ad8 (zcA ad1 H.size) v H1) (h2 : ZW G ad2 A0 τ H) : zDj ad8 ad2 := fun κ i κ' i' a ha hb => by
  rcases (h1.1 κ i a ha).2 with ⟨κ9, i9, h9⟩ | h9
  · exact hd _ _ _ _ _ h9 hb
  · have := h2.lt hb
    omega
section ZWK
variable {p : Program} {l : Launch} {e : Env} {R : Room} {s : State} {m : MethodId} {args : Array Value} {below : List Frame} {meth : Method} {c : Code} {H : Heap} {locs : List Loc} {cells slots : Nat} {Q : State → Prop}
variable {cc : ByteArray} {pc : Nat} {ls : Array Slot} {rest : List Value} {G : zG} {ad1 ad2 : zA} {A : Nat → Prop} {v w : zS}
/-- script[i + j] -/
theorem zl_rd (hx : p.tables.exec = Jvm.exec) (hb : c.code = cc) {b L i j : Nat} {xs : Nat → Int32} {lv : List (Nat × Value)} (hX : va_X b L xs s s.heap) (hbl : b < s.heap.size) (hL : L ≤ 2560) (hS : va_S (zA0 s) s.heap H locs) (hl : zh ls 7 lv) (k0 k4 : Nat) (h0 : lv[k0]? = some (0, .ref b)) (h4 : lv[k4]? = some (4, .int (zi ((i : Nat) : Int)))) (hi : i + j < L)
    (d0 : decode cc pc = .ok (.aload_n 0, 1)) (d1 : decode cc (pc + 1) = .ok (.iload 4, 2)) (d2 : decode cc (pc + 3) = .ok (.iconst ((j : Nat) : Int), 1)) (d3 : decode cc (pc + 4) = .ok (.iadd, 1)) (d4 : decode cc (pc + 5) = .ok (.iaload, 1))
    (k : W p l e R s m args below meth c H locs cells slots Q (F0 m (pc + 6) ls (.int (zi (zsx xs (i + j))) :: rest))) : W p l e R s m args below meth c H locs cells slots Q (F0 m pc ls rest) := by
  refine lv_aload_n hx hb d0 rfl (zh_at hl k0 h0) ?_
  refine zz_iload hx hb hl k4 d1 h4 ?_
  refine zz_iconst hx hb d2 ?_
  refine zz_iadd hx hb d3 ?_
  have hg : zg (((i : Nat) : Int) + ((j : Nat) : Int)) := ⟨by omega, by omega⟩
  have hcl : (zi (((i : Nat) : Int) + ((j : Nat) : Int))).toNatClampNeg = i + j := by
    rw [zi_clamp hg]; omega
  refine va_sld hx hb hX hbl (fun h => Nat.not_le.mpr hbl h) hS (fun q => ?_) d4 ?_
  · rcases q with q | q
    · rw [zi_lt0 hg] at q; omega
    · rw [hcl] at q; omega
  · rw [hcl, zi_of (xs (i + j))]
    exact k
/-- script[..] != 0 -/
theorem zl_nz (hx : p.tables.exec = Jvm.exec) (hb : c.code = cc) {x : Int} (hg : zg x) (d0 : decode cc pc = .ok (.ifCond .eq 7, 3)) (d1 : decode cc (pc + 3) = .ok (.iconst 1, 1)) (d2 : decode cc (pc + 4) = .ok (.goto 4, 3)) (d3 : decode cc (pc + 7) = .ok (.iconst 0, 1))
    (k : W p l e R s m args below meth c H locs cells slots Q (F0 m (pc + 8) ls (.int (zi (zb (¬ x = 0))) :: rest))) : W p l e R s m args below meth c H locs cells slots Q (F0 m pc ls (.int (zi x) :: rest)) := by
  refine zz_if_eq (tgt := pc + 7) hx hb d0 (by omega) hg (fun h => ?_) (fun h => ?_)
  · refine zz_iconst hx hb d3 ?_
    rw [zb_f (fun q => q h)] at k
    exact k
  · refine zz_iconst hx hb d1 ?_
    refine zz_goto (tgt := pc + 8) hx hb d2 (by omega) ?_
    rw [zb_t h] at k
    exact k
/-- the model's thrown() beside the class's code; then its value only where nothing was thrown -/
theorem zl_tail0 {P tgt : Nat} {off k : Int} {lv : List (Nat × Value)} {args : Array Value} (S : CallFix p m c cL_law 7 s args lw_tbl RL) (hK : zK G s) (hW1 : ZW G ad1 A v H) (hW2 : ZW G ad2 A w H) (hd : zDj ad1 ad2) (hM : zMm ad2) (hS : va_S A s.heap H locs) (hl : zh ls 7 lv) (h2 : lv[4]? = some (2, zr ad2 30 ((0 : Nat) : Int))) (h5 : lv[1]? = some (5, .int (zi k))) (e1 : w 30 0 0 = k) (hc : cells ≤ 601024) (hs : slots ≤ 7293034)
    (d0 : decode cL_law P = .ok (.aload_n 2, 1)) (d1 : decode cL_law (P + 1) = .ok (.invokevirtual 89, 3)) (d2 : decode cL_law (P + 4) = .ok (.iload 5, 2)) (d3 : decode cL_law (P + 6) = .ok (.if_icmp .eq 5, 3)) (d4 : decode cL_law (P + 11) = .ok (.iload 5, 2)) (d5 : decode cL_law (P + 13) = .ok (.ifCond .ne off, 3)) (ht : ((P + 13 : Nat) : Int) + off = (tgt : Int))
    (kn : ∀ (H1 : Heap) (locs1 : List Loc), ZW G ad1 A v H1 → ZW G ad2 A w H1 → va_S A s.heap H1 locs1 → W p l e room_1 s m args below meth c H1 locs1 cells slots Q (F0 m tgt ls []))
    (kz : k = 0 → ∀ (H1 : Heap) (locs1 : List Loc), ZW G ad1 A v H1 → ZW G ad2 A w H1 → va_S A s.heap H1 locs1 → W p l e room_1 s m args below meth c H1 locs1 cells slots Q (F0 m (P + 16) ls [])) : W p l e room_1 s m args below meth c H locs cells slots Q (F0 m P ls []) := by
  have S0 := S
  obtain ⟨hx, hb, hml, hown, hts⟩ := S0
  have hgk : zg k := by rw [← e1]; exact hW2.2.2.1 30 0 0
  refine zz_aload_n hx hb hl 4 d0 rfl h2 ?_
  refine zl_callV (T := TX7) (N := 42) (As := []) (rest := []) (κ := 30) (v := ((0 : Nat) : Int)) S (c_X7_thrown l G ad2 (zcB ad2) H.size w hM) (cwV 0 hts gk_X7_thrown rfl rfl rfl (by decide +kernel) ⟨Nat.le_of_ble_eq_true rfl, Nat.le_of_ble_eq_true rfl⟩) hK hW2.toB (zlN (hM 30 rfl)) rfl rfl (Nat.le_refl _) hS (zcB_sub hW2) rfl hl.1.1 rfl (by decide) d1 ⟨hc, hs⟩ (fun x u H1 locs1 hp hWu hz1 hk1 hS1 => ?_)
  obtain ⟨rfl, rfl⟩ := hp
  have hV1 := hW1.otherB hd hk1
  have hV2 := hWu.reA (fun κ i a ha => (hW2.1 κ i a ha).2)
  refine zz_iload hx hb hl 1 d2 h5 ?_
  refine lv_icmp_eq (tgt := P + 11) hx hb d3 (by omega) (fun _ => ?_) (fun h => absurd (congrArg zi e1) h)
  refine zz_iload hx hb hl 1 d4 h5 ?_
  refine zz_if_ne (tgt := tgt) hx hb d5 ht hgk (fun _ => kn H1 locs1 hV1 hV2 hS1) (fun h => kz h H1 locs1 hV1 hV2 hS1)
theorem zl_tail {P : Nat} {off b k : Int} {lv : List (Nat × Value)} {args : Array Value} (S : CallFix p m c cL_law 7 s args lw_tbl RL) (hK : zK G s) (hW1 : ZW G ad1 A v H) (hW2 : ZW G ad2 A w H) (hd : zDj ad1 ad2) (hO : (ad1 90 0).isSome = true) (hM : zMm ad2) (hS : va_S A s.heap H locs) (hl : zh ls 7 lv) (h2 : lv[4]? = some (2, zr ad2 30 ((0 : Nat) : Int))) (h3 : lv[3]? = some (3, zr ad1 90 ((0 : Nat) : Int))) (h5 : lv[1]? = some (5, .int (zi k))) (h6 : lv[0]? = some (6, .int (zi b))) (e1 : w 30 0 0 = k) (e2 : k = 0 → v 90 0 0 = (zi b).toInt) (hc : cells ≤ 601024) (hs : slots ≤ 7293034)
    (d0 : decode cL_law P = .ok (.aload_n 2, 1)) (d1 : decode cL_law (P + 1) = .ok (.invokevirtual 89, 3)) (d2 : decode cL_law (P + 4) = .ok (.iload 5, 2)) (d3 : decode cL_law (P + 6) = .ok (.if_icmp .eq 5, 3)) (d4 : decode cL_law (P + 11) = .ok (.iload 5, 2)) (d5 : decode cL_law (P + 13) = .ok (.ifCond .ne 15, 3))
    (d6 : decode cL_law (P + 16) = .ok (.aload_n 3, 1)) (d7 : decode cL_law (P + 17) = .ok (.iconst 0, 1)) (d8 : decode cL_law (P + 18) = .ok (.laload, 1)) (d9 : decode cL_law (P + 19) = .ok (.iload 6, 2)) (d10 : decode cL_law (P + 21) = .ok (.i2l, 1)) (d11 : decode cL_law (P + 22) = .ok (.lcmp, 1)) (d12 : decode cL_law (P + 23) = .ok (.ifCond .eq 5, 3)) (d13 : decode cL_law (P + 28) = .ok (.goto off, 3)) (ht : ((P + 28 : Nat) : Int) + off = ((1413 : Nat) : Int))
    (kk : ∀ (H1 : Heap) (locs1 : List Loc), ZW G ad1 A v H1 → ZW G ad2 A w H1 → va_S A s.heap H1 locs1 → W p l e room_1 s m args below meth c H1 locs1 cells slots Q (F0 m 1413 ls [])) : W p l e room_1 s m args below meth c H locs cells slots Q (F0 m P ls []) := by
  have S0 := S
  obtain ⟨hx, hb, hml, hown, hts⟩ := S0
  refine zl_tail0 (tgt := P + 28) S hK hW1 hW2 hd hM hS hl h2 h5 e1 hc hs d0 d1 d2 d3 d4 d5 (by omega) (fun H1 locs1 g1 g2 g3 => zz_goto (tgt := 1413) hx hb d13 ht (kk H1 locs1 g1 g2 g3)) (fun hk H1 locs1 g1 g2 g3 => ?_)
  refine zz_aload_n hx hb hl 3 d6 rfl h3 ?_
  refine zz_iconst hx hb d7 ?_
  refine zz_lald hx hb hK g1 hO d8 ?_
  refine zz_iload (x := (zi b).toInt) hx hb hl 0 d9 (by rw [← zi_of]; exact h6) ?_
  refine zz_i2l hx hb (zg_toInt _) d10 ?_
  refine W.lcmp hx hb d11 ?_
  refine lv_if_eq (tgt := P + 28) hx hb d12 (by omega) (fun _ => zz_goto (tgt := 1413) hx hb d13 ht (kk H1 locs1 g1 g2 g3)) (fun h => absurd ((zlcmp_ne (g1.2.2.1 90 0 0) (zg_toInt _)).mpr (e2 hk)) h)
end ZWK
/-- what best and bestAnew want -/
theorem CP_bh {σ t : zS} {nd nr ns : Nat} {c B : Int} (hCP : CP σ t nd nr ns) (hWF : yWF t nd nr ns c B) : (nd ≤ 8 ∧ nr ≤ 60 ∧ σ 0 0 5 = (nd : Int) ∧ σ 0 0 6 = (nr : Int) ∧ (∀ i, i < nd → σ 15 0 i = (i : Int)) ∧ (∀ i, i < nr → σ 16 0 i = (i : Int))) ∧ (∀ i, i < nd → 0 ≤ σ 17 i 6 ∧ σ 17 i 6 < 10) ∧ (∀ a b, a < 10 → b < 10 → 0 ≤ σ 6 a b) ∧ (0 ≤ σ 0 0 8 ∧ σ 0 0 8 ≤ 20000) ∧ (∀ k, k < nr → (0 ≤ σ 23 k 1 ∧ σ 23 k 1 < 10) ∧ 0 ≤ σ 23 k 4 ∧ σ 23 k 4 ≤ 100000) ∧ ∀ k, k < nr → σ 23 k 4 - σ 0 0 8 ≤ 100 := by
  have hg8 := hCP.1.2.1.2.1
  have hnow0 := hWF.1.2.2.1
  refine ⟨⟨hWF.1.1.1, hWF.1.1.2.1, hCP.1.1.1, hCP.1.1.2.1, hCP.1.2.2.1, hCP.1.2.2.2.1⟩, fun i hi => ?_, fun a b ha hb => ?_, ?_, fun k hk => ?_, fun k hk => ?_⟩
  · rw [(hCP.2.1 i hi).1.1.2.2.2.1]; exact (hWF.2.1 i hi).1.1
  · have x1 := yWF_w hWF a b ha hb
    rcases hCP.1.2.2.2.2.2 a b ha hb with ⟨y1, y2⟩ | ⟨y1, y2⟩ <;> omega
  · rw [hg8]; exact hnow0
  · have hq := hCP.2.2 k hk
    have hz := hWF.2.2.1 k hk
    rw [hq.1, hq.2.2.2.1]
    exact ⟨hz.1, hz.2.2.2.1.1, by have := hz.2.2.2.1; omega⟩
  · have hq := hCP.2.2 k hk
    have hz := hWF.2.2.1 k hk
    rw [hq.2.2.2.1, hg8]
    have := hz.2.2.2.1
    omega
