/-! the class: driver and request, which make new objects -/
def zPxA (G : zG) (ad : zA) (A : Nat → Prop) (N0 : Nat) (σ : zS) (av : List Value) : Array Value → State → Prop := va_Pc av (fun U => N0 ≤ U.heap.size ∧ ZW G ad A σ U.heap ∧ zK G U ∧ zE A U ∧ zAA G U)
theorem zPxA.blind {G : zG} {ad : zA} {A : Nat → Prop} {N0 : Nat} {σ : zS} {av : List Value} : FrameBlind (zPxA G ad A N0 σ av) := fun a U g mk q => ⟨q.1, q.2.1, q.2.2.1, zK.same (u := U) (U := U.calling g mk a) rfl q.2.2.2.1, zE.same (u := U) (U := U.calling g mk a) rfl rfl q.2.2.2.2.1, zAA.same (u := U) (U := U.calling g mk a) rfl q.2.2.2.2.2⟩
def zQD (G : zG) (A : Nat → Prop) (post : zA → Int → zS → Prop) : Array Value → State → Outcome → State → Prop := fun _ st oc t => (∃ (ad' : zA) (x : Int) (u : zS), oc = .returned (some (.int (zi x))) ∧ post ad' x u ∧ ZW G ad' A u t.heap) ∧ va_F A st t
theorem zx_ofA {l : Launch} {G : zG} {ad : zA} {A : Nat → Prop} {σ : zS} {N0 : Nat} {y : MethodName} {ws ws' : List Cond} {rm : Room} {Qc : Array Value → State → Outcome → State → Prop} {XC : String → State → State → Prop} {mc ms : Nat} {cc : ByteArray} {maxL : Nat} {ret : Option FieldType} {av : List Value}
    (hy : plainName y.cls = true) (hw : ws = Cond.code y cc maxL ret :: ws') (hcat : ∀ v ∈ av, v.category = 1) (hlen : av.length ≤ maxL)
    (body : ∀ (p : Program) (e : Env) (s : State) (m : MethodId) (below : List Frame) (meth : Method) (c : Code), p.tables.exec = Jvm.exec → c.code = cc → meth.sig.returnType = ret → c.maxLocals = maxL → (∀ w ∈ ws, w.before av.toArray s = true) → s.vm.findClass y.cls = some m.cls → meth.locks = false → (∀ x ∈ c.exceptionTable.toList, False) → N0 ≤ s.heap.size → ZW G ad A σ s.heap → zK G s → zE A s → zAA G s → ∀ ls, zh ls maxL (zargs 0 av) →
      W p l e rm s m av.toArray below meth c s.heap [] 0 0 (vx_MQ below Qc XC av.toArray s mc ms A) (F0 m 0 ls [])) : vx_Met l y ws rm (zPxA G ad A N0 σ av) Qc XC mc ms A := by
  refine vx_ofW (cc := cc) (maxL := maxL) (ret := ret) hy hw ?_
  intro p e s m args below meth c s₁ B hml htab hv
  obtain ⟨rfl, hsz, hW, hK, hE, hAA⟩ := hv
  obtain ⟨ls, e1, e2⟩ := zh_entry m av (n := maxL) hcat hlen
  rw [e1]
  exact body p e s m below meth c B.exec B.bytes B.returns hml (atoms_spec (ws := ws) B.pre) (findClass_of_methodNamed B.named) B.notSynchronized htab hsz hW hK hE hAA ls e2
section ZRD
variable {p : Program} {l : Launch} {e : Env} {R : Room} {s : State} {m : MethodId} {args : Array Value} {below : List Frame} {meth : Method} {c : Code} {H : Heap} {locs : List Loc} {cells slots : Nat} {Q : State → Prop}
variable {cc : ByteArray} {pc : Nat} {ls : Array Slot} {rest : List Value} {G : zG} {ad : zA} {A : Nat → Prop} {σ : zS} {H0 : Heap} {N0 : Nat}
theorem zn_reti (hx : p.tables.exec = Jvm.exec) (hb : c.code = cc) (hr : meth.sig.returnType = some .int) (hlocks : meth.locks = false) {post : zA → Int → zS → Prop} (hW : ZW G ad A σ H) (hS : va_S A s.heap H locs) {x : Int} (hp : post ad x σ) (hdg : decode cc pc = .ok (.ireturn, 1)) :
    W p l e R s m args below meth c H locs cells slots (MQ below (zQD G A post) args s cells slots A) (F0 m pc ls [.int (zi x)]) :=
  W.iret hx hb hr (fun t ht _ => ⟨⟨ad, x, σ, rfl, hp, by rw [ht]; exact hW⟩, hS.F ht⟩) hS.2.2 hdg hlocks
end ZRD

set_option maxHeartbeats 4000000 in
set_option maxRecDepth 100000 in
theorem c_X6_driver (l : Launch) (hst : l.stackTraces = false) (G : zG) (ad : zA) (A : Nat → Prop) (N0 : Nat) (σ : zS) (nd nr ns : Nat) (hX : zX ad nd nr) (c9 B9 : Int) (t : zS) (hCP : CP σ t nd nr ns) (hWF : yWF t nd nr ns c9 B9) (hB9 : B9 ≤ 1000000) (hc0 : 0 ≤ c9) (hA : ∀ q, N0 ≤ q → A q) (hnw : ∀ κ, 17 ≤ κ → κ ≤ 22 → ad κ nd = none) (a : Int) (ga : zg a) : vx_Met l yX6_driver wsX6_driver ({ frames := 7, cells := 8, slots := 63, locals := 220 }) (zPxA G ad A N0 σ [zr ad 0 ((0 : Nat) : Int), .int (zi a)]) (zQD G A (fun ad9 r u => (0 ≤ a ∧ a ≤ 9) ∧ nd < 8 ∧ ((nd : Nat) : Int) = r ∧ zX ad9 (nd + 1) nr ∧ (∀ κ i, ¬ (17 ≤ κ ∧ κ ≤ 22 ∧ i = nd) → ad9 κ i = ad κ i) ∧ CP u (ybf (zu (zu (zu t 30 0 0 0) 49 0 nd a) 30 0 8 ((nd : Int) + 1)) nd) (nd + 1) nr ns)) (zXC G ad A (fun E u => σ = u ∧ ((E = "java/lang/IndexOutOfBoundsException" ∧ ¬ (0 ≤ a ∧ a ≤ 9)) ∨ (E = "java/lang/IllegalStateException" ∧ (0 ≤ a ∧ a ≤ 9) ∧ nd = 8)))) 8 63 A := by
  refine zx_ofA (cc := cX6_driver) (maxL := 3) (ret := (some .int)) (by decide) rfl (List.forall_mem_cons.mpr ⟨zr_cat _ _ _, List.forall_mem_cons.mpr ⟨rfl, fun _ h => absurd h List.not_mem_nil⟩⟩) (Nat.le_of_ble_eq_true rfl) ?_
  intro p e s m below meth c hx hb hr hml hts hown hlocks hout hsz hW0 hK hE hAA ls hl
  have hS0 : va_S A s.heap s.heap [] := va_S.rf
  have hl : zh ls 3 [(0, zr ad 0 ((0 : Nat) : Int)), (1, .int (zi a))] := hl
  have hinX1 : ∀ w ∈ u_ws RX1 TX1 13, w ∈ wsX6_driver := by decide +kernel
  have hinX4 : ∀ w ∈ u_ws RX4 TX4 4, w ∈ wsX6_driver := by decide +kernel
  have hinX6 : ∀ w ∈ u_ws RX6 TX6 10, w ∈ wsX6_driver := by decide +kernel
  have hc9 := hCP
  have hg5 := hc9.1.1.1
  have hg6 := hc9.1.1.2.1
  have hg8 := hc9.1.2.1.2.1
  have hgD := hc9.1.2.2.1
  have hgQ := hc9.1.2.2.2.1
  have hnd := hWF.1.1.1
  have hnr := hWF.1.1.2.1
  have hnow0 := hWF.1.2.2.1
  have hord := hWF.1.2.2.2.2.1
  have hg9 := hCP.1.2.1.2.2
  have hg4 := hCP.1.1.2.2
  refine zz_iload_n hx hb hl 1 dX6_driver_0 rfl rfl ?_
  refine zx_callS (As := [.int (zi a)]) (rest := []) ⟨hx, hb, hml, hown, hts⟩ (c_X6_checkPlace l hst G ad A N0 σ a ga) (va_cwS 1 hts gX6_driver_X6_checkPlace rfl rfl rfl (by decide +kernel) ⟨Nat.le_of_ble_eq_true rfl, Nat.le_of_ble_eq_true rfl⟩) hK hE hW0 (Nat.le_trans hsz hS0.1) hS0 rfl hl.1.1 rfl (Nat.le_of_ble_eq_true rfl) dX6_driver_1 ⟨Nat.le_of_ble_eq_true rfl, Nat.le_of_ble_eq_true rfl⟩ (fun E9 ce9 q9 u9 H9 locs9 hpx hWx hSx hce hcv hclx => zx_out hout hlocks hce hcv hclx hWx hSx ((by obtain ⟨rfl, rfl, h9⟩ := hpx; exact ⟨rfl, Or.inl ⟨rfl, fun q => h9 (by omega)⟩⟩)) (Nat.le_of_ble_eq_true rfl) (Nat.le_of_ble_eq_true rfl)) (fun x1 σ1 H1 locs1 hp1 hW1 hz1 hS1 => ?_)
  obtain ⟨rfl, hka⟩ := hp1
  refine W.eq (g2 := F0 m 4 ls []) rfl ?_
  refine zz_aload_n hx hb hl 0 dX6_driver_4 rfl rfl ?_
  refine zz_get (T := TX6) (N := 10) (k := 5) (κ := 0) (w := .int (zi ((nd : Nat) : Int))) hx hb hts hinX6 hown hK hW1 (zlN (hX 0 0 rfl)) rfl rfl rfl (by decide) (hts (.fieldLink RX6 87 "HailCity" "driverCount" "I") (by decide +kernel)) (fun _ h9 => h9) (congrArg (fun z => Value.int (zi z)) (show σ 0 0 5 = ((nd : Nat) : Int) from hCP.1.1.1)) dX6_driver_5 ?_
  refine zz_bipush hx hb dX6_driver_8 (by decide +kernel) ?_
  refine zz_icmp_lt (tgt := 23) hx hb dX6_driver_10 (by decide) ⟨by omega, by omega⟩ ⟨by decide, by decide⟩ (fun hc10 => ?_) (fun hc10 => ?_)
  · have h5 : σ 0 0 5 = ((nd : Nat) : Int) := hCP.1.1.1
    have hA9 : ∀ q, s.heap.size ≤ q → A q := fun q hq => hA q (Nat.le_trans hsz hq)
    refine zn_new (κ := 17) (T := TX1) (N := 13) hx hb hts hinX1 tyX1 tyX1_ok hown (hts (.classLink RX6 16 RX1) (by decide +kernel)) (hts (.instantiable RX1 13) (by decide +kernel)) (hts (.initialized RX1) (by decide +kernel)) hK rfl rfl (by decide +kernel) hW1 hS1 (Nat.le_of_ble_eq_true rfl) (Nat.le_of_ble_eq_true rfl) dX6_driver_23 (fun q9 H9 hN9 hq9 hz9 ho9 hS9 => ?_)
    refine lv_dup hx hb dX6_driver_26 rfl ?_
    refine zz_aload_n hx hb hl 0 dX6_driver_27 rfl rfl ?_
    refine zz_get (T := TX6) (N := 10) (k := 5) (κ := 0) (w := .int (zi ((nd : Nat) : Int))) hx hb hts hinX6 hown hK hN9.1 (zlN (hX 0 0 rfl)) rfl rfl rfl (by decide) (hts (.fieldLink RX6 87 "HailCity" "driverCount" "I") (by decide +kernel)) (fun _ h9 => h9) (congrArg (fun z => Value.int (zi z)) h5) dX6_driver_28 ?_
    refine zz_iload_n hx hb hl 1 dX6_driver_31 rfl rfl ?_
    refine zn_callI (A' := A) (N0 := H9.size) (As := [.int (zi ((nd : Nat) : Int)), .int (zi a)]) (rest := [.ref q9]) ⟨hx, hb, hml, hown, hts⟩ (c_X1_init l G ad A H9.size σ nd q9 a ga (fun q h => hA9 q (Nat.le_trans hS9.1 h)) (hA9 _ (by rw [← hq9]; exact hS1.1)) ⟨by decide, hnw 17 (by decide) (by decide), fun κ q => absurd q (by simp [zhl])⟩ (hnw 18 (by decide) (by decide)) (hnw 19 (by decide) (by decide)) (hnw 20 (by decide) (by decide)) (hnw 21 (by decide) (by decide)) (hnw 22 (by decide) (by decide))) (cwI 2 hts gX6_driver_X1_init rfl rfl rfl (hts (.initialized RX1) (by decide +kernel)) (hts (.methodLink RX6 92 yX1_init) (by decide +kernel)) (hts (.instanceMethod yX1_init) (by decide +kernel)) rfl (by decide +kernel) ⟨(Nat.le_of_ble_eq_true rfl), (Nat.le_of_ble_eq_true rfl)⟩) hK hAA hN9 (Nat.le_refl _) hS9 (fun q h => h) rfl hl.1.1 rfl (Nat.le_of_ble_eq_true rfl) dX6_driver_32 ⟨(Nat.le_of_ble_eq_true rfl), (Nat.le_of_ble_eq_true rfl)⟩ (fun ad9 u9 H10 locs10 hp10 hW10 hz10 hk10 hS10 => ?_)
    obtain ⟨r1, r2, r3, r4, r5, hd9, hu9⟩ := hp10
    have ho1 : ∀ κ i, ¬ (17 ≤ κ ∧ κ ≤ 22 ∧ i = nd) → ad9 κ i = ad κ i := fun κ i h => by
      rw [hd9, zax_ne (by omega), zax_ne (by omega), zax_ne (by omega), zax_ne (by omega), zax_ne (by omega), zax_ne (by omega)]
    have hX9 : zX ad9 (nd + 1) nr := by
      intro κ i h
      by_cases c9 : 17 ≤ κ ∧ κ ≤ 22 ∧ i = nd
      · obtain ⟨c1, c2, rfl⟩ := c9
        rcases (by omega : κ = 17 ∨ κ = 18 ∨ κ = 19 ∨ κ = 20 ∨ κ = 21 ∨ κ = 22) with rfl | rfl | rfl | rfl | rfl | rfl <;> rw [hd9] <;> simp [zax]
      · rw [ho1 κ i c9]
        refine hX κ i ?_
        unfold zlive at h ⊢
        split at h <;> first | exact h | (simp at h ⊢; omega)
    have hq1 : ad9 17 nd = some q9 := by rw [hd9, zax_same]
    have ez : zr ad 0 ((0 : Nat) : Int) = zr ad9 0 ((0 : Nat) : Int) := by rw [zr_nat, zr_nat, ho1 0 0 (by omega)]
    rw [ez] at hl
    have uf9 : ∀ κ i k, ¬ (17 ≤ κ ∧ κ ≤ 22 ∧ i = nd) → u9 κ i k = σ κ i k := fun κ i k h => by
      rw [hu9, zsl_ne (by omega), zsl_ne (by omega), zsl_ne (by omega), zsl_ne (by omega), zsl_ne (by omega), zsl_ne (by omega)]
    have h5u : u9 0 0 5 = ((nd : Nat) : Int) := by rw [uf9 _ _ _ (by omega)]; exact h5
    have h17u : ∀ k, u9 17 nd k = zup (zup (zd0 17) 6 a) 4 500 k := fun k => by rw [hu9, zsl_same]
    have h18u : u9 18 nd 3 = 0 := by rw [hu9, zsl_ne (by omega), zsl_ne (by omega), zsl_same]; rfl
    have h19u : ∀ j, u9 19 nd j = 0 := fun j => by rw [hu9, zsl_ne (by omega), zsl_same]; rfl
    refine W.eq (g2 := F0 m 35 ls [zr ad9 17 ((nd : Nat) : Int)]) (by rw [zr_nat, hq1]; rfl) ?_
    clear hu9
    refine zz_astore_n (lv' := [(2, zr ad9 17 ((nd : Nat) : Int)), (0, zr ad9 0 ((0 : Nat) : Int)), (1, .int (zi a))]) hx hb hl dX6_driver_35 rfl (by decide) rfl (fun ls hl => ?_)
    refine zz_aload_n hx hb hl 1 dX6_driver_36 rfl rfl ?_
    refine zz_get (T := TX6) (N := 10) (k := 1) (κ := 0) (w := zr ad9 15 ((0 : Nat) : Int)) hx hb hts hinX6 hown hK hW10 (zlN (hX9 0 0 rfl)) rfl rfl rfl (by decide) (hts (.fieldLink RX6 18 "HailCity" "drivers" "[LHailCity$Driver;") (by decide +kernel)) (fun _ h9 => h9) rfl dX6_driver_37 ?_
    refine zz_aload_n hx hb hl 1 dX6_driver_40 rfl rfl ?_
    refine zz_get (T := TX6) (N := 10) (k := 5) (κ := 0) (w := .int (zi ((nd : Nat) : Int))) hx hb hts hinX6 hown hK hW10 (zlN (hX9 0 0 rfl)) rfl rfl rfl (by decide) (hts (.fieldLink RX6 87 "HailCity" "driverCount" "I") (by decide +kernel)) (fun _ h9 => h9) (congrArg (fun z => Value.int (zi z)) (show u9 0 0 5 = ((nd : Nat) : Int) from by exact h5u)) dX6_driver_41 ?_
    refine zz_aload_n hx hb hl 0 dX6_driver_44 rfl rfl ?_
    refine zz_aast (κ := 15) (κ' := 17) (x := ((nd : Nat) : Int)) (y := ((nd : Nat) : Int)) hx hb hK hW10 hS10 (zlN (hX9 15 0 rfl)) rfl (Nat.le_of_ble_eq_true rfl) (Nat.le_of_ble_eq_true rfl) rfl rfl rfl rfl (by show (0 : Int) ≤ ((nd : Nat) : Int); omega) (by show ((nd : Nat) : Int) < (8 : Int); omega) (Or.inr (zlN (hX9 17 nd (decide_eq_true (Nat.lt_succ_self nd))))) ⟨by omega, by omega⟩ dX6_driver_45 (fun H11 locs11 hW11' hS11 => ?_)
    obtain ⟨σ11, hs11⟩ : ∃ z, z = zu u9 15 0 nd ((nd : Nat) : Int) := ⟨_, rfl⟩
    have hW11 : ZW G ad9 A σ11 H11 := by rw [hs11]; exact hW11'
    refine zz_aload_n hx hb hl 1 dX6_driver_46 rfl rfl ?_
    refine lv_dup hx hb dX6_driver_47 (zr_cat _ _ _) ?_
    refine zz_get (T := TX6) (N := 10) (k := 5) (κ := 0) (w := .int (zi ((nd : Nat) : Int))) hx hb hts hinX6 hown hK hW11 (zlN (hX9 0 0 rfl)) rfl rfl rfl (by decide) (hts (.fieldLink RX6 87 "HailCity" "driverCount" "I") (by decide +kernel)) (fun _ h9 => h9) (congrArg (fun z => Value.int (zi z)) (show σ11 0 0 5 = ((nd : Nat) : Int) from by rw [hs11, zu_ne (by omega)]; exact h5u)) dX6_driver_48 ?_
    refine zz_iconst hx hb dX6_driver_51 ?_
    refine zz_iadd hx hb dX6_driver_52 ?_
    refine zz_put (T := TX6) (N := 10) (k := 5) (κ := 0) (v := ((0 : Nat) : Int)) (x := (((nd : Nat) : Int) + 1)) (ty := .int) hx hb hts hinX6 tyX6 tyX6_ok nmX6 hown hK hW11 hS11 (zlN (hX9 0 0 rfl)) rfl rfl rfl (by decide) (hts (.fieldLink RX6 87 "HailCity" "driverCount" "I") (by decide +kernel)) (fun _ h9 => h9) rfl (by decide +kernel) rfl rfl rfl ⟨by omega, by omega⟩ (fun h9 _ => absurd h9 (by decide)) (fun h9 => absurd h9 (by decide)) dX6_driver_53 (fun H12 locs12 hW12' hS12 => ?_)
    obtain ⟨σ12, hs12⟩ : ∃ z, z = zu σ11 0 0 5 (((nd : Nat) : Int) + 1) := ⟨_, rfl⟩
    have hW12 : ZW G ad9 A σ12 H12 := by rw [hs12]; exact hW12'
    refine zz_aload_n hx hb hl 1 dX6_driver_56 rfl rfl ?_
    refine zz_aload_n hx hb hl 0 dX6_driver_57 rfl rfl ?_
    refine zz_iconst hx hb dX6_driver_58 ?_
    refine zz_callV (T := TX6) (N := 10) (As := [zr ad9 17 ((nd : Nat) : Int), .int (zi 0)]) (rest := []) (v := ((0 : Nat) : Int)) (κ := 0) ⟨hx, hb, hml, hown, hts⟩ (c_X6_queueIfNowFree l G ad9 A N0 σ12 (nd + 1) nr hX9 nd (Nat.lt_succ_self nd) 0 (Or.inl rfl) (by rw [hs12, zu_ne (by omega), hs11, zu_ne (by omega), uf9 _ _ _ (by omega), hg9]; omega)) (cwV 2 hts gX6_driver_X6_queueIfNowFree rfl rfl rfl (by decide +kernel) ⟨Nat.le_of_ble_eq_true rfl, Nat.le_of_ble_eq_true rfl⟩) hK hW12 (zlN (hX9 0 0 rfl)) rfl rfl (Nat.le_trans hsz hS12.1) hS12 rfl hl.1.1 rfl (Nat.le_of_ble_eq_true rfl) dX6_driver_59 ⟨Nat.le_of_ble_eq_true rfl, Nat.le_of_ble_eq_true rfl⟩ (fun x13 σ13 H13 locs13 hp13 hW13 hz13 hS13 => ?_)
    refine W.eq (g2 := F0 m 62 ls []) rfl ?_
    refine zz_aload_n hx hb hl 0 dX6_driver_62 rfl rfl ?_
    refine zz_getN (T := TX1) (N := 13) (k := 0) (κ := 17) (w := .int (zi ((nd : Nat) : Int))) hx hb hts hinX1 hown hK hW13 (zlN (hX9 17 nd (decide_eq_true (Nat.lt_succ_self nd)))) rfl rfl rfl (by decide) (host := "HailCity") (List.mem_of_getElem? (i := 10) rfl) (fun _ h9 => h9) rfl dX6_driver_63 ?_
    refine W.eq (g2 := F0 m 66 ls [.int (zi ((nd : Nat) : Int))]) rfl ?_
    refine zw_widen (k := 8) (n := 63) (Nat.le_of_ble_eq_true rfl) (Nat.le_of_ble_eq_true rfl) (vx_ret ?_)
    refine zn_reti hx hb hr hlocks hW13 hS13 ?_ dX6_driver_66
    rw [← hp13]
    refine ⟨by omega, by omega, rfl, hX9, ho1, ?_⟩
    refine CP_dr hCP hWF hc0 (by omega) (by omega) ?_ ?_ ?_ ?_
    · rw [hs12, zu_same]
    · rw [hs12, zu_ne (by omega), hs11, zu_same]
    · rw [hs12, hs11]
      refine ⟨?_, ?_, ?_, ?_, ?_, ?_, ?_, ?_, ?_, fun j hj => ?_⟩ <;> (try rw [zu_ne (by omega), zu_ne (by omega)]) <;> first | exact h18u | exact h19u _ | (rw [h17u]; rfl)
    · intro κ i k h
      rw [hs12, zu_ne (by omega), hs11, zu_ne (by omega), uf9 κ i k (by omega)]
  · refine zx_throw (ik := 66) (is := 90) (ic := 70) (cls := "java/lang/IllegalStateException") (text := "there are 8 drivers") (rest := []) ⟨hx, hb, hml, hown, hts⟩ hst hlocks hout hE hW1 hS1 (by decide +kernel) (by decide) (by decide +kernel) (by decide +kernel) (by decide +kernel) zat2 zot2 (by decide) hl.1.1 dX6_driver_13 dX6_driver_16 dX6_driver_17 dX6_driver_19 dX6_driver_22 ⟨Nat.le_of_ble_eq_true rfl, (Nat.le_of_ble_eq_true rfl), Nat.le_of_ble_eq_true rfl, Nat.le_of_ble_eq_true rfl⟩ (Nat.le_of_ble_eq_true rfl) (Nat.le_of_ble_eq_true rfl) ?_
    exact ⟨rfl, Or.inr ⟨rfl, by omega, by omega⟩⟩

set_option maxHeartbeats 4000000 in
set_option maxRecDepth 100000 in
theorem c_X6_request (l : Launch) (hst : l.stackTraces = false) (G : zG) (ad : zA) (A : Nat → Prop) (N0 : Nat) (σ : zS) (nd nr ns : Nat) (hX : zX ad nd nr) (c9 B9 : Int) (t : zS) (hCP : CP σ t nd nr ns) (hWF : yWF t nd nr ns c9 B9) (hB9 : B9 ≤ 1000000) (hA : ∀ q, N0 ≤ q → A q) (hnw : ad 23 nr = none) (a b m9 x : Int) (ga : zg a) (gb : zg b) (gm9 : zg m9) (hx01 : x = 0 ∨ x = 1) : vx_Met l yX6_request wsX6_request ({ frames := 7, cells := 6, slots := 42, locals := 222 }) (zPxA G ad A N0 σ [zr ad 0 ((0 : Nat) : Int), .int (zi a), .int (zi b), .int (zi m9), .int (zi x)]) (zQD G A (fun ad9 r u => ((0 ≤ a ∧ a ≤ 9) ∧ (0 ≤ b ∧ b ≤ 9)) ∧ (a ≠ b ∧ (1 ≤ m9 ∧ m9 ≤ 60)) ∧ (nr < 60 ∧ t 47 0 (10 * a.toNat + b.toNat) < 100000) ∧ ((nr : Nat) : Int) = r ∧ zX ad9 nd (nr + 1) ∧ (∀ κ i, ¬ (κ = 23 ∧ i = nr) → ad9 κ i = ad κ i) ∧ CP u (yrq t nd nr a.toNat b.toNat m9 x) nd (nr + 1) ns)) (zXC G ad A (fun E u => σ = u ∧ ((E = "java/lang/IndexOutOfBoundsException" ∧ ¬ ((0 ≤ a ∧ a ≤ 9) ∧ (0 ≤ b ∧ b ≤ 9))) ∨ (E = "java/lang/IllegalArgumentException" ∧ ((0 ≤ a ∧ a ≤ 9) ∧ (0 ≤ b ∧ b ≤ 9)) ∧ ¬ (a ≠ b ∧ (1 ≤ m9 ∧ m9 ≤ 60))) ∨ (E = "java/lang/IllegalStateException" ∧ ((0 ≤ a ∧ a ≤ 9) ∧ (0 ≤ b ∧ b ≤ 9)) ∧ (a ≠ b ∧ (1 ≤ m9 ∧ m9 ≤ 60)) ∧ (nr = 60 ∨ 100000 ≤ t 47 0 (10 * a.toNat + b.toNat)))))) 6 42 A := by
  refine zx_ofA (cc := cX6_request) (maxL := 8) (ret := (some .int)) (by decide) rfl (List.forall_mem_cons.mpr ⟨zr_cat _ _ _, List.forall_mem_cons.mpr ⟨rfl, List.forall_mem_cons.mpr ⟨rfl, List.forall_mem_cons.mpr ⟨rfl, List.forall_mem_cons.mpr ⟨rfl, fun _ h => absurd h List.not_mem_nil⟩⟩⟩⟩⟩) (Nat.le_of_ble_eq_true rfl) ?_
  intro p e s m below meth c hx hb hr hml hts hown hlocks hout hsz hW0 hK hE hAA ls hl
  have hS0 : va_S A s.heap s.heap [] := va_S.rf
  have hl : zh ls 8 [(0, zr ad 0 ((0 : Nat) : Int)), (1, .int (zi a)), (2, .int (zi b)), (3, .int (zi m9)), (4, .int (zi x))] := hl
  have hinX3 : ∀ w ∈ u_ws RX3 TX3 12, w ∈ wsX6_request := by decide +kernel
  have hinX6 : ∀ w ∈ u_ws RX6 TX6 10, w ∈ wsX6_request := by decide +kernel
  have hc9 := hCP
  have hg5 := hc9.1.1.1
  have hg6 := hc9.1.1.2.1
  have hg8 := hc9.1.2.1.2.1
  have hgD := hc9.1.2.2.1
  have hgQ := hc9.1.2.2.2.1
  have hnd := hWF.1.1.1
  have hnr := hWF.1.1.2.1
  have hnow0 := hWF.1.2.2.1
  have hord := hWF.1.2.2.2.2.1
  have hg9 := hCP.1.2.1.2.2
  have hg4 := hCP.1.1.2.2
  refine zz_iload_n hx hb hl 1 dX6_request_0 rfl rfl ?_
  refine zx_callS (As := [.int (zi a)]) (rest := []) ⟨hx, hb, hml, hown, hts⟩ (c_X6_checkPlace l hst G ad A N0 σ a ga) (va_cwS 1 hts gX6_request_X6_checkPlace rfl rfl rfl (by decide +kernel) ⟨Nat.le_of_ble_eq_true rfl, Nat.le_of_ble_eq_true rfl⟩) hK hE hW0 (Nat.le_trans hsz hS0.1) hS0 rfl hl.1.1 rfl (Nat.le_of_ble_eq_true rfl) dX6_request_1 ⟨Nat.le_of_ble_eq_true rfl, Nat.le_of_ble_eq_true rfl⟩ (fun E9 ce9 q9 u9 H9 locs9 hpx hWx hSx hce hcv hclx => zx_out hout hlocks hce hcv hclx hWx hSx ((by obtain ⟨rfl, rfl, h9⟩ := hpx; exact ⟨rfl, Or.inl ⟨rfl, fun q => h9 (by omega)⟩⟩)) (Nat.le_of_ble_eq_true rfl) (Nat.le_of_ble_eq_true rfl)) (fun x1 σ1 H1 locs1 hp1 hW1 hz1 hS1 => ?_)
  obtain ⟨rfl, hka⟩ := hp1
  refine W.eq (g2 := F0 m 4 ls []) rfl ?_
  refine zz_iload_n hx hb hl 2 dX6_request_4 rfl rfl ?_
  refine zx_callS (As := [.int (zi b)]) (rest := []) ⟨hx, hb, hml, hown, hts⟩ (c_X6_checkPlace l hst G ad A N0 σ b gb) (va_cwS 1 hts gX6_request_X6_checkPlace rfl rfl rfl (by decide +kernel) ⟨Nat.le_of_ble_eq_true rfl, Nat.le_of_ble_eq_true rfl⟩) hK hE hW1 (Nat.le_trans hsz hS1.1) hS1 rfl hl.1.1 rfl (Nat.le_of_ble_eq_true rfl) dX6_request_5 ⟨Nat.le_of_ble_eq_true rfl, Nat.le_of_ble_eq_true rfl⟩ (fun E9 ce9 q9 u9 H9 locs9 hpx hWx hSx hce hcv hclx => zx_out hout hlocks hce hcv hclx hWx hSx ((by obtain ⟨rfl, rfl, h9⟩ := hpx; exact ⟨rfl, Or.inl ⟨rfl, fun q => h9 (by omega)⟩⟩)) (Nat.le_of_ble_eq_true rfl) (Nat.le_of_ble_eq_true rfl)) (fun x2 σ2 H2 locs2 hp2 hW2 hz2 hS2 => ?_)
  obtain ⟨rfl, hkb⟩ := hp2
  refine W.eq (g2 := F0 m 8 ls []) rfl ?_
  refine zz_iload_n hx hb hl 1 dX6_request_8 rfl rfl ?_
  refine zz_iload_n hx hb hl 2 dX6_request_9 rfl rfl ?_
  refine zz_icmp_ne (tgt := 23) hx hb dX6_request_10 (by decide) ga gb (fun hc10 => ?_) (fun hc10 => ?_)
  · refine zz_iload_n hx hb hl 3 dX6_request_23 rfl rfl ?_
    refine zz_iconst hx hb dX6_request_24 ?_
    refine zz_bipush hx hb dX6_request_25 (by decide +kernel) ?_
    refine zx_callS (As := [.int (zi m9), .int (zi 1), .int (zi 60)]) (rest := []) ⟨hx, hb, hml, hown, hts⟩ (c_X6_checkRange l hst G ad A N0 σ m9 1 60 gm9 ⟨by decide, by decide⟩ ⟨by decide, by decide⟩) (va_cwS 3 hts gX6_request_X6_checkRange rfl rfl rfl (by decide +kernel) ⟨Nat.le_of_ble_eq_true rfl, Nat.le_of_ble_eq_true rfl⟩) hK hE hW2 (Nat.le_trans hsz hS2.1) hS2 rfl hl.1.1 rfl (Nat.le_of_ble_eq_true rfl) dX6_request_27 ⟨Nat.le_of_ble_eq_true rfl, Nat.le_of_ble_eq_true rfl⟩ (fun E9 ce9 q9 u9 H9 locs9 hpx hWx hSx hce hcv hclx => zx_out hout hlocks hce hcv hclx hWx hSx ((by obtain ⟨rfl, rfl, h9⟩ := hpx; exact ⟨rfl, Or.inr (Or.inl ⟨rfl, ⟨by omega, by omega⟩, fun q => h9 q.2⟩)⟩)) (Nat.le_of_ble_eq_true rfl) (Nat.le_of_ble_eq_true rfl)) (fun x3 σ3 H3 locs3 hp3 hW3 hz3 hS3 => ?_)
    obtain ⟨rfl, hrm9⟩ := hp3
    refine W.eq (g2 := F0 m 30 ls []) rfl ?_
    refine zz_aload_n hx hb hl 0 dX6_request_30 rfl rfl ?_
    refine zz_get (T := TX6) (N := 10) (k := 0) (κ := 0) (w := zr ad 1 ((0 : Nat) : Int)) hx hb hts hinX6 hown hK hW3 (zlN (hX 0 0 rfl)) rfl rfl rfl (by decide) (hts (.fieldLink RX6 10 "HailCity" "map" "LHailCity$CityMap;") (by decide +kernel)) (fun _ h9 => h9) rfl dX6_request_31 ?_
    refine zz_iload_n hx hb hl 1 dX6_request_34 rfl rfl ?_
    refine zz_iload_n hx hb hl 2 dX6_request_35 rfl rfl ?_
    refine zz_callV (T := TX0) (N := 5) (As := [.int (zi a), .int (zi b)]) (rest := []) (v := ((0 : Nat) : Int)) (κ := 1) ⟨hx, hb, hml, hown, hts⟩ (c_X0_minutesBetween l G ad A N0 σ nd nr hX a b ga gb) (cwV 2 hts gX6_request_X0_minutesBetween rfl rfl rfl (by decide +kernel) ⟨Nat.le_of_ble_eq_true rfl, Nat.le_of_ble_eq_true rfl⟩) hK hW3 (zlN (hX 1 0 rfl)) rfl rfl (Nat.le_trans hsz hS3.1) hS3 rfl hl.1.1 rfl (Nat.le_of_ble_eq_true rfl) dX6_request_36 ⟨Nat.le_of_ble_eq_true rfl, Nat.le_of_ble_eq_true rfl⟩ (fun x4 σ4 H4 locs4 hp4 hW4 hz4 hS4 => ?_)
    obtain ⟨rfl, hx9⟩ := hp4
    rw [CP_mb hCP.1 hka hkb] at hx9
    have hwy := yWF_w hWF a.toNat b.toNat (by omega) (by omega)
    obtain ⟨w9, hw9⟩ : ∃ z, z = t 47 0 (10 * a.toNat + b.toNat) := ⟨_, rfl⟩
    rw [← hw9] at hx9 hwy
    have hxg : -1 ≤ x4 ∧ x4 ≤ 100000 ∧ (x4 = -1 ↔ ¬ w9 < 100000) ∧ (w9 < 100000 → x4 = w9) := by
      by_cases c9 : w9 < 100000
      · rw [if_pos c9] at hx9; omega
      · rw [if_neg c9] at hx9; omega
    refine W.eq (g2 := F0 m 39 ls [.int (zi x4)]) rfl ?_
    refine zz_istore (lv' := [(5, .int (zi x4)), (0, zr ad 0 ((0 : Nat) : Int)), (1, .int (zi a)), (2, .int (zi b)), (3, .int (zi m9)), (4, .int (zi x))]) hx hb hl dX6_request_39 (by decide) rfl (fun ls hl => ?_)
    refine zz_aload_n hx hb hl 1 dX6_request_41 rfl rfl ?_
    refine zz_get (T := TX6) (N := 10) (k := 6) (κ := 0) (w := .int (zi ((nr : Nat) : Int))) hx hb hts hinX6 hown hK hW4 (zlN (hX 0 0 rfl)) rfl rfl rfl (by decide) (hts (.fieldLink RX6 146 "HailCity" "requestCount" "I") (by decide +kernel)) (fun _ h9 => h9) (congrArg (fun z => Value.int (zi z)) (show σ 0 0 6 = ((nr : Nat) : Int) from hCP.1.1.2.1)) dX6_request_42 ?_
    refine zz_bipush hx hb dX6_request_45 (by decide +kernel) ?_
    refine zz_icmp_ge (tgt := 56) hx hb dX6_request_47 (by decide) ⟨by omega, by omega⟩ ⟨by decide, by decide⟩ (fun hc47 => ?_) (fun hc47 => ?_)
    · refine zx_throw (ik := 66) (is := 149) (ic := 70) (cls := "java/lang/IllegalStateException") (text := "there are 60 requests, or there is no way") (rest := []) ⟨hx, hb, hml, hown, hts⟩ hst hlocks hout hE hW4 hS4 (by decide +kernel) (by decide) (by decide +kernel) (by decide +kernel) (by decide +kernel) zat2 zot2 (by decide) hl.1.1 dX6_request_56 dX6_request_59 dX6_request_60 dX6_request_62 dX6_request_65 ⟨Nat.le_of_ble_eq_true rfl, (Nat.le_of_ble_eq_true rfl), Nat.le_of_ble_eq_true rfl, Nat.le_of_ble_eq_true rfl⟩ (Nat.le_of_ble_eq_true rfl) (Nat.le_of_ble_eq_true rfl) ?_
      exact ⟨rfl, Or.inr (Or.inr ⟨rfl, ⟨by omega, by omega⟩, ⟨by omega, hrm9⟩, by rw [← hw9]; omega⟩)⟩
    · refine zz_iload hx hb hl 0 dX6_request_50 rfl ?_
      refine zz_iconst hx hb dX6_request_52 ?_
      refine zz_icmp_ne (tgt := 66) hx hb dX6_request_53 (by decide) ⟨by omega, by omega⟩ ⟨by decide, by decide⟩ (fun hc53 => ?_) (fun hc53 => ?_)
      · obtain rfl : x4 = w9 := hxg.2.2.2 (by omega)
        refine zz_sipush hx hb dX6_request_66 (by decide +kernel) ?_
        refine zz_bipush hx hb dX6_request_69 (by decide +kernel) ?_
        refine zz_iload hx hb hl 0 dX6_request_71 rfl ?_
        refine zz_imul hx hb dX6_request_73 ?_
        refine zz_iadd hx hb dX6_request_74 ?_
        refine zz_aload_n hx hb hl 1 dX6_request_75 rfl rfl ?_
        refine zz_iload_n hx hb hl 2 dX6_request_76 rfl rfl ?_
        refine zz_callS (As := [.int (zi a)]) (rest := [zr ad 0 ((0 : Nat) : Int), .int (zi (300 + (40 * x4)))]) ⟨hx, hb, hml, hown, hts⟩ (c_X6_zoneOf l G ad A N0 σ a ga (by omega)) (va_cwS 1 hts gX6_request_X6_zoneOf rfl rfl rfl (by decide +kernel) ⟨Nat.le_of_ble_eq_true rfl, Nat.le_of_ble_eq_true rfl⟩) hK hW4 (Nat.le_trans hsz hS4.1) hS4 rfl hl.1.1 rfl (by simp [zr_cat, zcat_i]) dX6_request_77 ⟨Nat.le_of_ble_eq_true rfl, Nat.le_of_ble_eq_true rfl⟩ (fun x5 σ5 H5 locs5 hp5 hW5 hz5 hS5 => ?_)
        obtain ⟨rfl, rfl⟩ := hp5
        refine W.eq (g2 := F0 m 80 ls [.int (zi (a / 3)), zr ad 0 ((0 : Nat) : Int), .int (zi (300 + (40 * x4)))]) rfl ?_
        refine zz_callV (T := TX6) (N := 10) (As := [.int (zi (a / 3))]) (rest := [.int (zi (300 + (40 * x4)))]) (v := ((0 : Nat) : Int)) (κ := 0) ⟨hx, hb, hml, hown, hts⟩ (c_X6_heightOf l G ad A N0 σ nd nr hX hnd hnr hg5 hg6 hgD hgQ (a / 3) ⟨by omega, by omega⟩ (fun i hi => by rw [(hCP.2.2 i hi).1]; exact (hWF.2.2.1 i hi).1.1) (fun i hi => by rw [(hCP.2.1 i hi).1.1.2.2.2.1]; exact (hWF.2.1 i hi).1.1.1)) (cwV 1 hts gX6_request_X6_heightOf rfl rfl rfl (by decide +kernel) ⟨Nat.le_of_ble_eq_true rfl, Nat.le_of_ble_eq_true rfl⟩) hK hW5 (zlN (hX 0 0 rfl)) rfl rfl (Nat.le_trans hsz hS5.1) hS5 rfl hl.1.1 rfl (Nat.le_of_ble_eq_true rfl) dX6_request_80 ⟨Nat.le_of_ble_eq_true rfl, Nat.le_of_ble_eq_true rfl⟩ (fun x6 σ6 H6 locs6 hp6 hW6 hz6 hS6 => ?_)
        obtain ⟨rfl, hx9b⟩ := hp6
        rw [CP_ht hCP] at hx9b
        obtain rfl := hx9b
        have hht := yht_rg (σ := t) (nd := nd) (nr := nr) (z := a / 3) hWF.1.2.2.2.1
        have hpr := yprice_rg (w := x4) (H := yht t nd nr (a / 3)) ⟨hwy.1, hwy.2.2.1 (by omega)⟩ hht
        refine W.eq (g2 := F0 m 83 ls [.int (zi (yht t nd nr (a / 3))), .int (zi (300 + (40 * x4)))]) rfl ?_
        refine zz_imul hx hb dX6_request_83 ?_
        refine zz_bipush hx hb dX6_request_84 (by decide +kernel) ?_
        refine zz_idiv hx hb dX6_request_86 ⟨by omega, by omega⟩ ⟨by decide, by decide⟩ (by omega) (by omega) ?_
        refine zz_istore (lv' := [(6, .int (zi (((300 + (40 * x4)) * (yht t nd nr (a / 3))) / 100))), (5, .int (zi x4)), (0, zr ad 0 ((0 : Nat) : Int)), (1, .int (zi a)), (2, .int (zi b)), (3, .int (zi m9)), (4, .int (zi x))]) hx hb hl dX6_request_87 (by decide) rfl (fun ls hl => ?_)
        have h6 : σ 0 0 6 = ((nr : Nat) : Int) := hCP.1.1.2.1
        have hA9 : ∀ q, s.heap.size ≤ q → A q := fun q hq => hA q (Nat.le_trans hsz hq)
        refine zn_new (κ := 23) (T := TX3) (N := 12) hx hb hts hinX3 tyX3 tyX3_ok hown (hts (.classLink RX6 22 RX3) (by decide +kernel)) (hts (.instantiable RX3 12) (by decide +kernel)) (hts (.initialized RX3) (by decide +kernel)) hK rfl rfl (by decide +kernel) hW6 hS6 (Nat.le_of_ble_eq_true rfl) (Nat.le_of_ble_eq_true rfl) dX6_request_89 (fun q9 H9 hN9 hq9 hz9 ho9 hS9 => ?_)
        refine lv_dup hx hb dX6_request_92 rfl ?_
        refine zz_aload_n hx hb hl 2 dX6_request_93 rfl rfl ?_
        refine zz_get (T := TX6) (N := 10) (k := 6) (κ := 0) (w := .int (zi ((nr : Nat) : Int))) hx hb hts hinX6 hown hK hN9.1 (zlN (hX 0 0 rfl)) rfl rfl rfl (by decide) (hts (.fieldLink RX6 146 "HailCity" "requestCount" "I") (by decide +kernel)) (fun _ h9 => h9) (congrArg (fun z => Value.int (zi z)) h6) dX6_request_94 ?_
        refine zz_iload_n hx hb hl 3 dX6_request_97 rfl rfl ?_
        refine zz_iload_n hx hb hl 4 dX6_request_98 rfl rfl ?_
        refine zz_iload hx hb hl 6 dX6_request_99 rfl ?_
        refine zn_callI (A' := A) (N0 := H9.size) (As := [.int (zi ((nr : Nat) : Int)), .int (zi a), .int (zi b), .int (zi x)]) (rest := [.ref q9]) ⟨hx, hb, hml, hown, hts⟩ (c_X3_init l G ad A H9.size σ nr q9 a b x ga gb hx01 (fun q h => hA9 q (Nat.le_trans hS9.1 h)) (hA9 _ (by rw [← hq9]; exact hS6.1)) ⟨by decide, hnw, fun κ q => absurd q (by simp [zhl])⟩) (cwI 4 hts gX6_request_X3_init rfl rfl rfl (hts (.initialized RX3) (by decide +kernel)) (hts (.methodLink RX6 154 yX3_init) (by decide +kernel)) (hts (.instanceMethod yX3_init) (by decide +kernel)) rfl (by decide +kernel) ⟨(Nat.le_of_ble_eq_true rfl), (Nat.le_of_ble_eq_true rfl)⟩) hK hAA hN9 (Nat.le_refl _) hS9 (fun q h => h) rfl hl.1.1 rfl (Nat.le_of_ble_eq_true rfl) dX6_request_101 ⟨(Nat.le_of_ble_eq_true rfl), (Nat.le_of_ble_eq_true rfl)⟩ (fun ad9 u9 H10 locs10 hp10 hW10 hz10 hk10 hS10 => ?_)
        obtain ⟨hd9, hu9⟩ := hp10
        have ho1 : ∀ κ i, ¬ (κ = 23 ∧ i = nr) → ad9 κ i = ad κ i := fun κ i h => by
          rw [hd9, zax_ne h]
        have hX9 : zX ad9 nd (nr + 1) := by
          intro κ i h
          by_cases c9 : κ = 23 ∧ i = nr
          · obtain ⟨rfl, rfl⟩ := c9
            rw [hd9, zax_same]; rfl
          · rw [ho1 κ i c9]
            refine hX κ i ?_
            unfold zlive at h ⊢
            split at h <;> first | exact h | (simp at h ⊢; omega)
        have hq1 : ad9 23 nr = some q9 := by rw [hd9, zax_same]
        have ez : zr ad 0 ((0 : Nat) : Int) = zr ad9 0 ((0 : Nat) : Int) := by rw [zr_nat, zr_nat, ho1 0 0 (by omega)]
        rw [ez] at hl
        have uf9 : ∀ κ i k, ¬ (κ = 23 ∧ i = nr) → u9 κ i k = σ κ i k := fun κ i k h => by
          rw [hu9, zsl_ne h]
        have h6u : u9 0 0 6 = ((nr : Nat) : Int) := by rw [uf9 _ _ _ (by omega)]; exact h6
        have h8u : u9 0 0 8 = t 30 0 1 := by rw [uf9 _ _ _ (by omega)]; exact hg8
        have h23u : ∀ k, u9 23 nr k = zup (zup (zup (zup (zup (zd0 23) 1 a) 2 b) 3 x) 9 (-1)) 10 (-1) k := fun k => by rw [hu9, zsl_same]
        refine W.eq (g2 := F0 m 104 ls [zr ad9 23 ((nr : Nat) : Int)]) (by rw [zr_nat, hq1]; rfl) ?_
        clear hu9
        refine zz_astore (lv' := [(7, zr ad9 23 ((nr : Nat) : Int)), (6, .int (zi (((300 + (40 * x4)) * (yht t nd nr (a / 3))) / 100))), (5, .int (zi x4)), (0, zr ad9 0 ((0 : Nat) : Int)), (1, .int (zi a)), (2, .int (zi b)), (3, .int (zi m9)), (4, .int (zi x))]) hx hb hl dX6_request_104 (by decide) rfl (fun ls hl => ?_)
        refine zz_aload hx hb hl 0 dX6_request_106 rfl ?_
        refine zz_aload_n hx hb hl 3 dX6_request_108 rfl rfl ?_
        refine zz_get (T := TX6) (N := 10) (k := 8) (κ := 0) (w := .int (zi (t 30 0 1))) hx hb hts hinX6 hown hK hW10 (zlN (hX9 0 0 rfl)) rfl rfl rfl (by decide) (hts (.fieldLink RX6 134 "HailCity" "now" "I") (by decide +kernel)) (fun _ h9 => h9) (congrArg (fun z => Value.int (zi z)) (show u9 0 0 8 = t 30 0 1 from by exact h8u)) dX6_request_109 ?_
        refine zz_iload_n hx hb hl 6 dX6_request_112 rfl rfl ?_
        refine zz_iadd hx hb dX6_request_113 ?_
        refine zz_putN (T := TX3) (N := 12) (k := 4) (κ := 23) (v := ((nr : Nat) : Int)) (x := ((t 30 0 1) + m9)) (ty := .int) hx hb hts hinX3 tyX3 tyX3_ok nmX3 hown hK hW10 hS10 (zlN (hX9 23 nr (decide_eq_true (Nat.lt_succ_self nr)))) rfl rfl rfl (by decide) (host := "HailCity") (List.mem_of_getElem? (i := 33) rfl) (fun _ h9 => h9) rfl (by decide +kernel) rfl rfl rfl ⟨by omega, by omega⟩ (fun h9 _ => absurd h9 (by decide)) (fun h9 => absurd h9 (by decide)) dX6_request_114 (fun H11 locs11 hW11' hS11 => ?_)
        obtain ⟨σ11, hs11⟩ : ∃ z, z = zu u9 23 nr 4 ((t 30 0 1) + m9) := ⟨_, rfl⟩
        have hW11 : ZW G ad9 A σ11 H11 := by rw [hs11]; exact hW11'
        refine zz_aload hx hb hl 0 dX6_request_117 rfl ?_
        refine zz_iload hx hb hl 1 dX6_request_119 rfl ?_
        refine zz_putN (T := TX3) (N := 12) (k := 5) (κ := 23) (v := ((nr : Nat) : Int)) (x := (((300 + (40 * x4)) * (yht t nd nr (a / 3))) / 100)) (ty := .int) hx hb hts hinX3 tyX3 tyX3_ok nmX3 hown hK hW11 hS11 (zlN (hX9 23 nr (decide_eq_true (Nat.lt_succ_self nr)))) rfl rfl rfl (by decide) (host := "HailCity") (List.mem_of_getElem? (i := 34) rfl) (fun _ h9 => h9) rfl (by decide +kernel) rfl rfl rfl ⟨by omega, by omega⟩ (fun h9 _ => absurd h9 (by decide)) (fun h9 => absurd h9 (by decide)) dX6_request_121 (fun H12 locs12 hW12' hS12 => ?_)
        obtain ⟨σ12, hs12⟩ : ∃ z, z = zu σ11 23 nr 5 (((300 + (40 * x4)) * (yht t nd nr (a / 3))) / 100) := ⟨_, rfl⟩
        have hW12 : ZW G ad9 A σ12 H12 := by rw [hs12]; exact hW12'
        refine zz_aload_n hx hb hl 3 dX6_request_124 rfl rfl ?_
        refine zz_get (T := TX6) (N := 10) (k := 2) (κ := 0) (w := zr ad9 16 ((0 : Nat) : Int)) hx hb hts hinX6 hown hK hW12 (zlN (hX9 0 0 rfl)) rfl rfl rfl (by decide) (hts (.fieldLink RX6 24 "HailCity" "requests" "[LHailCity$Request;") (by decide +kernel)) (fun _ h9 => h9) rfl dX6_request_125 ?_
        refine zz_aload_n hx hb hl 3 dX6_request_128 rfl rfl ?_
        refine zz_get (T := TX6) (N := 10) (k := 6) (κ := 0) (w := .int (zi ((nr : Nat) : Int))) hx hb hts hinX6 hown hK hW12 (zlN (hX9 0 0 rfl)) rfl rfl rfl (by decide) (hts (.fieldLink RX6 146 "HailCity" "requestCount" "I") (by decide +kernel)) (fun _ h9 => h9) (congrArg (fun z => Value.int (zi z)) (show σ12 0 0 6 = ((nr : Nat) : Int) from by rw [hs12, zu_ne (by omega), hs11, zu_ne (by omega)]; exact h6u)) dX6_request_129 ?_
        refine zz_aload hx hb hl 0 dX6_request_132 rfl ?_
        refine zz_aast (κ := 16) (κ' := 23) (x := ((nr : Nat) : Int)) (y := ((nr : Nat) : Int)) hx hb hK hW12 hS12 (zlN (hX9 16 0 rfl)) rfl (Nat.le_of_ble_eq_true rfl) (Nat.le_of_ble_eq_true rfl) rfl rfl rfl rfl (by show (0 : Int) ≤ ((nr : Nat) : Int); omega) (by show ((nr : Nat) : Int) < (60 : Int); omega) (Or.inr (zlN (hX9 23 nr (decide_eq_true (Nat.lt_succ_self nr))))) ⟨by omega, by omega⟩ dX6_request_134 (fun H13 locs13 hW13' hS13 => ?_)
        obtain ⟨σ13, hs13⟩ : ∃ z, z = zu σ12 16 0 nr ((nr : Nat) : Int) := ⟨_, rfl⟩
        have hW13 : ZW G ad9 A σ13 H13 := by rw [hs13]; exact hW13'
        refine zz_aload_n hx hb hl 3 dX6_request_135 rfl rfl ?_
        refine lv_dup hx hb dX6_request_136 (zr_cat _ _ _) ?_
        refine zz_get (T := TX6) (N := 10) (k := 6) (κ := 0) (w := .int (zi ((nr : Nat) : Int))) hx hb hts hinX6 hown hK hW13 (zlN (hX9 0 0 rfl)) rfl rfl rfl (by decide) (hts (.fieldLink RX6 146 "HailCity" "requestCount" "I") (by decide +kernel)) (fun _ h9 => h9) (congrArg (fun z => Value.int (zi z)) (show σ13 0 0 6 = ((nr : Nat) : Int) from by rw [hs13, zu_ne (by omega), hs12, zu_ne (by omega), hs11, zu_ne (by omega)]; exact h6u)) dX6_request_137 ?_
        refine zz_iconst hx hb dX6_request_140 ?_
        refine zz_iadd hx hb dX6_request_141 ?_
        refine zz_put (T := TX6) (N := 10) (k := 6) (κ := 0) (v := ((0 : Nat) : Int)) (x := (((nr : Nat) : Int) + 1)) (ty := .int) hx hb hts hinX6 tyX6 tyX6_ok nmX6 hown hK hW13 hS13 (zlN (hX9 0 0 rfl)) rfl rfl rfl (by decide) (hts (.fieldLink RX6 146 "HailCity" "requestCount" "I") (by decide +kernel)) (fun _ h9 => h9) rfl (by decide +kernel) rfl rfl rfl ⟨by omega, by omega⟩ (fun h9 _ => absurd h9 (by decide)) (fun h9 => absurd h9 (by decide)) dX6_request_142 (fun H14 locs14 hW14' hS14 => ?_)
        obtain ⟨σ14, hs14⟩ : ∃ z, z = zu σ13 0 0 6 (((nr : Nat) : Int) + 1) := ⟨_, rfl⟩
        have hW14 : ZW G ad9 A σ14 H14 := by rw [hs14]; exact hW14'
        refine zz_aload hx hb hl 0 dX6_request_145 rfl ?_
        refine zz_getN (T := TX3) (N := 12) (k := 0) (κ := 23) (w := .int (zi ((nr : Nat) : Int))) hx hb hts hinX3 hown hK hW14 (zlN (hX9 23 nr (decide_eq_true (Nat.lt_succ_self nr)))) rfl rfl rfl (by decide) (host := "HailCity") (List.mem_of_getElem? (i := 23) rfl) (fun _ h9 => h9) rfl dX6_request_147 ?_
        refine W.eq (g2 := F0 m 150 ls [.int (zi ((nr : Nat) : Int))]) rfl ?_
        refine zw_widen (k := 6) (n := 42) (Nat.le_of_ble_eq_true rfl) (Nat.le_of_ble_eq_true rfl) (vx_ret ?_)
        refine zn_reti hx hb hr hlocks hW14 hS14 ?_ dX6_request_150
        refine ⟨⟨by omega, by omega⟩, ⟨by omega, hrm9⟩, ⟨by omega, by omega⟩, rfl, hX9, ho1, ?_⟩
        refine CP_rq hCP hWF (by omega) ?_ ?_ ⟨?_, ?_, ?_, ?_, ?_, ?_, ?_, ?_, ?_, ?_, ?_⟩ ?_ yrp_0
        · rw [hs14, zu_same]
        · rw [hs14, zu_ne (by omega), hs13, zu_same]
        · rw [hs14, zu_ne (by omega), hs13, zu_ne (by omega), hs12, zu_ne (by omega), hs11, zu_ne (by omega), h23u]; show a = _; omega
        · rw [hs14, zu_ne (by omega), hs13, zu_ne (by omega), hs12, zu_ne (by omega), hs11, zu_ne (by omega), h23u]; show b = _; omega
        · rw [hs14, zu_ne (by omega), hs13, zu_ne (by omega), hs12, zu_ne (by omega), hs11, zu_ne (by omega), h23u]; rfl
        · rw [hs14, zu_ne (by omega), hs13, zu_ne (by omega), hs12, zu_ne (by omega), hs11, zu_same]
        · rw [hs14, zu_ne (by omega), hs13, zu_ne (by omega), hs12, zu_same]
          unfold yrp
          rw [← hw9, show ((a.toNat : Nat) : Int) = a by omega]
        · rw [hs14, zu_ne (by omega), hs13, zu_ne (by omega), hs12, zu_ne (by omega), hs11, zu_ne (by omega), h23u]; rfl
        · rw [hs14, zu_ne (by omega), hs13, zu_ne (by omega), hs12, zu_ne (by omega), hs11, zu_ne (by omega), h23u]; rfl
        · rw [hs14, zu_ne (by omega), hs13, zu_ne (by omega), hs12, zu_ne (by omega), hs11, zu_ne (by omega), h23u]; rfl
        · rw [hs14, zu_ne (by omega), hs13, zu_ne (by omega), hs12, zu_ne (by omega), hs11, zu_ne (by omega), h23u]; rfl
        · rw [hs14, zu_ne (by omega), hs13, zu_ne (by omega), hs12, zu_ne (by omega), hs11, zu_ne (by omega), h23u]; rfl
        · rw [hs14, zu_ne (by omega), hs13, zu_ne (by omega), hs12, zu_ne (by omega), hs11, zu_ne (by omega), h23u]; rfl
        · intro κ i k h
          rw [hs14, zu_ne (by omega), hs13, zu_ne (by omega), hs12, zu_ne (by omega), hs11, zu_ne (by omega), uf9 κ i k (by omega)]
      · refine zx_throw (ik := 66) (is := 149) (ic := 70) (cls := "java/lang/IllegalStateException") (text := "there are 60 requests, or there is no way") (rest := []) ⟨hx, hb, hml, hown, hts⟩ hst hlocks hout hE hW4 hS4 (by decide +kernel) (by decide) (by decide +kernel) (by decide +kernel) (by decide +kernel) zat2 zot2 (by decide) hl.1.1 dX6_request_56 dX6_request_59 dX6_request_60 dX6_request_62 dX6_request_65 ⟨Nat.le_of_ble_eq_true rfl, (Nat.le_of_ble_eq_true rfl), Nat.le_of_ble_eq_true rfl, Nat.le_of_ble_eq_true rfl⟩ (Nat.le_of_ble_eq_true rfl) (Nat.le_of_ble_eq_true rfl) ?_
        exact ⟨rfl, Or.inr (Or.inr ⟨rfl, ⟨by omega, by omega⟩, ⟨by omega, hrm9⟩, by rw [← hw9]; omega⟩)⟩
  · refine zx_throw (ik := 52) (is := 54) (ic := 56) (cls := "java/lang/IllegalArgumentException") (text := "both places are the same") (rest := []) ⟨hx, hb, hml, hown, hts⟩ hst hlocks hout hE hW2 hS2 (by decide +kernel) (by decide) (by decide +kernel) (by decide +kernel) (by decide +kernel) zat1 zot1 (by decide) hl.1.1 dX6_request_13 dX6_request_16 dX6_request_17 dX6_request_19 dX6_request_22 ⟨Nat.le_of_ble_eq_true rfl, (Nat.le_of_ble_eq_true rfl), Nat.le_of_ble_eq_true rfl, Nat.le_of_ble_eq_true rfl⟩ (Nat.le_of_ble_eq_true rfl) (Nat.le_of_ble_eq_true rfl) ?_
    exact ⟨rfl, Or.inr (Or.inl ⟨rfl, ⟨by omega, by omega⟩, fun q => q.1 (by omega)⟩)⟩
