/-! THE LAW'S HELPERS, over any contract of what they call -/
section ZHC
variable {p : Program} {l : Launch} {e : Env} {R : Room} {s : State} {m : MethodId} {args : Array Value} {below : List Frame} {meth : Method} {c : Code} {H : Heap} {locs : List Loc} {cells slots : Nat} {Q : State → Prop}
variable {cc : ByteArray} {pc : Nat} {ls : Array Slot} {rest : List Value} {G : zG} {ad : zA} {A : Nat → Prop} {σ : zS} {H0 : Heap} {N0 : Nat}
theorem zx_callVD {y : MethodName} {bytes : ByteArray} {maxL nL mc ms n index κ : Nat} {rt : Option FieldType} {ws : List Cond} {rm : Room} {post : zA → Int → zS → Prop} {px : String → zS → Prop} {Ts : List Cond} {own C : String} {T : u_T} {N : Nat} {v : Int} {As : List Value} {st0 : List Value}
    (S : CallFix p m c cc nL s args Ts own) (hM : vx_Met l y ws rm (zPxA G ad A N0 σ (zr ad κ v :: As)) (zQD G A post) (zXC G ad A px) mc ms A) (cw : CallW R s args own C index y bytes maxL rt ws rm mc ms n) (hK : zK G s) (hE : zE A s) (hAA : zAA G s) (hW : ZW G ad A σ H) (hv : zl ad κ v) (hkd : zk κ = true) (hc : vwCl[zc κ]? = some (C, T, N)) (hsz : N0 ≤ H.size) (hS : va_S A s.heap H locs)
    (hn : As.length = n) (hsize : ls.size = nL) (hst : As.reverse ++ zr ad κ v :: rest = st0) (hrest : (rest.map fun v => v.category).sum ≤ 8) (hdg : decode cc pc = .ok (.invokevirtual index, 3)) (hf : cells + mc ≤ R.cells ∧ slots + ms ≤ R.slots)
    (kx : ∀ (E : String) (ce : Cell) (q9 : Addr) (u : zS) (H1 : Heap) (locs1 : List Loc), px E u → ZW G ad A u H1 → va_S A s.heap H1 locs1 → H1[q9]? = some ce → ce.vm = .none → s.vm.findClass E = some ce.cls → vx_W p l e R s m args below meth c H1 locs1 (cells + mc) (slots + ms) Q (F0 m pc ls rest) q9)
    (kk : ∀ (ad' : zA) (x : Int) (u : zS) (H1 : Heap) (locs1 : List Loc), post ad' x u → ZW G ad' A u H1 → H.size ≤ H1.size → va_S A s.heap H1 locs1 → W p l e R s m args below meth c H1 locs1 (cells + mc) (slots + ms) Q (F0 m (pc + 3) ls (.int (zi x) :: rest))) : W p l e R s m args below meth c H locs cells slots Q (F0 m pc ls st0) := by
  obtain ⟨a, ha, er⟩ := zr_ref hv
  rw [er] at hM hst
  have hz := (hW.1 _ _ _ ha).1
  unfold zat at hz
  rw [if_pos hkd] at hz
  obtain ⟨cell, q1, q2, q3, q4⟩ := hz
  obtain ⟨-, hfc, -⟩ := hK.1.1 _ _ hc
  have hr := vx_runV (e := e) (below := below) (meth := meth) (locs := locs) (g := F0 m pc ls st0) (rest := rest) S hM cw ⟨zPxA.blind, ⟨cell, q1, by rw [q3]; rfl, by rw [q2]; exact hfc⟩, fun U hU hWm => ⟨rfl, by rw [hU]; exact hsz, by rw [hU]; exact hW, hK.warm hWm, hE.go hS hU hWm, hAA.warm hWm⟩⟩ rfl hn hsize hst.symm (lv_room hrest) hdg hf
  intro T hT X
  rcases hr T hT X with ⟨v, st₀, t, T', L, h0, X', hL, e1, e2, ⟨⟨ad', x, u, hv, hp, hb⟩, hF⟩, st⟩ | ⟨q, st₀, t, T', L, E, ce, h0, X', hL, e1, e2, ⟨u, hp, hb, hF⟩, hce, hcv, hcl, st⟩
  · cases hv
    obtain ⟨k1, k2, k3⟩ := vx_keep h0 e1 hS (fun _ _ h => h) (fun _ h => h) hL hF
    obtain ⟨t2, a1, b1⟩ := kk ad' x u T'.heap (locs ++ L) hp (by rw [e1]; exact hb) k1 k3 T' rfl X'
    exact ⟨t2, st t2 a1, b1⟩
  · obtain ⟨k1, k2, k3⟩ := vx_keep h0 e1 hS (fun _ _ h => h) (fun _ h => h) hL hF
    obtain ⟨t2, a1, b1⟩ := kx E ce q u T'.heap (locs ++ L) hp (by rw [e1]; exact hb) k3 (by rw [e1]; exact hce) hcv hcl T' rfl X'
    exact ⟨t2, st.trans a1, b1⟩
end ZHC
set_option maxHeartbeats 4000000 in
set_option maxRecDepth 100000 in
theorem c_L_street (l : Launch) (G : zG) (ad : zA) (A : Nat → Prop) (N0 : Nat) (σ : zS) (h0 : (ad 0 0).isSome = true) (a1 a2 a3 : Int) {P F : Int → zS → Prop} {X : String → zS → Prop} (hM : vx_Met l yX6_street wsX6_street ({ frames := 7, cells := 5, slots := 30, locals := 222 }) (zPx G ad A N0 σ [zr ad 0 ((0 : Nat) : Int), .int (zi a1), .int (zi a2), .int (zi a3)]) (zQ G ad A zri P) (zXC G ad A X) 5 30 A) (hok : ∀ r u, P r u → F (zi r).toInt u) (hex : ∀ E u, X E u → (E = "java/lang/IndexOutOfBoundsException" ∧ F (-2000000001) u) ∨ (E = "java/lang/IllegalArgumentException" ∧ F (-2000000002) u) ∨ (E = "java/lang/IllegalStateException" ∧ F (-2000000003) u)) : vx_Met l yL_street wsL_street ({ frames := 8, cells := 5, slots := 30, locals := 245 }) (zPH G ad A N0 σ [zr ad 0 ((0 : Nat) : Int), .int (zi a1), .int (zi a2), .int (zi a3)]) (zQ G ad A zri F) zX0 5 30 A := by
  refine zx_ofH (cc := cL_street) (maxL := 5) (ret := some .int) (by decide) rfl (by intro v hv; simp only [List.mem_cons, List.not_mem_nil, or_false] at hv; rcases hv with rfl | rfl | rfl | rfl <;> first | rfl | exact zr_cat _ _ _) (Nat.le_of_ble_eq_true rfl) ?_
  intro p e s m below meth c hx hb hr hml hts hown hlocks htab hsz hW hK hE hAA hNC ls hl
  have hS : va_S A s.heap s.heap [] := va_S.rf
  have hl : zh ls 5 [(0, zr ad 0 ((0 : Nat) : Int)), (1, .int (zi a1)), (2, .int (zi a2)), (3, .int (zi a3))] := hl
  refine zz_aload_n hx hb hl 0 dL_street_0 rfl rfl ?_
  refine zz_iload_n hx hb hl 1 dL_street_1 rfl rfl ?_
  refine zz_iload_n hx hb hl 2 dL_street_2 rfl rfl ?_
  refine zz_iload_n hx hb hl 3 dL_street_3 rfl rfl ?_
  refine zx_callV (T := TX6) (N := 10) (As := [.int (zi a1), .int (zi a2), .int (zi a3)]) (rest := []) (v := ((0 : Nat) : Int)) (κ := 0) ⟨hx, hb, hml, hown, hts⟩ hM (cwV 3 hts gL_street_X6_street rfl rfl rfl (by decide +kernel) ⟨(Nat.le_of_ble_eq_true rfl), (Nat.le_of_ble_eq_true rfl)⟩) hK hE hW (zlN h0) rfl rfl hsz hS rfl hl.1.1 rfl (by decide) dL_street_4 ⟨(Nat.le_of_ble_eq_true rfl), (Nat.le_of_ble_eq_true rfl)⟩ (fun E9 ce9 q9 u9 H9 locs9 hpx hWx hSx hce hcv hclx => ?_) (fun r9 u9 H9 locs9 hp9 hW9 hz9 hS9 => ?_)
  · have hxe := hex E9 u9 hpx
    rcases hxe with ⟨rfl, hF9⟩ | ⟨rfl, hF9⟩ | ⟨rfl, hF9⟩
    · refine vx_catch (own := RL) (name := "java/lang/IndexOutOfBoundsException") hown [] (⟨0, 7, 8, 13⟩ : ExceptionTableEntry) [(⟨0, 7, 13, 16⟩ : ExceptionTableEntry), (⟨0, 7, 18, 19⟩ : ExceptionTableEntry)] (htab.trans rfl) (fun z hz => by cases hz) (by decide) (by decide) (hts (.classLink RL 13 "java/lang/IndexOutOfBoundsException") (by decide +kernel)) (va_Nw.use rfl (hE.2.2.1.1 _ (by decide))) hce hcv hclx ?_
      refine lv_astore hx hb dL_street_8 hl.1 (by decide) rfl (fun ls9 h9 => ?_)
      refine zz_ldc (n := -2000000001) (v := -2000000001) hx hb hown (hts (.constant RL 15 (-2000000001)) (by decide +kernel)) (by decide +kernel) dL_street_10 ?_
      refine zw_widen (k := 5) (n := 30) (Nat.le_of_ble_eq_true rfl) (Nat.le_of_ble_eq_true rfl) (vx_ret ?_)
      exact zz_reti hx hb hr hlocks hWx hSx hF9 dL_street_12
    · refine vx_catch (own := RL) (name := "java/lang/IllegalArgumentException") hown [(⟨0, 7, 8, 13⟩ : ExceptionTableEntry)] (⟨0, 7, 13, 16⟩ : ExceptionTableEntry) [(⟨0, 7, 18, 19⟩ : ExceptionTableEntry)] (htab.trans rfl) (fun z hz => by simp only [List.mem_cons, List.not_mem_nil, or_false] at hz; rcases hz with rfl; (exact Or.inr ⟨by decide, "java/lang/IndexOutOfBoundsException", hts (.classLink RL 13 "java/lang/IndexOutOfBoundsException") (by decide +kernel), hNC.1⟩)) (by decide) (by decide) (hts (.classLink RL 16 "java/lang/IllegalArgumentException") (by decide +kernel)) (va_Nw.use rfl (hE.2.2.1.1 _ (by decide))) hce hcv hclx ?_
      refine lv_astore hx hb dL_street_13 hl.1 (by decide) rfl (fun ls9 h9 => ?_)
      refine zz_ldc (n := -2000000002) (v := -2000000002) hx hb hown (hts (.constant RL 18 (-2000000002)) (by decide +kernel)) (by decide +kernel) dL_street_15 ?_
      refine zw_widen (k := 5) (n := 30) (Nat.le_of_ble_eq_true rfl) (Nat.le_of_ble_eq_true rfl) (vx_ret ?_)
      exact zz_reti hx hb hr hlocks hWx hSx hF9 dL_street_17
    · refine vx_catch (own := RL) (name := "java/lang/IllegalStateException") hown [(⟨0, 7, 8, 13⟩ : ExceptionTableEntry), (⟨0, 7, 13, 16⟩ : ExceptionTableEntry)] (⟨0, 7, 18, 19⟩ : ExceptionTableEntry) [] (htab.trans rfl) (fun z hz => by
        simp only [List.mem_cons, List.not_mem_nil, or_false] at hz
        rcases hz with rfl | rfl
        · exact Or.inr ⟨by decide, "java/lang/IndexOutOfBoundsException", hts (.classLink RL 13 "java/lang/IndexOutOfBoundsException") (by decide +kernel), hNC.2.1⟩
        · exact Or.inr ⟨by decide, "java/lang/IllegalArgumentException", hts (.classLink RL 16 "java/lang/IllegalArgumentException") (by decide +kernel), hNC.2.2⟩) (by decide) (by decide) (hts (.classLink RL 19 "java/lang/IllegalStateException") (by decide +kernel)) (va_Nw.use rfl (hE.2.2.1.1 _ (by decide))) hce hcv hclx ?_
      refine lv_astore hx hb dL_street_18 hl.1 (by decide) rfl (fun ls9 h9 => ?_)
      refine zz_ldc (n := -2000000003) (v := -2000000003) hx hb hown (hts (.constant RL 21 (-2000000003)) (by decide +kernel)) (by decide +kernel) dL_street_20 ?_
      refine zw_widen (k := 5) (n := 30) (Nat.le_of_ble_eq_true rfl) (Nat.le_of_ble_eq_true rfl) (vx_ret ?_)
      exact zz_reti hx hb hr hlocks hWx hSx hF9 dL_street_22
  · refine W.eq (g2 := F0 m 7 ls (.int (zi (zi r9).toInt) :: [])) (by rw [← zi_of]; rfl) ?_
    refine zw_widen (k := 5) (n := 30) (Nat.le_of_ble_eq_true rfl) (Nat.le_of_ble_eq_true rfl) (vx_ret ?_)
    exact zz_reti hx hb hr hlocks hW9 hS9 (hok _ _ hp9) dL_street_7

set_option maxHeartbeats 4000000 in
set_option maxRecDepth 100000 in
theorem c_L_slow (l : Launch) (G : zG) (ad : zA) (A : Nat → Prop) (N0 : Nat) (σ : zS) (h0 : (ad 0 0).isSome = true) (a1 a2 : Int) {P F : Int → zS → Prop} {X : String → zS → Prop} (hM : vx_Met l yX6_slow wsX6_slow ({ frames := 7, cells := 2, slots := 12, locals := 222 }) (zPx G ad A N0 σ [zr ad 0 ((0 : Nat) : Int), .int (zi a1), .int (zi a2)]) (zQ G ad A zri P) (zXC G ad A X) 2 12 A) (hok : ∀ r u, P r u → F (zi r).toInt u) (hex : ∀ E u, X E u → (E = "java/lang/IndexOutOfBoundsException" ∧ F (-2000000001) u) ∨ (E = "java/lang/IllegalArgumentException" ∧ F (-2000000002) u)) : vx_Met l yL_slow wsL_slow ({ frames := 8, cells := 2, slots := 12, locals := 244 }) (zPH G ad A N0 σ [zr ad 0 ((0 : Nat) : Int), .int (zi a1), .int (zi a2)]) (zQ G ad A zri F) zX0 2 12 A := by
  refine zx_ofH (cc := cL_slow) (maxL := 4) (ret := some .int) (by decide) rfl (by intro v hv; simp only [List.mem_cons, List.not_mem_nil, or_false] at hv; rcases hv with rfl | rfl | rfl <;> first | rfl | exact zr_cat _ _ _) (Nat.le_of_ble_eq_true rfl) ?_
  intro p e s m below meth c hx hb hr hml hts hown hlocks htab hsz hW hK hE hAA hNC ls hl
  have hS : va_S A s.heap s.heap [] := va_S.rf
  have hl : zh ls 4 [(0, zr ad 0 ((0 : Nat) : Int)), (1, .int (zi a1)), (2, .int (zi a2))] := hl
  refine zz_aload_n hx hb hl 0 dL_slow_0 rfl rfl ?_
  refine zz_iload_n hx hb hl 1 dL_slow_1 rfl rfl ?_
  refine zz_iload_n hx hb hl 2 dL_slow_2 rfl rfl ?_
  refine zx_callV (T := TX6) (N := 10) (As := [.int (zi a1), .int (zi a2)]) (rest := []) (v := ((0 : Nat) : Int)) (κ := 0) ⟨hx, hb, hml, hown, hts⟩ hM (cwV 2 hts gL_slow_X6_slow rfl rfl rfl (by decide +kernel) ⟨(Nat.le_of_ble_eq_true rfl), (Nat.le_of_ble_eq_true rfl)⟩) hK hE hW (zlN h0) rfl rfl hsz hS rfl hl.1.1 rfl (by decide) dL_slow_3 ⟨(Nat.le_of_ble_eq_true rfl), (Nat.le_of_ble_eq_true rfl)⟩ (fun E9 ce9 q9 u9 H9 locs9 hpx hWx hSx hce hcv hclx => ?_) (fun r9 u9 H9 locs9 hp9 hW9 hz9 hS9 => ?_)
  · have hxe := hex E9 u9 hpx
    rcases hxe with ⟨rfl, hF9⟩ | ⟨rfl, hF9⟩
    · refine vx_catch (own := RL) (name := "java/lang/IndexOutOfBoundsException") hown [] (⟨0, 6, 7, 13⟩ : ExceptionTableEntry) [(⟨0, 6, 11, 16⟩ : ExceptionTableEntry)] (htab.trans rfl) (fun z hz => by cases hz) (by decide) (by decide) (hts (.classLink RL 13 "java/lang/IndexOutOfBoundsException") (by decide +kernel)) (va_Nw.use rfl (hE.2.2.1.1 _ (by decide))) hce hcv hclx ?_
      refine lv_astore_n hx hb dL_slow_7 rfl hl.1 (by decide) rfl (fun ls9 h9 => ?_)
      refine zz_ldc (n := -2000000001) (v := -2000000001) hx hb hown (hts (.constant RL 15 (-2000000001)) (by decide +kernel)) (by decide +kernel) dL_slow_8 ?_
      refine zw_widen (k := 2) (n := 12) (Nat.le_of_ble_eq_true rfl) (Nat.le_of_ble_eq_true rfl) (vx_ret ?_)
      exact zz_reti hx hb hr hlocks hWx hSx hF9 dL_slow_10
    · refine vx_catch (own := RL) (name := "java/lang/IllegalArgumentException") hown [(⟨0, 6, 7, 13⟩ : ExceptionTableEntry)] (⟨0, 6, 11, 16⟩ : ExceptionTableEntry) [] (htab.trans rfl) (fun z hz => by simp only [List.mem_cons, List.not_mem_nil, or_false] at hz; rcases hz with rfl; (exact Or.inr ⟨by decide, "java/lang/IndexOutOfBoundsException", hts (.classLink RL 13 "java/lang/IndexOutOfBoundsException") (by decide +kernel), hNC.1⟩)) (by decide) (by decide) (hts (.classLink RL 16 "java/lang/IllegalArgumentException") (by decide +kernel)) (va_Nw.use rfl (hE.2.2.1.1 _ (by decide))) hce hcv hclx ?_
      refine lv_astore_n hx hb dL_slow_11 rfl hl.1 (by decide) rfl (fun ls9 h9 => ?_)
      refine zz_ldc (n := -2000000002) (v := -2000000002) hx hb hown (hts (.constant RL 18 (-2000000002)) (by decide +kernel)) (by decide +kernel) dL_slow_12 ?_
      refine zw_widen (k := 2) (n := 12) (Nat.le_of_ble_eq_true rfl) (Nat.le_of_ble_eq_true rfl) (vx_ret ?_)
      exact zz_reti hx hb hr hlocks hWx hSx hF9 dL_slow_14
  · refine W.eq (g2 := F0 m 6 ls (.int (zi (zi r9).toInt) :: [])) (by rw [← zi_of]; rfl) ?_
    refine zw_widen (k := 2) (n := 12) (Nat.le_of_ble_eq_true rfl) (Nat.le_of_ble_eq_true rfl) (vx_ret ?_)
    exact zz_reti hx hb hr hlocks hW9 hS9 (hok _ _ hp9) dL_slow_6

set_option maxHeartbeats 4000000 in
set_option maxRecDepth 100000 in
theorem c_L_way (l : Launch) (G : zG) (ad : zA) (A : Nat → Prop) (N0 : Nat) (σ : zS) (h0 : (ad 0 0).isSome = true) (a1 a2 : Int) {P F : Int → zS → Prop} {X : String → zS → Prop} (hM : vx_Met l yX6_way wsX6_way ({ frames := 7, cells := 2, slots := 12, locals := 220 }) (zPx G ad A N0 σ [zr ad 0 ((0 : Nat) : Int), .int (zi a1), .int (zi a2)]) (zQ G ad A zri P) (zXC G ad A X) 2 12 A) (hok : ∀ r u, P r u → F (zi r).toInt u) (hex : ∀ E u, X E u → (E = "java/lang/IndexOutOfBoundsException" ∧ F (-2000000001) u)) : vx_Met l yL_way wsL_way ({ frames := 8, cells := 2, slots := 12, locals := 242 }) (zPH G ad A N0 σ [zr ad 0 ((0 : Nat) : Int), .int (zi a1), .int (zi a2)]) (zQ G ad A zri F) zX0 2 12 A := by
  refine zx_ofH (cc := cL_way) (maxL := 4) (ret := some .int) (by decide) rfl (by intro v hv; simp only [List.mem_cons, List.not_mem_nil, or_false] at hv; rcases hv with rfl | rfl | rfl <;> first | rfl | exact zr_cat _ _ _) (Nat.le_of_ble_eq_true rfl) ?_
  intro p e s m below meth c hx hb hr hml hts hown hlocks htab hsz hW hK hE hAA hNC ls hl
  have hS : va_S A s.heap s.heap [] := va_S.rf
  have hl : zh ls 4 [(0, zr ad 0 ((0 : Nat) : Int)), (1, .int (zi a1)), (2, .int (zi a2))] := hl
  refine zz_aload_n hx hb hl 0 dL_way_0 rfl rfl ?_
  refine zz_iload_n hx hb hl 1 dL_way_1 rfl rfl ?_
  refine zz_iload_n hx hb hl 2 dL_way_2 rfl rfl ?_
  refine zx_callV (T := TX6) (N := 10) (As := [.int (zi a1), .int (zi a2)]) (rest := []) (v := ((0 : Nat) : Int)) (κ := 0) ⟨hx, hb, hml, hown, hts⟩ hM (cwV 2 hts gL_way_X6_way rfl rfl rfl (by decide +kernel) ⟨(Nat.le_of_ble_eq_true rfl), (Nat.le_of_ble_eq_true rfl)⟩) hK hE hW (zlN h0) rfl rfl hsz hS rfl hl.1.1 rfl (by decide) dL_way_3 ⟨(Nat.le_of_ble_eq_true rfl), (Nat.le_of_ble_eq_true rfl)⟩ (fun E9 ce9 q9 u9 H9 locs9 hpx hWx hSx hce hcv hclx => ?_) (fun r9 u9 H9 locs9 hp9 hW9 hz9 hS9 => ?_)
  · have hxe := hex E9 u9 hpx
    obtain ⟨rfl, hF9⟩ := hxe
    refine vx_catch (own := RL) (name := "java/lang/IndexOutOfBoundsException") hown [] (⟨0, 6, 7, 13⟩ : ExceptionTableEntry) [] (htab.trans rfl) (fun z hz => by cases hz) (by decide) (by decide) (hts (.classLink RL 13 "java/lang/IndexOutOfBoundsException") (by decide +kernel)) (va_Nw.use rfl (hE.2.2.1.1 _ (by decide))) hce hcv hclx ?_
    refine lv_astore_n hx hb dL_way_7 rfl hl.1 (by decide) rfl (fun ls9 h9 => ?_)
    refine zz_ldc (n := -2000000001) (v := -2000000001) hx hb hown (hts (.constant RL 15 (-2000000001)) (by decide +kernel)) (by decide +kernel) dL_way_8 ?_
    refine zw_widen (k := 2) (n := 12) (Nat.le_of_ble_eq_true rfl) (Nat.le_of_ble_eq_true rfl) (vx_ret ?_)
    exact zz_reti hx hb hr hlocks hWx hSx hF9 dL_way_10
  · refine W.eq (g2 := F0 m 6 ls (.int (zi (zi r9).toInt) :: [])) (by rw [← zi_of]; rfl) ?_
    refine zw_widen (k := 2) (n := 12) (Nat.le_of_ble_eq_true rfl) (Nat.le_of_ble_eq_true rfl) (vx_ret ?_)
    exact zz_reti hx hb hr hlocks hW9 hS9 (hok _ _ hp9) dL_way_6

set_option maxHeartbeats 4000000 in
set_option maxRecDepth 100000 in
theorem c_L_driver (l : Launch) (G : zG) (ad : zA) (A : Nat → Prop) (N0 : Nat) (σ : zS) (h0 : (ad 0 0).isSome = true) (a1 : Int) {P F : zA → Int → zS → Prop} {X : String → zS → Prop} (hM : vx_Met l yX6_driver wsX6_driver ({ frames := 7, cells := 8, slots := 63, locals := 220 }) (zPxA G ad A N0 σ [zr ad 0 ((0 : Nat) : Int), .int (zi a1)]) (zQD G A P) (zXC G ad A X) 8 63 A) (hok : ∀ ad9 r u, P ad9 r u → F ad9 (zi r).toInt u) (hex : ∀ E u, X E u → (E = "java/lang/IndexOutOfBoundsException" ∧ F ad (-2000000001) u) ∨ (E = "java/lang/IllegalStateException" ∧ F ad (-2000000003) u)) : vx_Met l yL_driver wsL_driver ({ frames := 8, cells := 8, slots := 63, locals := 242 }) (zPH G ad A N0 σ [zr ad 0 ((0 : Nat) : Int), .int (zi a1)]) (zQD G A F) zX0 8 63 A := by
  refine zx_ofH (cc := cL_driver) (maxL := 3) (ret := some .int) (by decide) rfl (by intro v hv; simp only [List.mem_cons, List.not_mem_nil, or_false] at hv; rcases hv with rfl | rfl <;> first | rfl | exact zr_cat _ _ _) (Nat.le_of_ble_eq_true rfl) ?_
  intro p e s m below meth c hx hb hr hml hts hown hlocks htab hsz hW hK hE hAA hNC ls hl
  have hS : va_S A s.heap s.heap [] := va_S.rf
  have hl : zh ls 3 [(0, zr ad 0 ((0 : Nat) : Int)), (1, .int (zi a1))] := hl
  refine zz_aload_n hx hb hl 0 dL_driver_0 rfl rfl ?_
  refine zz_iload_n hx hb hl 1 dL_driver_1 rfl rfl ?_
  refine zx_callVD (T := TX6) (N := 10) (As := [.int (zi a1)]) (rest := []) (v := ((0 : Nat) : Int)) (κ := 0) ⟨hx, hb, hml, hown, hts⟩ hM (cwV 1 hts gL_driver_X6_driver rfl rfl rfl (by decide +kernel) ⟨(Nat.le_of_ble_eq_true rfl), (Nat.le_of_ble_eq_true rfl)⟩) hK hE hAA hW (zlN h0) rfl rfl hsz hS rfl hl.1.1 rfl (by decide) dL_driver_2 ⟨(Nat.le_of_ble_eq_true rfl), (Nat.le_of_ble_eq_true rfl)⟩ (fun E9 ce9 q9 u9 H9 locs9 hpx hWx hSx hce hcv hclx => ?_) (fun ad9 r9 u9 H9 locs9 hp9 hW9 hz9 hS9 => ?_)
  · have hxe := hex E9 u9 hpx
    rcases hxe with ⟨rfl, hF9⟩ | ⟨rfl, hF9⟩
    · refine vx_catch (own := RL) (name := "java/lang/IndexOutOfBoundsException") hown [] (⟨0, 5, 6, 13⟩ : ExceptionTableEntry) [(⟨0, 5, 10, 19⟩ : ExceptionTableEntry)] (htab.trans rfl) (fun z hz => by cases hz) (by decide) (by decide) (hts (.classLink RL 13 "java/lang/IndexOutOfBoundsException") (by decide +kernel)) (va_Nw.use rfl (hE.2.2.1.1 _ (by decide))) hce hcv hclx ?_
      refine lv_astore_n hx hb dL_driver_6 rfl hl.1 (by decide) rfl (fun ls9 h9 => ?_)
      refine zz_ldc (n := -2000000001) (v := -2000000001) hx hb hown (hts (.constant RL 15 (-2000000001)) (by decide +kernel)) (by decide +kernel) dL_driver_7 ?_
      refine zw_widen (k := 8) (n := 63) (Nat.le_of_ble_eq_true rfl) (Nat.le_of_ble_eq_true rfl) (vx_ret ?_)
      exact zn_reti hx hb hr hlocks hWx hSx hF9 dL_driver_9
    · refine vx_catch (own := RL) (name := "java/lang/IllegalStateException") hown [(⟨0, 5, 6, 13⟩ : ExceptionTableEntry)] (⟨0, 5, 10, 19⟩ : ExceptionTableEntry) [] (htab.trans rfl) (fun z hz => by simp only [List.mem_cons, List.not_mem_nil, or_false] at hz; rcases hz with rfl; (exact Or.inr ⟨by decide, "java/lang/IndexOutOfBoundsException", hts (.classLink RL 13 "java/lang/IndexOutOfBoundsException") (by decide +kernel), hNC.2.1⟩)) (by decide) (by decide) (hts (.classLink RL 19 "java/lang/IllegalStateException") (by decide +kernel)) (va_Nw.use rfl (hE.2.2.1.1 _ (by decide))) hce hcv hclx ?_
      refine lv_astore_n hx hb dL_driver_10 rfl hl.1 (by decide) rfl (fun ls9 h9 => ?_)
      refine zz_ldc (n := -2000000003) (v := -2000000003) hx hb hown (hts (.constant RL 21 (-2000000003)) (by decide +kernel)) (by decide +kernel) dL_driver_11 ?_
      refine zw_widen (k := 8) (n := 63) (Nat.le_of_ble_eq_true rfl) (Nat.le_of_ble_eq_true rfl) (vx_ret ?_)
      exact zn_reti hx hb hr hlocks hWx hSx hF9 dL_driver_13
  · refine W.eq (g2 := F0 m 5 ls (.int (zi (zi r9).toInt) :: [])) (by rw [← zi_of]) ?_
    refine zw_widen (k := 8) (n := 63) (Nat.le_of_ble_eq_true rfl) (Nat.le_of_ble_eq_true rfl) (vx_ret ?_)
    exact zn_reti hx hb hr hlocks hW9 hS9 (hok _ _ _ hp9) dL_driver_5

set_option maxHeartbeats 4000000 in
set_option maxRecDepth 100000 in
theorem c_L_rest (l : Launch) (G : zG) (ad : zA) (A : Nat → Prop) (N0 : Nat) (σ : zS) (h0 : (ad 0 0).isSome = true) (a1 a2 : Int) {P F : Int → zS → Prop} {X : String → zS → Prop} (hM : vx_Met l yX6_rest wsX6_rest ({ frames := 7, cells := 2, slots := 12, locals := 222 }) (zPx G ad A N0 σ [zr ad 0 ((0 : Nat) : Int), .int (zi a1), .int (zi a2)]) (zQ G ad A zri P) (zXC G ad A X) 2 12 A) (hok : ∀ r u, P r u → F (if (zi r).toInt = 0 then 0 else 1) u) (hex : ∀ E u, X E u → (E = "java/lang/IndexOutOfBoundsException" ∧ F (-2000000001) u) ∨ (E = "java/lang/IllegalStateException" ∧ F (-2000000003) u)) : vx_Met l yL_rest wsL_rest ({ frames := 8, cells := 2, slots := 12, locals := 247 }) (zPH G ad A N0 σ [zr ad 0 ((0 : Nat) : Int), .int (zi a1), .int (zi a2)]) (zQ G ad A zri F) zX0 2 12 A := by
  refine zx_ofH (cc := cL_rest) (maxL := 4) (ret := some .int) (by decide) rfl (by intro v hv; simp only [List.mem_cons, List.not_mem_nil, or_false] at hv; rcases hv with rfl | rfl | rfl <;> first | rfl | exact zr_cat _ _ _) (Nat.le_of_ble_eq_true rfl) ?_
  intro p e s m below meth c hx hb hr hml hts hown hlocks htab hsz hW hK hE hAA hNC ls hl
  have hS : va_S A s.heap s.heap [] := va_S.rf
  have hl : zh ls 4 [(0, zr ad 0 ((0 : Nat) : Int)), (1, .int (zi a1)), (2, .int (zi a2))] := hl
  refine zz_aload_n hx hb hl 0 dL_rest_0 rfl rfl ?_
  refine zz_iload_n hx hb hl 1 dL_rest_1 rfl rfl ?_
  refine zz_iload_n hx hb hl 2 dL_rest_2 rfl rfl ?_
  refine zx_callV (T := TX6) (N := 10) (As := [.int (zi a1), .int (zi a2)]) (rest := []) (v := ((0 : Nat) : Int)) (κ := 0) ⟨hx, hb, hml, hown, hts⟩ hM (cwV 2 hts gL_rest_X6_rest rfl rfl rfl (by decide +kernel) ⟨(Nat.le_of_ble_eq_true rfl), (Nat.le_of_ble_eq_true rfl)⟩) hK hE hW (zlN h0) rfl rfl hsz hS rfl hl.1.1 rfl (by decide) dL_rest_3 ⟨(Nat.le_of_ble_eq_true rfl), (Nat.le_of_ble_eq_true rfl)⟩ (fun E9 ce9 q9 u9 H9 locs9 hpx hWx hSx hce hcv hclx => ?_) (fun r9 u9 H9 locs9 hp9 hW9 hz9 hS9 => ?_)
  · have hxe := hex E9 u9 hpx
    rcases hxe with ⟨rfl, hF9⟩ | ⟨rfl, hF9⟩
    · refine vx_catch (own := RL) (name := "java/lang/IndexOutOfBoundsException") hown [] (⟨0, 14, 15, 13⟩ : ExceptionTableEntry) [(⟨0, 14, 19, 19⟩ : ExceptionTableEntry)] (htab.trans rfl) (fun z hz => by cases hz) (by decide) (by decide) (hts (.classLink RL 13 "java/lang/IndexOutOfBoundsException") (by decide +kernel)) (va_Nw.use rfl (hE.2.2.1.1 _ (by decide))) hce hcv hclx ?_
      refine lv_astore_n hx hb dL_rest_15 rfl hl.1 (by decide) rfl (fun ls9 h9 => ?_)
      refine zz_ldc (n := -2000000001) (v := -2000000001) hx hb hown (hts (.constant RL 15 (-2000000001)) (by decide +kernel)) (by decide +kernel) dL_rest_16 ?_
      refine zw_widen (k := 2) (n := 12) (Nat.le_of_ble_eq_true rfl) (Nat.le_of_ble_eq_true rfl) (vx_ret ?_)
      exact zz_reti hx hb hr hlocks hWx hSx hF9 dL_rest_18
    · refine vx_catch (own := RL) (name := "java/lang/IllegalStateException") hown [(⟨0, 14, 15, 13⟩ : ExceptionTableEntry)] (⟨0, 14, 19, 19⟩ : ExceptionTableEntry) [] (htab.trans rfl) (fun z hz => by simp only [List.mem_cons, List.not_mem_nil, or_false] at hz; rcases hz with rfl; (exact Or.inr ⟨by decide, "java/lang/IndexOutOfBoundsException", hts (.classLink RL 13 "java/lang/IndexOutOfBoundsException") (by decide +kernel), hNC.2.1⟩)) (by decide) (by decide) (hts (.classLink RL 19 "java/lang/IllegalStateException") (by decide +kernel)) (va_Nw.use rfl (hE.2.2.1.1 _ (by decide))) hce hcv hclx ?_
      refine lv_astore_n hx hb dL_rest_19 rfl hl.1 (by decide) rfl (fun ls9 h9 => ?_)
      refine zz_ldc (n := -2000000003) (v := -2000000003) hx hb hown (hts (.constant RL 21 (-2000000003)) (by decide +kernel)) (by decide +kernel) dL_rest_20 ?_
      refine zw_widen (k := 2) (n := 12) (Nat.le_of_ble_eq_true rfl) (Nat.le_of_ble_eq_true rfl) (vx_ret ?_)
      exact zz_reti hx hb hr hlocks hWx hSx hF9 dL_rest_22
  · refine W.eq (g2 := F0 m 6 ls (.int (zi (zi r9).toInt) :: [])) (by rw [← zi_of]; rfl) ?_
    have hk9 := hok _ _ hp9
    refine zz_if_eq (tgt := 13) hx hb dL_rest_6 (by decide) (zg_toInt _) (fun hc9 => ?_) (fun hc9 => ?_)
    · rw [if_pos hc9] at hk9
      refine zz_iconst hx hb dL_rest_13 ?_
      refine zw_widen (k := 2) (n := 12) (Nat.le_of_ble_eq_true rfl) (Nat.le_of_ble_eq_true rfl) (vx_ret ?_)
      exact zz_reti hx hb hr hlocks hW9 hS9 hk9 dL_rest_14
    · rw [if_neg hc9] at hk9
      refine zz_iconst hx hb dL_rest_9 ?_
      refine zz_goto (tgt := 14) hx hb dL_rest_10 (by decide) ?_
      refine zw_widen (k := 2) (n := 12) (Nat.le_of_ble_eq_true rfl) (Nat.le_of_ble_eq_true rfl) (vx_ret ?_)
      exact zz_reti hx hb hr hlocks hW9 hS9 hk9 dL_rest_14

set_option maxHeartbeats 4000000 in
set_option maxRecDepth 100000 in
theorem c_L_wander (l : Launch) (G : zG) (ad : zA) (A : Nat → Prop) (N0 : Nat) (σ : zS) (h0 : (ad 0 0).isSome = true) (a1 a2 : Int) {P F : Int → zS → Prop} {X : String → zS → Prop} (hM : vx_Met l yX6_wander wsX6_wander ({ frames := 7, cells := 3, slots := 18, locals := 222 }) (zPx G ad A N0 σ [zr ad 0 ((0 : Nat) : Int), .int (zi a1), .int (zi a2)]) (zQ G ad A zri P) (zXC G ad A X) 3 18 A) (hok : ∀ r u, P r u → F (zi r).toInt u) (hex : ∀ E u, X E u → (E = "java/lang/IndexOutOfBoundsException" ∧ F (-2000000001) u) ∨ (E = "java/lang/IllegalStateException" ∧ F (-2000000003) u)) : vx_Met l yL_wander wsL_wander ({ frames := 8, cells := 3, slots := 18, locals := 246 }) (zPH G ad A N0 σ [zr ad 0 ((0 : Nat) : Int), .int (zi a1), .int (zi a2)]) (zQ G ad A zri F) zX0 3 18 A := by
  refine zx_ofH (cc := cL_wander) (maxL := 4) (ret := some .int) (by decide) rfl (by intro v hv; simp only [List.mem_cons, List.not_mem_nil, or_false] at hv; rcases hv with rfl | rfl | rfl <;> first | rfl | exact zr_cat _ _ _) (Nat.le_of_ble_eq_true rfl) ?_
  intro p e s m below meth c hx hb hr hml hts hown hlocks htab hsz hW hK hE hAA hNC ls hl
  have hS : va_S A s.heap s.heap [] := va_S.rf
  have hl : zh ls 4 [(0, zr ad 0 ((0 : Nat) : Int)), (1, .int (zi a1)), (2, .int (zi a2))] := hl
  refine zz_aload_n hx hb hl 0 dL_wander_0 rfl rfl ?_
  refine zz_iload_n hx hb hl 1 dL_wander_1 rfl rfl ?_
  refine zz_iload_n hx hb hl 2 dL_wander_2 rfl rfl ?_
  refine zx_callV (T := TX6) (N := 10) (As := [.int (zi a1), .int (zi a2)]) (rest := []) (v := ((0 : Nat) : Int)) (κ := 0) ⟨hx, hb, hml, hown, hts⟩ hM (cwV 2 hts gL_wander_X6_wander rfl rfl rfl (by decide +kernel) ⟨(Nat.le_of_ble_eq_true rfl), (Nat.le_of_ble_eq_true rfl)⟩) hK hE hW (zlN h0) rfl rfl hsz hS rfl hl.1.1 rfl (by decide) dL_wander_3 ⟨(Nat.le_of_ble_eq_true rfl), (Nat.le_of_ble_eq_true rfl)⟩ (fun E9 ce9 q9 u9 H9 locs9 hpx hWx hSx hce hcv hclx => ?_) (fun r9 u9 H9 locs9 hp9 hW9 hz9 hS9 => ?_)
  · have hxe := hex E9 u9 hpx
    rcases hxe with ⟨rfl, hF9⟩ | ⟨rfl, hF9⟩
    · refine vx_catch (own := RL) (name := "java/lang/IndexOutOfBoundsException") hown [] (⟨0, 6, 7, 13⟩ : ExceptionTableEntry) [(⟨0, 6, 11, 19⟩ : ExceptionTableEntry)] (htab.trans rfl) (fun z hz => by cases hz) (by decide) (by decide) (hts (.classLink RL 13 "java/lang/IndexOutOfBoundsException") (by decide +kernel)) (va_Nw.use rfl (hE.2.2.1.1 _ (by decide))) hce hcv hclx ?_
      refine lv_astore_n hx hb dL_wander_7 rfl hl.1 (by decide) rfl (fun ls9 h9 => ?_)
      refine zz_ldc (n := -2000000001) (v := -2000000001) hx hb hown (hts (.constant RL 15 (-2000000001)) (by decide +kernel)) (by decide +kernel) dL_wander_8 ?_
      refine zw_widen (k := 3) (n := 18) (Nat.le_of_ble_eq_true rfl) (Nat.le_of_ble_eq_true rfl) (vx_ret ?_)
      exact zz_reti hx hb hr hlocks hWx hSx hF9 dL_wander_10
    · refine vx_catch (own := RL) (name := "java/lang/IllegalStateException") hown [(⟨0, 6, 7, 13⟩ : ExceptionTableEntry)] (⟨0, 6, 11, 19⟩ : ExceptionTableEntry) [] (htab.trans rfl) (fun z hz => by simp only [List.mem_cons, List.not_mem_nil, or_false] at hz; rcases hz with rfl; (exact Or.inr ⟨by decide, "java/lang/IndexOutOfBoundsException", hts (.classLink RL 13 "java/lang/IndexOutOfBoundsException") (by decide +kernel), hNC.2.1⟩)) (by decide) (by decide) (hts (.classLink RL 19 "java/lang/IllegalStateException") (by decide +kernel)) (va_Nw.use rfl (hE.2.2.1.1 _ (by decide))) hce hcv hclx ?_
      refine lv_astore_n hx hb dL_wander_11 rfl hl.1 (by decide) rfl (fun ls9 h9 => ?_)
      refine zz_ldc (n := -2000000003) (v := -2000000003) hx hb hown (hts (.constant RL 21 (-2000000003)) (by decide +kernel)) (by decide +kernel) dL_wander_12 ?_
      refine zw_widen (k := 3) (n := 18) (Nat.le_of_ble_eq_true rfl) (Nat.le_of_ble_eq_true rfl) (vx_ret ?_)
      exact zz_reti hx hb hr hlocks hWx hSx hF9 dL_wander_14
  · refine W.eq (g2 := F0 m 6 ls (.int (zi (zi r9).toInt) :: [])) (by rw [← zi_of]; rfl) ?_
    refine zw_widen (k := 3) (n := 18) (Nat.le_of_ble_eq_true rfl) (Nat.le_of_ble_eq_true rfl) (vx_ret ?_)
    exact zz_reti hx hb hr hlocks hW9 hS9 (hok _ _ hp9) dL_wander_6

set_option maxHeartbeats 4000000 in
set_option maxRecDepth 100000 in
theorem c_L_cap (l : Launch) (G : zG) (ad : zA) (A : Nat → Prop) (N0 : Nat) (σ : zS) (h0 : (ad 0 0).isSome = true) (a1 : Int) {P F : Int → zS → Prop} {X : String → zS → Prop} (hM : vx_Met l yX6_cap wsX6_cap ({ frames := 7, cells := 1, slots := 6, locals := 222 }) (zPx G ad A N0 σ [zr ad 0 ((0 : Nat) : Int), .int (zi a1)]) (zQ G ad A zri P) (zXC G ad A X) 1 6 A) (hok : ∀ r u, P r u → F (zi r).toInt u) (hex : ∀ E u, X E u → (E = "java/lang/IllegalArgumentException" ∧ F (-2000000002) u)) : vx_Met l yL_cap wsL_cap ({ frames := 8, cells := 1, slots := 6, locals := 244 }) (zPH G ad A N0 σ [zr ad 0 ((0 : Nat) : Int), .int (zi a1)]) (zQ G ad A zri F) zX0 1 6 A := by
  refine zx_ofH (cc := cL_cap) (maxL := 3) (ret := some .int) (by decide) rfl (by intro v hv; simp only [List.mem_cons, List.not_mem_nil, or_false] at hv; rcases hv with rfl | rfl <;> first | rfl | exact zr_cat _ _ _) (Nat.le_of_ble_eq_true rfl) ?_
  intro p e s m below meth c hx hb hr hml hts hown hlocks htab hsz hW hK hE hAA hNC ls hl
  have hS : va_S A s.heap s.heap [] := va_S.rf
  have hl : zh ls 3 [(0, zr ad 0 ((0 : Nat) : Int)), (1, .int (zi a1))] := hl
  refine zz_aload_n hx hb hl 0 dL_cap_0 rfl rfl ?_
  refine zz_iload_n hx hb hl 1 dL_cap_1 rfl rfl ?_
  refine zx_callV (T := TX6) (N := 10) (As := [.int (zi a1)]) (rest := []) (v := ((0 : Nat) : Int)) (κ := 0) ⟨hx, hb, hml, hown, hts⟩ hM (cwV 1 hts gL_cap_X6_cap rfl rfl rfl (by decide +kernel) ⟨(Nat.le_of_ble_eq_true rfl), (Nat.le_of_ble_eq_true rfl)⟩) hK hE hW (zlN h0) rfl rfl hsz hS rfl hl.1.1 rfl (by decide) dL_cap_2 ⟨(Nat.le_of_ble_eq_true rfl), (Nat.le_of_ble_eq_true rfl)⟩ (fun E9 ce9 q9 u9 H9 locs9 hpx hWx hSx hce hcv hclx => ?_) (fun r9 u9 H9 locs9 hp9 hW9 hz9 hS9 => ?_)
  · have hxe := hex E9 u9 hpx
    obtain ⟨rfl, hF9⟩ := hxe
    refine vx_catch (own := RL) (name := "java/lang/IllegalArgumentException") hown [] (⟨0, 5, 6, 16⟩ : ExceptionTableEntry) [] (htab.trans rfl) (fun z hz => by cases hz) (by decide) (by decide) (hts (.classLink RL 16 "java/lang/IllegalArgumentException") (by decide +kernel)) (va_Nw.use rfl (hE.2.2.1.1 _ (by decide))) hce hcv hclx ?_
    refine lv_astore_n hx hb dL_cap_6 rfl hl.1 (by decide) rfl (fun ls9 h9 => ?_)
    refine zz_ldc (n := -2000000002) (v := -2000000002) hx hb hown (hts (.constant RL 18 (-2000000002)) (by decide +kernel)) (by decide +kernel) dL_cap_7 ?_
    refine zw_widen (k := 1) (n := 6) (Nat.le_of_ble_eq_true rfl) (Nat.le_of_ble_eq_true rfl) (vx_ret ?_)
    exact zz_reti hx hb hr hlocks hWx hSx hF9 dL_cap_9
  · refine W.eq (g2 := F0 m 5 ls (.int (zi (zi r9).toInt) :: [])) (by rw [← zi_of]; rfl) ?_
    refine zw_widen (k := 1) (n := 6) (Nat.le_of_ble_eq_true rfl) (Nat.le_of_ble_eq_true rfl) (vx_ret ?_)
    exact zz_reti hx hb hr hlocks hW9 hS9 (hok _ _ hp9) dL_cap_5

set_option maxHeartbeats 4000000 in
set_option maxRecDepth 100000 in
theorem c_L_height (l : Launch) (G : zG) (ad : zA) (A : Nat → Prop) (N0 : Nat) (σ : zS) (h0 : (ad 0 0).isSome = true) (a1 : Int) {P F : Int → zS → Prop} {X : String → zS → Prop} (hM : vx_Met l yX6_height wsX6_height ({ frames := 6, cells := 1, slots := 6, locals := 200 }) (zPx G ad A N0 σ [zr ad 0 ((0 : Nat) : Int), .int (zi a1)]) (zQ G ad A zri P) (zXC G ad A X) 1 6 A) (hok : ∀ r u, P r u → F (zi r).toInt u) (hex : ∀ E u, X E u → (E = "java/lang/IndexOutOfBoundsException" ∧ F (-2000000001) u)) : vx_Met l yL_height wsL_height ({ frames := 7, cells := 1, slots := 6, locals := 221 }) (zPH G ad A N0 σ [zr ad 0 ((0 : Nat) : Int), .int (zi a1)]) (zQ G ad A zri F) zX0 1 6 A := by
  refine zx_ofH (cc := cL_height) (maxL := 3) (ret := some .int) (by decide) rfl (by intro v hv; simp only [List.mem_cons, List.not_mem_nil, or_false] at hv; rcases hv with rfl | rfl <;> first | rfl | exact zr_cat _ _ _) (Nat.le_of_ble_eq_true rfl) ?_
  intro p e s m below meth c hx hb hr hml hts hown hlocks htab hsz hW hK hE hAA hNC ls hl
  have hS : va_S A s.heap s.heap [] := va_S.rf
  have hl : zh ls 3 [(0, zr ad 0 ((0 : Nat) : Int)), (1, .int (zi a1))] := hl
  refine zz_aload_n hx hb hl 0 dL_height_0 rfl rfl ?_
  refine zz_iload_n hx hb hl 1 dL_height_1 rfl rfl ?_
  refine zx_callV (T := TX6) (N := 10) (As := [.int (zi a1)]) (rest := []) (v := ((0 : Nat) : Int)) (κ := 0) ⟨hx, hb, hml, hown, hts⟩ hM (cwV 1 hts gL_height_X6_height rfl rfl rfl (by decide +kernel) ⟨(Nat.le_of_ble_eq_true rfl), (Nat.le_of_ble_eq_true rfl)⟩) hK hE hW (zlN h0) rfl rfl hsz hS rfl hl.1.1 rfl (by decide) dL_height_2 ⟨(Nat.le_of_ble_eq_true rfl), (Nat.le_of_ble_eq_true rfl)⟩ (fun E9 ce9 q9 u9 H9 locs9 hpx hWx hSx hce hcv hclx => ?_) (fun r9 u9 H9 locs9 hp9 hW9 hz9 hS9 => ?_)
  · have hxe := hex E9 u9 hpx
    obtain ⟨rfl, hF9⟩ := hxe
    refine vx_catch (own := RL) (name := "java/lang/IndexOutOfBoundsException") hown [] (⟨0, 5, 6, 13⟩ : ExceptionTableEntry) [] (htab.trans rfl) (fun z hz => by cases hz) (by decide) (by decide) (hts (.classLink RL 13 "java/lang/IndexOutOfBoundsException") (by decide +kernel)) (va_Nw.use rfl (hE.2.2.1.1 _ (by decide))) hce hcv hclx ?_
    refine lv_astore_n hx hb dL_height_6 rfl hl.1 (by decide) rfl (fun ls9 h9 => ?_)
    refine zz_ldc (n := -2000000001) (v := -2000000001) hx hb hown (hts (.constant RL 15 (-2000000001)) (by decide +kernel)) (by decide +kernel) dL_height_7 ?_
    refine zw_widen (k := 1) (n := 6) (Nat.le_of_ble_eq_true rfl) (Nat.le_of_ble_eq_true rfl) (vx_ret ?_)
    exact zz_reti hx hb hr hlocks hWx hSx hF9 dL_height_9
  · refine W.eq (g2 := F0 m 5 ls (.int (zi (zi r9).toInt) :: [])) (by rw [← zi_of]; rfl) ?_
    refine zw_widen (k := 1) (n := 6) (Nat.le_of_ble_eq_true rfl) (Nat.le_of_ble_eq_true rfl) (vx_ret ?_)
    exact zz_reti hx hb hr hlocks hW9 hS9 (hok _ _ hp9) dL_height_5

set_option maxHeartbeats 4000000 in
set_option maxRecDepth 100000 in
theorem c_L_request (l : Launch) (G : zG) (ad : zA) (A : Nat → Prop) (N0 : Nat) (σ : zS) (h0 : (ad 0 0).isSome = true) (a1 a2 a3 a4 : Int) {P F : zA → Int → zS → Prop} {X : String → zS → Prop} (hM : vx_Met l yX6_request wsX6_request ({ frames := 7, cells := 6, slots := 42, locals := 222 }) (zPxA G ad A N0 σ [zr ad 0 ((0 : Nat) : Int), .int (zi a1), .int (zi a2), .int (zi a3), .int (zi a4)]) (zQD G A P) (zXC G ad A X) 6 42 A) (hok : ∀ ad9 r u, P ad9 r u → F ad9 (zi r).toInt u) (hex : ∀ E u, X E u → (E = "java/lang/IndexOutOfBoundsException" ∧ F ad (-2000000001) u) ∨ (E = "java/lang/IllegalArgumentException" ∧ F ad (-2000000002) u) ∨ (E = "java/lang/IllegalStateException" ∧ F ad (-2000000003) u)) : vx_Met l yL_request wsL_request ({ frames := 8, cells := 6, slots := 42, locals := 249 }) (zPH G ad A N0 σ [zr ad 0 ((0 : Nat) : Int), .int (zi a1), .int (zi a2), .int (zi a3), .int (zi a4)]) (zQD G A F) zX0 6 42 A := by
  refine zx_ofH (cc := cL_request) (maxL := 6) (ret := some .int) (by decide) rfl (by intro v hv; simp only [List.mem_cons, List.not_mem_nil, or_false] at hv; rcases hv with rfl | rfl | rfl | rfl | rfl <;> first | rfl | exact zr_cat _ _ _) (Nat.le_of_ble_eq_true rfl) ?_
  intro p e s m below meth c hx hb hr hml hts hown hlocks htab hsz hW hK hE hAA hNC ls hl
  have hS : va_S A s.heap s.heap [] := va_S.rf
  have hl : zh ls 6 [(0, zr ad 0 ((0 : Nat) : Int)), (1, .int (zi a1)), (2, .int (zi a2)), (3, .int (zi a3)), (4, .int (zi a4))] := hl
  refine zz_aload_n hx hb hl 0 dL_request_0 rfl rfl ?_
  refine zz_iload_n hx hb hl 1 dL_request_1 rfl rfl ?_
  refine zz_iload_n hx hb hl 2 dL_request_2 rfl rfl ?_
  refine zz_iload_n hx hb hl 3 dL_request_3 rfl rfl ?_
  refine zz_iload hx hb hl 4 dL_request_4 rfl ?_
  refine zx_callVD (T := TX6) (N := 10) (As := [.int (zi a1), .int (zi a2), .int (zi a3), .int (zi a4)]) (rest := []) (v := ((0 : Nat) : Int)) (κ := 0) ⟨hx, hb, hml, hown, hts⟩ hM (cwV 4 hts gL_request_X6_request rfl rfl rfl (by decide +kernel) ⟨(Nat.le_of_ble_eq_true rfl), (Nat.le_of_ble_eq_true rfl)⟩) hK hE hAA hW (zlN h0) rfl rfl hsz hS rfl hl.1.1 rfl (by decide) dL_request_6 ⟨(Nat.le_of_ble_eq_true rfl), (Nat.le_of_ble_eq_true rfl)⟩ (fun E9 ce9 q9 u9 H9 locs9 hpx hWx hSx hce hcv hclx => ?_) (fun ad9 r9 u9 H9 locs9 hp9 hW9 hz9 hS9 => ?_)
  · have hxe := hex E9 u9 hpx
    rcases hxe with ⟨rfl, hF9⟩ | ⟨rfl, hF9⟩ | ⟨rfl, hF9⟩
    · refine vx_catch (own := RL) (name := "java/lang/IndexOutOfBoundsException") hown [] (⟨0, 9, 10, 13⟩ : ExceptionTableEntry) [(⟨0, 9, 15, 16⟩ : ExceptionTableEntry), (⟨0, 9, 20, 19⟩ : ExceptionTableEntry)] (htab.trans rfl) (fun z hz => by cases hz) (by decide) (by decide) (hts (.classLink RL 13 "java/lang/IndexOutOfBoundsException") (by decide +kernel)) (va_Nw.use rfl (hE.2.2.1.1 _ (by decide))) hce hcv hclx ?_
      refine lv_astore hx hb dL_request_10 hl.1 (by decide) rfl (fun ls9 h9 => ?_)
      refine zz_ldc (n := -2000000001) (v := -2000000001) hx hb hown (hts (.constant RL 15 (-2000000001)) (by decide +kernel)) (by decide +kernel) dL_request_12 ?_
      refine zw_widen (k := 6) (n := 42) (Nat.le_of_ble_eq_true rfl) (Nat.le_of_ble_eq_true rfl) (vx_ret ?_)
      exact zn_reti hx hb hr hlocks hWx hSx hF9 dL_request_14
    · refine vx_catch (own := RL) (name := "java/lang/IllegalArgumentException") hown [(⟨0, 9, 10, 13⟩ : ExceptionTableEntry)] (⟨0, 9, 15, 16⟩ : ExceptionTableEntry) [(⟨0, 9, 20, 19⟩ : ExceptionTableEntry)] (htab.trans rfl) (fun z hz => by simp only [List.mem_cons, List.not_mem_nil, or_false] at hz; rcases hz with rfl; (exact Or.inr ⟨by decide, "java/lang/IndexOutOfBoundsException", hts (.classLink RL 13 "java/lang/IndexOutOfBoundsException") (by decide +kernel), hNC.1⟩)) (by decide) (by decide) (hts (.classLink RL 16 "java/lang/IllegalArgumentException") (by decide +kernel)) (va_Nw.use rfl (hE.2.2.1.1 _ (by decide))) hce hcv hclx ?_
      refine lv_astore hx hb dL_request_15 hl.1 (by decide) rfl (fun ls9 h9 => ?_)
      refine zz_ldc (n := -2000000002) (v := -2000000002) hx hb hown (hts (.constant RL 18 (-2000000002)) (by decide +kernel)) (by decide +kernel) dL_request_17 ?_
      refine zw_widen (k := 6) (n := 42) (Nat.le_of_ble_eq_true rfl) (Nat.le_of_ble_eq_true rfl) (vx_ret ?_)
      exact zn_reti hx hb hr hlocks hWx hSx hF9 dL_request_19
    · refine vx_catch (own := RL) (name := "java/lang/IllegalStateException") hown [(⟨0, 9, 10, 13⟩ : ExceptionTableEntry), (⟨0, 9, 15, 16⟩ : ExceptionTableEntry)] (⟨0, 9, 20, 19⟩ : ExceptionTableEntry) [] (htab.trans rfl) (fun z hz => by
        simp only [List.mem_cons, List.not_mem_nil, or_false] at hz
        rcases hz with rfl | rfl
        · exact Or.inr ⟨by decide, "java/lang/IndexOutOfBoundsException", hts (.classLink RL 13 "java/lang/IndexOutOfBoundsException") (by decide +kernel), hNC.2.1⟩
        · exact Or.inr ⟨by decide, "java/lang/IllegalArgumentException", hts (.classLink RL 16 "java/lang/IllegalArgumentException") (by decide +kernel), hNC.2.2⟩) (by decide) (by decide) (hts (.classLink RL 19 "java/lang/IllegalStateException") (by decide +kernel)) (va_Nw.use rfl (hE.2.2.1.1 _ (by decide))) hce hcv hclx ?_
      refine lv_astore hx hb dL_request_20 hl.1 (by decide) rfl (fun ls9 h9 => ?_)
      refine zz_ldc (n := -2000000003) (v := -2000000003) hx hb hown (hts (.constant RL 21 (-2000000003)) (by decide +kernel)) (by decide +kernel) dL_request_22 ?_
      refine zw_widen (k := 6) (n := 42) (Nat.le_of_ble_eq_true rfl) (Nat.le_of_ble_eq_true rfl) (vx_ret ?_)
      exact zn_reti hx hb hr hlocks hWx hSx hF9 dL_request_24
  · refine W.eq (g2 := F0 m 9 ls (.int (zi (zi r9).toInt) :: [])) (by rw [← zi_of]) ?_
    refine zw_widen (k := 6) (n := 42) (Nat.le_of_ble_eq_true rfl) (Nat.le_of_ble_eq_true rfl) (vx_ret ?_)
    exact zn_reti hx hb hr hlocks hW9 hS9 (hok _ _ _ hp9) dL_request_9

set_option maxHeartbeats 4000000 in
set_option maxRecDepth 100000 in
theorem c_L_cancel (l : Launch) (G : zG) (ad : zA) (A : Nat → Prop) (N0 : Nat) (σ : zS) (h0 : (ad 0 0).isSome = true) (a1 : Int) {P F : Int → zS → Prop} {X : String → zS → Prop} (hM : vx_Met l yX6_cancel wsX6_cancel ({ frames := 7, cells := 2, slots := 12, locals := 222 }) (zPx G ad A N0 σ [zr ad 0 ((0 : Nat) : Int), .int (zi a1)]) (zQ G ad A zri P) (zXC G ad A X) 2 12 A) (hok : ∀ r u, P r u → F (zi r).toInt u) (hex : ∀ E u, X E u → (E = "java/lang/IndexOutOfBoundsException" ∧ F (-2000000001) u) ∨ (E = "java/lang/IllegalStateException" ∧ F (-2000000003) u)) : vx_Met l yL_cancel wsL_cancel ({ frames := 8, cells := 2, slots := 12, locals := 245 }) (zPH G ad A N0 σ [zr ad 0 ((0 : Nat) : Int), .int (zi a1)]) (zQ G ad A zri F) zX0 2 12 A := by
  refine zx_ofH (cc := cL_cancel) (maxL := 3) (ret := some .int) (by decide) rfl (by intro v hv; simp only [List.mem_cons, List.not_mem_nil, or_false] at hv; rcases hv with rfl | rfl <;> first | rfl | exact zr_cat _ _ _) (Nat.le_of_ble_eq_true rfl) ?_
  intro p e s m below meth c hx hb hr hml hts hown hlocks htab hsz hW hK hE hAA hNC ls hl
  have hS : va_S A s.heap s.heap [] := va_S.rf
  have hl : zh ls 3 [(0, zr ad 0 ((0 : Nat) : Int)), (1, .int (zi a1))] := hl
  refine zz_aload_n hx hb hl 0 dL_cancel_0 rfl rfl ?_
  refine zz_iload_n hx hb hl 1 dL_cancel_1 rfl rfl ?_
  refine zx_callV (T := TX6) (N := 10) (As := [.int (zi a1)]) (rest := []) (v := ((0 : Nat) : Int)) (κ := 0) ⟨hx, hb, hml, hown, hts⟩ hM (cwV 1 hts gL_cancel_X6_cancel rfl rfl rfl (by decide +kernel) ⟨(Nat.le_of_ble_eq_true rfl), (Nat.le_of_ble_eq_true rfl)⟩) hK hE hW (zlN h0) rfl rfl hsz hS rfl hl.1.1 rfl (by decide) dL_cancel_2 ⟨(Nat.le_of_ble_eq_true rfl), (Nat.le_of_ble_eq_true rfl)⟩ (fun E9 ce9 q9 u9 H9 locs9 hpx hWx hSx hce hcv hclx => ?_) (fun r9 u9 H9 locs9 hp9 hW9 hz9 hS9 => ?_)
  · have hxe := hex E9 u9 hpx
    rcases hxe with ⟨rfl, hF9⟩ | ⟨rfl, hF9⟩
    · refine vx_catch (own := RL) (name := "java/lang/IndexOutOfBoundsException") hown [] (⟨0, 5, 6, 13⟩ : ExceptionTableEntry) [(⟨0, 5, 10, 19⟩ : ExceptionTableEntry)] (htab.trans rfl) (fun z hz => by cases hz) (by decide) (by decide) (hts (.classLink RL 13 "java/lang/IndexOutOfBoundsException") (by decide +kernel)) (va_Nw.use rfl (hE.2.2.1.1 _ (by decide))) hce hcv hclx ?_
      refine lv_astore_n hx hb dL_cancel_6 rfl hl.1 (by decide) rfl (fun ls9 h9 => ?_)
      refine zz_ldc (n := -2000000001) (v := -2000000001) hx hb hown (hts (.constant RL 15 (-2000000001)) (by decide +kernel)) (by decide +kernel) dL_cancel_7 ?_
      refine zw_widen (k := 2) (n := 12) (Nat.le_of_ble_eq_true rfl) (Nat.le_of_ble_eq_true rfl) (vx_ret ?_)
      exact zz_reti hx hb hr hlocks hWx hSx hF9 dL_cancel_9
    · refine vx_catch (own := RL) (name := "java/lang/IllegalStateException") hown [(⟨0, 5, 6, 13⟩ : ExceptionTableEntry)] (⟨0, 5, 10, 19⟩ : ExceptionTableEntry) [] (htab.trans rfl) (fun z hz => by simp only [List.mem_cons, List.not_mem_nil, or_false] at hz; rcases hz with rfl; (exact Or.inr ⟨by decide, "java/lang/IndexOutOfBoundsException", hts (.classLink RL 13 "java/lang/IndexOutOfBoundsException") (by decide +kernel), hNC.2.1⟩)) (by decide) (by decide) (hts (.classLink RL 19 "java/lang/IllegalStateException") (by decide +kernel)) (va_Nw.use rfl (hE.2.2.1.1 _ (by decide))) hce hcv hclx ?_
      refine lv_astore_n hx hb dL_cancel_10 rfl hl.1 (by decide) rfl (fun ls9 h9 => ?_)
      refine zz_ldc (n := -2000000003) (v := -2000000003) hx hb hown (hts (.constant RL 21 (-2000000003)) (by decide +kernel)) (by decide +kernel) dL_cancel_11 ?_
      refine zw_widen (k := 2) (n := 12) (Nat.le_of_ble_eq_true rfl) (Nat.le_of_ble_eq_true rfl) (vx_ret ?_)
      exact zz_reti hx hb hr hlocks hWx hSx hF9 dL_cancel_13
  · refine W.eq (g2 := F0 m 5 ls (.int (zi (zi r9).toInt) :: [])) (by rw [← zi_of]; rfl) ?_
    refine zw_widen (k := 2) (n := 12) (Nat.le_of_ble_eq_true rfl) (Nat.le_of_ble_eq_true rfl) (vx_ret ?_)
    exact zz_reti hx hb hr hlocks hW9 hS9 (hok _ _ hp9) dL_cancel_5

set_option maxHeartbeats 4000000 in
set_option maxRecDepth 100000 in
theorem c_L_rate (l : Launch) (G : zG) (ad : zA) (A : Nat → Prop) (N0 : Nat) (σ : zS) (h0 : (ad 0 0).isSome = true) (a1 a2 : Int) {P F : Int → zS → Prop} {X : String → zS → Prop} (hM : vx_Met l yX6_rate wsX6_rate ({ frames := 7, cells := 3, slots := 18, locals := 222 }) (zPx G ad A N0 σ [zr ad 0 ((0 : Nat) : Int), .int (zi a1), .int (zi a2)]) (zQ G ad A zri P) (zXC G ad A X) 3 18 A) (hok : ∀ r u, P r u → F (zi r).toInt u) (hex : ∀ E u, X E u → (E = "java/lang/IndexOutOfBoundsException" ∧ F (-2000000001) u) ∨ (E = "java/lang/IllegalArgumentException" ∧ F (-2000000002) u) ∨ (E = "java/lang/IllegalStateException" ∧ F (-2000000003) u)) : vx_Met l yL_rate wsL_rate ({ frames := 8, cells := 3, slots := 18, locals := 247 }) (zPH G ad A N0 σ [zr ad 0 ((0 : Nat) : Int), .int (zi a1), .int (zi a2)]) (zQ G ad A zri F) zX0 3 18 A := by
  refine zx_ofH (cc := cL_rate) (maxL := 4) (ret := some .int) (by decide) rfl (by intro v hv; simp only [List.mem_cons, List.not_mem_nil, or_false] at hv; rcases hv with rfl | rfl | rfl <;> first | rfl | exact zr_cat _ _ _) (Nat.le_of_ble_eq_true rfl) ?_
  intro p e s m below meth c hx hb hr hml hts hown hlocks htab hsz hW hK hE hAA hNC ls hl
  have hS : va_S A s.heap s.heap [] := va_S.rf
  have hl : zh ls 4 [(0, zr ad 0 ((0 : Nat) : Int)), (1, .int (zi a1)), (2, .int (zi a2))] := hl
  refine zz_aload_n hx hb hl 0 dL_rate_0 rfl rfl ?_
  refine zz_iload_n hx hb hl 1 dL_rate_1 rfl rfl ?_
  refine zz_iload_n hx hb hl 2 dL_rate_2 rfl rfl ?_
  refine zx_callV (T := TX6) (N := 10) (As := [.int (zi a1), .int (zi a2)]) (rest := []) (v := ((0 : Nat) : Int)) (κ := 0) ⟨hx, hb, hml, hown, hts⟩ hM (cwV 2 hts gL_rate_X6_rate rfl rfl rfl (by decide +kernel) ⟨(Nat.le_of_ble_eq_true rfl), (Nat.le_of_ble_eq_true rfl)⟩) hK hE hW (zlN h0) rfl rfl hsz hS rfl hl.1.1 rfl (by decide) dL_rate_3 ⟨(Nat.le_of_ble_eq_true rfl), (Nat.le_of_ble_eq_true rfl)⟩ (fun E9 ce9 q9 u9 H9 locs9 hpx hWx hSx hce hcv hclx => ?_) (fun r9 u9 H9 locs9 hp9 hW9 hz9 hS9 => ?_)
  · have hxe := hex E9 u9 hpx
    rcases hxe with ⟨rfl, hF9⟩ | ⟨rfl, hF9⟩ | ⟨rfl, hF9⟩
    · refine vx_catch (own := RL) (name := "java/lang/IndexOutOfBoundsException") hown [] (⟨0, 6, 7, 13⟩ : ExceptionTableEntry) [(⟨0, 6, 11, 16⟩ : ExceptionTableEntry), (⟨0, 6, 15, 19⟩ : ExceptionTableEntry)] (htab.trans rfl) (fun z hz => by cases hz) (by decide) (by decide) (hts (.classLink RL 13 "java/lang/IndexOutOfBoundsException") (by decide +kernel)) (va_Nw.use rfl (hE.2.2.1.1 _ (by decide))) hce hcv hclx ?_
      refine lv_astore_n hx hb dL_rate_7 rfl hl.1 (by decide) rfl (fun ls9 h9 => ?_)
      refine zz_ldc (n := -2000000001) (v := -2000000001) hx hb hown (hts (.constant RL 15 (-2000000001)) (by decide +kernel)) (by decide +kernel) dL_rate_8 ?_
      refine zw_widen (k := 3) (n := 18) (Nat.le_of_ble_eq_true rfl) (Nat.le_of_ble_eq_true rfl) (vx_ret ?_)
      exact zz_reti hx hb hr hlocks hWx hSx hF9 dL_rate_10
    · refine vx_catch (own := RL) (name := "java/lang/IllegalArgumentException") hown [(⟨0, 6, 7, 13⟩ : ExceptionTableEntry)] (⟨0, 6, 11, 16⟩ : ExceptionTableEntry) [(⟨0, 6, 15, 19⟩ : ExceptionTableEntry)] (htab.trans rfl) (fun z hz => by simp only [List.mem_cons, List.not_mem_nil, or_false] at hz; rcases hz with rfl; (exact Or.inr ⟨by decide, "java/lang/IndexOutOfBoundsException", hts (.classLink RL 13 "java/lang/IndexOutOfBoundsException") (by decide +kernel), hNC.1⟩)) (by decide) (by decide) (hts (.classLink RL 16 "java/lang/IllegalArgumentException") (by decide +kernel)) (va_Nw.use rfl (hE.2.2.1.1 _ (by decide))) hce hcv hclx ?_
      refine lv_astore_n hx hb dL_rate_11 rfl hl.1 (by decide) rfl (fun ls9 h9 => ?_)
      refine zz_ldc (n := -2000000002) (v := -2000000002) hx hb hown (hts (.constant RL 18 (-2000000002)) (by decide +kernel)) (by decide +kernel) dL_rate_12 ?_
      refine zw_widen (k := 3) (n := 18) (Nat.le_of_ble_eq_true rfl) (Nat.le_of_ble_eq_true rfl) (vx_ret ?_)
      exact zz_reti hx hb hr hlocks hWx hSx hF9 dL_rate_14
    · refine vx_catch (own := RL) (name := "java/lang/IllegalStateException") hown [(⟨0, 6, 7, 13⟩ : ExceptionTableEntry), (⟨0, 6, 11, 16⟩ : ExceptionTableEntry)] (⟨0, 6, 15, 19⟩ : ExceptionTableEntry) [] (htab.trans rfl) (fun z hz => by
        simp only [List.mem_cons, List.not_mem_nil, or_false] at hz
        rcases hz with rfl | rfl
        · exact Or.inr ⟨by decide, "java/lang/IndexOutOfBoundsException", hts (.classLink RL 13 "java/lang/IndexOutOfBoundsException") (by decide +kernel), hNC.2.1⟩
        · exact Or.inr ⟨by decide, "java/lang/IllegalArgumentException", hts (.classLink RL 16 "java/lang/IllegalArgumentException") (by decide +kernel), hNC.2.2⟩) (by decide) (by decide) (hts (.classLink RL 19 "java/lang/IllegalStateException") (by decide +kernel)) (va_Nw.use rfl (hE.2.2.1.1 _ (by decide))) hce hcv hclx ?_
      refine lv_astore_n hx hb dL_rate_15 rfl hl.1 (by decide) rfl (fun ls9 h9 => ?_)
      refine zz_ldc (n := -2000000003) (v := -2000000003) hx hb hown (hts (.constant RL 21 (-2000000003)) (by decide +kernel)) (by decide +kernel) dL_rate_16 ?_
      refine zw_widen (k := 3) (n := 18) (Nat.le_of_ble_eq_true rfl) (Nat.le_of_ble_eq_true rfl) (vx_ret ?_)
      exact zz_reti hx hb hr hlocks hWx hSx hF9 dL_rate_18
  · refine W.eq (g2 := F0 m 6 ls (.int (zi (zi r9).toInt) :: [])) (by rw [← zi_of]; rfl) ?_
    refine zw_widen (k := 3) (n := 18) (Nat.le_of_ble_eq_true rfl) (Nat.le_of_ble_eq_true rfl) (vx_ret ?_)
    exact zz_reti hx hb hr hlocks hW9 hS9 (hok _ _ hp9) dL_rate_6

set_option maxHeartbeats 4000000 in
set_option maxRecDepth 100000 in
theorem c_L_best (l : Launch) (G : zG) (ad : zA) (A : Nat → Prop) (N0 : Nat) (σ : zS) (h0 : (ad 0 0).isSome = true) {P F : Int → zS → Prop} {X : String → zS → Prop} (hM : vx_Met l yX6_best wsX6_best ({ frames := 7, cells := 1, slots := 6, locals := 222 }) (zPx G ad A N0 σ [zr ad 0 ((0 : Nat) : Int)]) (zQ G ad A zri P) (zXC G ad A X) 1 6 A) (hok : ∀ r u, P r u → F (zi r).toInt u) (hex : ∀ E u, X E u → (E = "java/lang/IllegalStateException" ∧ F (-2000000003) u)) : vx_Met l yL_best wsL_best ({ frames := 8, cells := 1, slots := 6, locals := 242 }) (zPH G ad A N0 σ [zr ad 0 ((0 : Nat) : Int)]) (zQ G ad A zri F) zX0 1 6 A := by
  refine zx_ofH (cc := cL_best) (maxL := 2) (ret := some .int) (by decide) rfl (by intro v hv; rw [List.mem_singleton.mp hv]; exact zr_cat _ _ _) (Nat.le_of_ble_eq_true rfl) ?_
  intro p e s m below meth c hx hb hr hml hts hown hlocks htab hsz hW hK hE hAA hNC ls hl
  have hS : va_S A s.heap s.heap [] := va_S.rf
  have hl : zh ls 2 [(0, zr ad 0 ((0 : Nat) : Int))] := hl
  refine zz_aload_n hx hb hl 0 dL_best_0 rfl rfl ?_
  refine zx_callV (T := TX6) (N := 10) (As := []) (rest := []) (v := ((0 : Nat) : Int)) (κ := 0) ⟨hx, hb, hml, hown, hts⟩ hM (cwV 0 hts gL_best_X6_best rfl rfl rfl (by decide +kernel) ⟨(Nat.le_of_ble_eq_true rfl), (Nat.le_of_ble_eq_true rfl)⟩) hK hE hW (zlN h0) rfl rfl hsz hS rfl hl.1.1 rfl (by decide) dL_best_1 ⟨(Nat.le_of_ble_eq_true rfl), (Nat.le_of_ble_eq_true rfl)⟩ (fun E9 ce9 q9 u9 H9 locs9 hpx hWx hSx hce hcv hclx => ?_) (fun r9 u9 H9 locs9 hp9 hW9 hz9 hS9 => ?_)
  · have hxe := hex E9 u9 hpx
    obtain ⟨rfl, hF9⟩ := hxe
    refine vx_catch (own := RL) (name := "java/lang/IllegalStateException") hown [] (⟨0, 4, 5, 19⟩ : ExceptionTableEntry) [] (htab.trans rfl) (fun z hz => by cases hz) (by decide) (by decide) (hts (.classLink RL 19 "java/lang/IllegalStateException") (by decide +kernel)) (va_Nw.use rfl (hE.2.2.1.1 _ (by decide))) hce hcv hclx ?_
    refine lv_astore_n hx hb dL_best_5 rfl hl.1 (by decide) rfl (fun ls9 h9 => ?_)
    refine zz_ldc (n := -2000000003) (v := -2000000003) hx hb hown (hts (.constant RL 21 (-2000000003)) (by decide +kernel)) (by decide +kernel) dL_best_6 ?_
    refine zw_widen (k := 1) (n := 6) (Nat.le_of_ble_eq_true rfl) (Nat.le_of_ble_eq_true rfl) (vx_ret ?_)
    exact zz_reti hx hb hr hlocks hWx hSx hF9 dL_best_8
  · refine W.eq (g2 := F0 m 4 ls (.int (zi (zi r9).toInt) :: [])) (by rw [← zi_of]; rfl) ?_
    refine zw_widen (k := 1) (n := 6) (Nat.le_of_ble_eq_true rfl) (Nat.le_of_ble_eq_true rfl) (vx_ret ?_)
    exact zz_reti hx hb hr hlocks hW9 hS9 (hok _ _ hp9) dL_best_4

set_option maxHeartbeats 4000000 in
set_option maxRecDepth 100000 in
theorem c_L_anew (l : Launch) (G : zG) (ad : zA) (A : Nat → Prop) (N0 : Nat) (σ : zS) (h0 : (ad 0 0).isSome = true) {P F : Int → zS → Prop} {X : String → zS → Prop} (hM : vx_Met l yX6_bestAnew wsX6_bestAnew ({ frames := 7, cells := 1, slots := 6, locals := 222 }) (zPx G ad A N0 σ [zr ad 0 ((0 : Nat) : Int)]) (zQ G ad A zri P) (zXC G ad A X) 1 6 A) (hok : ∀ r u, P r u → F (zi r).toInt u) (hex : ∀ E u, X E u → (E = "java/lang/IllegalStateException" ∧ F (-2000000003) u)) : vx_Met l yL_anew wsL_anew ({ frames := 8, cells := 1, slots := 6, locals := 242 }) (zPH G ad A N0 σ [zr ad 0 ((0 : Nat) : Int)]) (zQ G ad A zri F) zX0 1 6 A := by
  refine zx_ofH (cc := cL_anew) (maxL := 2) (ret := some .int) (by decide) rfl (by intro v hv; rw [List.mem_singleton.mp hv]; exact zr_cat _ _ _) (Nat.le_of_ble_eq_true rfl) ?_
  intro p e s m below meth c hx hb hr hml hts hown hlocks htab hsz hW hK hE hAA hNC ls hl
  have hS : va_S A s.heap s.heap [] := va_S.rf
  have hl : zh ls 2 [(0, zr ad 0 ((0 : Nat) : Int))] := hl
  refine zz_aload_n hx hb hl 0 dL_anew_0 rfl rfl ?_
  refine zx_callV (T := TX6) (N := 10) (As := []) (rest := []) (v := ((0 : Nat) : Int)) (κ := 0) ⟨hx, hb, hml, hown, hts⟩ hM (cwV 0 hts gL_anew_X6_bestAnew rfl rfl rfl (by decide +kernel) ⟨(Nat.le_of_ble_eq_true rfl), (Nat.le_of_ble_eq_true rfl)⟩) hK hE hW (zlN h0) rfl rfl hsz hS rfl hl.1.1 rfl (by decide) dL_anew_1 ⟨(Nat.le_of_ble_eq_true rfl), (Nat.le_of_ble_eq_true rfl)⟩ (fun E9 ce9 q9 u9 H9 locs9 hpx hWx hSx hce hcv hclx => ?_) (fun r9 u9 H9 locs9 hp9 hW9 hz9 hS9 => ?_)
  · have hxe := hex E9 u9 hpx
    obtain ⟨rfl, hF9⟩ := hxe
    refine vx_catch (own := RL) (name := "java/lang/IllegalStateException") hown [] (⟨0, 4, 5, 19⟩ : ExceptionTableEntry) [] (htab.trans rfl) (fun z hz => by cases hz) (by decide) (by decide) (hts (.classLink RL 19 "java/lang/IllegalStateException") (by decide +kernel)) (va_Nw.use rfl (hE.2.2.1.1 _ (by decide))) hce hcv hclx ?_
    refine lv_astore_n hx hb dL_anew_5 rfl hl.1 (by decide) rfl (fun ls9 h9 => ?_)
    refine zz_ldc (n := -2000000003) (v := -2000000003) hx hb hown (hts (.constant RL 21 (-2000000003)) (by decide +kernel)) (by decide +kernel) dL_anew_6 ?_
    refine zw_widen (k := 1) (n := 6) (Nat.le_of_ble_eq_true rfl) (Nat.le_of_ble_eq_true rfl) (vx_ret ?_)
    exact zz_reti hx hb hr hlocks hWx hSx hF9 dL_anew_8
  · refine W.eq (g2 := F0 m 4 ls (.int (zi (zi r9).toInt) :: [])) (by rw [← zi_of]; rfl) ?_
    refine zw_widen (k := 1) (n := 6) (Nat.le_of_ble_eq_true rfl) (Nat.le_of_ble_eq_true rfl) (vx_ret ?_)
    exact zz_reti hx hb hr hlocks hW9 hS9 (hok _ _ hp9) dL_anew_4

set_option maxHeartbeats 4000000 in
set_option maxRecDepth 100000 in
theorem c_L_match (l : Launch) (G : zG) (ad : zA) (A : Nat → Prop) (N0 : Nat) (σ : zS) (h0 : (ad 0 0).isSome = true) {P F : Int → zS → Prop} {X : String → zS → Prop} (hM : vx_Met l yX6_match wsX6_match ({ frames := 7, cells := 1, slots := 6, locals := 222 }) (zPx G ad A N0 σ [zr ad 0 ((0 : Nat) : Int)]) (zQ G ad A zri P) (zXC G ad A X) 1 6 A) (hok : ∀ r u, P r u → F (zi r).toInt u) (hex : ∀ E u, X E u → (E = "java/lang/IllegalStateException" ∧ F (-2000000003) u)) : vx_Met l yL_match wsL_match ({ frames := 8, cells := 1, slots := 6, locals := 246 }) (zPH G ad A N0 σ [zr ad 0 ((0 : Nat) : Int)]) (zQ G ad A zri F) zX0 1 6 A := by
  refine zx_ofH (cc := cL_match) (maxL := 2) (ret := some .int) (by decide) rfl (by intro v hv; rw [List.mem_singleton.mp hv]; exact zr_cat _ _ _) (Nat.le_of_ble_eq_true rfl) ?_
  intro p e s m below meth c hx hb hr hml hts hown hlocks htab hsz hW hK hE hAA hNC ls hl
  have hS : va_S A s.heap s.heap [] := va_S.rf
  have hl : zh ls 2 [(0, zr ad 0 ((0 : Nat) : Int))] := hl
  refine zz_aload_n hx hb hl 0 dL_match_0 rfl rfl ?_
  refine zx_callV (T := TX6) (N := 10) (As := []) (rest := []) (v := ((0 : Nat) : Int)) (κ := 0) ⟨hx, hb, hml, hown, hts⟩ hM (cwV 0 hts gL_match_X6_match rfl rfl rfl (by decide +kernel) ⟨(Nat.le_of_ble_eq_true rfl), (Nat.le_of_ble_eq_true rfl)⟩) hK hE hW (zlN h0) rfl rfl hsz hS rfl hl.1.1 rfl (by decide) dL_match_1 ⟨(Nat.le_of_ble_eq_true rfl), (Nat.le_of_ble_eq_true rfl)⟩ (fun E9 ce9 q9 u9 H9 locs9 hpx hWx hSx hce hcv hclx => ?_) (fun r9 u9 H9 locs9 hp9 hW9 hz9 hS9 => ?_)
  · have hxe := hex E9 u9 hpx
    obtain ⟨rfl, hF9⟩ := hxe
    refine vx_catch (own := RL) (name := "java/lang/IllegalStateException") hown [] (⟨0, 4, 5, 19⟩ : ExceptionTableEntry) [] (htab.trans rfl) (fun z hz => by cases hz) (by decide) (by decide) (hts (.classLink RL 19 "java/lang/IllegalStateException") (by decide +kernel)) (va_Nw.use rfl (hE.2.2.1.1 _ (by decide))) hce hcv hclx ?_
    refine lv_astore_n hx hb dL_match_5 rfl hl.1 (by decide) rfl (fun ls9 h9 => ?_)
    refine zz_ldc (n := -2000000003) (v := -2000000003) hx hb hown (hts (.constant RL 21 (-2000000003)) (by decide +kernel)) (by decide +kernel) dL_match_6 ?_
    refine zw_widen (k := 1) (n := 6) (Nat.le_of_ble_eq_true rfl) (Nat.le_of_ble_eq_true rfl) (vx_ret ?_)
    exact zz_reti hx hb hr hlocks hWx hSx hF9 dL_match_8
  · refine W.eq (g2 := F0 m 4 ls (.int (zi (zi r9).toInt) :: [])) (by rw [← zi_of]; rfl) ?_
    refine zw_widen (k := 1) (n := 6) (Nat.le_of_ble_eq_true rfl) (Nat.le_of_ble_eq_true rfl) (vx_ret ?_)
    exact zz_reti hx hb hr hlocks hW9 hS9 (hok _ _ hp9) dL_match_4

set_option maxHeartbeats 4000000 in
set_option maxRecDepth 100000 in
theorem c_L_requestIs (l : Launch) (G : zG) (ad : zA) (A : Nat → Prop) (N0 : Nat) (σ : zS) (h0 : (ad 0 0).isSome = true) (a1 a2 : Int) {P F : Int → zS → Prop} {X : String → zS → Prop} (hM : vx_Met l yX6_requestIs wsX6_requestIs ({ frames := 7, cells := 2, slots := 12, locals := 222 }) (zPx G ad A N0 σ [zr ad 0 ((0 : Nat) : Int), .int (zi a1), .int (zi a2)]) (zQ G ad A zri P) (zXC G ad A X) 2 12 A) (hok : ∀ r u, P r u → F (zi r).toInt u) (hex : ∀ E u, X E u → (E = "java/lang/IndexOutOfBoundsException" ∧ F (-2000000001) u) ∨ (E = "java/lang/IllegalArgumentException" ∧ F (-2000000002) u)) : vx_Met l yL_requestIs wsL_requestIs ({ frames := 8, cells := 2, slots := 12, locals := 245 }) (zPH G ad A N0 σ [zr ad 0 ((0 : Nat) : Int), .int (zi a1), .int (zi a2)]) (zQ G ad A zri F) zX0 2 12 A := by
  refine zx_ofH (cc := cL_requestIs) (maxL := 4) (ret := some .int) (by decide) rfl (by intro v hv; simp only [List.mem_cons, List.not_mem_nil, or_false] at hv; rcases hv with rfl | rfl | rfl <;> first | rfl | exact zr_cat _ _ _) (Nat.le_of_ble_eq_true rfl) ?_
  intro p e s m below meth c hx hb hr hml hts hown hlocks htab hsz hW hK hE hAA hNC ls hl
  have hS : va_S A s.heap s.heap [] := va_S.rf
  have hl : zh ls 4 [(0, zr ad 0 ((0 : Nat) : Int)), (1, .int (zi a1)), (2, .int (zi a2))] := hl
  refine zz_aload_n hx hb hl 0 dL_requestIs_0 rfl rfl ?_
  refine zz_iload_n hx hb hl 1 dL_requestIs_1 rfl rfl ?_
  refine zz_iload_n hx hb hl 2 dL_requestIs_2 rfl rfl ?_
  refine zx_callV (T := TX6) (N := 10) (As := [.int (zi a1), .int (zi a2)]) (rest := []) (v := ((0 : Nat) : Int)) (κ := 0) ⟨hx, hb, hml, hown, hts⟩ hM (cwV 2 hts gL_requestIs_X6_requestIs rfl rfl rfl (by decide +kernel) ⟨(Nat.le_of_ble_eq_true rfl), (Nat.le_of_ble_eq_true rfl)⟩) hK hE hW (zlN h0) rfl rfl hsz hS rfl hl.1.1 rfl (by decide) dL_requestIs_3 ⟨(Nat.le_of_ble_eq_true rfl), (Nat.le_of_ble_eq_true rfl)⟩ (fun E9 ce9 q9 u9 H9 locs9 hpx hWx hSx hce hcv hclx => ?_) (fun r9 u9 H9 locs9 hp9 hW9 hz9 hS9 => ?_)
  · have hxe := hex E9 u9 hpx
    rcases hxe with ⟨rfl, hF9⟩ | ⟨rfl, hF9⟩
    · refine vx_catch (own := RL) (name := "java/lang/IndexOutOfBoundsException") hown [] (⟨0, 6, 7, 13⟩ : ExceptionTableEntry) [(⟨0, 6, 11, 16⟩ : ExceptionTableEntry)] (htab.trans rfl) (fun z hz => by cases hz) (by decide) (by decide) (hts (.classLink RL 13 "java/lang/IndexOutOfBoundsException") (by decide +kernel)) (va_Nw.use rfl (hE.2.2.1.1 _ (by decide))) hce hcv hclx ?_
      refine lv_astore_n hx hb dL_requestIs_7 rfl hl.1 (by decide) rfl (fun ls9 h9 => ?_)
      refine zz_ldc (n := -2000000001) (v := -2000000001) hx hb hown (hts (.constant RL 15 (-2000000001)) (by decide +kernel)) (by decide +kernel) dL_requestIs_8 ?_
      refine zw_widen (k := 2) (n := 12) (Nat.le_of_ble_eq_true rfl) (Nat.le_of_ble_eq_true rfl) (vx_ret ?_)
      exact zz_reti hx hb hr hlocks hWx hSx hF9 dL_requestIs_10
    · refine vx_catch (own := RL) (name := "java/lang/IllegalArgumentException") hown [(⟨0, 6, 7, 13⟩ : ExceptionTableEntry)] (⟨0, 6, 11, 16⟩ : ExceptionTableEntry) [] (htab.trans rfl) (fun z hz => by simp only [List.mem_cons, List.not_mem_nil, or_false] at hz; rcases hz with rfl; (exact Or.inr ⟨by decide, "java/lang/IndexOutOfBoundsException", hts (.classLink RL 13 "java/lang/IndexOutOfBoundsException") (by decide +kernel), hNC.1⟩)) (by decide) (by decide) (hts (.classLink RL 16 "java/lang/IllegalArgumentException") (by decide +kernel)) (va_Nw.use rfl (hE.2.2.1.1 _ (by decide))) hce hcv hclx ?_
      refine lv_astore_n hx hb dL_requestIs_11 rfl hl.1 (by decide) rfl (fun ls9 h9 => ?_)
      refine zz_ldc (n := -2000000002) (v := -2000000002) hx hb hown (hts (.constant RL 18 (-2000000002)) (by decide +kernel)) (by decide +kernel) dL_requestIs_12 ?_
      refine zw_widen (k := 2) (n := 12) (Nat.le_of_ble_eq_true rfl) (Nat.le_of_ble_eq_true rfl) (vx_ret ?_)
      exact zz_reti hx hb hr hlocks hWx hSx hF9 dL_requestIs_14
  · refine W.eq (g2 := F0 m 6 ls (.int (zi (zi r9).toInt) :: [])) (by rw [← zi_of]; rfl) ?_
    refine zw_widen (k := 2) (n := 12) (Nat.le_of_ble_eq_true rfl) (Nat.le_of_ble_eq_true rfl) (vx_ret ?_)
    exact zz_reti hx hb hr hlocks hW9 hS9 (hok _ _ hp9) dL_requestIs_6

set_option maxHeartbeats 4000000 in
set_option maxRecDepth 100000 in
theorem c_L_driverIs (l : Launch) (G : zG) (ad : zA) (A : Nat → Prop) (N0 : Nat) (σ : zS) (h0 : (ad 0 0).isSome = true) (a1 a2 : Int) {P F : Int → zS → Prop} {X : String → zS → Prop} (hM : vx_Met l yX6_driverIs wsX6_driverIs ({ frames := 7, cells := 2, slots := 12, locals := 222 }) (zPx G ad A N0 σ [zr ad 0 ((0 : Nat) : Int), .int (zi a1), .int (zi a2)]) (zQ G ad A zri P) (zXC G ad A X) 2 12 A) (hok : ∀ r u, P r u → F (zi r).toInt u) (hex : ∀ E u, X E u → (E = "java/lang/IndexOutOfBoundsException" ∧ F (-2000000001) u) ∨ (E = "java/lang/IllegalArgumentException" ∧ F (-2000000002) u)) : vx_Met l yL_driverIs wsL_driverIs ({ frames := 8, cells := 2, slots := 12, locals := 245 }) (zPH G ad A N0 σ [zr ad 0 ((0 : Nat) : Int), .int (zi a1), .int (zi a2)]) (zQ G ad A zri F) zX0 2 12 A := by
  refine zx_ofH (cc := cL_driverIs) (maxL := 4) (ret := some .int) (by decide) rfl (by intro v hv; simp only [List.mem_cons, List.not_mem_nil, or_false] at hv; rcases hv with rfl | rfl | rfl <;> first | rfl | exact zr_cat _ _ _) (Nat.le_of_ble_eq_true rfl) ?_
  intro p e s m below meth c hx hb hr hml hts hown hlocks htab hsz hW hK hE hAA hNC ls hl
  have hS : va_S A s.heap s.heap [] := va_S.rf
  have hl : zh ls 4 [(0, zr ad 0 ((0 : Nat) : Int)), (1, .int (zi a1)), (2, .int (zi a2))] := hl
  refine zz_aload_n hx hb hl 0 dL_driverIs_0 rfl rfl ?_
  refine zz_iload_n hx hb hl 1 dL_driverIs_1 rfl rfl ?_
  refine zz_iload_n hx hb hl 2 dL_driverIs_2 rfl rfl ?_
  refine zx_callV (T := TX6) (N := 10) (As := [.int (zi a1), .int (zi a2)]) (rest := []) (v := ((0 : Nat) : Int)) (κ := 0) ⟨hx, hb, hml, hown, hts⟩ hM (cwV 2 hts gL_driverIs_X6_driverIs rfl rfl rfl (by decide +kernel) ⟨(Nat.le_of_ble_eq_true rfl), (Nat.le_of_ble_eq_true rfl)⟩) hK hE hW (zlN h0) rfl rfl hsz hS rfl hl.1.1 rfl (by decide) dL_driverIs_3 ⟨(Nat.le_of_ble_eq_true rfl), (Nat.le_of_ble_eq_true rfl)⟩ (fun E9 ce9 q9 u9 H9 locs9 hpx hWx hSx hce hcv hclx => ?_) (fun r9 u9 H9 locs9 hp9 hW9 hz9 hS9 => ?_)
  · have hxe := hex E9 u9 hpx
    rcases hxe with ⟨rfl, hF9⟩ | ⟨rfl, hF9⟩
    · refine vx_catch (own := RL) (name := "java/lang/IndexOutOfBoundsException") hown [] (⟨0, 6, 7, 13⟩ : ExceptionTableEntry) [(⟨0, 6, 11, 16⟩ : ExceptionTableEntry)] (htab.trans rfl) (fun z hz => by cases hz) (by decide) (by decide) (hts (.classLink RL 13 "java/lang/IndexOutOfBoundsException") (by decide +kernel)) (va_Nw.use rfl (hE.2.2.1.1 _ (by decide))) hce hcv hclx ?_
      refine lv_astore_n hx hb dL_driverIs_7 rfl hl.1 (by decide) rfl (fun ls9 h9 => ?_)
      refine zz_ldc (n := -2000000001) (v := -2000000001) hx hb hown (hts (.constant RL 15 (-2000000001)) (by decide +kernel)) (by decide +kernel) dL_driverIs_8 ?_
      refine zw_widen (k := 2) (n := 12) (Nat.le_of_ble_eq_true rfl) (Nat.le_of_ble_eq_true rfl) (vx_ret ?_)
      exact zz_reti hx hb hr hlocks hWx hSx hF9 dL_driverIs_10
    · refine vx_catch (own := RL) (name := "java/lang/IllegalArgumentException") hown [(⟨0, 6, 7, 13⟩ : ExceptionTableEntry)] (⟨0, 6, 11, 16⟩ : ExceptionTableEntry) [] (htab.trans rfl) (fun z hz => by simp only [List.mem_cons, List.not_mem_nil, or_false] at hz; rcases hz with rfl; (exact Or.inr ⟨by decide, "java/lang/IndexOutOfBoundsException", hts (.classLink RL 13 "java/lang/IndexOutOfBoundsException") (by decide +kernel), hNC.1⟩)) (by decide) (by decide) (hts (.classLink RL 16 "java/lang/IllegalArgumentException") (by decide +kernel)) (va_Nw.use rfl (hE.2.2.1.1 _ (by decide))) hce hcv hclx ?_
      refine lv_astore_n hx hb dL_driverIs_11 rfl hl.1 (by decide) rfl (fun ls9 h9 => ?_)
      refine zz_ldc (n := -2000000002) (v := -2000000002) hx hb hown (hts (.constant RL 18 (-2000000002)) (by decide +kernel)) (by decide +kernel) dL_driverIs_12 ?_
      refine zw_widen (k := 2) (n := 12) (Nat.le_of_ble_eq_true rfl) (Nat.le_of_ble_eq_true rfl) (vx_ret ?_)
      exact zz_reti hx hb hr hlocks hWx hSx hF9 dL_driverIs_14
  · refine W.eq (g2 := F0 m 6 ls (.int (zi (zi r9).toInt) :: [])) (by rw [← zi_of]; rfl) ?_
    refine zw_widen (k := 2) (n := 12) (Nat.le_of_ble_eq_true rfl) (Nat.le_of_ble_eq_true rfl) (vx_ret ?_)
    exact zz_reti hx hb hr hlocks hW9 hS9 (hok _ _ hp9) dL_driverIs_6

set_option maxHeartbeats 4000000 in
set_option maxRecDepth 100000 in
theorem c_L_stop (l : Launch) (G : zG) (ad : zA) (A : Nat → Prop) (N0 : Nat) (σ : zS) (h0 : (ad 0 0).isSome = true) (a1 a2 a3 : Int) {P F : Int → zS → Prop} {X : String → zS → Prop} (hM : vx_Met l yX6_stop wsX6_stop ({ frames := 7, cells := 2, slots := 12, locals := 222 }) (zPx G ad A N0 σ [zr ad 0 ((0 : Nat) : Int), .int (zi a1), .int (zi a2), .int (zi a3)]) (zQ G ad A zri P) (zXC G ad A X) 2 12 A) (hok : ∀ r u, P r u → F (zi r).toInt u) (hex : ∀ E u, X E u → (E = "java/lang/IndexOutOfBoundsException" ∧ F (-2000000001) u)) : vx_Met l yL_stop wsL_stop ({ frames := 8, cells := 2, slots := 12, locals := 247 }) (zPH G ad A N0 σ [zr ad 0 ((0 : Nat) : Int), .int (zi a1), .int (zi a2), .int (zi a3)]) (zQ G ad A zri F) zX0 2 12 A := by
  refine zx_ofH (cc := cL_stop) (maxL := 5) (ret := some .int) (by decide) rfl (by intro v hv; simp only [List.mem_cons, List.not_mem_nil, or_false] at hv; rcases hv with rfl | rfl | rfl | rfl <;> first | rfl | exact zr_cat _ _ _) (Nat.le_of_ble_eq_true rfl) ?_
  intro p e s m below meth c hx hb hr hml hts hown hlocks htab hsz hW hK hE hAA hNC ls hl
  have hS : va_S A s.heap s.heap [] := va_S.rf
  have hl : zh ls 5 [(0, zr ad 0 ((0 : Nat) : Int)), (1, .int (zi a1)), (2, .int (zi a2)), (3, .int (zi a3))] := hl
  refine zz_aload_n hx hb hl 0 dL_stop_0 rfl rfl ?_
  refine zz_iload_n hx hb hl 1 dL_stop_1 rfl rfl ?_
  refine zz_iload_n hx hb hl 2 dL_stop_2 rfl rfl ?_
  refine zz_iload_n hx hb hl 3 dL_stop_3 rfl rfl ?_
  refine zx_callV (T := TX6) (N := 10) (As := [.int (zi a1), .int (zi a2), .int (zi a3)]) (rest := []) (v := ((0 : Nat) : Int)) (κ := 0) ⟨hx, hb, hml, hown, hts⟩ hM (cwV 3 hts gL_stop_X6_stop rfl rfl rfl (by decide +kernel) ⟨(Nat.le_of_ble_eq_true rfl), (Nat.le_of_ble_eq_true rfl)⟩) hK hE hW (zlN h0) rfl rfl hsz hS rfl hl.1.1 rfl (by decide) dL_stop_4 ⟨(Nat.le_of_ble_eq_true rfl), (Nat.le_of_ble_eq_true rfl)⟩ (fun E9 ce9 q9 u9 H9 locs9 hpx hWx hSx hce hcv hclx => ?_) (fun r9 u9 H9 locs9 hp9 hW9 hz9 hS9 => ?_)
  · have hxe := hex E9 u9 hpx
    obtain ⟨rfl, hF9⟩ := hxe
    refine vx_catch (own := RL) (name := "java/lang/IndexOutOfBoundsException") hown [] (⟨0, 7, 8, 13⟩ : ExceptionTableEntry) [] (htab.trans rfl) (fun z hz => by cases hz) (by decide) (by decide) (hts (.classLink RL 13 "java/lang/IndexOutOfBoundsException") (by decide +kernel)) (va_Nw.use rfl (hE.2.2.1.1 _ (by decide))) hce hcv hclx ?_
    refine lv_astore hx hb dL_stop_8 hl.1 (by decide) rfl (fun ls9 h9 => ?_)
    refine zz_ldc (n := -2000000001) (v := -2000000001) hx hb hown (hts (.constant RL 15 (-2000000001)) (by decide +kernel)) (by decide +kernel) dL_stop_10 ?_
    refine zw_widen (k := 2) (n := 12) (Nat.le_of_ble_eq_true rfl) (Nat.le_of_ble_eq_true rfl) (vx_ret ?_)
    exact zz_reti hx hb hr hlocks hWx hSx hF9 dL_stop_12
  · refine W.eq (g2 := F0 m 7 ls (.int (zi (zi r9).toInt) :: [])) (by rw [← zi_of]; rfl) ?_
    refine zw_widen (k := 2) (n := 12) (Nat.le_of_ble_eq_true rfl) (Nat.le_of_ble_eq_true rfl) (vx_ret ?_)
    exact zz_reti hx hb hr hlocks hW9 hS9 (hok _ _ hp9) dL_stop_7

set_option maxHeartbeats 4000000 in
set_option maxRecDepth 100000 in
theorem c_L_pay (l : Launch) (G : zG) (ad : zA) (A : Nat → Prop) (N0 : Nat) (σ : zS) (h0 : (ad 0 0).isSome = true) (a1 : Int) {P F : Int → zS → Prop} {X : String → zS → Prop} (hM : vx_Met l yX6_pay wsX6_pay ({ frames := 7, cells := 1, slots := 6, locals := 222 }) (zPx G ad A N0 σ [zr ad 0 ((0 : Nat) : Int), .int (zi a1)]) (zQ G ad A zri P) (zXC G ad A X) 1 6 A) (hok : ∀ r u, P r u → F (zi r).toInt u) (hex : ∀ E u, X E u → (E = "java/lang/IndexOutOfBoundsException" ∧ F (-2000000001) u)) : vx_Met l yL_pay wsL_pay ({ frames := 8, cells := 1, slots := 6, locals := 244 }) (zPH G ad A N0 σ [zr ad 0 ((0 : Nat) : Int), .int (zi a1)]) (zQ G ad A zri F) zX0 1 6 A := by
  refine zx_ofH (cc := cL_pay) (maxL := 3) (ret := some .int) (by decide) rfl (by intro v hv; simp only [List.mem_cons, List.not_mem_nil, or_false] at hv; rcases hv with rfl | rfl <;> first | rfl | exact zr_cat _ _ _) (Nat.le_of_ble_eq_true rfl) ?_
  intro p e s m below meth c hx hb hr hml hts hown hlocks htab hsz hW hK hE hAA hNC ls hl
  have hS : va_S A s.heap s.heap [] := va_S.rf
  have hl : zh ls 3 [(0, zr ad 0 ((0 : Nat) : Int)), (1, .int (zi a1))] := hl
  refine zz_aload_n hx hb hl 0 dL_pay_0 rfl rfl ?_
  refine zz_iload_n hx hb hl 1 dL_pay_1 rfl rfl ?_
  refine zx_callV (T := TX6) (N := 10) (As := [.int (zi a1)]) (rest := []) (v := ((0 : Nat) : Int)) (κ := 0) ⟨hx, hb, hml, hown, hts⟩ hM (cwV 1 hts gL_pay_X6_pay rfl rfl rfl (by decide +kernel) ⟨(Nat.le_of_ble_eq_true rfl), (Nat.le_of_ble_eq_true rfl)⟩) hK hE hW (zlN h0) rfl rfl hsz hS rfl hl.1.1 rfl (by decide) dL_pay_2 ⟨(Nat.le_of_ble_eq_true rfl), (Nat.le_of_ble_eq_true rfl)⟩ (fun E9 ce9 q9 u9 H9 locs9 hpx hWx hSx hce hcv hclx => ?_) (fun r9 u9 H9 locs9 hp9 hW9 hz9 hS9 => ?_)
  · have hxe := hex E9 u9 hpx
    obtain ⟨rfl, hF9⟩ := hxe
    refine vx_catch (own := RL) (name := "java/lang/IndexOutOfBoundsException") hown [] (⟨0, 5, 6, 13⟩ : ExceptionTableEntry) [] (htab.trans rfl) (fun z hz => by cases hz) (by decide) (by decide) (hts (.classLink RL 13 "java/lang/IndexOutOfBoundsException") (by decide +kernel)) (va_Nw.use rfl (hE.2.2.1.1 _ (by decide))) hce hcv hclx ?_
    refine lv_astore_n hx hb dL_pay_6 rfl hl.1 (by decide) rfl (fun ls9 h9 => ?_)
    refine zz_ldc (n := -2000000001) (v := -2000000001) hx hb hown (hts (.constant RL 15 (-2000000001)) (by decide +kernel)) (by decide +kernel) dL_pay_7 ?_
    refine zw_widen (k := 1) (n := 6) (Nat.le_of_ble_eq_true rfl) (Nat.le_of_ble_eq_true rfl) (vx_ret ?_)
    exact zz_reti hx hb hr hlocks hWx hSx hF9 dL_pay_9
  · refine W.eq (g2 := F0 m 5 ls (.int (zi (zi r9).toInt) :: [])) (by rw [← zi_of]; rfl) ?_
    refine zw_widen (k := 1) (n := 6) (Nat.le_of_ble_eq_true rfl) (Nat.le_of_ble_eq_true rfl) (vx_ret ?_)
    exact zz_reti hx hb hr hlocks hW9 hS9 (hok _ _ hp9) dL_pay_5

set_option maxHeartbeats 4000000 in
set_option maxRecDepth 100000 in
theorem c_L_pass (l : Launch) (G : zG) (ad : zA) (A : Nat → Prop) (N0 : Nat) (σ : zS) (h0 : (ad 0 0).isSome = true) (a1 : Int) {P F : Int → zS → Prop} {X : String → zS → Prop} (hM : vx_Met l yX6_pass wsX6_pass ({ frames := 7, cells := 2, slots := 12, locals := 222 }) (zPx G ad A N0 σ [zr ad 0 ((0 : Nat) : Int), .int (zi a1)]) (zQ G ad A zri P) (zXC G ad A X) 2 12 A) (hok : ∀ r u, P r u → F (zi r).toInt u) (hex : ∀ E u, X E u → (E = "java/lang/IllegalArgumentException" ∧ F (-2000000002) u) ∨ (E = "java/lang/IllegalStateException" ∧ F (-2000000003) u)) : vx_Met l yL_pass wsL_pass ({ frames := 8, cells := 2, slots := 12, locals := 244 }) (zPH G ad A N0 σ [zr ad 0 ((0 : Nat) : Int), .int (zi a1)]) (zQ G ad A zri F) zX0 2 12 A := by
  refine zx_ofH (cc := cL_pass) (maxL := 3) (ret := some .int) (by decide) rfl (by intro v hv; simp only [List.mem_cons, List.not_mem_nil, or_false] at hv; rcases hv with rfl | rfl <;> first | rfl | exact zr_cat _ _ _) (Nat.le_of_ble_eq_true rfl) ?_
  intro p e s m below meth c hx hb hr hml hts hown hlocks htab hsz hW hK hE hAA hNC ls hl
  have hS : va_S A s.heap s.heap [] := va_S.rf
  have hl : zh ls 3 [(0, zr ad 0 ((0 : Nat) : Int)), (1, .int (zi a1))] := hl
  refine zz_aload_n hx hb hl 0 dL_pass_0 rfl rfl ?_
  refine zz_iload_n hx hb hl 1 dL_pass_1 rfl rfl ?_
  refine zx_callV (T := TX6) (N := 10) (As := [.int (zi a1)]) (rest := []) (v := ((0 : Nat) : Int)) (κ := 0) ⟨hx, hb, hml, hown, hts⟩ hM (cwV 1 hts gL_pass_X6_pass rfl rfl rfl (by decide +kernel) ⟨(Nat.le_of_ble_eq_true rfl), (Nat.le_of_ble_eq_true rfl)⟩) hK hE hW (zlN h0) rfl rfl hsz hS rfl hl.1.1 rfl (by decide) dL_pass_2 ⟨(Nat.le_of_ble_eq_true rfl), (Nat.le_of_ble_eq_true rfl)⟩ (fun E9 ce9 q9 u9 H9 locs9 hpx hWx hSx hce hcv hclx => ?_) (fun r9 u9 H9 locs9 hp9 hW9 hz9 hS9 => ?_)
  · have hxe := hex E9 u9 hpx
    rcases hxe with ⟨rfl, hF9⟩ | ⟨rfl, hF9⟩
    · refine vx_catch (own := RL) (name := "java/lang/IllegalArgumentException") hown [] (⟨0, 5, 6, 16⟩ : ExceptionTableEntry) [(⟨0, 5, 10, 19⟩ : ExceptionTableEntry)] (htab.trans rfl) (fun z hz => by cases hz) (by decide) (by decide) (hts (.classLink RL 16 "java/lang/IllegalArgumentException") (by decide +kernel)) (va_Nw.use rfl (hE.2.2.1.1 _ (by decide))) hce hcv hclx ?_
      refine lv_astore_n hx hb dL_pass_6 rfl hl.1 (by decide) rfl (fun ls9 h9 => ?_)
      refine zz_ldc (n := -2000000002) (v := -2000000002) hx hb hown (hts (.constant RL 18 (-2000000002)) (by decide +kernel)) (by decide +kernel) dL_pass_7 ?_
      refine zw_widen (k := 2) (n := 12) (Nat.le_of_ble_eq_true rfl) (Nat.le_of_ble_eq_true rfl) (vx_ret ?_)
      exact zz_reti hx hb hr hlocks hWx hSx hF9 dL_pass_9
    · refine vx_catch (own := RL) (name := "java/lang/IllegalStateException") hown [(⟨0, 5, 6, 16⟩ : ExceptionTableEntry)] (⟨0, 5, 10, 19⟩ : ExceptionTableEntry) [] (htab.trans rfl) (fun z hz => by simp only [List.mem_cons, List.not_mem_nil, or_false] at hz; rcases hz with rfl; (exact Or.inr ⟨by decide, "java/lang/IllegalArgumentException", hts (.classLink RL 16 "java/lang/IllegalArgumentException") (by decide +kernel), hNC.2.2⟩)) (by decide) (by decide) (hts (.classLink RL 19 "java/lang/IllegalStateException") (by decide +kernel)) (va_Nw.use rfl (hE.2.2.1.1 _ (by decide))) hce hcv hclx ?_
      refine lv_astore_n hx hb dL_pass_10 rfl hl.1 (by decide) rfl (fun ls9 h9 => ?_)
      refine zz_ldc (n := -2000000003) (v := -2000000003) hx hb hown (hts (.constant RL 21 (-2000000003)) (by decide +kernel)) (by decide +kernel) dL_pass_11 ?_
      refine zw_widen (k := 2) (n := 12) (Nat.le_of_ble_eq_true rfl) (Nat.le_of_ble_eq_true rfl) (vx_ret ?_)
      exact zz_reti hx hb hr hlocks hWx hSx hF9 dL_pass_13
  · refine W.eq (g2 := F0 m 5 ls (.int (zi (zi r9).toInt) :: [])) (by rw [← zi_of]; rfl) ?_
    refine zw_widen (k := 2) (n := 12) (Nat.le_of_ble_eq_true rfl) (Nat.le_of_ble_eq_true rfl) (vx_ret ?_)
    exact zz_reti hx hb hr hlocks hW9 hS9 (hok _ _ hp9) dL_pass_5
