/-! THE CLAIM OUT OF ONE WALK OF THE LAW'S BODY. Your part is whole_start (and what it stands on); all else here is the same for every law, but numbers. -/
def R_law : String := "HailCityLaw"
def lw_P (b : Addr) (xs : List Int32) (args : Array Value) (s : State) : Prop := args = #[.ref b] ∧ s.IntsAt b xs ∧ xs.length ≤ 2560 ∧ (Jvm.Cond.and given_1 narrow_1).before args s = true
def lw_Q (_ : Array Value) (s : State) (o : Outcome) (t : State) : Prop := o = .returned (some (.int 1)) ∧ Framed s o t [] 601024 7293034
def lw_Z (below : List Frame) (a : Array Value) (s : State) : State → Prop := fun t => ∃ o, t.status = .running ∧ Ended t below o ∧ lw_Q a s o t
/-- the law's own end, with 1 on the stack, nothing written that was there before, its room as the claim has it -/
theorem lw_ret {p : Program} {l : Launch} {e : Env} {s : State} {m : MethodId} {below : List Frame} {meth : Method} {c : Code} {b : Nat} (hx : p.tables.exec = Jvm.exec) (hb : c.code = code) (hr : meth.sig.returnType = ret) (hlocks : meth.locks = false) {pc : Nat} {H : Heap} {ls : Array Slot} (hdg : decode code pc = .ok (.ireturn, 1)) : W p l e room_1 s m #[Value.ref b] below meth c H [] 601024 7293034 (lw_Z below #[Value.ref b] s) (F0 m pc ls [.int 1]) := by
  intro T hT X
  obtain ⟨fs, hret, hrun, hended, hW, hframe⟩ := X.leave (v := some (.int 1)) (hlocks := hlocks) (fun h => by rw [hr] at h; cases h)
  have hmeth' : T.vm.method? m = some meth := X.method'
  refine ⟨T.setFrames fs, ?_, .returned (some (.int 1)), hrun, hended, rfl, ⟨_, rfl⟩, hW, hframe⟩
  jvm_step X.here [X.here.top, hx, hb, hdg, hmeth', hr, ret, narrow_b1]
  (try refine ⟨rfl, ?_⟩); (try refine ⟨rfl, ?_⟩)
  first | (intro acts; rw [hret _ acts rfl rfl rfl]) | rw [hret _ _ rfl rfl rfl]
  exact Steps.refl _
/-- what holds at the law's entry: the machine, the code, the tables' words (any of lw_tbl by 'hts w (by decide +kernel)'), the script of L ints xs at the cell b, what the Statement gives of the start (any of its parts by flat_of_before) -/
def lw_At (p : Program) (s : State) (m : MethodId) (meth : Method) (c : Code) (b L : Nat) (xs : Nat → Int32) : Prop :=
  p.tables.exec = Jvm.exec ∧ c.code = code ∧ meth.sig.returnType = ret ∧ c.maxLocals = 7 ∧ s.vm.findClass R_law = some m.cls ∧ (∀ w ∈ lw_tbl, w.before #[Value.ref b] s = true) ∧ va_X b L xs s s.heap ∧ b < s.heap.size ∧ meth.locks = false ∧ (Jvm.Cond.and given_1 narrow_1).before #[Value.ref b] s = true
def zLw (b i : Nat) (ad1 ad2 : zA) : List (Nat × Value) := [(4, .int (zi ((5 * i : Nat) : Int))), (3, zr ad1 90 ((0 : Nat) : Int)), (2, zr ad2 30 ((0 : Nat) : Int)), (1, zr ad1 0 ((0 : Nat) : Int)), (0, .ref b)]
set_option maxHeartbeats 4000000 in
set_option maxRecDepth 100000 in
theorem w_loop {p : Program} {l : Launch} {e : Env} {s : State} {m : MethodId} {below : List Frame} {meth : Method} {c : Code} {G : zG} {ad2 : zA} {b L : Nat} {xs : Nat → Int32} (S : CallFix p m c cL_law 7 s #[Value.ref b] lw_tbl RL) (hr : meth.sig.returnType = ret) (hlocks : meth.locks = false) (hst : l.stackTraces = false) (hXs : va_X b L xs s s.heap) (hbl : b < s.heap.size) (hL : L ≤ 2560) (hK : zK G s) (hE : zE (zA0 s) s) (hAA : zAA G s) (hNC : zNC s) :
    ∀ (n i : Nat) (ad1 : zA) (σ τ : zS) (nd nr ns : Nat) (H : Heap) (locs : List Loc) (ls : Array Slot), 5 * i ≤ L → L < 5 * (i + n) → zLV G ad1 ad2 (zA0 s) H ((i : Nat) : Int) σ τ nd nr ns → va_S (zA0 s) s.heap H locs → zh ls 7 (zLw b i ad1 ad2) → W p l e room_1 s m #[Value.ref b] below meth c H locs (75 + 8 * i) (3116 + 63 * i) (lw_Z below #[Value.ref b] s) (F0 m 23 ls []) := by
  have S0 := S
  obtain ⟨hx, hb, hml, hown, hts⟩ := S0
  intro n
  induction n with
  | zero => intro i ad1 σ τ nd nr ns H locs ls h5 hn; omega
  | succ n ih =>
    intro i ad1 σ τ nd nr ns H locs ls h5 hn hV hS hl
    have hl : zh ls 7 [(4, .int (zi ((5 * i : Nat) : Int))), (3, zr ad1 90 ((0 : Nat) : Int)), (2, zr ad2 30 ((0 : Nat) : Int)), (1, zr ad1 0 ((0 : Nat) : Int)), (0, .ref b)] := hl
    have hg5 : zg ((5 * i : Nat) : Int) := ⟨by omega, by omega⟩
    refine zz_iload hx hb hl 0 dL_law_23 rfl ?_
    refine lv_aload_n hx hb dL_law_25 rfl (zh_at hl 4 rfl) ?_
    refine va_slen hx hb hXs hbl (fun h => Nat.not_le.mpr hbl h) hS dL_law_26 ?_
    refine W.eq (g2 := F0 m 27 ls [.int (zi ((L : Nat) : Int)), .int (zi ((5 * i : Nat) : Int))]) (by rw [zi_nat L]) ?_
    refine zz_iconst hx hb dL_law_27 ?_
    refine zz_isub hx hb dL_law_28 ?_
    refine zz_icmp_gt (tgt := 1419) hx hb dL_law_29 (by decide) hg5 ⟨by omega, by omega⟩ (fun h => ?_) (fun h => ?_)
    · refine zz_iconst hx hb dL_law_1419 ?_
      refine zw_widen (k := 601024) (n := 7293034) (by omega) (by omega) (va_forget hS.2.2 ?_)
      refine W.eq (g2 := F0 m 1420 ls [.int 1]) rfl ?_
      exact lw_ret hx hb hr hlocks dL_law_1420
    · have hnext : ∀ (ad9 : zA) (v w : zS) (nd9 nr9 ns9 : Nat) (H9 : Heap) (locs9 : List Loc) (ls9 : Array Slot), zLV G ad9 ad2 (zA0 s) H9 (((i : Nat) : Int) + 1) v w nd9 nr9 ns9 → va_S (zA0 s) s.heap H9 locs9 → zh ls9 7 [(4, .int (zi ((5 * i : Nat) : Int))), (3, zr ad9 90 ((0 : Nat) : Int)), (2, zr ad2 30 ((0 : Nat) : Int)), (1, zr ad9 0 ((0 : Nat) : Int)), (0, .ref b)] → W p l e room_1 s m #[Value.ref b] below meth c H9 locs9 (75 + 8 * i + 8) (3116 + 63 * i + 63) (lw_Z below #[Value.ref b] s) (F0 m 1413 ls9 []) := by
        intro ad9 v w nd9 nr9 ns9 H9 locs9 ls9 hV9 hS9 hl9
        refine zz_iinc (k0 := 0) (lv' := [(4, .int (zi (((5 * i : Nat) : Int) + 5))), (3, zr ad9 90 ((0 : Nat) : Int)), (2, zr ad2 30 ((0 : Nat) : Int)), (1, zr ad9 0 ((0 : Nat) : Int)), (0, .ref b)]) hx hb hl9 dL_law_1413 rfl (by decide) rfl (fun lsA hlA => ?_)
        have e1 : (((5 * i : Nat) : Int) + 5) = ((5 * (i + 1) : Nat) : Int) := by omega
        rw [e1] at hlA
        have e2 : ((i : Nat) : Int) + 1 = ((i + 1 : Nat) : Int) := by omega
        rw [e2] at hV9
        refine zz_goto (tgt := 23) hx hb dL_law_1416 (by decide) ?_
        exact zw_widen (by omega) (by omega) (ih (i + 1) ad9 v w nd9 nr9 ns9 H9 locs9 lsA (by omega) (by omega) hV9 hS9 hlA)
      have hi : 5 * i + 5 ≤ L := by omega
      refine lv_aload_n hx hb dL_law_32 rfl (zh_at hl 4 rfl) ?_
      refine zz_iload hx hb hl 0 dL_law_33 rfl ?_
      refine va_sld hx hb hXs hbl (fun h => Nat.not_le.mpr hbl h) hS (fun q => ?_) dL_law_35 ?_
      · rcases q with q | q
        · rw [zi_lt0 hg5] at q; omega
        · rw [zi_clamp hg5] at q; omega
      refine zz_bipush hx hb dL_law_36 (by decide) ?_
      refine lv_iand hx hb dL_law_38 ?_
      generalize (xs (zi ((5 * i : Nat) : Int)).toNatClampNeg &&& zi 31) = X
      by_cases hj : X.toInt < 0 ∨ 20 < X.toInt
      · refine lv_tableOut (tgt := 1413) hx hb dL_law_39 hj (by decide) ?_
        obtain ⟨v1, v2, v3, v4, v5, v6, v7, v8, v9⟩ := hV
        exact zw_widen (by omega) (by omega) (hnext ad1 σ τ nd nr ns H locs ls ⟨v1, v2, v3, v4, v5, v6, v7, v8, yWF_B v9 (by omega) (by omega)⟩ hS hl)
      · have hc : X.toInt = 0 ∨ X.toInt = 1 ∨ X.toInt = 2 ∨ X.toInt = 3 ∨ X.toInt = 4 ∨ X.toInt = 5 ∨ X.toInt = 6 ∨ X.toInt = 7 ∨ X.toInt = 8 ∨ X.toInt = 9 ∨ X.toInt = 10 ∨ X.toInt = 11 ∨ X.toInt = 12 ∨ X.toInt = 13 ∨ X.toInt = 14 ∨ X.toInt = 15 ∨ X.toInt = 16 ∨ X.toInt = 17 ∨ X.toInt = 18 ∨ X.toInt = 19 ∨ X.toInt = 20 := by omega
        have hc1 : 75 + 8 * i + 8 ≤ 601024 := by omega
        have hc2 : 3116 + 63 * i + 63 ≤ 7293034 := by omega
        rcases hc with h | h | h | h | h | h | h | h | h | h | h | h | h | h | h | h | h | h | h | h | h
        · exact lv_tableIn (off := 97) (tgt := 136) hx hb dL_law_39 (by omega) (by omega) (by rw [h]; rfl) (by decide) (w_street S hst hXs hbl hL hK hE hAA hNC hV hS hi hc1 hc2 hl hnext)
        · exact lv_tableIn (off := 177) (tgt := 216) hx hb dL_law_39 (by omega) (by omega) (by rw [h]; rfl) (by decide) (w_slow S hst hXs hbl hL hK hE hAA hNC hV hS hi hc1 hc2 hl hnext)
        · exact lv_tableIn (off := 245) (tgt := 284) hx hb dL_law_39 (by omega) (by omega) (by rw [h]; rfl) (by decide) (w_way S hst hXs hbl hL hK hE hAA hNC hV hS hi hc1 hc2 hl hnext)
        · exact lv_tableIn (off := 313) (tgt := 352) hx hb dL_law_39 (by omega) (by omega) (by rw [h]; rfl) (by decide) (w_driver S hst hXs hbl hL hK hE hAA hNC hV hS hi hc1 hc2 hl hnext)
        · exact lv_tableIn (off := 369) (tgt := 408) hx hb dL_law_39 (by omega) (by omega) (by rw [h]; rfl) (by decide) (w_rest S hst hXs hbl hL hK hE hAA hNC hV hS hi hc1 hc2 hl hnext)
        · exact lv_tableIn (off := 460) (tgt := 499) hx hb dL_law_39 (by omega) (by omega) (by rw [h]; rfl) (by decide) (w_wander S hst hXs hbl hL hK hE hAA hNC hV hS hi hc1 hc2 hl hnext)
        · exact lv_tableIn (off := 528) (tgt := 567) hx hb dL_law_39 (by omega) (by omega) (by rw [h]; rfl) (by decide) (w_cap S hst hXs hbl hL hK hE hAA hNC hV hS hi hc1 hc2 hl hnext)
        · exact lv_tableIn (off := 584) (tgt := 623) hx hb dL_law_39 (by omega) (by omega) (by rw [h]; rfl) (by decide) (w_height S hst hXs hbl hL hK hE hAA hNC hV hS hi hc1 hc2 hl hnext)
        · exact lv_tableIn (off := 640) (tgt := 679) hx hb dL_law_39 (by omega) (by omega) (by rw [h]; rfl) (by decide) (w_request S hst hXs hbl hL hK hE hAA hNC hV hS hi hc1 hc2 hl hnext)
        · exact lv_tableIn (off := 748) (tgt := 787) hx hb dL_law_39 (by omega) (by omega) (by rw [h]; rfl) (by decide) (w_cancel S hst hXs hbl hL hK hE hAA hNC hV hS hi hc1 hc2 hl hnext)
        · exact lv_tableIn (off := 804) (tgt := 843) hx hb dL_law_39 (by omega) (by omega) (by rw [h]; rfl) (by decide) (w_rate S hst hXs hbl hL hK hE hAA hNC hV hS hi hc1 hc2 hl hnext)
        · exact lv_tableIn (off := 872) (tgt := 911) hx hb dL_law_39 (by omega) (by omega) (by rw [h]; rfl) (by decide) (w_airport S hst hXs hbl hL hK hE hAA hNC hV hS hi hc1 hc2 hl hnext)
        · exact lv_tableIn (off := 885) (tgt := 924) hx hb dL_law_39 (by omega) (by omega) (by rw [h]; rfl) (by decide) (w_best S hst hXs hbl hL hK hE hAA hNC hV hS hi hc1 hc2 hl hnext)
        · exact lv_tableIn (off := 929) (tgt := 968) hx hb dL_law_39 (by omega) (by omega) (by rw [h]; rfl) (by decide) (w_bestAnew S hst hXs hbl hL hK hE hAA hNC hV hS hi hc1 hc2 hl hnext)
        · exact lv_tableIn (off := 973) (tgt := 1012) hx hb dL_law_39 (by omega) (by omega) (by rw [h]; rfl) (by decide) (w_match S hst hXs hbl hL hK hE hAA hNC hV hS hi hc1 hc2 hl hnext)
        · exact lv_tableIn (off := 1017) (tgt := 1056) hx hb dL_law_39 (by omega) (by omega) (by rw [h]; rfl) (by decide) (w_share S hst hXs hbl hL hK hE hAA hNC hV hS hi hc1 hc2 hl hnext)
        · exact lv_tableIn (off := 1030) (tgt := 1069) hx hb dL_law_39 (by omega) (by omega) (by rw [h]; rfl) (by decide) (w_requestIs S hst hXs hbl hL hK hE hAA hNC hV hS hi hc1 hc2 hl hnext)
        · exact lv_tableIn (off := 1098) (tgt := 1137) hx hb dL_law_39 (by omega) (by omega) (by rw [h]; rfl) (by decide) (w_driverIs S hst hXs hbl hL hK hE hAA hNC hV hS hi hc1 hc2 hl hnext)
        · exact lv_tableIn (off := 1166) (tgt := 1205) hx hb dL_law_39 (by omega) (by omega) (by rw [h]; rfl) (by decide) (w_stop S hst hXs hbl hL hK hE hAA hNC hV hS hi hc1 hc2 hl hnext)
        · exact lv_tableIn (off := 1262) (tgt := 1301) hx hb dL_law_39 (by omega) (by omega) (by rw [h]; rfl) (by decide) (w_pay S hst hXs hbl hL hK hE hAA hNC hV hS hi hc1 hc2 hl hnext)
        · exact lv_tableIn (off := 1318) (tgt := 1357) hx hb dL_law_39 (by omega) (by omega) (by rw [h]; rfl) (by decide) (w_pass S hst hXs hbl hL hK hE hAA hNC hV hS hi hc1 hc2 hl hnext)
