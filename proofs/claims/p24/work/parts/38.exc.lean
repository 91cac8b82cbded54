/-! what is thrown, and goes on -/
def zEx : List String := ["java/lang/IndexOutOfBoundsException", "java/lang/IllegalArgumentException", "java/lang/IllegalStateException"]
def zNm : List String := ["java/lang/RuntimeException", "java/lang/Exception"]
def zStr : List (Nat × String) := [(273, "no such place"), (54, "both places are the same"), (275, "out of range"), (68, "there are 20 streets"), (77, "no such street"), (90, "there are 8 drivers"), (277, "no such driver"), (115, "the driver has stops"), (128, "the driver can't be sent there"), (140, "no such zone"), (149, "there are 60 requests, or there is no way"), (279, "no such request"), (171, "the request neither WAITS nor is SENT"), (187, "the request is not DONE, or was rated"), (293, "more than 5 WAIT"), (245, "no such stop"), (265, "it would be above 20000")]
def zDc : List MethodName := [Bundle.initS "java/lang/RuntimeException", Bundle.initS "java/lang/Exception", Bundle.initS Bundle.tN]
def zE (A : Nat → Prop) (U : State) : Prop := vx_Zq Bundle.tN "UNASSIGNED_STACK" Bundle.steD A U U.heap ∧ vx_Zq Bundle.tN "SUPPRESSED_SENTINEL" Bundle.listD A U U.heap ∧ ((∀ X ∈ zEx, va_Nw (.castable X X) U) ∧ ∀ X ∈ zDc, va_Nw (.declares X) U) ∧ ∀ q ∈ zStr, ∃ sa, vk_R RX6 q.1 q.2 sa U
theorem zE.go {A : Nat → Prop} {s U : State} {H : Heap} {locs : List Loc} (h : zE A s) (hS : va_S A s.heap H locs) (hU : U.heap = H) (hW : s.WarmedH U.vm) : zE A U := by
  refine ⟨?_, ?_, ⟨fun X hX => va_Nw.warmC hW (h.2.2.1.1 X hX), fun X hX => va_Nw.warmD hW (h.2.2.1.2 X hX)⟩, fun q hq => ?_⟩
  · rw [hU]; exact (vx_Zq.moved hW.alike h.1).kept (fun a h1 h2 => hS.2.1 a h1 h2)
  · rw [hU]; exact (vx_Zq.moved hW.alike h.2.1).kept (fun a h1 h2 => hS.2.1 a h1 h2)
  · obtain ⟨sa, hsa⟩ := h.2.2.2 q hq
    exact ⟨sa, vk_R.warm hW hsa⟩
theorem zE.same {A : Nat → Prop} {u U : State} (hv : u.vm = U.vm) (hh : U.heap = u.heap) (h : zE A u) : zE A U := by
  have ha : u.vm.Alike U.vm := by rw [hv]; exact Vm.Alike.refl U.vm
  refine ⟨?_, ?_, ⟨fun X hX => va_Nw.same rfl hv (h.2.2.1.1 X hX), fun X hX => va_Nw.same rfl hv (h.2.2.1.2 X hX)⟩, fun q hq => ?_⟩
  · rw [hh]; exact vx_Zq.moved ha h.1
  · rw [hh]; exact vx_Zq.moved ha h.2.1
  · obtain ⟨sa, hsa⟩ := h.2.2.2 q hq
    exact ⟨sa, vk_R.same hv.symm hsa⟩
def zPx (G : zG) (ad : zA) (A : Nat → Prop) (N0 : Nat) (σ : zS) (av : List Value) : Array Value → State → Prop := va_Pc av (fun U => N0 ≤ U.heap.size ∧ ZW G ad A σ U.heap ∧ zK G U ∧ zE A U)
theorem zPx.blind {G : zG} {ad : zA} {A : Nat → Prop} {N0 : Nat} {σ : zS} {av : List Value} : FrameBlind (zPx G ad A N0 σ av) := fun a U g mk q => ⟨q.1, q.2.1, q.2.2.1, zK.same (u := U) (U := U.calling g mk a) rfl q.2.2.2.1, zE.same (u := U) (U := U.calling g mk a) rfl rfl q.2.2.2.2⟩
def zXC (G : zG) (ad : zA) (A : Nat → Prop) (px : String → zS → Prop) : String → State → State → Prop := fun E st t => ∃ u : zS, px E u ∧ ZW G ad A u t.heap ∧ va_F A st t
theorem ZW.kept {G : zG} {ad : zA} {A : Nat → Prop} {σ : zS} {H H1 : Heap} (h : ZW G ad A σ H) (hq : ∀ q, q < H.size → H1[q]? = H[q]?) : ZW G ad A σ H1 :=
  ⟨fun κ i a ha => ⟨(h.1 κ i a ha).1.kept (hq a (h.1 κ i a ha).1.lt), (h.1 κ i a ha).2⟩, h.2⟩
theorem zat0 : (vx_atS RX6 79 "java/lang/IndexOutOfBoundsException" zNm).filter (fun w => !goodWord w) = zDc.map .declares ++ [.castable "java/lang/IndexOutOfBoundsException" "java/lang/IndexOutOfBoundsException"] := by decide +kernel
theorem zat1 : (vx_atS RX6 56 "java/lang/IllegalArgumentException" zNm).filter (fun w => !goodWord w) = zDc.map .declares ++ [.castable "java/lang/IllegalArgumentException" "java/lang/IllegalArgumentException"] := by decide +kernel
theorem zat2 : (vx_atS RX6 70 "java/lang/IllegalStateException" zNm).filter (fun w => !goodWord w) = zDc.map .declares ++ [.castable "java/lang/IllegalStateException" "java/lang/IllegalStateException"] := by decide +kernel
theorem zot0 : ∀ w ∈ Cond.classLink RX6 75 "java/lang/IndexOutOfBoundsException" :: Cond.initialized "java/lang/IndexOutOfBoundsException" :: vx_atS RX6 79 "java/lang/IndexOutOfBoundsException" zNm, vx_ot w = true := by decide +kernel
theorem zot1 : ∀ w ∈ Cond.classLink RX6 52 "java/lang/IllegalArgumentException" :: Cond.initialized "java/lang/IllegalArgumentException" :: vx_atS RX6 56 "java/lang/IllegalArgumentException" zNm, vx_ot w = true := by decide +kernel
theorem zot2 : ∀ w ∈ Cond.classLink RX6 66 "java/lang/IllegalStateException" :: Cond.initialized "java/lang/IllegalStateException" :: vx_atS RX6 70 "java/lang/IllegalStateException" zNm, vx_ot w = true := by decide +kernel
section ZXR
variable {p : Program} {l : Launch} {e : Env} {R : Room} {s : State} {m : MethodId} {args : Array Value} {below : List Frame} {meth : Method} {c : Code} {H : Heap} {locs : List Loc} {cells slots : Nat} {Q : State → Prop}
variable {cc : ByteArray} {pc : Nat} {ls : Array Slot} {rest : List Value} {G : zG} {ad : zA} {A : Nat → Prop} {σ : zS} {H0 : Heap} {N0 : Nat}
theorem zx_thrown (hW : ZW G ad A σ H) (hS : va_S A s.heap H locs) {px : String → zS → Prop} {cls : String} (hp : px cls σ) : ∀ t : State, s.vm.Alike t.vm → H.size ≤ t.heap.size → (∀ q : Nat, q < H.size → t.heap[q]? = H[q]?) → zXC G ad A px cls s t :=
  fun t _ h1 h2 => ⟨σ, hp, hW.kept h2, Nat.le_trans hS.1 h1, fun q hq hn => by rw [h2 q (Nat.lt_of_lt_of_le hq hS.1)]; exact hS.2.1 q hq hn⟩
theorem zx_at {own cls : String} {ic : Nat} {names : List String} {Ts : List Cond} (hts : ∀ w ∈ Ts, w.before args s = true) (hin : ∀ w ∈ (vx_atS own ic cls names).filter goodWord, w ∈ Ts) (hg : (vx_atS own ic cls names).filter (fun w => !goodWord w) = zDc.map .declares ++ [.castable cls cls]) (hcls : cls ∈ zEx) (hE : zE A s) : ∀ w ∈ vx_atS own ic cls names, w.before args s = true := by
  refine vx_hat (B := zDc.map .declares ++ [.castable cls cls]) (fun w hw => hts w (hin w hw)) (fun w hw => by rw [hg] at hw; exact hw) (fun w hw => ?_)
  rcases List.mem_append.mp hw with hw | hw
  · obtain ⟨X, hX, rfl⟩ := List.mem_map.mp hw
    exact va_Nw.use rfl (hE.2.2.1.2 X hX)
  · rw [List.mem_singleton.mp hw]
    exact va_Nw.use rfl (hE.2.2.1.1 cls hcls)
theorem zx_throw {px : String → zS → Prop} {Qc : Array Value → State → Outcome → State → Prop} {Ts : List Cond} {nL ik is ic mc ms : Nat} {cls text : String} (S : CallFix p m c cc nL s args Ts RX6) (hl : l.stackTraces = false) (hlocks : meth.locks = false) (hout : ∀ x ∈ c.exceptionTable.toList, False) (hE : zE A s) (hW : ZW G ad A σ H) (hS : va_S A s.heap H locs)
    (hcls : Bundle.fit cls = true) (hex : cls ∈ zEx) (hk : Cond.classLink RX6 ik cls ∈ Ts) (hini : Cond.initialized cls ∈ Ts) (hin : ∀ w ∈ (vx_atS RX6 ic cls zNm).filter goodWord, w ∈ Ts) (hg : (vx_atS RX6 ic cls zNm).filter (fun w => !goodWord w) = zDc.map .declares ++ [.castable cls cls])
    (hot : ∀ w ∈ Cond.classLink RX6 ik cls :: Cond.initialized cls :: vx_atS RX6 ic cls zNm, vx_ot w = true) (hstr : (is, text) ∈ zStr) (hsize : ls.size = nL)
    (d0 : decode cc pc = .ok (.new ik, 3)) (d3 : decode cc (pc + 3) = .ok (.dup, 1)) (d4 : decode cc (pc + 4) = .ok (.ldc is, 2)) (d6 : decode cc (pc + 6) = .ok (.invokespecial ic, 3)) (d9 : decode cc (pc + 9) = .ok (.athrow, 1))
    (hR : 5 < R.frames ∧ (rest.map fun v => v.category).sum + 82 ≤ R.locals ∧ cells + 1 ≤ R.cells ∧ slots + 6 ≤ R.slots) (hc : cells + 1 ≤ mc) (hs : slots + 6 ≤ ms) (hp : px cls σ) :
    W p l e R s m args below meth c H locs cells slots (vx_MQ below Qc (zXC G ad A px) args s mc ms A) (F0 m pc ls rest) := by
  obtain ⟨hx, hb, hml, ho, hts⟩ := S
  obtain ⟨sa, hsa⟩ := hE.2.2.2 _ hstr
  exact vx_throwS hx hb hl ho hcls (fun n hn => by simp only [zNm, List.mem_cons, List.not_mem_nil, or_false] at hn; rcases hn with rfl | rfl <;> decide +kernel) (hts _ hk) (hts _ hini) hsa (zx_at hts hin hg hex hE) hot hE.1 hE.2.1 hS (hsize.trans hml.symm) d0 d3 d4 d6 d9 (fun x hx => (hout x hx).elim) (by show zNm.length + 3 < _; exact hR.1) (by show _ + (13 * (zNm.length + 1) + 43) ≤ _; exact hR.2.1) hR.2.2.1 hR.2.2.2 hlocks (zx_thrown hW hS hp) hS.2.2 hc hs
theorem zx_throwW {px : String → zS → Prop} {Qc : Array Value → State → Outcome → State → Prop} {Ts : List Cond} {nL ik is ic mc ms : Nat} {cls text : String} (S : CallFix p m c cc nL s args Ts RX6) (hl : l.stackTraces = false) (hlocks : meth.locks = false) (hout : ∀ x ∈ c.exceptionTable.toList, False) (hE : zE A s) (hW : ZW G ad A σ H) (hS : va_S A s.heap H locs)
    (hcls : Bundle.fit cls = true) (hex : cls ∈ zEx) (hk : Cond.classLink RX6 ik cls ∈ Ts) (hini : Cond.initialized cls ∈ Ts) (hin : ∀ w ∈ (vx_atS RX6 ic cls zNm).filter goodWord, w ∈ Ts) (hg : (vx_atS RX6 ic cls zNm).filter (fun w => !goodWord w) = zDc.map .declares ++ [.castable cls cls])
    (hot : ∀ w ∈ Cond.classLink RX6 ik cls :: Cond.initialized cls :: vx_atS RX6 ic cls zNm, vx_ot w = true) (hstr : (is, text) ∈ zStr) (hsize : ls.size = nL)
    (d0 : decode cc pc = .ok (.new ik, 3)) (d3 : decode cc (pc + 3) = .ok (.dup, 1)) (d4 : decode cc (pc + 4) = .ok (.ldc_w is, 3)) (d7 : decode cc (pc + 7) = .ok (.invokespecial ic, 3)) (d10 : decode cc (pc + 10) = .ok (.athrow, 1))
    (hR : 5 < R.frames ∧ (rest.map fun v => v.category).sum + 82 ≤ R.locals ∧ cells + 1 ≤ R.cells ∧ slots + 6 ≤ R.slots) (hc : cells + 1 ≤ mc) (hs : slots + 6 ≤ ms) (hp : px cls σ) :
    W p l e R s m args below meth c H locs cells slots (vx_MQ below Qc (zXC G ad A px) args s mc ms A) (F0 m pc ls rest) := by
  obtain ⟨hx, hb, hml, ho, hts⟩ := S
  obtain ⟨sa, hsa⟩ := hE.2.2.2 _ hstr
  exact vx_throwSW hx hb hl ho hcls (fun n hn => by simp only [zNm, List.mem_cons, List.not_mem_nil, or_false] at hn; rcases hn with rfl | rfl <;> decide +kernel) (hts _ hk) (hts _ hini) hsa (zx_at hts hin hg hex hE) hot hE.1 hE.2.1 hS (hsize.trans hml.symm) d0 d3 d4 d7 d10 (fun x hx => (hout x hx).elim) (by show zNm.length + 3 < _; exact hR.1) (by show _ + (13 * (zNm.length + 1) + 43) ≤ _; exact hR.2.1) hR.2.2.1 hR.2.2.2 hlocks (zx_thrown hW hS hp) hS.2.2 hc hs
theorem zx_out (hout : ∀ x ∈ c.exceptionTable.toList, False) (hlocks : meth.locks = false) {Qc : Array Value → State → Outcome → State → Prop} {px' : String → zS → Prop} {E : String} {ce : Cell} {q : Addr} {mc ms : Nat} (hcell : H[q]? = some ce) (hv : ce.vm = .none) (hcl : s.vm.findClass E = some ce.cls) (hW : ZW G ad A σ H) (hS : va_S A s.heap H locs) (hp : px' E σ) (hc : cells ≤ mc) (hs : slots ≤ ms) :
    vx_W p l e R s m args below meth c H locs cells slots (vx_MQ below Qc (zXC G ad A px') args s mc ms A) (F0 m pc ls rest) q :=
  vx_out (fun x hx => (hout x hx).elim) hlocks hcell hv hcl (fun t ht _ => ⟨σ, hp, by rw [ht]; exact hW, hS.F ht⟩) hS.2.2 hc hs
theorem zx_after {X : Type} {ret : X → Option Value} {post : X → zS → Prop} {px : String → zS → Prop} {mc ms : Nat} {st0 : List Value} {a : Array Value} (hr : vx_Run p l e R s m args below meth c H locs cells slots mc ms (F0 m pc ls st0) rest (zQ G ad A ret post a) (zXC G ad A px) A) (hS : va_S A H0 H locs)
    (kx : ∀ (E : String) (ce : Cell) (q9 : Addr) (u : zS) (H1 : Heap) (locs1 : List Loc), px E u → ZW G ad A u H1 → va_S A H0 H1 locs1 → H1[q9]? = some ce → ce.vm = .none → s.vm.findClass E = some ce.cls → vx_W p l e R s m args below meth c H1 locs1 (cells + mc) (slots + ms) Q (F0 m pc ls rest) q9)
    (kk : ∀ (x : X) (u : zS) (H1 : Heap) (locs1 : List Loc), post x u → ZW G ad A u H1 → H.size ≤ H1.size → va_S A H0 H1 locs1 → W p l e R s m args below meth c H1 locs1 (cells + mc) (slots + ms) Q (F0 m (pc + 3) ls ((ret x).toList ++ rest))) : W p l e R s m args below meth c H locs cells slots Q (F0 m pc ls st0) := by
  intro T hT X
  rcases hr T hT X with ⟨v, st₀, t, T', L, h0, X', hL, e1, e2, ⟨⟨x, u, hv, hp, hb⟩, hF⟩, st⟩ | ⟨q, st₀, t, T', L, E, ce, h0, X', hL, e1, e2, ⟨u, hp, hb, hF⟩, hce, hcv, hcl, st⟩
  · cases hv
    obtain ⟨k1, k2, k3⟩ := vx_keep h0 e1 hS (fun _ _ h => h) (fun _ h => h) hL hF
    obtain ⟨t2, a1, b1⟩ := kk x u T'.heap (locs ++ L) hp (by rw [e1]; exact hb) k1 k3 T' rfl X'
    exact ⟨t2, st t2 a1, b1⟩
  · obtain ⟨k1, k2, k3⟩ := vx_keep h0 e1 hS (fun _ _ h => h) (fun _ h => h) hL hF
    obtain ⟨t2, a1, b1⟩ := kx E ce q u T'.heap (locs ++ L) hp (by rw [e1]; exact hb) k3 (by rw [e1]; exact hce) hcv hcl T' rfl X'
    exact ⟨t2, st.trans a1, b1⟩
theorem zx_callV {X : Type} {y : MethodName} {bytes : ByteArray} {maxL nL mc ms n index κ : Nat} {rt : Option FieldType} {ws : List Cond} {rm : Room} {ret : X → Option Value} {post : X → zS → Prop} {px : String → zS → Prop} {Ts : List Cond} {own C : String} {T : u_T} {N : Nat} {v : Int} {As : List Value} {st0 : List Value}
    (S : CallFix p m c cc nL s args Ts own) (hM : vx_Met l y ws rm (zPx G ad A N0 σ (zr ad κ v :: As)) (zQ G ad A ret post) (zXC G ad A px) mc ms A) (cw : CallW R s args own C index y bytes maxL rt ws rm mc ms n) (hK : zK G s) (hE : zE A s) (hW : ZW G ad A σ H) (hv : zl ad κ v) (hkd : zk κ = true) (hc : vwCl[zc κ]? = some (C, T, N)) (hsz : N0 ≤ H.size) (hS : va_S A s.heap H locs)
    (hn : As.length = n) (hsize : ls.size = nL) (hst : As.reverse ++ zr ad κ v :: rest = st0) (hrest : (rest.map fun v => v.category).sum ≤ 8) (hdg : decode cc pc = .ok (.invokevirtual index, 3)) (hf : cells + mc ≤ R.cells ∧ slots + ms ≤ R.slots)
    (kx : ∀ (E : String) (ce : Cell) (q9 : Addr) (u : zS) (H1 : Heap) (locs1 : List Loc), px E u → ZW G ad A u H1 → va_S A s.heap H1 locs1 → H1[q9]? = some ce → ce.vm = .none → s.vm.findClass E = some ce.cls → vx_W p l e R s m args below meth c H1 locs1 (cells + mc) (slots + ms) Q (F0 m pc ls rest) q9)
    (kk : ∀ (x : X) (u : zS) (H1 : Heap) (locs1 : List Loc), post x u → ZW G ad A u H1 → H.size ≤ H1.size → va_S A s.heap H1 locs1 → W p l e R s m args below meth c H1 locs1 (cells + mc) (slots + ms) Q (F0 m (pc + 3) ls ((ret x).toList ++ rest))) : W p l e R s m args below meth c H locs cells slots Q (F0 m pc ls st0) := by
  obtain ⟨a, ha, er⟩ := zr_ref hv
  rw [er] at hM hst
  have hz := (hW.1 _ _ _ ha).1
  unfold zat at hz
  rw [if_pos hkd] at hz
  obtain ⟨cell, q1, q2, q3, q4⟩ := hz
  obtain ⟨-, hfc, -⟩ := hK.1.1 _ _ hc
  refine zx_after (vx_runV (g := F0 m pc ls st0) (rest := rest) S hM cw ⟨zPx.blind, ⟨cell, q1, by rw [q3]; rfl, by rw [q2]; exact hfc⟩, fun U hU hWm => ⟨rfl, by rw [hU]; exact hsz, by rw [hU]; exact hW, hK.warm hWm, hE.go hS hU hWm⟩⟩ rfl hn hsize hst.symm (lv_room hrest) hdg hf) hS kx kk
theorem zx_callS {X : Type} {y : MethodName} {bytes : ByteArray} {maxL nL mc ms n index : Nat} {rt : Option FieldType} {ws : List Cond} {rm : Room} {ret : X → Option Value} {post : X → zS → Prop} {px : String → zS → Prop} {Ts : List Cond} {own : String} {As : List Value} {st0 : List Value}
    (S : CallFix p m c cc nL s args Ts own) (hM : vx_Met l y ws rm (zPx G ad A N0 σ As) (zQ G ad A ret post) (zXC G ad A px) mc ms A) (cw : CallB R s args own index y bytes maxL rt ws rm mc ms n ∧ (Cond.static y).before args s = true) (hK : zK G s) (hE : zE A s) (hW : ZW G ad A σ H) (hsz : N0 ≤ H.size) (hS : va_S A s.heap H locs)
    (hn : As.length = n) (hsize : ls.size = nL) (hst : As.reverse ++ rest = st0) (hrest : (rest.map fun v => v.category).sum ≤ 8) (hdg : decode cc pc = .ok (.invokestatic index, 3)) (hf : cells + mc ≤ R.cells ∧ slots + ms ≤ R.slots)
    (kx : ∀ (E : String) (ce : Cell) (q9 : Addr) (u : zS) (H1 : Heap) (locs1 : List Loc), px E u → ZW G ad A u H1 → va_S A s.heap H1 locs1 → H1[q9]? = some ce → ce.vm = .none → s.vm.findClass E = some ce.cls → vx_W p l e R s m args below meth c H1 locs1 (cells + mc) (slots + ms) Q (F0 m pc ls rest) q9)
    (kk : ∀ (x : X) (u : zS) (H1 : Heap) (locs1 : List Loc), post x u → ZW G ad A u H1 → H.size ≤ H1.size → va_S A s.heap H1 locs1 → W p l e R s m args below meth c H1 locs1 (cells + mc) (slots + ms) Q (F0 m (pc + 3) ls ((ret x).toList ++ rest))) : W p l e R s m args below meth c H locs cells slots Q (F0 m pc ls st0) :=
  zx_after (vx_runS (g := F0 m pc ls st0) (rest := rest) S hM cw ⟨zPx.blind, fun U hU hWm => ⟨rfl, by rw [hU]; exact hsz, by rw [hU]; exact hW, hK.warm hWm, hE.go hS hU hWm⟩⟩ rfl hn hsize hst.symm (lv_room hrest) hdg hf) hS kx kk
end ZXR
/-- a method that returns or throws, by its body -/
theorem zx_of {l : Launch} {G : zG} {ad : zA} {A : Nat → Prop} {σ : zS} {N0 : Nat} {y : MethodName} {ws ws' : List Cond} {rm : Room} {Qc : Array Value → State → Outcome → State → Prop} {XC : String → State → State → Prop} {mc ms : Nat} {cc : ByteArray} {maxL : Nat} {ret : Option FieldType} {av : List Value}
    (hy : plainName y.cls = true) (hw : ws = Cond.code y cc maxL ret :: ws') (hcat : ∀ v ∈ av, v.category = 1) (hlen : av.length ≤ maxL)
    (body : ∀ (p : Program) (e : Env) (s : State) (m : MethodId) (below : List Frame) (meth : Method) (c : Code), p.tables.exec = Jvm.exec → c.code = cc → meth.sig.returnType = ret → c.maxLocals = maxL → (∀ w ∈ ws, w.before av.toArray s = true) → s.vm.findClass y.cls = some m.cls → meth.locks = false → (∀ x ∈ c.exceptionTable.toList, False) → N0 ≤ s.heap.size → ZW G ad A σ s.heap → zK G s → zE A s → ∀ ls, zh ls maxL (zargs 0 av) →
      W p l e rm s m av.toArray below meth c s.heap [] 0 0 (vx_MQ below Qc XC av.toArray s mc ms A) (F0 m 0 ls [])) : vx_Met l y ws rm (zPx G ad A N0 σ av) Qc XC mc ms A := by
  refine vx_ofW (cc := cc) (maxL := maxL) (ret := ret) hy hw ?_
  intro p e s m args below meth c s₁ B hml htab hv
  obtain ⟨rfl, hsz, hW, hK, hE⟩ := hv
  obtain ⟨ls, e1, e2⟩ := zh_entry m av (n := maxL) hcat hlen
  rw [e1]
  exact body p e s m below meth c B.exec B.bytes B.returns hml (atoms_spec (ws := ws) B.pre) (findClass_of_methodNamed B.named) B.notSynchronized htab hsz hW hK hE ls e2
