/-! what is thrown, and goes on -/
def zEx : List String := ["java/lang/IndexOutOfBoundsException", "java/lang/IllegalArgumentException", "java/lang/IllegalStateException"]
def zNm : List String := ["java/lang/RuntimeException", "java/lang/Exception"]
def zStr : List (Nat × String) := [(273, "no such place"), (54, "both places are the same"), (275, "out of range"), (68, "there are 20 streets"), (77, "no such street"), (90, "there are 8 drivers"), (277, "no such driver"), (115, "the driver has stops"), (128, "the driver can't be sent there"), (140, "no such zone"), (149, "there are 60 requests, or there is no way"), (279, "no such request"), (171, "the request neither WAITS nor is SENT"), (187, "the request is not DONE, or was rated"), (293, "more than 5 WAIT"), (245, "no such stop"), (265, "it would be above 20000")]
def zE (A : Nat → Prop) (U : State) : Prop := vx_Zq Bundle.tN "UNASSIGNED_STACK" Bundle.steD A U U.heap ∧ vx_Zq Bundle.tN "SUPPRESSED_SENTINEL" Bundle.listD A U U.heap ∧ (∀ X ∈ zEx, va_Nw (.castable X X) U) ∧ ∀ q ∈ zStr, ∃ sa, vk_R RX6 q.1 q.2 sa U
theorem zE.go {A : Nat → Prop} {s U : State} {H : Heap} {locs : List Loc} (h : zE A s) (hS : va_S A s.heap H locs) (hU : U.heap = H) (hW : s.WarmedH U.vm) : zE A U := by
  refine ⟨?_, ?_, fun X hX => va_Nw.warmC hW (h.2.2.1 X hX), fun q hq => ?_⟩
  · rw [hU]; exact (vx_Zq.moved hW.alike h.1).kept (fun a h1 h2 => hS.2.1 a h1 h2)
  · rw [hU]; exact (vx_Zq.moved hW.alike h.2.1).kept (fun a h1 h2 => hS.2.1 a h1 h2)
  · obtain ⟨sa, hsa⟩ := h.2.2.2 q hq
    exact ⟨sa, vk_R.warm hW hsa⟩
theorem zE.same {A : Nat → Prop} {u U : State} (hv : u.vm = U.vm) (hh : U.heap = u.heap) (h : zE A u) : zE A U := by
  have ha : u.vm.Alike U.vm := by rw [hv]; exact Vm.Alike.refl U.vm
  refine ⟨?_, ?_, fun X hX => va_Nw.same rfl hv (h.2.2.1 X hX), fun q hq => ?_⟩
  · rw [hh]; exact vx_Zq.moved ha h.1
  · rw [hh]; exact vx_Zq.moved ha h.2.1
  · obtain ⟨sa, hsa⟩ := h.2.2.2 q hq
    exact ⟨sa, vk_R.same hv.symm hsa⟩
def zPx (G : zG) (ad : zA) (A : Nat → Prop) (N0 : Nat) (σ : zS) (av : List Value) : Array Value → State → Prop := va_Pc av (fun U => N0 ≤ U.heap.size ∧ ZW G ad A σ U.heap ∧ zK G U ∧ zE A U)
theorem zPx.blind {G : zG} {ad : zA} {A : Nat → Prop} {N0 : Nat} {σ : zS} {av : List Value} : FrameBlind (zPx G ad A N0 σ av) := fun a U g mk q => ⟨q.1, q.2.1, q.2.2.1, zK.same (u := U) (U := U.calling g mk a) rfl q.2.2.2.1, zE.same (u := U) (U := U.calling g mk a) rfl rfl q.2.2.2.2⟩
def zXC (G : zG) (ad : zA) (A : Nat → Prop) (px : String → zS → Prop) : String → State → State → Prop := fun E st t => ∃ u : zS, px E u ∧ ZW G ad A u t.heap ∧ va_F A st t
theorem ZW.kept {G : zG} {ad : zA} {A : Nat → Prop} {σ : zS} {H H1 : Heap} (h : ZW G ad A σ H) (hq : ∀ q, q < H.size → H1[q]? = H[q]?) : ZW G ad A σ H1 :=
  ⟨fun κ i a ha => ⟨(h.1 κ i a ha).1.kept (hq a (h.1 κ i a ha).1.lt), (h.1 κ i a ha).2⟩, h.2⟩
theorem zat0 : (vx_atS RX6 79 "java/lang/IndexOutOfBoundsException" zNm).filter (fun w => !goodWord w) = [.declares (Bundle.initS "java/lang/RuntimeException"), .declares (Bundle.initS "java/lang/Exception"), .declares (Bundle.initS Bundle.tN), .castable "java/lang/IndexOutOfBoundsException" "java/lang/IndexOutOfBoundsException"] := by decide +kernel
theorem zat1 : (vx_atS RX6 56 "java/lang/IllegalArgumentException" zNm).filter (fun w => !goodWord w) = [.declares (Bundle.initS "java/lang/RuntimeException"), .declares (Bundle.initS "java/lang/Exception"), .declares (Bundle.initS Bundle.tN), .castable "java/lang/IllegalArgumentException" "java/lang/IllegalArgumentException"] := by decide +kernel
theorem zat2 : (vx_atS RX6 70 "java/lang/IllegalStateException" zNm).filter (fun w => !goodWord w) = [.declares (Bundle.initS "java/lang/RuntimeException"), .declares (Bundle.initS "java/lang/Exception"), .declares (Bundle.initS Bundle.tN), .castable "java/lang/IllegalStateException" "java/lang/IllegalStateException"] := by decide +kernel
theorem zot0 : ∀ w ∈ Cond.classLink RX6 75 "java/lang/IndexOutOfBoundsException" :: Cond.initialized "java/lang/IndexOutOfBoundsException" :: vx_atS RX6 79 "java/lang/IndexOutOfBoundsException" zNm, vx_ot w = true := by decide +kernel
theorem zot1 : ∀ w ∈ Cond.classLink RX6 52 "java/lang/IllegalArgumentException" :: Cond.initialized "java/lang/IllegalArgumentException" :: vx_atS RX6 56 "java/lang/IllegalArgumentException" zNm, vx_ot w = true := by decide +kernel
theorem zot2 : ∀ w ∈ Cond.classLink RX6 66 "java/lang/IllegalStateException" :: Cond.initialized "java/lang/IllegalStateException" :: vx_atS RX6 70 "java/lang/IllegalStateException" zNm, vx_ot w = true := by decide +kernel
