/-! ARRAYS OF ARRAYS: multianewarray of two dimensions -/
section ZMUL
theorem zmake1 {E : CtlPost} {e : Env} {d : Bool} {acts : List Action} {s : State} {c comp : ClassId} {k : Class} {ty : FieldType} {n : Int32} {Q : Addr → Pre} (hk : s.vm.classes[c]? = some k) (hkind : k.kind = .array comp ty) (hn : ¬ n < 0) (hlimit : ¬ n.toNatClampNeg > e.platform.arrayLengthLimit) (hheap : ¬ n.toNatClampNeg * componentBytes ty > e.platform.maxHeapBytes)
    (hcells : s.heap.size < e.platform.maxCells) (hslots : s.slotsUsed + n.toNatClampNeg ≤ e.platform.maxSlots)
    (hq : ∀ acts', Q s.heap.size d acts' (s.pushCell { cls := c, slots := Array.replicate n.toNatClampNeg (defaultValue ty) })) : wp (Jvm.Op.multianewarray.make c [n]) Q E e d acts s := by
  unfold Jvm.Op.multianewarray.make
  simp only [hn, if_false, wp_bind', wp_pure', W.theClass, hk, Option.some.injEq, exists_eq_left', hkind]
  refine W.newArray_of hk hkind hlimit hheap hcells hslots ?_ hq
  cases ty <;> rfl
/-- two dimensions, by an invariant of the caller's: J j holds when j rows stand -/
theorem zmake2 {E : CtlPost} {e : Env} {d : Bool} {acts : List Action} {s : State} {c ci cc : ClassId} {kO kI : Class} {n m : Int32} {N M : Nat} (hN : n.toNatClampNeg = N) (hM : m.toNatClampNeg = M) (hkO : s.vm.classes[c]? = some kO) (hkindO : kO.kind = .array ci (.array .int)) (hkI : s.vm.classes[ci]? = some kI) (hkindI : kI.kind = .array cc .int) (hn : ¬ n < 0) (hm : ¬ m < 0)
    (hl1 : N ≤ e.platform.arrayLengthLimit) (hl2 : M ≤ e.platform.arrayLengthLimit) (hh1 : N * 4 ≤ e.platform.maxHeapBytes) (hh2 : M * 4 ≤ e.platform.maxHeapBytes)
    (hcells : s.heap.size + 1 + N ≤ e.platform.maxCells) (hslots : s.slotsUsed + N + N * M ≤ e.platform.maxSlots) (J : Nat → State → Prop)
    (j1 : ∀ j s', J j s' → s'.vm = s.vm ∧ s'.heap.size = s.heap.size + 1 + j ∧ s'.slotsUsed = s.slotsUsed + N + j * M ∧ ∃ f, s'.heap[s.heap.size]? = some (arrV c N f))
    (j0 : J 0 (s.pushCell { cls := c, slots := Array.replicate N .null }))
    (js : ∀ j s' f, j < N → J j s' → s'.heap[s.heap.size]? = some (arrV c N f) → J (j + 1) ((s'.pushCell { cls := ci, slots := Array.replicate M (.int 0) }).setCell s.heap.size ((arrV c N f).setSlot j (.ref (s.heap.size + 1 + j)))))
    {Q : Addr → Pre} (hq : ∀ s' d' acts', J N s' → Q s.heap.size d' acts' s') : wp (Jvm.Op.multianewarray.make c [n, m]) Q E e d acts s := by
  have hfind : ([m].find? (· < 0)) = none := by simp [hm]
  subst hN
  subst hM
  rw [Jvm.Op.multianewarray.make]
  simp only [hn, if_false, wp_bind', wp_pure', W.theClass, hkO, Option.some.injEq, exists_eq_left', hkindO, W.ite]
  refine W.newArray_of hkO hkindO (by omega) (by show ¬ _ * 4 > _; omega) (by omega) (by have := Nat.zero_le (n.toNatClampNeg * m.toNatClampNeg); omega) rfl fun acts1 => ?_
  simp only [hfind, ite_self, wp_bind', wp_pure']
  rw [Std.Legacy.Range.forIn_eq_forIn_range']
  simp only [Std.Legacy.Range.size, Nat.sub_zero, Nat.add_sub_cancel, Nat.div_one]
  refine wp_forIn_inv (fun rest s' => ∃ j, j ≤ n.toNatClampNeg ∧ rest = List.range' j (n.toNatClampNeg - j) ∧ J j s') _ _ ⟨0, Nat.zero_le _, rfl, j0⟩ ?_ ?_
  · rintro x rest s' d' acts' Q' ⟨j, hj, hl, hJ⟩ hnext
    have hlt : j < n.toNatClampNeg := by
      rcases Nat.lt_or_ge j n.toNatClampNeg with h | h
      · exact h
      · rw [show n.toNatClampNeg - j = 0 by omega] at hl
        cases hl
    have hl2 := hl
    rw [show n.toNatClampNeg - j = (n.toNatClampNeg - (j + 1)) + 1 by omega, List.range'_succ] at hl2
    injection hl2 with hx hrest
    subst hx
    obtain ⟨e1, e2, e3, f, e4⟩ := j1 _ _ hJ
    have hmul : x * m.toNatClampNeg + m.toNatClampNeg ≤ n.toNatClampNeg * m.toNatClampNeg := by
      have := Nat.mul_le_mul_right m.toNatClampNeg (show x + 1 ≤ n.toNatClampNeg from hlt)
      rw [Nat.succ_mul] at this
      exact this
    simp only [wp_bind']
    refine zmake1 (by rw [e1]; exact hkI) hkindI hm (by omega) (by show ¬ _ * 4 > _; omega) (by omega) (by omega) fun acts2 => ?_
    simp only [wp_bind', W.writeLoc, wp_pure']
    refine ⟨arrV c n.toNatClampNeg f, ?_, (by intro h; cases h), (by rw [arrV_size]; exact hlt), ?_, hnext _ _ _ ⟨x + 1, hlt, hrest, ?_⟩⟩
    · show (s'.heap.push _)[s.heap.size]? = _
      rw [Array.getElem?_push, if_neg (by omega)]
      exact e4
    · have hkO' : s'.vm.classes[c]? = some kO := by rw [e1]; exact hkO
      simp [State.fitsSlot, State.slotType?, arrV, hkO', hkindO, fits, State.pushCell]
    · have := js x s' f hlt hJ e4
      rw [e2]
      exact this
  · rintro s' d' acts' ⟨j, hj, hl, hJ⟩
    have : j = n.toNatClampNeg := by
      rcases Nat.lt_or_ge j n.toNatClampNeg with h | h
      · rw [show n.toNatClampNeg - j = (n.toNatClampNeg - (j + 1)) + 1 by omega, List.range'_succ] at hl
        cases hl
      · omega
    subst this
    exact hq _ _ _ hJ
end ZMUL
/-- what the tables know of arrays of arrays of ints, and of arrays of objects -/
def zAA (G : zG) (U : State) : Prop := (∃ (kO kI : Class) (cc : ClassId), U.vm.classes[G.2 5]? = some kO ∧ kO.kind = .array (G.2 6) (.array .int) ∧ U.vm.classes[G.2 6]? = some kI ∧ kI.kind = .array cc .int) ∧ va_AO RX1 U ∧ va_AO RX3 U
theorem zAA.moved {G : zG} {u U : State} (hvm : u.vm.Alike U.vm) (h : zAA G u) : zAA G U := by
  obtain ⟨⟨kO, kI, cc, h1, h2, h3, h4⟩, h5, h6⟩ := h
  obtain ⟨kO', g1, g2⟩ := hvm.2.2 _ _ h1
  obtain ⟨kI', g3, g4⟩ := hvm.2.2 _ _ h3
  exact ⟨⟨kO', kI', cc, g1, by rw [g2]; exact h2, g3, by rw [g4]; exact h4⟩, h5.moved hvm, h6.moved hvm⟩
theorem zAA.warm {G : zG} {s U : State} (hW : s.WarmedH U.vm) (h : zAA G s) : zAA G U := h.moved hW.alike
theorem zAA.same {G : zG} {u U : State} (hvm : u.vm = U.vm) (h : zAA G u) : zAA G U := h.moved (by rw [hvm]; exact Vm.Alike.refl U.vm)
section ZMULR
variable {p : Program} {l : Launch} {e : Env} {R : Room} {s : State} {m : MethodId} {args : Array Value} {below : List Frame} {meth : Method} {c : Code} {H : Heap} {locs : List Loc} {cells slots : Nat} {Q : State → Prop}
variable {cc : ByteArray} {pc : Nat} {ls : Array Slot} {rest : List Value} {G : zG}
/-- the state when j rows stand -/
def zpa (a N j : Nat) : Nat → Value := fun q => if q < j then .ref (a + 1 + q) else .null
def zfl (T : State) (cO cI : ClassId) (N M : Nat) : Nat → State
  | 0 => T.pushCell { cls := cO, slots := Array.replicate N .null }
  | j + 1 => ((zfl T cO cI N M j).pushCell { cls := cI, slots := Array.replicate M (.int 0) }).setCell T.heap.size ((arrV cO N (zpa T.heap.size N j)).setSlot j (.ref (T.heap.size + 1 + j)))
def zMJ (p : Program) (l : Launch) (e : Env) (R : Room) (s : State) (m : MethodId) (args : Array Value) (below : List Frame) (meth : Method) (c : Code) (G : zG) (T : State) (locs : List Loc) (cells slots N M j : Nat) (T' : State) : Prop :=
  T'.vm = T.vm ∧ T'.heap.size = T.heap.size + 1 + j ∧ T'.slotsUsed = T.slotsUsed + N + j * M ∧ T'.heap[T.heap.size]? = some (arrV (G.2 5) N (zpa T.heap.size N j)) ∧ (∀ q, q < j → T'.heap[T.heap.size + 1 + q]? = some (arrV (G.2 6) M (fun _ => .int 0))) ∧ (∀ q, q < T.heap.size → T'.heap[q]? = T.heap[q]?) ∧ ∃ locs1 : List Loc, (∀ q ∈ locs1, q ∈ locs ∨ q.base = T.heap.size) ∧ Stand p l e R s m args below meth c T' locs1 (cells + 1 + j) (slots + N + j * M)
theorem zMJ.zero {T : State} {N M : Nat} (X : Stand p l e R s m args below meth c T locs cells slots) : zMJ p l e R s m args below meth c G T locs cells slots N M 0 (zfl T (G.2 5) (G.2 6) N M 0) := by
  have X1 := X.pushed { cls := G.2 5, slots := Array.replicate N .null }
  refine ⟨rfl, ?_, ?_, ?_, fun q h => by omega, fun q h => ?_, locs, fun q h => Or.inl h, ?_⟩
  · show (T.heap.push _).size = _
    rw [Array.size_push]
  · show T.slotsUsed + (Array.replicate N Value.null).size = _
    rw [Array.size_replicate]; omega
  · show (T.heap.push _)[T.heap.size]? = _
    rw [Array.getElem?_push_size, show zpa T.heap.size N 0 = fun _ => Value.null from funext fun q => if_neg (Nat.not_lt_zero q), arrV_new]
  · show (T.heap.push _)[q]? = _
    rw [Array.getElem?_push, if_neg (by omega)]
  · rw [Array.size_replicate] at X1
    simpa [zfl] using X1
theorem zMJ.succ {T T' : State} {N M j : Nat} (hj : j < N) (h : zMJ p l e R s m args below meth c G T locs cells slots N M j T') : zMJ p l e R s m args below meth c G T locs cells slots N M (j + 1) ((T'.pushCell { cls := G.2 6, slots := Array.replicate M (.int 0) }).setCell T.heap.size ((arrV (G.2 5) N (zpa T.heap.size N j)).setSlot j (.ref (T.heap.size + 1 + j)))) := by
  obtain ⟨h1, h2, h3, h4, h5, h6, locs1, h7, X⟩ := h
  have X1 := X.pushed { cls := G.2 6, slots := Array.replicate M (.int 0) }
  have hcell : (T'.pushCell { cls := G.2 6, slots := Array.replicate M (.int 0) }).heap[T.heap.size]? = some (arrV (G.2 5) N (zpa T.heap.size N j)) := by
    show (T'.heap.push _)[T.heap.size]? = _
    rw [Array.getElem?_push, if_neg (by omega)]
    exact h4
  have X2 := X1.stored hcell j (.ref (T.heap.size + 1 + j))
  have hlt : T.heap.size < (T'.heap.push ({ cls := G.2 6, slots := Array.replicate M (.int 0) } : Cell)).size := by rw [Array.size_push]; omega
  refine ⟨h1, ?_, ?_, ?_, fun q hq => ?_, fun q hq => ?_, locs1 ++ [⟨T.heap.size, j⟩], fun q hq => ?_, ?_⟩
  · show ((T'.heap.push _).setIfInBounds _ _).size = _
    rw [Array.size_setIfInBounds, Array.size_push]; omega
  · show T'.slotsUsed + (Array.replicate M (Value.int 0)).size = _
    rw [Array.size_replicate, Nat.succ_mul]; omega
  · show ((T'.heap.push _).setIfInBounds _ _)[_]? = _
    rw [Array.getElem?_setIfInBounds_self_of_lt hlt, arrV_store]
    congr 2
    funext q
    by_cases hq : q = j
    · subst hq
      simp [updV, zpa]
    · have : (q < j + 1) = (q < j) := propext (by omega)
      simp only [updV, zpa, hq, if_false, this]
  · show ((T'.heap.push _).setIfInBounds _ _)[_]? = _
    rw [Array.getElem?_setIfInBounds_ne (by omega)]
    by_cases hq2 : q = j
    · subst hq2
      rw [← h2, Array.getElem?_push_size, arrV_new]
    · rw [Array.getElem?_push, if_neg (by omega)]
      exact h5 q (by omega)
  · show ((T'.heap.push _).setIfInBounds _ _)[_]? = _
    rw [Array.getElem?_setIfInBounds_ne (by omega), Array.getElem?_push, if_neg (by omega)]
    exact h6 q hq
  · rcases List.mem_append.mp hq with h | h
    · exact h7 q h
    · rw [List.mem_singleton.mp h]; exact Or.inr rfl
  · rw [Array.size_replicate] at X2
    have a1 : cells + 1 + j + 1 = cells + 1 + (j + 1) := by omega
    have a2 : slots + N + j * M + M = slots + N + (j + 1) * M := by rw [Nat.succ_mul]; omega
    rw [a1, a2] at X2
    exact X2
theorem zMJ.all {T : State} {N M : Nat} (X : Stand p l e R s m args below meth c T locs cells slots) : ∀ j, j ≤ N → zMJ p l e R s m args below meth c G T locs cells slots N M j (zfl T (G.2 5) (G.2 6) N M j)
  | 0, _ => zMJ.zero X
  | j + 1, h => (zMJ.all X j (by omega)).succ (by omega)
theorem zz_multi (hx : p.tables.exec = Jvm.exec) (hb : c.code = cc) {own : String} {index : Nat} (hown : s.vm.findClass own = some m.cls) (hclink : (Cond.classLink own index "[[I").before args s = true) (hK : zK G s) (hAA : zAA G s) {N M : Nat} (hN0 : 0 < N) (hN : N ≤ 1000) (hM : M ≤ 1000) (hcells : cells + 1 + N ≤ R.cells) (hslots : slots + N + N * M ≤ R.slots) (hdg : decode cc pc = .ok (.multianewarray index 2, 4))
    (kk : ∀ (H1 : Heap) (locs1 : List Loc), H1.size = H.size + 1 + N → (∀ q, q < H.size → H1[q]? = H[q]?) → H1[H.size]? = some (arrV (G.2 5) N (fun q => if q < N then .ref (H.size + 1 + q) else .null)) → (∀ q, q < N → H1[H.size + 1 + q]? = some (arrV (G.2 6) M (fun _ => .int 0))) → (∀ q ∈ locs1, q ∈ locs ∨ q.base = H.size) →
      W p l e R s m args below meth c H1 locs1 (cells + 1 + N) (slots + N + N * M) Q (F0 m (pc + 4) ls (.ref H.size :: rest))) : W p l e R s m args below meth c H locs cells slots Q (F0 m pc ls (.int (zi (M : Int)) :: .int (zi (N : Int)) :: rest)) := by
  intro T hT X
  subst hT
  have hpl : e.platform.magicAccessors = ({} : Platform).magicAccessors := by rw [X.admits.platform]
  obtain ⟨c0, hfc0, hcl⟩ := Cond.classLink_spec hown hclink e.platform hpl
  have hG5 : s.vm.findClass "[[I" = some (G.2 5) := (hK.2.1 5 rfl).2
  cases hG5.symm.trans hfc0
  obtain ⟨⟨kO, kI, ci, h1, h2, h3, h4⟩, -, -⟩ := hAA
  obtain ⟨hg₁, hwarm₁, hready₁⟩ := State.classEntry (e := e) X.warmed hcl
  generalize T.vm.noted m.cls index (.cls (G.2 5)) = vm₁ at hg₁ hwarm₁ hready₁
  have hal : s.vm.Alike vm₁ := hwarm₁.alike
  obtain ⟨kO', g1, g2⟩ := hal.2.2 _ _ h1
  obtain ⟨kI', g3, g4⟩ := hal.2.2 _ _ h3
  have h2' : kO'.kind = .array (G.2 6) (.array .int) := by rw [g2]; exact h2
  have h4' : kI'.kind = .array ci .int := by rw [g4]; exact h4
  have X₁ := X.noted hwarm₁
  obtain ⟨hr1, hr2⟩ := X.roomAbove (show cells + (1 + N) ≤ R.cells by omega) (show slots + (N + N * M) ≤ R.slots by omega)
  have hNi : (zi (N : Int)).toNatClampNeg = N := by rw [zi_clamp ⟨by omega, by omega⟩]; omega
  have hMi : (zi (M : Int)).toNatClampNeg = M := by rw [zi_clamp ⟨by omega, by omega⟩]; omega
  have hn0 : ¬ zi (N : Int) < 0 := fun h => by rw [zi_lt0 ⟨by omega, by omega⟩] at h; omega
  have hm0 : ¬ zi (M : Int) < 0 := fun h => by rw [zi_lt0 ⟨by omega, by omega⟩] at h; omega
  have hJ := fun j hj => zMJ.all (G := G) (N := N) (M := M) X₁ j hj
  obtain ⟨f1, f2, f3, f4, f5, f6, locs1, f7, f8⟩ := hJ N (Nat.le_refl _)
  obtain ⟨t, ht, hQ⟩ := kk _ locs1 f2 f6 f4 f5 f7 (zfl (T.setVm vm₁) (G.2 5) (G.2 6) N M N) rfl f8
  refine ⟨t, ?_, hQ⟩
  have hl : e.platform.arrayLengthLimit = _ := Launch.admits_arrayLengthLimit X.admits
  have hh : e.platform.maxHeapBytes = _ := Launch.admits_maxHeapBytes X.admits
  jvm_step X.here [X.here.top, hx, hb, hdg]
  have hs : T.topJava?.isSome = true := X.here.top
  have hg₁' : (Jvm.resolveClass (F0 m pc ls (Value.int (zi (M : Int)) :: Value.int (zi (N : Int)) :: rest)).method.cls index).Gives e.toSetting T.vm (.ok (G.2 5)) vm₁ := hg₁
  have hsem : ∀ (Q0 : Unit → Pre) (E0 : CtlPost), wp (Jvm.Op.multianewarray.sem index 2) Q0 E0 e false [] ((T.setVm vm₁).setTop (F0 m pc ls (Value.int (zi (M : Int)) :: Value.int (zi (N : Int)) :: rest))) → wp (Jvm.Op.multianewarray.sem index 2) Q0 E0 e false [] (T.setTop (F0 m pc ls (Value.int (zi (M : Int)) :: Value.int (zi (N : Int)) :: rest))) := by
    intro Q0 E0 h
    simp only [Jvm.Op.multianewarray.sem, wp_bind'] at h ⊢
    exact (W.resolveClassAt_transfer (s := T.setTop _) (State.method?_setTop _ hs) hg₁' hready₁).mpr h
  apply hsem
  simp only [Jvm.Op.multianewarray.sem, wp_bind']
  have hm' : ((T.setVm vm₁).setTop (F0 m pc ls (Value.int (zi (M : Int)) :: Value.int (zi (N : Int)) :: rest))).method? = some m := State.method?_setTop (s := T.setVm vm₁) _ hs
  refine (W.resolveClassAt_ready hm' hready₁).mpr ?_
  simp only [Jvm.popN, W.pop, wp_bind', wp_pure', List.nil_append, List.cons_append, List.mapM_cons, List.mapM_nil, State.topJava?_setTop' _ (show (T.setVm vm₁).topJava?.isSome = true from hs), Option.some.injEq, exists_eq_left', List.cons.injEq, exists_cons_eq, State.setTop_setTop, F0]

  refine zmake2 (kO := kO') (kI := kI') hNi hMi g1 h2' g3 h4' hn0 hm0 (by rw [hl]; omega) (by rw [hl]; omega) (by rw [hh]; omega) (by rw [hh]; omega) (by show T.heap.size + 1 + N ≤ _; omega) (by show T.slotsUsed + N + N * M ≤ _; omega) (fun j s' => j ≤ N ∧ s' = (zfl (T.setVm vm₁) (G.2 5) (G.2 6) N M j).setTop (F0 m pc ls rest)) ?_ ⟨Nat.zero_le _, rfl⟩ ?_ ?_
  · rintro j s' ⟨hj, rfl⟩
    obtain ⟨a1, a2, a3, a4, -⟩ := hJ j hj
    exact ⟨a1, a2, a3, _, a4⟩
  · rintro j s' f hj ⟨hj2, rfl⟩ hf
    obtain ⟨a1, a2, a3, a4, -⟩ := hJ j hj2
    have e0 : arrV (G.2 5) N f = arrV (G.2 5) N (zpa T.heap.size N j) := Option.some.inj (hf.symm.trans a4)
    refine ⟨hj, ?_⟩
    rw [e0]
    rfl
  · rintro s' d' acts' ⟨-, rfl⟩
    have hs2 : (zfl (T.setVm vm₁) (G.2 5) (G.2 6) N M N).topJava?.isSome = true := f8.here.top
    simp only [wp_bind', W.mark, W.pushRef, State.topJava?_setTop' _ hs2, Option.some.injEq, exists_eq_left', State.setTop_setTop, F0]
    intro acts
    show Steps p.tables e below (State.modifyTopJava _ _) t
    rw [State.modifyTopJava_eq_setTop _ (State.topJava?_setTop' _ hs2), State.setTop_setTop]
    exact ht
end ZMULR
