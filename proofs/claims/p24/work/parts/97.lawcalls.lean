/-! THE LAW'S CALLS: two worlds beside each other -/
theorem zE.narrow {A B : Nat → Prop} {U : State} (h : zE A U) (hAB : ∀ q, B q → A q) : zE B U := ⟨h.1.narrow hAB, h.2.1.narrow hAB, h.2.2⟩
/-- the cells of a world, and all that come -/
def zcA (ad : zA) (n : Nat) (q : Nat) : Prop := (∃ κ i, ad κ i = some q) ∨ n ≤ q
def zcB (ad : zA) (q : Nat) : Prop := ∃ κ i, ad κ i = some q
def zDj (ad1 ad2 : zA) : Prop := ∀ κ i κ' i' a, ad1 κ i = some a → ad2 κ' i' ≠ some a
section ZLC
variable {p : Program} {l : Launch} {e : Env} {R : Room} {s : State} {m : MethodId} {args : Array Value} {below : List Frame} {meth : Method} {c : Code} {H : Heap} {locs : List Loc} {cells slots : Nat} {Q : State → Prop}
variable {cc : ByteArray} {pc : Nat} {ls : Array Slot} {rest : List Value} {G : zG} {ad ad1 ad2 : zA} {A A0 : Nat → Prop} {σ τ : zS} {H0 : Heap} {N0 : Nat}
theorem ZW.toA (h : ZW G ad A0 σ H) : ZW G ad (zcA ad H.size) σ H := h.reA fun κ i a ha => Or.inl ⟨κ, i, ha⟩
theorem ZW.toB (h : ZW G ad A0 σ H) : ZW G ad (zcB ad) σ H := h.reA fun κ i a ha => ⟨κ, i, ha⟩
theorem zcA_sub (h : ZW G ad A0 σ H) (hS : va_S A0 H0 H locs) (hA0 : ∀ q, H0.size ≤ q → A0 q) : ∀ q, zcA ad H.size q → A0 q := fun q hq => by
  rcases hq with ⟨κ, i, ha⟩ | hq
  · exact (h.1 κ i q ha).2
  · exact hA0 q (Nat.le_trans hS.1 hq)
theorem zcB_sub (h : ZW G ad A0 σ H) : ∀ q, zcB ad q → A0 q := fun q ⟨κ, i, ha⟩ => (h.1 κ i q ha).2
/-- the other world stays, when a class call has gone by -/
theorem ZW.other (h : ZW G ad2 A0 τ H) (hd : zDj ad1 ad2) {H1 : Heap} (hk : ∀ q, q < H.size → ¬ zcA ad1 H.size q → H1[q]? = H[q]?) : ZW G ad2 A0 τ H1 := h.heapA fun κ i a ha => hk a (h.lt ha) fun q => by
  rcases q with ⟨κ', i', h'⟩ | q
  · exact hd _ _ _ _ _ h' ha
  · have := h.lt ha
    omega
theorem ZW.otherB (h : ZW G ad1 A0 σ H) (hd : zDj ad1 ad2) {H1 : Heap} (hk : ∀ q, q < H.size → ¬ zcB ad2 q → H1[q]? = H[q]?) : ZW G ad1 A0 σ H1 := h.heapA fun κ i a ha => hk a (h.lt ha) fun ⟨κ', i', h'⟩ => hd _ _ _ _ _ ha h'
theorem zl_keep {st₀ t T' : State} {L : List Loc} (h0 : st₀.heap = H) (e1 : T'.heap = t.heap) (hS : va_S A0 H0 H locs) (hsub : ∀ q, A q → A0 q) (hL : ∀ q ∈ L, A q.base) (hF : va_F A st₀ t) : H.size ≤ T'.heap.size ∧ (∀ q, q < H.size → ¬ A q → T'.heap[q]? = H[q]?) ∧ va_S A0 H0 T'.heap (locs ++ L) := by
  obtain ⟨hz, hk⟩ := hF
  rw [h0] at hz hk
  refine ⟨by rw [e1]; exact hz, fun q h1 h2 => by rw [e1]; exact hk q h1 h2, Nat.le_trans hS.1 (by rw [e1]; exact hz), fun q h1 h2 => by rw [e1, hk q (Nat.lt_of_lt_of_le h1 hS.1) (fun h => h2 (hsub q h))]; exact hS.2.1 q h1 h2, fun q hq => ?_⟩
  rcases List.mem_append.mp hq with h | h
  · exact hS.2.2 q h
  · exact hsub _ (hL q h)
theorem zl_callH {X : Type} {y : MethodName} {bytes : ByteArray} {maxL nL mc ms n index : Nat} {rt : Option FieldType} {hh : List (Nat × Nat × Nat × Nat)} {ws : List Cond} {rm : Room} {ret : X → Option Value} {post : X → zS → Prop} {Ts : List Cond} {own : String} {As : List Value} {st0 : List Value}
    (S : CallFix p m c cc nL s args Ts own) (hM : vx_Met l y ws rm (zPH G ad A N0 σ As) (zQ G ad A ret post) zX0 mc ms A) (cw : vx_CSW R s args own index y bytes maxL rt hh ws rm mc ms n) (hK : zK G s) (hE : zE A0 s) (hAA : zAA G s) (hNC : zNC s) (hW : ZW G ad A σ H) (hsz : N0 ≤ H.size) (hS : va_S A0 s.heap H locs) (hsub : ∀ q, A q → A0 q)
    (hn : As.length = n) (hsize : ls.size = nL) (hst : As.reverse ++ rest = st0) (hrest : (rest.map fun v => v.category).sum ≤ 8) (hdg : decode cc pc = .ok (.invokestatic index, 3)) (hf : cells + mc ≤ R.cells ∧ slots + ms ≤ R.slots)
    (kk : ∀ (x : X) (u : zS) (H1 : Heap) (locs1 : List Loc), post x u → ZW G ad A u H1 → H.size ≤ H1.size → (∀ q, q < H.size → ¬ A q → H1[q]? = H[q]?) → va_S A0 s.heap H1 locs1 → W p l e R s m args below meth c H1 locs1 (cells + mc) (slots + ms) Q (F0 m (pc + 3) ls ((ret x).toList ++ rest))) : W p l e R s m args below meth c H locs cells slots Q (F0 m pc ls st0) := by
  have hr := vx_runSX (e := e) (below := below) (meth := meth) (locs := locs) (g := F0 m pc ls st0) (rest := rest) S hM cw ⟨zPH.blind, fun U hU hWm => ⟨rfl, by rw [hU]; exact hsz, by rw [hU]; exact hW, hK.warm hWm, (hE.go hS hU hWm).narrow hsub, hAA.warm hWm, hNC.moved hWm.alike⟩⟩ rfl hn hsize hst.symm (lv_room hrest) hdg hf
  intro T hT X
  rcases hr T hT X with ⟨v, st₀, t, T', L, h0, X', hL, e1, e2, ⟨⟨x, u, hv, hp, hb⟩, hF⟩, st⟩ | ⟨q, st₀, t, T', L, E, ce, h0, X', hL, e1, e2, hfalse, -⟩
  · cases hv
    obtain ⟨k1, k2, k3⟩ := zl_keep h0 e1 hS hsub hL hF
    obtain ⟨t2, a1, b1⟩ := kk x u T'.heap (locs ++ L) hp (by rw [e1]; exact hb) k1 k2 k3 T' rfl X'
    exact ⟨t2, st t2 a1, b1⟩
  · exact hfalse.elim
theorem zl_callD {y : MethodName} {bytes : ByteArray} {maxL nL mc ms n index : Nat} {rt : Option FieldType} {hh : List (Nat × Nat × Nat × Nat)} {ws : List Cond} {rm : Room} {post : zA → Int → zS → Prop} {Ts : List Cond} {own : String} {As : List Value} {st0 : List Value}
    (S : CallFix p m c cc nL s args Ts own) (hM : vx_Met l y ws rm (zPH G ad A N0 σ As) (zQD G A post) zX0 mc ms A) (cw : vx_CSW R s args own index y bytes maxL rt hh ws rm mc ms n) (hK : zK G s) (hE : zE A0 s) (hAA : zAA G s) (hNC : zNC s) (hW : ZW G ad A σ H) (hsz : N0 ≤ H.size) (hS : va_S A0 s.heap H locs) (hsub : ∀ q, A q → A0 q)
    (hn : As.length = n) (hsize : ls.size = nL) (hst : As.reverse ++ rest = st0) (hrest : (rest.map fun v => v.category).sum ≤ 8) (hdg : decode cc pc = .ok (.invokestatic index, 3)) (hf : cells + mc ≤ R.cells ∧ slots + ms ≤ R.slots)
    (kk : ∀ (ad' : zA) (x : Int) (u : zS) (H1 : Heap) (locs1 : List Loc), post ad' x u → ZW G ad' A u H1 → H.size ≤ H1.size → (∀ q, q < H.size → ¬ A q → H1[q]? = H[q]?) → va_S A0 s.heap H1 locs1 → W p l e R s m args below meth c H1 locs1 (cells + mc) (slots + ms) Q (F0 m (pc + 3) ls (.int (zi x) :: rest))) : W p l e R s m args below meth c H locs cells slots Q (F0 m pc ls st0) := by
  have hr := vx_runSX (e := e) (below := below) (meth := meth) (locs := locs) (g := F0 m pc ls st0) (rest := rest) S hM cw ⟨zPH.blind, fun U hU hWm => ⟨rfl, by rw [hU]; exact hsz, by rw [hU]; exact hW, hK.warm hWm, (hE.go hS hU hWm).narrow hsub, hAA.warm hWm, hNC.moved hWm.alike⟩⟩ rfl hn hsize hst.symm (lv_room hrest) hdg hf
  intro T hT X
  rcases hr T hT X with ⟨v, st₀, t, T', L, h0, X', hL, e1, e2, ⟨⟨ad', x, u, hv, hp, hb⟩, hF⟩, st⟩ | ⟨q, st₀, t, T', L, E, ce, h0, X', hL, e1, e2, hfalse, -⟩
  · cases hv
    obtain ⟨k1, k2, k3⟩ := zl_keep h0 e1 hS hsub hL hF
    obtain ⟨t2, a1, b1⟩ := kk ad' x u T'.heap (locs ++ L) hp (by rw [e1]; exact hb) k1 k2 k3 T' rfl X'
    exact ⟨t2, st t2 a1, b1⟩
  · exact hfalse.elim
/-- a method that doesn't throw: the model's, and airport and share of the class -/
theorem zl_callV {X : Type} {y : MethodName} {bytes : ByteArray} {maxL nL mc ms n index κ : Nat} {rt : Option FieldType} {ws : List Cond} {rm : Room} {ret : X → Option Value} {post : X → zS → Prop} {Ts : List Cond} {own C : String} {T : u_T} {N : Nat} {v : Int} {As : List Value} {st0 : List Value}
    (S : CallFix p m c cc nL s args Ts own) (hM : Met l y ws rm (zP G ad A N0 σ (zr ad κ v :: As)) (zQ G ad A ret post) mc ms A) (cw : CallW R s args own C index y bytes maxL rt ws rm mc ms n) (hK : zK G s) (hW : ZW G ad A σ H) (hv : zl ad κ v) (hkd : zk κ = true) (hc : vwCl[zc κ]? = some (C, T, N)) (hsz : N0 ≤ H.size) (hS : va_S A0 s.heap H locs) (hsub : ∀ q, A q → A0 q)
    (hn : As.length = n) (hsize : ls.size = nL) (hst : As.reverse ++ zr ad κ v :: rest = st0) (hrest : (rest.map fun v => v.category).sum ≤ 8) (hdg : decode cc pc = .ok (.invokevirtual index, 3)) (hf : cells + mc ≤ R.cells ∧ slots + ms ≤ R.slots)
    (kk : ∀ (x : X) (u : zS) (H1 : Heap) (locs1 : List Loc), post x u → ZW G ad A u H1 → H.size ≤ H1.size → (∀ q, q < H.size → ¬ A q → H1[q]? = H[q]?) → va_S A0 s.heap H1 locs1 → W p l e R s m args below meth c H1 locs1 (cells + mc) (slots + ms) Q (F0 m (pc + 3) ls ((ret x).toList ++ rest))) : W p l e R s m args below meth c H locs cells slots Q (F0 m pc ls st0) := by
  obtain ⟨a, ha, er⟩ := zr_ref hv
  rw [er] at hM hst
  have hz := (hW.1 _ _ _ ha).1
  unfold zat at hz
  rw [if_pos hkd] at hz
  obtain ⟨cell, q1, q2, q3, q4⟩ := hz
  obtain ⟨-, hfc, -⟩ := hK.1.1 _ _ hc
  have hr := va_runV (e := e) (below := below) (meth := meth) (locs := locs) (g := F0 m pc ls st0) (rest := rest) S hM cw ⟨zP.blind, ⟨cell, q1, by rw [q3]; rfl, by rw [q2]; exact hfc⟩, fun U hU hWm => ⟨rfl, by rw [hU]; exact hsz, by rw [hU]; exact hW, hK.warm hWm⟩⟩ rfl hn hsize hst.symm (lv_room hrest) hdg hf
  intro T hT X
  obtain ⟨v, st₀, t, T', L, h0, X', hL, e1, e2, ⟨⟨x, u, hv, hp, hb⟩, hF⟩, st⟩ := hr T hT X
  cases hv
  obtain ⟨k1, k2, k3⟩ := zl_keep h0 e1 hS hsub hL hF
  obtain ⟨t2, a1, b1⟩ := kk x u T'.heap (locs ++ L) hp (by rw [e1]; exact hb) k1 k2 k3 T' rfl X'
  exact ⟨t2, st t2 a1, b1⟩
end ZLC
