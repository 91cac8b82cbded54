/-! P24: THE CLASS'S WORLD BESIDE THE LAW'S ARRAYS (kinds 86, 87, 88) -/
theorem gD_all {P : Nat → Prop} {l : List Nat} (k : Nat) (h : ∀ x ∈ 0 :: l, P x) : P (l.getD k 0) := by
  rw [List.getD_eq_getElem?_getD]
  cases e : l[k]? with
  | none => exact h 0 List.mem_cons_self
  | some x => exact h x (List.mem_cons_of_mem _ (List.mem_of_getElem? e))
theorem zt_96 (κ k : Nat) : zt κ k < 100 → zt κ k < 96 := by
  unfold zt
  split <;> first | (intro h; omega) | exact gD_all (P := fun x => x < 100 → x < 96) k (by decide)
theorem zt_85 (κ k : Nat) : 100 ≤ zt κ k → zt κ k < 200 → zt κ k - 100 < 86 := by
  unfold zt
  split <;> first | (intro h; omega) | exact gD_all (P := fun x => 100 ≤ x → x < 200 → x - 100 < 86) k (by decide)
theorem zt_285 (κ k : Nat) : zt κ k - 200 < 86 := by
  unfold zt
  split <;> first | omega | exact gD_all (P := fun x => x - 200 < 86) k (by decide)
theorem zt_hi {κ k : Nat} (h : 86 ≤ κ) : zt κ k < 3 := by
  unfold zt
  split <;> first | omega | exact Nat.zero_lt_succ _
def zr8 (ad : zA) : zA := fun κ i => if κ < 86 then ad κ i else none
theorem zr8_lo {ad : zA} {κ i : Nat} (h : κ < 86) : zr8 ad κ i = ad κ i := if_pos h
theorem zr8_of {ad : zA} {κ i a : Nat} (h : zr8 ad κ i = some a) : κ < 86 ∧ ad κ i = some a := by
  unfold zr8 at h
  split at h
  · exact ⟨by assumption, h⟩
  · cases h
theorem zq_cg {ad ad' : zA} {κ : Nat} {v : Int} (h : ∀ i, ad κ i = ad' κ i) : zq ad κ v = zq ad' κ v := by
  unfold zq
  rw [h]
theorem zr_cg {ad ad' : zA} {κ : Nat} {v : Int} (h : ∀ i, ad κ i = ad' κ i) : zr ad κ v = zr ad' κ v := by
  unfold zr
  rw [zq_cg h]
theorem zv_cg {ad ad' : zA} {κ i k : Nat} {v : Int} (h : ∀ κ' i, κ' < 86 → ad κ' i = ad' κ' i) : zv ad (zt κ k) i k v = zv ad' (zt κ k) i k v := by
  unfold zv
  by_cases c1 : zt κ k < 2
  · rw [if_pos c1, if_pos c1]
  rw [if_neg c1, if_neg c1]
  by_cases c2 : zt κ k = 2
  · rw [if_pos c2, if_pos c2]
  rw [if_neg c2, if_neg c2]
  by_cases c3 : zt κ k = 3
  · rw [if_pos c3, if_pos c3]
  rw [if_neg c3, if_neg c3]
  by_cases c4 : zt κ k < 100
  · rw [if_pos c4, if_pos c4]
    have := zt_96 κ k c4
    exact zr_cg (fun i => h _ i (by omega))
  rw [if_neg c4, if_neg c4]
  by_cases c5 : zt κ k < 200
  · rw [if_pos c5, if_pos c5]
    have := zt_85 κ k (by omega) c5
    exact zr_cg (fun i => h _ i this)
  · rw [if_neg c5, if_neg c5]
    have := zt_285 κ k
    exact zr_cg (fun i => h _ i this)
theorem zv_lo {ad ad' : zA} {t i k : Nat} {v : Int} (h : t < 3) : zv ad t i k v = zv ad' t i k v := by
  unfold zv
  by_cases c1 : t < 2
  · rw [if_pos c1, if_pos c1]
  · rw [if_neg c1, if_neg c1, if_pos (by omega), if_pos (by omega)]
def zg8 (σ u : zS) : zS := fun κ i k => if κ < 86 then u κ i k else σ κ i k
theorem zg8_lo {σ u : zS} {κ i k : Nat} (h : κ < 86) : zg8 σ u κ i k = u κ i k := if_pos h
theorem zg8_hi {σ u : zS} {κ i k : Nat} (h : 86 ≤ κ) : zg8 σ u κ i k = σ κ i k := if_neg (by omega)
theorem zg8_self {σ : zS} : zg8 σ σ = σ := funext fun κ => funext fun i => funext fun k => by
  unfold zg8
  split <;> rfl
def za8 (ad ad' : zA) : zA := fun κ i => if κ < 86 then ad' κ i else ad κ i
theorem za8_lo {ad ad' : zA} {κ i : Nat} (h : κ < 86) : za8 ad ad' κ i = ad' κ i := if_pos h
theorem za8_hi {ad ad' : zA} {κ i : Nat} (h : 86 ≤ κ) : za8 ad ad' κ i = ad κ i := if_neg (by omega)
theorem za8_self {ad : zA} : za8 ad (zr8 ad) = ad := funext fun κ => funext fun i => by
  unfold za8 zr8
  split <;> rfl
theorem ZW.cut {G : zG} {ad : zA} {A : Nat → Prop} {σ : zS} {H : Heap} (hW : ZW G ad A σ H) : ZW G (zr8 ad) (zcA (zr8 ad) H.size) σ H := by
  refine ⟨fun κ i a ha => ⟨?_, Or.inl ⟨κ, i, ha⟩⟩, fun κ1 i1 κ2 i2 b h1 h2 => hW.2.1 _ _ _ _ _ (zr8_of h1).2 (zr8_of h2).2, hW.2.2.1, fun κ i k hs q1 q2 => ?_, hW.2.2.2.2⟩
  · obtain ⟨hκ, ha⟩ := zr8_of ha
    exact zat_to (hW.1 _ _ _ ha).1 (fun k hk => zv_cg (fun κ' i' h' => (zr8_lo h').symm))
  · obtain ⟨a, ha⟩ := Option.isSome_iff_exists.mp hs
    have h9 := zt_96 κ k q2
    rcases hW.2.2.2.1 κ i k (by rw [(zr8_of ha).2]; rfl) q1 q2 with g | g
    · exact Or.inl g
    · exact Or.inr ⟨g.1, by rw [zr8_lo (by omega)]; exact g.2⟩
theorem zcA8_sub {G : zG} {ad : zA} {A : Nat → Prop} {σ : zS} {H H0 : Heap} {locs : List Loc} (h : ZW G ad A σ H) (hS : va_S A H0 H locs) (hA0 : ∀ q, H0.size ≤ q → A q) : ∀ q, zcA (zr8 ad) H.size q → A q := fun q hq => by
  rcases hq with ⟨κ, i, ha⟩ | hq
  · exact (h.1 κ i q (zr8_of ha).2).2
  · exact hA0 q (Nat.le_trans hS.1 hq)
theorem ZW.glue {G : zG} {ad ad' : zA} {A : Nat → Prop} {σ u : zS} {H H1 : Heap} (hW : ZW G ad A σ H) (hsub : ∀ q, zcA (zr8 ad) H.size q → A q) (h1 : ZW G ad' (zcA (zr8 ad) H.size) u H1) (hk : ∀ q, q < H.size → ¬ zcA (zr8 ad) H.size q → H1[q]? = H[q]?) : ZW G (za8 ad ad') A (zg8 σ u) H1 := by
  have hno : ∀ κ i a, 86 ≤ κ → ad κ i = some a → ¬ zcA (zr8 ad) H.size a := fun κ i a hκ ha q => by
    rcases q with ⟨κ', i', h'⟩ | q
    · obtain ⟨g1, g2⟩ := zr8_of h'
      have := (hW.2.1 _ _ _ _ _ g2 ha).1
      omega
    · have := hW.lt ha
      omega
  refine ⟨fun κ i a ha => ?_, fun κ1 i1 κ2 i2 b e1 e2 => ?_, fun κ i k => ?_, fun κ i k hs q1 q2 => ?_, fun κ i k q1 => ?_⟩
  · by_cases c : κ < 86
    · rw [za8_lo c] at ha
      refine ⟨zat_to (h1.1 _ _ _ ha).1 (fun k hk => ?_), hsub a (h1.1 _ _ _ ha).2⟩
      rw [zg8_lo c]
      exact zv_cg (fun κ' i' h' => (za8_lo h').symm)
    · rw [za8_hi (by omega)] at ha
      refine ⟨zat_to ((hW.1 _ _ _ ha).1.kept (hk a (hW.lt ha) (hno κ i a (by omega) ha))) (fun k hk => ?_), (hW.1 _ _ _ ha).2⟩
      rw [zg8_hi (by omega)]
      exact zv_lo (zt_hi (by omega))
  · by_cases c1 : κ1 < 86 <;> by_cases c2 : κ2 < 86
    · rw [za8_lo c1] at e1
      rw [za8_lo c2] at e2
      exact h1.2.1 _ _ _ _ _ e1 e2
    · rw [za8_lo c1] at e1
      rw [za8_hi (by omega)] at e2
      exact absurd (h1.1 _ _ _ e1).2 (hno _ _ _ (by omega) e2)
    · rw [za8_hi (by omega)] at e1
      rw [za8_lo c2] at e2
      exact absurd (h1.1 _ _ _ e2).2 (hno _ _ _ (by omega) e1)
    · rw [za8_hi (by omega)] at e1
      rw [za8_hi (by omega)] at e2
      exact hW.2.1 _ _ _ _ _ e1 e2
  · unfold zg8
    split
    · exact h1.2.2.1 _ _ _
    · exact hW.2.2.1 _ _ _
  · by_cases c : κ < 86
    · rw [za8_lo c] at hs
      rw [zg8_lo c]
      have h9 := zt_96 κ k q2
      rcases h1.2.2.2.1 _ _ _ hs q1 q2 with g | g
      · exact Or.inl g
      · exact Or.inr ⟨g.1, by rw [za8_lo (by omega)]; exact g.2⟩
    · have := zt_hi (κ := κ) (k := k) (by omega)
      omega
  · unfold zg8
    split
    · exact h1.2.2.2.2 _ _ _ q1
    · exact hW.2.2.2.2 _ _ _ q1
theorem zlive_lo {κ i nd nr : Nat} (h : zlive κ i nd nr = true) : κ < 28 := by
  unfold zlive at h
  split at h <;> first | omega | cases h
/-- a method of the law's without a table, by its body -/
theorem zz_ofH {l : Launch} {G : zG} {ad : zA} {A : Nat → Prop} {σ : zS} {N0 : Nat} {y : MethodName} {ws ws' : List Cond} {rm : Room} {Qc : Array Value → State → Outcome → State → Prop} {mc ms : Nat} {cc : ByteArray} {maxL : Nat} {ret : Option FieldType} {av : List Value}
    (hy : plainName y.cls = true) (hw : ws = Cond.code y cc maxL ret :: ws') (hcat : ∀ v ∈ av, v.category = 1) (hlen : av.length ≤ maxL)
    (body : ∀ (p : Program) (e : Env) (s : State) (m : MethodId) (below : List Frame) (meth : Method) (c : Code), p.tables.exec = Jvm.exec → c.code = cc → meth.sig.returnType = ret → c.maxLocals = maxL → (∀ w ∈ ws, w.before av.toArray s = true) → s.vm.findClass y.cls = some m.cls → meth.locks = false → N0 ≤ s.heap.size → ZW G ad A σ s.heap → zK G s → zE A s → zAA G s → zNC s → ∀ ls, zh ls maxL (zargs 0 av) →
      W p l e rm s m av.toArray below meth c s.heap [] 0 0 (MQ below Qc av.toArray s mc ms A) (F0 m 0 ls [])) : Met l y ws rm (zPH G ad A N0 σ av) Qc mc ms A := by
  refine Met.ofW (cc := cc) (maxL := maxL) (ret := ret) hy hw ?_
  intro p e s m args below meth c s₁ B hml hv
  obtain ⟨rfl, hsz, hW, hK, hE, hAA, hNC⟩ := hv
  obtain ⟨ls, e1, e2⟩ := zh_entry m av (n := maxL) hcat hlen
  rw [e1]
  exact body p e s m below meth c B.exec B.bytes B.returns hml (atoms_spec (ws := ws) B.pre) (findClass_of_methodNamed B.named) B.notSynchronized hsz hW hK hE hAA hNC ls e2
section ZB1
variable {p : Program} {l : Launch} {e : Env} {R : Room} {s : State} {m : MethodId} {args : Array Value} {below : List Frame} {meth : Method} {c : Code} {H : Heap} {locs : List Loc} {cells slots : Nat} {Q : State → Prop}
variable {cc : ByteArray} {pc : Nat} {ls : Array Slot} {rest : List Value} {G : zG} {ad : zA} {A A0 : Nat → Prop} {σ : zS} {H0 : Heap} {N0 : Nat}
/-- a call of such a method -/
theorem zl_callM {X : Type} {y : MethodName} {bytes : ByteArray} {maxL nL mc ms n index : Nat} {rt : Option FieldType} {ws : List Cond} {rm : Room} {ret : X → Option Value} {post : X → zS → Prop} {Ts : List Cond} {own : String} {As : List Value} {st0 : List Value}
    (S : CallFix p m c cc nL s args Ts own) (hM : Met l y ws rm (zPH G ad A N0 σ As) (zQ G ad A ret post) mc ms A) (cw : CallB R s args own index y bytes maxL rt ws rm mc ms n ∧ (Cond.static y).before args s = true) (hK : zK G s) (hE : zE A0 s) (hAA : zAA G s) (hNC : zNC s) (hW : ZW G ad A σ H) (hsz : N0 ≤ H.size) (hS : va_S A0 s.heap H locs) (hsub : ∀ q, A q → A0 q)
    (hn : As.length = n) (hsize : ls.size = nL) (hst : As.reverse ++ rest = st0) (hrest : (rest.map fun v => v.category).sum ≤ 8) (hdg : decode cc pc = .ok (.invokestatic index, 3)) (hf : cells + mc ≤ R.cells ∧ slots + ms ≤ R.slots)
    (kk : ∀ (x : X) (u : zS) (H1 : Heap) (locs1 : List Loc), post x u → ZW G ad A u H1 → H.size ≤ H1.size → (∀ q, q < H.size → ¬ A q → H1[q]? = H[q]?) → va_S A0 s.heap H1 locs1 → W p l e R s m args below meth c H1 locs1 (cells + mc) (slots + ms) Q (F0 m (pc + 3) ls ((ret x).toList ++ rest))) : W p l e R s m args below meth c H locs cells slots Q (F0 m pc ls st0) := by
  have hr := va_runS (e := e) (below := below) (meth := meth) (locs := locs) (g := F0 m pc ls st0) (rest := rest) S hM cw ⟨zPH.blind, fun U hU hWm => ⟨rfl, by rw [hU]; exact hsz, by rw [hU]; exact hW, hK.warm hWm, (hE.go hS hU hWm).narrow hsub, hAA.warm hWm, hNC.moved hWm.alike⟩⟩ rfl hn hsize hst.symm (lv_room hrest) hdg hf
  intro T hT X
  obtain ⟨v, st₀, t, T', L, h0, X', hL, e1, e2, ⟨⟨x, u, hv, hp, hb⟩, hF⟩, st⟩ := hr T hT X
  cases hv
  obtain ⟨k1, k2, k3⟩ := zl_keep h0 e1 hS hsub hL hF
  obtain ⟨t2, a1, b1⟩ := kk x u T'.heap (locs ++ L) hp (by rw [e1]; exact hb) k1 k2 k3 T' rfl X'
  exact ⟨t2, st t2 a1, b1⟩
/-- the class's world is called, the law's arrays stay -/
theorem zl_callP {X : Type} {y : MethodName} {bytes : ByteArray} {maxL nL mc ms n index : Nat} {rt : Option FieldType} {hh : List (Nat × Nat × Nat × Nat)} {ws : List Cond} {rm : Room} {ret : X → Option Value} {post : X → zS → Prop} {Ts : List Cond} {own : String} {As : List Value} {st0 : List Value}
    (S : CallFix p m c cc nL s args Ts own) (hM : vx_Met l y ws rm (zPH G (zr8 ad) (zcA (zr8 ad) H.size) H.size σ As) (zQ G (zr8 ad) (zcA (zr8 ad) H.size) ret post) zX0 mc ms (zcA (zr8 ad) H.size)) (cw : vx_CSW R s args own index y bytes maxL rt hh ws rm mc ms n) (hK : zK G s) (hE : zE A s) (hAA : zAA G s) (hNC : zNC s) (hW : ZW G ad A σ H) (hA0 : ∀ q, s.heap.size ≤ q → A q) (hS : va_S A s.heap H locs)
    (hn : As.length = n) (hsize : ls.size = nL) (hst : As.reverse ++ rest = st0) (hrest : (rest.map fun v => v.category).sum ≤ 8) (hdg : decode cc pc = .ok (.invokestatic index, 3)) (hf : cells + mc ≤ R.cells ∧ slots + ms ≤ R.slots)
    (kk : ∀ (x : X) (u : zS) (H1 : Heap) (locs1 : List Loc), post x u → ZW G ad A (zg8 σ u) H1 → H.size ≤ H1.size → va_S A s.heap H1 locs1 → W p l e R s m args below meth c H1 locs1 (cells + mc) (slots + ms) Q (F0 m (pc + 3) ls ((ret x).toList ++ rest))) : W p l e R s m args below meth c H locs cells slots Q (F0 m pc ls st0) :=
  zl_callH S hM cw hK hE hAA hNC hW.cut (Nat.le_refl _) hS (zcA8_sub hW hS hA0) hn hsize hst hrest hdg hf fun x u H1 locs1 hp h1 hz hk hS1 =>
    kk x u H1 locs1 hp (by have := hW.glue (zcA8_sub hW hS hA0) h1 hk; rw [za8_self] at this; exact this) hz hS1
theorem zl_callPM {X : Type} {y : MethodName} {bytes : ByteArray} {maxL nL mc ms n index : Nat} {rt : Option FieldType} {ws : List Cond} {rm : Room} {ret : X → Option Value} {post : X → zS → Prop} {Ts : List Cond} {own : String} {As : List Value} {st0 : List Value}
    (S : CallFix p m c cc nL s args Ts own) (hM : Met l y ws rm (zPH G (zr8 ad) (zcA (zr8 ad) H.size) H.size σ As) (zQ G (zr8 ad) (zcA (zr8 ad) H.size) ret post) mc ms (zcA (zr8 ad) H.size)) (cw : CallB R s args own index y bytes maxL rt ws rm mc ms n ∧ (Cond.static y).before args s = true) (hK : zK G s) (hE : zE A s) (hAA : zAA G s) (hNC : zNC s) (hW : ZW G ad A σ H) (hA0 : ∀ q, s.heap.size ≤ q → A q) (hS : va_S A s.heap H locs)
    (hn : As.length = n) (hsize : ls.size = nL) (hst : As.reverse ++ rest = st0) (hrest : (rest.map fun v => v.category).sum ≤ 8) (hdg : decode cc pc = .ok (.invokestatic index, 3)) (hf : cells + mc ≤ R.cells ∧ slots + ms ≤ R.slots)
    (kk : ∀ (x : X) (u : zS) (H1 : Heap) (locs1 : List Loc), post x u → ZW G ad A (zg8 σ u) H1 → H.size ≤ H1.size → va_S A s.heap H1 locs1 → W p l e R s m args below meth c H1 locs1 (cells + mc) (slots + ms) Q (F0 m (pc + 3) ls ((ret x).toList ++ rest))) : W p l e R s m args below meth c H locs cells slots Q (F0 m pc ls st0) :=
  zl_callM S hM cw hK hE hAA hNC hW.cut (Nat.le_refl _) hS (zcA8_sub hW hS hA0) hn hsize hst hrest hdg hf fun x u H1 locs1 hp h1 hz hk hS1 =>
    kk x u H1 locs1 hp (by have := hW.glue (zcA8_sub hW hS hA0) h1 hk; rw [za8_self] at this; exact this) hz hS1
theorem zl_callPD {y : MethodName} {bytes : ByteArray} {maxL nL mc ms n index : Nat} {rt : Option FieldType} {hh : List (Nat × Nat × Nat × Nat)} {ws : List Cond} {rm : Room} {post : zA → Int → zS → Prop} {Ts : List Cond} {own : String} {As : List Value} {st0 : List Value}
    (S : CallFix p m c cc nL s args Ts own) (hM : vx_Met l y ws rm (zPH G (zr8 ad) (zcA (zr8 ad) H.size) H.size σ As) (zQD G (zcA (zr8 ad) H.size) post) zX0 mc ms (zcA (zr8 ad) H.size)) (cw : vx_CSW R s args own index y bytes maxL rt hh ws rm mc ms n) (hK : zK G s) (hE : zE A s) (hAA : zAA G s) (hNC : zNC s) (hW : ZW G ad A σ H) (hA0 : ∀ q, s.heap.size ≤ q → A q) (hS : va_S A s.heap H locs)
    (hn : As.length = n) (hsize : ls.size = nL) (hst : As.reverse ++ rest = st0) (hrest : (rest.map fun v => v.category).sum ≤ 8) (hdg : decode cc pc = .ok (.invokestatic index, 3)) (hf : cells + mc ≤ R.cells ∧ slots + ms ≤ R.slots)
    (kk : ∀ (ad' : zA) (x : Int) (u : zS) (H1 : Heap) (locs1 : List Loc), post ad' x u → ZW G (za8 ad ad') A (zg8 σ u) H1 → H.size ≤ H1.size → va_S A s.heap H1 locs1 → W p l e R s m args below meth c H1 locs1 (cells + mc) (slots + ms) Q (F0 m (pc + 3) ls (.int (zi x) :: rest))) : W p l e R s m args below meth c H locs cells slots Q (F0 m pc ls st0) :=
  zl_callD S hM cw hK hE hAA hNC hW.cut (Nat.le_refl _) hS (zcA8_sub hW hS hA0) hn hsize hst hrest hdg hf fun ad' x u H1 locs1 hp h1 hz hk hS1 =>
    kk ad' x u H1 locs1 hp (hW.glue (zcA8_sub hW hS hA0) h1 hk) hz hS1
theorem zz_if_gt (hx : p.tables.exec = Jvm.exec) (hb : c.code = cc) {x : Int} {off : Int} {tgt : Nat} (hdg : decode cc pc = .ok (.ifCond .gt off, 3)) (ht : (pc : Int) + off = (tgt : Int)) (gx : zg x)
    (kt : 0 < x → W p l e R s m args below meth c H locs cells slots Q (F0 m tgt ls rest)) (kf : ¬ 0 < x → W p l e R s m args below meth c H locs cells slots Q (F0 m (pc + 3) ls rest)) : W p l e R s m args below meth c H locs cells slots Q (F0 m pc ls (.int (zi x) :: rest)) := by
  have g0 : zg 0 := ⟨by decide, by decide⟩
  refine lv_if_gt hx hb hdg ht (fun h => kt ?_) (fun h => kf (fun q => h ?_))
  · rw [zi_zero] at h; exact (zi_lt g0 gx).mp h
  · rw [zi_zero]; exact (zi_lt g0 gx).mpr q
/-- a method of the law's that makes new cells -/
theorem zl_callMD {y : MethodName} {bytes : ByteArray} {maxL nL mc ms n index : Nat} {rt : Option FieldType} {ws : List Cond} {rm : Room} {post : zA → Int → zS → Prop} {Ts : List Cond} {own : String} {As : List Value} {st0 : List Value}
    (S : CallFix p m c cc nL s args Ts own) (hM : Met l y ws rm (zPH G ad A N0 σ As) (zQD G A post) mc ms A) (cw : CallB R s args own index y bytes maxL rt ws rm mc ms n ∧ (Cond.static y).before args s = true) (hK : zK G s) (hE : zE A0 s) (hAA : zAA G s) (hNC : zNC s) (hW : ZW G ad A σ H) (hsz : N0 ≤ H.size) (hS : va_S A0 s.heap H locs) (hsub : ∀ q, A q → A0 q)
    (hn : As.length = n) (hsize : ls.size = nL) (hst : As.reverse ++ rest = st0) (hrest : (rest.map fun v => v.category).sum ≤ 8) (hdg : decode cc pc = .ok (.invokestatic index, 3)) (hf : cells + mc ≤ R.cells ∧ slots + ms ≤ R.slots)
    (kk : ∀ (ad' : zA) (x : Int) (u : zS) (H1 : Heap) (locs1 : List Loc), post ad' x u → ZW G ad' A u H1 → H.size ≤ H1.size → (∀ q, q < H.size → ¬ A q → H1[q]? = H[q]?) → va_S A0 s.heap H1 locs1 → W p l e R s m args below meth c H1 locs1 (cells + mc) (slots + ms) Q (F0 m (pc + 3) ls (.int (zi x) :: rest))) : W p l e R s m args below meth c H locs cells slots Q (F0 m pc ls st0) := by
  have hr := va_runS (e := e) (below := below) (meth := meth) (locs := locs) (g := F0 m pc ls st0) (rest := rest) S hM cw ⟨zPH.blind, fun U hU hWm => ⟨rfl, by rw [hU]; exact hsz, by rw [hU]; exact hW, hK.warm hWm, (hE.go hS hU hWm).narrow hsub, hAA.warm hWm, hNC.moved hWm.alike⟩⟩ rfl hn hsize hst.symm (lv_room hrest) hdg hf
  intro T hT X
  obtain ⟨v, st₀, t, T', L, h0, X', hL, e1, e2, ⟨⟨ad', x, u, hv, hp, hb⟩, hF⟩, st⟩ := hr T hT X
  cases hv
  obtain ⟨k1, k2, k3⟩ := zl_keep h0 e1 hS hsub hL hF
  obtain ⟨t2, a1, b1⟩ := kk ad' x u T'.heap (locs ++ L) hp (by rw [e1]; exact hb) k1 k2 k3 T' rfl X'
  exact ⟨t2, st t2 a1, b1⟩
/-- a method of the class's that doesn't throw, beside the law's arrays -/
theorem zl_callPV {X : Type} {y : MethodName} {bytes : ByteArray} {maxL nL mc ms n index κ : Nat} {rt : Option FieldType} {ws : List Cond} {rm : Room} {ret : X → Option Value} {post : X → zS → Prop} {Ts : List Cond} {own C : String} {T : u_T} {N : Nat} {v : Int} {As : List Value} {st0 : List Value}
    (S : CallFix p m c cc nL s args Ts own) (hM : Met l y ws rm (zP G (zr8 ad) (zcA (zr8 ad) H.size) H.size σ (zr (zr8 ad) κ v :: As)) (zQ G (zr8 ad) (zcA (zr8 ad) H.size) ret post) mc ms (zcA (zr8 ad) H.size)) (cw : CallW R s args own C index y bytes maxL rt ws rm mc ms n) (hK : zK G s) (hW : ZW G ad A σ H) (hA0 : ∀ q, s.heap.size ≤ q → A q) (hv : zl (zr8 ad) κ v) (hkd : zk κ = true) (hc : vwCl[zc κ]? = some (C, T, N)) (hS : va_S A s.heap H locs)
    (hn : As.length = n) (hsize : ls.size = nL) (hst : As.reverse ++ zr (zr8 ad) κ v :: rest = st0) (hrest : (rest.map fun v => v.category).sum ≤ 8) (hdg : decode cc pc = .ok (.invokevirtual index, 3)) (hf : cells + mc ≤ R.cells ∧ slots + ms ≤ R.slots)
    (kk : ∀ (x : X) (u : zS) (H1 : Heap) (locs1 : List Loc), post x u → ZW G ad A (zg8 σ u) H1 → H.size ≤ H1.size → va_S A s.heap H1 locs1 → W p l e R s m args below meth c H1 locs1 (cells + mc) (slots + ms) Q (F0 m (pc + 3) ls ((ret x).toList ++ rest))) : W p l e R s m args below meth c H locs cells slots Q (F0 m pc ls st0) :=
  zl_callV S hM cw hK hW.cut hv hkd hc (Nat.le_refl _) hS (zcA8_sub hW hS hA0) hn hsize hst hrest hdg hf fun x u H1 locs1 hp h1 hz hk hS1 =>
    kk x u H1 locs1 hp (by have := hW.glue (zcA8_sub hW hS hA0) h1 hk; rw [za8_self] at this; exact this) hz hS1
end ZB1
