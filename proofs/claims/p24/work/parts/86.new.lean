/-! CONSTRUCTORS: a raw object beside the world -/
def zNW (G : zG) (ad : zA) (A : Nat → Prop) (σ : zS) (H : Heap) (κ o : Nat) (V : Nat → Value) : Prop := ZW G ad A σ H ∧ t_OB o (G.1.1 (zc κ)) (zn κ) (G.1.2 (zc κ)) H V ∧ ∀ κ' i', ad κ' i' ≠ some o
/-- an object's slots when it is new -/
def zdv (κ k : Nat) : Value := if 10 ≤ zt κ k then .null else .int (zi 0)
def zPN (G : zG) (ad : zA) (A : Nat → Prop) (N0 : Nat) (σ : zS) (κ o : Nat) (av : List Value) : Array Value → State → Prop := va_Pc (.ref o :: av) (fun U => N0 ≤ U.heap.size ∧ zNW G ad A σ U.heap κ o (zdv κ) ∧ zK G U ∧ zAA G U)
def zQN (G : zG) (A : Nat → Prop) (post : zA → zS → Prop) : Array Value → State → Outcome → State → Prop := fun _ st oc t => (∃ (ad' : zA) (u : zS), oc = .returned none ∧ post ad' u ∧ ZW G ad' A u t.heap) ∧ va_F A st t
theorem zPN.blind {G : zG} {ad : zA} {A : Nat → Prop} {N0 : Nat} {σ : zS} {κ o : Nat} {av : List Value} : FrameBlind (zPN G ad A N0 σ κ o av) := fun a U g mk q => ⟨q.1, q.2.1, q.2.2.1, zK.same (u := U) (U := U.calling g mk a) rfl q.2.2.2.1, zAA.same (u := U) (U := U.calling g mk a) rfl q.2.2.2.2⟩
/-- a constructor by its body -/
theorem zn_of {l : Launch} {G : zG} {ad : zA} {A : Nat → Prop} {σ : zS} {N0 κ o : Nat} {y : MethodName} {ws ws' : List Cond} {rm : Room} {Qc : Array Value → State → Outcome → State → Prop} {mc ms : Nat} {cc : ByteArray} {maxL : Nat} {av : List Value}
    (hy : plainName y.cls = true) (hyn : y.name = "<init>") (hw : ws = Cond.code y cc maxL none :: ws') (hrm : rm.cells = mc ∧ rm.slots = ms) (hcat : ∀ v ∈ av, v.category = 1) (hlen : av.length + 1 ≤ maxL)
    (body : ∀ (p : Program) (e : Env) (s : State) (m : MethodId) (below : List Frame) (meth : Method) (c : Code), p.tables.exec = Jvm.exec → c.code = cc → meth.sig.returnType = none → c.maxLocals = maxL → (∀ w ∈ ws, w.before (.ref o :: av).toArray s = true) → s.vm.findClass y.cls = some m.cls → meth.locks = false → meth.name = "<init>" → N0 ≤ s.heap.size → zNW G ad A σ s.heap κ o (zdv κ) → zK G s → zAA G s → ∀ ls, zh ls maxL (zargs 0 (.ref o :: av)) →
      W p l e rm s m (.ref o :: av).toArray below meth c s.heap [] 0 0 (MQ below Qc (.ref o :: av).toArray s mc ms A) (F0 m 0 ls [])) : Met l y ws rm (zPN G ad A N0 σ κ o av) Qc mc ms A := by
  refine Met.ofW (cc := cc) (maxL := maxL) (ret := none) hy hw ?_
  intro p e s m args below meth c s₁ B hml hv
  obtain ⟨rfl, hsz, hW, hK, hAA⟩ := hv
  obtain ⟨ls, e1, e2⟩ := zh_entry m (.ref o :: av) (n := maxL) (List.forall_mem_cons.mpr ⟨rfl, hcat⟩) hlen
  rw [e1]
  exact body p e s m below meth c B.exec B.bytes B.returns hml (atoms_spec (ws := ws) B.pre) (findClass_of_methodNamed B.named) B.notSynchronized ((name_of_methodNamed B.named B.method).1.trans hyn) hsz hW hK hAA ls e2
section ZNEW
variable {p : Program} {l : Launch} {e : Env} {R : Room} {s : State} {m : MethodId} {args : Array Value} {below : List Frame} {meth : Method} {c : Code} {H : Heap} {locs : List Loc} {cells slots : Nat} {Q : State → Prop}
variable {cc : ByteArray} {pc : Nat} {ls : Array Slot} {rest : List Value} {G : zG} {ad : zA} {A : Nat → Prop} {σ : zS} {H0 : Heap} {N0 : Nat}
theorem zNW.put {κ o : Nat} {V V' : Nat → Value} {H1 : Heap} (h : zNW G ad A σ H κ o V) (h1 : t_OB o (G.1.1 (zc κ)) (zn κ) (G.1.2 (zc κ)) H1 V') (e : ∀ q, q ≠ o → H1[q]? = H[q]?) : zNW G ad A σ H1 κ o V' :=
  ⟨h.1.heapA fun κ' i' a ha => e a fun q => h.2.2 κ' i' (by rw [ha, q]), h1, h.2.2⟩
theorem zn_put (hx : p.tables.exec = Jvm.exec) (hb : c.code = cc) {own ref C : String} {T : u_T} {N index κ k o : Nat} {V : Nat → Value} {w : Value} {Ts : List Cond} (hts : ∀ w ∈ Ts, w.before args s = true) (hin : ∀ w ∈ u_ws C T N, w ∈ Ts) (ty0 : Nat → FieldType) (hty : ∀ k, k < N → parseFieldDescriptor (T k).2.2.1 = some (ty0 k)) (hnm : ∀ a, a < N → ∀ b, b < N → a ≠ b → (T a).2.1 ≠ (T b).2.1) (hown : s.vm.findClass own = some m.cls) (hK : zK G s) (hW : zNW G ad A σ H κ o V) (hS0 : va_S A H0 H locs) (hAo : A o) (hc : vwCl[zc κ]? = some (C, T, N)) (hN : zn κ = N) (hk : k < N) (hlink : (Cond.fieldLink own index ref (T k).2.1 (T k).2.2.1).before args s = true) (hsame : ∀ x, s.fieldFound? (T k).1 (T k).2.1 (T k).2.2.1 = some x → s.fieldFound? ref (T k).2.1 (T k).2.2.1 = some x) (hfin : (T k).2.2.2 = false ∨ ((T k).1 = own ∧ meth.name = "<init>")) {ty : FieldType} (hd : parseFieldDescriptor (T k).2.2.1 = some ty) (hn : narrow ty w = w) (hfit : fits ty w = true) (hdg : decode cc pc = .ok (.putfield index, 3))
    (kk : ∀ (H1 : Heap) (locs1 : List Loc), zNW G ad A σ H1 κ o (updV V k w) → va_S A H0 H1 locs1 → W p l e R s m args below meth c H1 locs1 cells slots Q (F0 m (pc + 3) ls rest)) : W p l e R s m args below meth c H locs cells slots Q (F0 m pc ls (w :: .ref o :: rest)) := by
  have hz := hW.2.1
  obtain ⟨cell, q1, q2, q3, q4⟩ := hz
  have hap := va_apart (own := own) hts hin ty0 hty hnm hK.1 hc
  obtain ⟨hS, hfc, kC, hkC, hkind⟩ := hK.1.1 _ _ hc
  obtain ⟨cf, kf, fi, f, hi, hsl⟩ := hS k hk
  have hlay := hts _ (hin _ (u_in_lay hk))
  unfold u_lay at hlay
  have hst := (u_facts hfc hkC (u_lays hts hin hk) hi).1
  rw [hN] at q4
  by_cases hfi : (T k).2.2.2 = true
  · rw [if_pos hfi] at hlay
    obtain ⟨hdecl, hin2⟩ : (T k).1 = own ∧ meth.name = "<init>" := by
      rcases hfin with h | h
      · rw [hfi] at h; cases h
      · exact h
    have hcf : m.cls = cf := by
      obtain ⟨_, _, c', _, _, _, -, -, hf', -, -, -, hown2, -⟩ := Cond.laysFinal_spec hlay
      have e1 : c' = cf := by have := hi.symm.trans hf'; simp at this; exact this.1.symm
      rw [hdecl] at hown2
      rw [← e1]; exact Option.some.inj (hown.symm.trans hown2)
    have h6 := u_fits hfc hkC hkind (Or.inr hlay) hi hd hn hfit
    refine W.putFinK hx hb hown hlink (hsame _ hi) hst hcf hin2 (by rw [q2]; exact h6) q1 q3 (by rw [hsl]; exact k2_hasslot (q4 k hk)) rfl rfl hdg fun H' e1 e2 e3 => ?_
    rw [hsl] at e1 ⊢
    exact kk H' _ (hW.put ⟨_, e1, q2, q3, by rw [hN]; exact t_set q4 hap hk w⟩ e3) (hS0.put e2 e3 hAo)
  · rw [if_neg hfi] at hlay
    have h6 := u_store hfc hkC hkind hlay hi hd hn hfit
    refine W.putK hx hb (f := f) ⟨hown, hlink, ⟨_, _, _, hsame _ hi⟩, hst⟩ (by rw [q2]; exact h6) q1 q3 (by rw [hsl]; exact k2_hasslot (q4 k hk)) rfl rfl hdg fun H' e1 e2 e3 => ?_
    rw [hsl] at e1 ⊢
    exact kk H' _ (hW.put ⟨_, e1, q2, q3, by rw [hN]; exact t_set q4 hap hk w⟩ e3) (hS0.put e2 e3 hAo)
/-- a new cell beside all that is -/
theorem zNW.push {κ o : Nat} {V : Nat → Value} {H1 : Heap} (h : zNW G ad A σ H κ o V) (e : ∀ q, q < H.size → H1[q]? = H[q]?) : zNW G ad A σ H1 κ o V := by
  obtain ⟨h1, h2, h3⟩ := h
  refine ⟨h1.heap e, h2.kept (e o ?_), h3⟩
  obtain ⟨cell, q1, -⟩ := h2
  exact (Array.getElem?_eq_some_iff.mp q1).1
theorem zNW.lt {κ o : Nat} {V : Nat → Value} (h : zNW G ad A σ H κ o V) : o < H.size := by
  obtain ⟨-, ⟨cell, q1, -⟩, -⟩ := h
  exact (Array.getElem?_eq_some_iff.mp q1).1
theorem ZW.lt (h : ZW G ad A σ H) {κ i a : Nat} (ha : ad κ i = some a) : a < H.size := (h.1 _ _ _ ha).1.lt
theorem va_S.push {H1 : Heap} (hS : va_S A H0 H locs) (hz : H.size ≤ H1.size) (e : ∀ q, q < H.size → H1[q]? = H[q]?) : va_S A H0 H1 locs := ⟨Nat.le_trans hS.1 hz, fun q h1 h2 => (e q (Nat.lt_of_lt_of_le h1 hS.1)).trans (hS.2.1 q h1 h2), hS.2.2⟩
/-- an array enters the world of a raw object -/
theorem zNW.arr {κ0 o κ i a : Nat} {V : Nat → Value} {u : Nat → Int} (h : zNW G ad A σ H κ0 o V) (hf : zFree ad κ i) (hkd : zk κ = false) (hap : ∀ κ' i', ad κ' i' ≠ some a) (hao : a ≠ o) (hA : A a) (hg : ∀ k, u k = zd0 κ k) {f : Nat → Value} (hc : H[a]? = some (arrV (G.2 κ) (zn κ) f)) (hv : ∀ k, k < zn κ → f k = zv (zax ad κ i a) (zt κ k) i k (u k)) : zNW G (zax ad κ i a) A (zsl σ κ i u) H κ0 o V := by
  refine ⟨h.1.enter u hf hap hA (fun k => ?_) (fun k hk => ?_) (fun k h1 h2 => ?_) ?_, h.2.1, fun κ' i' => ?_⟩
  · rw [hg]; unfold zd0; split <;> exact ⟨by decide, by decide⟩
  · rw [hg]; unfold zd0; rw [hk]; exact Or.inl rfl
  · rw [hg]; unfold zd0; rw [if_pos ⟨h1, h2⟩]; exact Or.inl (by decide)
  · unfold zat
    rw [if_neg (by rw [hkd]; decide), hc]
    refine congrArg some (arrV_congr fun k hk => ?_)
    rw [hv k hk, zsl_same]
  · by_cases c : κ' = κ ∧ i' = i
    · obtain ⟨rfl, rfl⟩ := c
      rw [zax_same]
      exact fun q => hao (Option.some.inj q)
    · rw [zax_ne c]; exact h.2.2 κ' i'
theorem zn_newa (hx : p.tables.exec = Jvm.exec) (hb : c.code = cc) {atype : ArrayType} {κ0 o κ i N : Nat} {V : Nat → Value} (harr : (Cond.arrayClass (newarray.typeOf atype)).before args s = true) (hK : zK G s) (h : zNW G ad A σ H κ0 o V) (hS : va_S A H0 H locs) (hA : ∀ q, H0.size ≤ q → A q) (hf : zFree ad κ i) (hkd : zk κ = false) (hty : newarray.typeOf atype = zf κ) (hprim : zf κ = .int ∨ zf κ = .boolean) (hN : zn κ = N) (ht : ∀ k, k < zn κ → zt κ k < 2) (hcells : cells + 1 ≤ R.cells) (hslots : slots + N ≤ R.slots) (hdg : decode cc pc = .ok (.newarray atype, 2))
    (kk : ∀ (a : Nat) (H1 : Heap), zNW G (zax ad κ i a) A (zsl σ κ i (zd0 κ)) H1 κ0 o V → va_S A H0 H1 locs → H.size ≤ H1.size → W p l e R s m args below meth c H1 locs (cells + 1) (slots + N) Q (F0 m (pc + 2) ls (.ref a :: rest))) : W p l e R s m args below meth c H locs cells slots Q (F0 m pc ls (.int (zi (N : Int)) :: rest)) := by
  have hlt := zn_lt κ
  have hg : zg (N : Int) := ⟨by omega, by omega⟩
  have hN2 : (zi (N : Int)).toNatClampNeg = N := by rw [zi_clamp hg]; omega
  have hby : N * componentBytes (newarray.typeOf atype) ≤ 536870912 := by
    rw [hty]
    rcases hprim with h | h <;> rw [h]
    · show N * 4 ≤ _; omega
    · show N * 1 ≤ _; omega
  refine va_newaK hx hb harr rfl hdg rfl (fun q => by rw [zi_lt0 hg] at q; omega) hN2 hby hcells hslots rfl fun H1 cA e1 z1 o1 hAr hNm => ?_
  have hcA : cA = G.2 κ := by
    have h2 := (hK.2.1 κ hkd).2
    rw [hty] at hNm
    rcases hprim with h | h <;> rw [h] at h2 hNm <;> exact Option.some.inj (hNm.symm.trans h2)
  refine kk H.size H1 ((h.push o1).arr hf hkd (fun κ' i' q => by have := h.1.lt q; omega) (fun q => by have := h.lt; omega) (hA _ hS.1) (fun _ => rfl) (by rw [hN]; rw [hcA] at e1; exact e1) (fun k hk => ?_)) (hS.push (by omega) o1) (by omega)
  rw [zv_i (ht k hk), show zd0 κ k = 0 from if_neg (by have := ht k hk; omega), hty]
  rcases hprim with h | h <;> rw [h] <;> rfl
theorem zn_anewa (hx : p.tables.exec = Jvm.exec) (hb : c.code = cc) {own C : String} {index κ0 o κ i N : Nat} {V : Nat → Value} (hown : s.vm.findClass own = some m.cls) (hclink : (Cond.classLink own index C).before args s = true) (hover : va_AO C s) (hK : zK G s) (h : zNW G ad A σ H κ0 o V) (hS : va_S A H0 H locs) (hA : ∀ q, H0.size ≤ q → A q) (hf : zFree ad κ i) (hkd : zk κ = false) (hty : zf κ = .object C) (hN : zn κ = N) (ht : ∀ k, k < zn κ → 10 ≤ zt κ k ∧ zt κ k < 100) (hcells : cells + 1 ≤ R.cells) (hslots : slots + N ≤ R.slots) (hdg : decode cc pc = .ok (.anewarray index, 3))
    (kk : ∀ (a : Nat) (H1 : Heap), zNW G (zax ad κ i a) A (zsl σ κ i (zd0 κ)) H1 κ0 o V → va_S A H0 H1 locs → H.size ≤ H1.size → W p l e R s m args below meth c H1 locs (cells + 1) (slots + N) Q (F0 m (pc + 3) ls (.ref a :: rest))) : W p l e R s m args below meth c H locs cells slots Q (F0 m pc ls (.int (zi (N : Int)) :: rest)) := by
  have hlt := zn_lt κ
  have hg : zg (N : Int) := ⟨by omega, by omega⟩
  have hN2 : (zi (N : Int)).toNatClampNeg = N := by rw [zi_clamp hg]; omega
  refine W.anew hx hb hown hclink (va_AO.use hover) rfl hdg rfl (fun q => by rw [zi_lt0 hg] at q; omega) (by rw [hN2]; omega) hcells (by rw [hN2]; exact hslots) fun cA kA comp f1 f2 f3 f4 => ?_
  rw [hN2]
  generalize hH1 : H.push ({ cls := cA, slots := Array.replicate N .null, vm := .none } : Cell) = H1
  have z1 : H1.size = H.size + 1 := by rw [← hH1, Array.size_push]
  have e1 : H1[H.size]? = some (arrV cA N (fun _ => .null)) := by rw [← hH1, Array.getElem?_push_size, ← arrV_new]
  have o1 : ∀ q : Nat, q < H.size → H1[q]? = H[q]? := fun q hq => by rw [← hH1, Array.getElem?_push, if_neg (Nat.ne_of_lt hq)]
  have hcA : cA = G.2 κ := by
    have h2 := (hK.2.1 κ hkd).2
    rw [hty] at h2
    obtain ⟨kA', comp', -, -, -, g4⟩ := h2
    exact Option.some.inj (f1.symm.trans g4)
  refine kk H.size H1 ((h.push o1).arr hf hkd (fun κ' i' q => by have := h.1.lt q; omega) (fun q => by have := h.lt; omega) (hA _ hS.1) (fun _ => rfl) (by rw [hN]; rw [hcA] at e1; exact e1) (fun k hk => ?_)) (hS.push (by omega) o1) (by omega)
  obtain ⟨h1, h2⟩ := ht k hk
  rw [zv_r h1 h2, show zd0 κ k = -1 from if_pos ⟨h1, h2⟩, zr_null (by decide)]
/-- a raw object enters -/
theorem zNW.enter {κ i o : Nat} {V : Nat → Value} (u : Nat → Int) (h : zNW G ad A σ H κ o V) (hf : zFree ad κ i) (hkd : zk κ = true) (hA : A o) (hg : ∀ k, zg (u k)) (hb : ∀ k, zt κ k = 1 → u k = 0 ∨ u k = 1) (hr : ∀ k, 10 ≤ zt κ k → zt κ k < 100 → zln (zax ad κ i o) (zt κ k - 10) (u k)) (hv : ∀ k, k < zn κ → V k = zv (zax ad κ i o) (zt κ k) i k (u k)) : ZW G (zax ad κ i o) A (zsl σ κ i u) H := by
  refine h.1.enter u hf h.2.2 hA hg hb hr ?_
  unfold zat
  rw [if_pos hkd]
  exact h.2.1.to fun k hk => by rw [hv k hk, zsl_same]
theorem zn_retv (hx : p.tables.exec = Jvm.exec) (hb : c.code = cc) (hr : meth.sig.returnType = none) (hlocks : meth.locks = false) {post : zA → zS → Prop} (hW : ZW G ad A σ H) (hS : va_S A s.heap H locs) (hp : post ad σ) (hdg : decode cc pc = .ok (.return_, 1)) :
    W p l e R s m args below meth c H locs cells slots (MQ below (zQN G A post) args s cells slots A) (F0 m pc ls []) :=
  W.vret hx hb hr (fun t ht _ => ⟨⟨ad, σ, rfl, hp, by rw [ht]; exact hW⟩, hS.F ht⟩) hS.2.2 hdg hlocks
/-- a new object, its own world still the old -/
theorem zn_new (hx : p.tables.exec = Jvm.exec) (hb : c.code = cc) {own C : String} {T : u_T} {N index κ : Nat} {Ts : List Cond} (hts : ∀ w ∈ Ts, w.before args s = true) (hin : ∀ w ∈ u_ws C T N, w ∈ Ts) (ty : Nat → FieldType) (hty : ∀ k, k < N → parseFieldDescriptor (T k).2.2.1 = some (ty k)) (hown : s.vm.findClass own = some m.cls) (hcl : (Cond.classLink own index C).before args s = true) (hinst : (Cond.instantiable C N).before args s = true) (hini : (Cond.initialized C).before args s = true)
    (hK : zK G s) (hc : vwCl[zc κ]? = some (C, T, N)) (hN : zn κ = N) (hdv : ∀ k, k < N → defaultValue (ty k) = zdv κ k) (hW : ZW G ad A σ H) (hS : va_S A H0 H locs) (hcells : cells + 1 ≤ R.cells) (hslots : slots + N ≤ R.slots) (hdg : decode cc pc = .ok (.new index, 3))
    (kk : ∀ (q : Nat) (H1 : Heap), zNW G ad A σ H1 κ q (zdv κ) → H.size = q → H.size ≤ H1.size → (∀ q, q < H.size → H1[q]? = H[q]?) → va_S A H0 H1 locs → W p l e R s m args below meth c H1 locs (cells + 1) (slots + N) Q (F0 m (pc + 3) ls (.ref q :: rest))) : W p l e R s m args below meth c H locs cells slots Q (F0 m pc ls rest) := by
  have hKn := hK.1.1 _ _ hc
  refine W.newcK hx hb hown hcl hinst hini rfl hdg hcells hslots hKn.2.1 rfl fun H1 kC hkC e1 z1 o1 => ?_
  refine kk H.size H1 ⟨hW.heap o1, ?_, fun κ' i' q => by have := hW.lt q; omega⟩ rfl (by omega) o1 (hS.push (by omega) o1)
  rw [hN]
  exact (u_born ty hts hin hKn hkC e1 hty).to hdv
/-- a constructor's call -/
theorem zn_callI {y : MethodName} {bytes : ByteArray} {maxL nL mc ms n index κ o : Nat} {ws : List Cond} {rm : Room} {post : zA → zS → Prop} {Ts : List Cond} {own : String} {As : List Value} {st0 : List Value} {A' : Nat → Prop}
    (S : CallFix p m c cc nL s args Ts own) (hM : Met l y ws rm (zPN G ad A' N0 σ κ o As) (zQN G A' post) mc ms A') (cw : CallB R s args own index y bytes maxL none ws rm mc ms n ∧ y.name = "<init>" ∧ (Cond.instanceMethod y).before args s = true) (hK : zK G s) (hAA : zAA G s) (hW : zNW G ad A' σ H κ o (zdv κ)) (hsz : N0 ≤ H.size) (hS : va_S A H0 H locs) (hsub : ∀ q, A' q → A q)
    (hn : As.length = n) (hsize : ls.size = nL) (hst : As.reverse ++ .ref o :: rest = st0) (hrest : (rest.map fun v => v.category).sum ≤ 8) (hdg : decode cc pc = .ok (.invokespecial index, 3)) (hf : cells + mc ≤ R.cells ∧ slots + ms ≤ R.slots)
    (kk : ∀ (ad' : zA) (u : zS) (H1 : Heap) (locs1 : List Loc), post ad' u → ZW G ad' A' u H1 → H.size ≤ H1.size → (∀ q, q < H.size → ¬ A' q → H1[q]? = H[q]?) → va_S A H0 H1 locs1 → W p l e R s m args below meth c H1 locs1 (cells + mc) (slots + ms) Q (F0 m (pc + 3) ls rest)) : W p l e R s m args below meth c H locs cells slots Q (F0 m pc ls st0) := by
  have hr := va_runI (e := e) (below := below) (meth := meth) (locs := locs) (g := F0 m pc ls st0) (rest := rest) S hM cw ⟨zPN.blind, fun U hU hWm => ⟨rfl, by rw [hU]; exact hsz, by rw [hU]; exact hW, hK.warm hWm, hAA.warm hWm⟩⟩ rfl hn hsize hst.symm (lv_room hrest) hdg hf
  intro T hT X
  obtain ⟨v, st₀, t, T', L, h0, X', hL, e1, e2, ⟨⟨ad', u, hv, hp, hb⟩, hz, hk⟩, st⟩ := hr T hT X
  cases hv
  rw [h0] at hz hk
  obtain ⟨t2, a1, b1⟩ := kk ad' u T'.heap (locs ++ L) hp (by rw [e1]; exact hb) (by rw [e1]; exact hz) (fun q h1 h2 => by rw [e1]; exact hk q h1 h2)
    ⟨Nat.le_trans hS.1 (by rw [e1]; exact hz), fun q h1 h2 => by rw [e1, hk q (Nat.lt_of_lt_of_le h1 hS.1) (fun h => h2 (hsub q h))]; exact hS.2.1 q h1 h2, fun q hq => by
      rcases List.mem_append.mp hq with h | h
      · exact hS.2.2 q h
      · exact hsub _ (hL q h)⟩ T' rfl X'
  exact ⟨t2, st t2 a1, b1⟩
end ZNEW
