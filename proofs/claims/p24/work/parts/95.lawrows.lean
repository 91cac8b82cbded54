/-! THE LAW'S HELPERS: rows -/
def zNC (U : State) : Prop := va_Nc "java/lang/IllegalArgumentException" "java/lang/IndexOutOfBoundsException" U ∧ va_Nc "java/lang/IllegalStateException" "java/lang/IndexOutOfBoundsException" U ∧ va_Nc "java/lang/IllegalStateException" "java/lang/IllegalArgumentException" U
theorem zNC.moved {u U : State} (hvm : u.vm.Alike U.vm) (h : zNC u) : zNC U := ⟨h.1.moved hvm, h.2.1.moved hvm, h.2.2.moved hvm⟩
theorem zNC.same {u U : State} (hvm : u.vm = U.vm) (h : zNC u) : zNC U := h.moved (by rw [hvm]; exact Vm.Alike.refl U.vm)
def zPH (G : zG) (ad : zA) (A : Nat → Prop) (N0 : Nat) (σ : zS) (av : List Value) : Array Value → State → Prop := va_Pc av (fun U => N0 ≤ U.heap.size ∧ ZW G ad A σ U.heap ∧ zK G U ∧ zE A U ∧ zAA G U ∧ zNC U)
theorem zPH.blind {G : zG} {ad : zA} {A : Nat → Prop} {N0 : Nat} {σ : zS} {av : List Value} : FrameBlind (zPH G ad A N0 σ av) := fun a U g mk q => ⟨q.1, q.2.1, q.2.2.1, zK.same (u := U) (U := U.calling g mk a) rfl q.2.2.2.1, zE.same (u := U) (U := U.calling g mk a) rfl rfl q.2.2.2.2.1, zAA.same (u := U) (U := U.calling g mk a) rfl q.2.2.2.2.2.1, zNC.same (u := U) (U := U.calling g mk a) rfl q.2.2.2.2.2.2⟩
/-- nothing is thrown -/
def zX0 : String → State → State → Prop := fun _ _ _ => False
theorem zx_ofH {l : Launch} {G : zG} {ad : zA} {A : Nat → Prop} {σ : zS} {N0 : Nat} {y : MethodName} {ws ws' : List Cond} {rm : Room} {Qc : Array Value → State → Outcome → State → Prop} {XC : String → State → State → Prop} {mc ms : Nat} {cc : ByteArray} {maxL : Nat} {ret : Option FieldType} {av : List Value} {hh : List (Nat × Nat × Nat × Nat)}
    (hy : plainName y.cls = true) (hw : ws = Cond.codeWith y cc maxL ret hh :: ws') (hcat : ∀ v ∈ av, v.category = 1) (hlen : av.length ≤ maxL)
    (body : ∀ (p : Program) (e : Env) (s : State) (m : MethodId) (below : List Frame) (meth : Method) (c : Code), p.tables.exec = Jvm.exec → c.code = cc → meth.sig.returnType = ret → c.maxLocals = maxL → (∀ w ∈ ws, w.before av.toArray s = true) → s.vm.findClass y.cls = some m.cls → meth.locks = false → c.exceptionTable.toList = tableOf hh → N0 ≤ s.heap.size → ZW G ad A σ s.heap → zK G s → zE A s → zAA G s → zNC s → ∀ ls, zh ls maxL (zargs 0 av) →
      W p l e rm s m av.toArray below meth c s.heap [] 0 0 (vx_MQ below Qc XC av.toArray s mc ms A) (F0 m 0 ls [])) : vx_Met l y ws rm (zPH G ad A N0 σ av) Qc XC mc ms A := by
  refine vx_ofWH (cc := cc) (maxL := maxL) (ret := ret) (hh := hh) hy hw ?_
  intro p e s m args below meth c s₁ B hml hv
  obtain ⟨rfl, hsz, hW, hK, hE, hAA, hNC⟩ := hv
  obtain ⟨ls, e1, e2⟩ := zh_entry m av (n := maxL) hcat hlen
  rw [e1]
  have hts := atoms_spec (ws := ws) B.pre
  exact body p e s m below meth c B.exec B.bytes B.returns hml hts (findClass_of_methodNamed B.named) B.notSynchronized (vx_table (x := y) B (hts _ (by rw [hw]; exact List.mem_cons_self))) hsz hW hK hE hAA hNC ls e2
section ZLR
variable {p : Program} {l : Launch} {e : Env} {R : Room} {s : State} {m : MethodId} {args : Array Value} {below : List Frame} {meth : Method} {c : Code} {H : Heap} {locs : List Loc} {cells slots : Nat} {Q : State → Prop}
variable {cc : ByteArray} {pc : Nat} {ls : Array Slot} {rest : List Value} {G : zG} {ad : zA} {A : Nat → Prop} {σ : zS} {H0 : Heap} {N0 : Nat}
theorem zi_64 {x : Int} (h : zg x) : (zi x).toInt64 = Int64.ofInt x := by
  apply Int64.toInt_inj.1
  rw [Int64.toInt_ofInt_of_le (by have := h.1; omega) (by have := h.2; omega)]
  rw [Int32.toInt_toInt64, zi_toInt h]
theorem zz_i2l (hx : p.tables.exec = Jvm.exec) (hb : c.code = cc) {x : Int} (hg : zg x) (hdg : decode cc pc = .ok (.i2l, 1))
    (k : W p l e R s m args below meth c H locs cells slots Q (F0 m (pc + 1) ls (.long (Int64.ofInt x) :: rest))) : W p l e R s m args below meth c H locs cells slots Q (F0 m pc ls (.int (zi x) :: rest)) := lv_i2l hx hb hdg (zi_64 hg) k
theorem zz_last (hx : p.tables.exec = Jvm.exec) (hb : c.code = cc) (hK : zK G s) (hW : ZW G ad A σ H) (hS : va_S A H0 H locs) (hO : (ad 90 0).isSome = true) {x : Int} (hg : zg x) (hdg : decode cc pc = .ok (.lastore, 1))
    (kk : ∀ (H1 : Heap) (locs1 : List Loc), ZW G ad A (zu σ 90 0 0 x) H1 → va_S A H0 H1 locs1 → W p l e R s m args below meth c H1 locs1 cells slots Q (F0 m (pc + 1) ls rest)) : W p l e R s m args below meth c H locs cells slots Q (F0 m pc ls (.long (Int64.ofInt x) :: .int (zi 0) :: zr ad 90 ((0 : Nat) : Int) :: rest)) := by
  obtain ⟨a, ha, er⟩ := zr_ref (zlN hO)
  rw [er]
  have ha : ad 90 0 = some a := ha
  have hA := (hK.2.1 90 rfl).1
  refine W.last hx hb (zcell hW ha rfl) (hA _ _) (fun q => by cases q) (by rw [arrV_size]; decide) rfl rfl hdg fun H1 e1 e2 e3 => ?_
  exact kk H1 _ (zput_arr hW ha rfl rfl hg (fun h => absurd h (by decide)) (fun h => absurd h (by decide)) e1 e3) (hS.put e2 e3 (hW.1 _ _ _ ha).2)
theorem zz_lald (hx : p.tables.exec = Jvm.exec) (hb : c.code = cc) (hK : zK G s) (hW : ZW G ad A σ H) (hO : (ad 90 0).isSome = true) (hdg : decode cc pc = .ok (.laload, 1))
    (kk : W p l e R s m args below meth c H locs cells slots Q (F0 m (pc + 1) ls (.long (Int64.ofInt (σ 90 0 0)) :: rest))) : W p l e R s m args below meth c H locs cells slots Q (F0 m pc ls (.int (zi 0) :: zr ad 90 ((0 : Nat) : Int) :: rest)) := by
  obtain ⟨a, ha, er⟩ := zr_ref (zlN hO)
  rw [er]
  have ha : ad 90 0 = some a := ha
  have hA := (hK.2.1 90 rfl).1
  exact W.lald (v := .long (Int64.ofInt (σ 90 0 0))) hx hb (zcell hW ha rfl) (hA _ _) (fun q => by cases q) (by rw [arrV_size]; decide) (by rw [show (zi 0).toNatClampNeg = 0 by decide, arrV_read _ _ (by decide)]; rfl) rfl rfl hdg kk
theorem zlcmp_ne {x y : Int} (hx : zg x) (hy : zg y) : (lg_cmp (Int64.ofInt x) (Int64.ofInt y) = 0) ↔ x = y := by
  have e : ∀ z : Int, zg z → (Int64.ofInt z).toInt = z := fun z hz => Int64.toInt_ofInt_of_le (by have := hz.1; omega) (by have := hz.2; omega)
  unfold lg_cmp
  simp only [gt_iff_lt, Int64.lt_iff_toInt_lt, ← Int64.toInt_inj, e x hx, e y hy]
  by_cases h1 : y < x
  · rw [if_pos h1]
    exact ⟨fun h => absurd h (by decide), fun h => by omega⟩
  · rw [if_neg h1]
    by_cases h2 : x = y
    · rw [if_pos h2]
      exact ⟨fun _ => h2, fun _ => rfl⟩
    · rw [if_neg h2]
      exact ⟨fun h => absurd h (by decide), fun h => absurd h h2⟩
end ZLR
