/-! P24: THE SCRIPT IS READ; THE LAW'S DRIVES ARE CALLED -/
theorem zi_mask (v : Int32) : ∃ r : Int, (0 ≤ r ∧ zg r) ∧ v &&& zi 2147483647 = zi r := by
  refine ⟨(v &&& zi 2147483647).toInt, ⟨?_, zg_toInt _⟩, zi_of _⟩
  have h : (v &&& zi 2147483647).toBitVec.msb = false := by
    rw [Int32.toBitVec_and, BitVec.msb_and]
    have : (zi 2147483647).toBitVec.msb = false := by decide
    rw [this, Bool.and_false]
  show 0 ≤ (v &&& zi 2147483647).toBitVec.toInt
  rw [BitVec.toInt_eq_toNat_of_msb h]
  exact Int.natCast_nonneg _
/-- a number is told, the heap's old cells stay but for A -/
def zQg (A : Nat → Prop) (post : Int → Prop) : Array Value → State → Outcome → State → Prop := fun _ st oc t => (∃ x : Int, oc = .returned (some (.int (zi x))) ∧ post x) ∧ va_F A st t
/-- a static method, by its body -/
theorem zd_of {l : Launch} {A : Nat → Prop} {y : MethodName} {ws ws' : List Cond} {rm : Room} {Pb : State → Prop} {Qc : Array Value → State → Outcome → State → Prop} {mc ms : Nat} {cc : ByteArray} {maxL : Nat} {ret : Option FieldType} {av : List Value}
    (hy : plainName y.cls = true) (hw : ws = Cond.code y cc maxL ret :: ws') (hcat : ∀ v ∈ av, v.category = 1) (hlen : av.length ≤ maxL)
    (body : ∀ (p : Program) (e : Env) (s : State) (m : MethodId) (below : List Frame) (meth : Method) (c : Code), p.tables.exec = Jvm.exec → c.code = cc → meth.sig.returnType = ret → c.maxLocals = maxL → (∀ w ∈ ws, w.before av.toArray s = true) → s.vm.findClass y.cls = some m.cls → meth.locks = false → Pb s → ∀ ls, zh ls maxL (zargs 0 av) →
      W p l e rm s m av.toArray below meth c s.heap [] 0 0 (MQ below Qc av.toArray s mc ms A) (F0 m 0 ls [])) : Met l y ws rm (va_Pc av Pb) Qc mc ms A := by
  refine Met.ofW (cc := cc) (maxL := maxL) (ret := ret) hy hw ?_
  intro p e s m args below meth c s₁ B hml hv
  obtain ⟨rfl, hP⟩ := hv
  obtain ⟨ls, e1, e2⟩ := zh_entry m av (n := maxL) hcat hlen
  rw [e1]
  exact body p e s m below meth c B.exec B.bytes B.returns hml (atoms_spec (ws := ws) B.pre) (findClass_of_methodNamed B.named) B.notSynchronized hP ls e2
def zXs (b L : Nat) (xs : Nat → Int32) (U : State) : Prop := va_X b L xs U U.heap ∧ b < U.heap.size
set_option maxHeartbeats 2000000 in
theorem c_L_drawn (l : Launch) (b L : Nat) (xs : Nat → Int32) (hL : L ≤ 260) (k : Int) (hk : 0 ≤ k ∧ k ≤ 1000) : Met l yL_drawn wsL_drawn ({ frames := 0, cells := 0, slots := 0, locals := 0 }) (va_Pc [.ref b, .int (zi k)] (zXs b L xs)) (zQg (fun _ => False) (fun r => 0 ≤ r ∧ zg r)) 0 0 (fun _ => False) := by
  refine zd_of (cc := cL_drawn) (maxL := 2) (ret := some .int) (by decide) rfl (by intro v hv; simp only [List.mem_cons, List.not_mem_nil, or_false] at hv; rcases hv with rfl | rfl <;> rfl) (Nat.le_of_ble_eq_true rfl) ?_
  intro p e s m below meth c hx hb hr hml hts hown hlocks hP ls hl
  obtain ⟨hX, hbl⟩ := hP
  have hS : va_S (fun _ => False) s.heap s.heap [] := va_S.rf
  have hl : zh ls 2 [(0, .ref b), (1, .int (zi k))] := hl
  have hgk : zg k := ⟨by omega, by omega⟩
  have htail : ∀ v : Int32, W p l e ({ frames := 0, cells := 0, slots := 0, locals := 0 }) s m ([Value.ref b, .int (zi k)] : List Value).toArray below meth c s.heap [] 0 0 (MQ below (zQg (fun _ => False) (fun r => 0 ≤ r ∧ zg r)) ([Value.ref b, .int (zi k)] : List Value).toArray s 0 0 (fun _ => False)) (F0 m 22 ls [.int v]) := fun v => by
    refine zz_ldc (n := 2147483647) (v := 2147483647) hx hb hown (hts (.constant RL 83 (2147483647)) (by decide +kernel)) (by decide +kernel) dL_drawn_22 ?_
    refine lv_iand hx hb dL_drawn_24 ?_
    obtain ⟨r, h0, hr9⟩ := zi_mask v
    rw [hr9]
    exact W.iret hx hb hr (fun t ht _ => ⟨⟨r, rfl, h0⟩, hS.F ht⟩) hS.2.2 dL_drawn_25 hlocks
  refine zz_iload_n hx hb hl 1 dL_drawn_0 rfl rfl ?_
  refine lv_aload_n hx hb dL_drawn_1 rfl (zh_at hl 0 rfl) ?_
  refine va_slen hx hb hX hbl (fun h => h) hS dL_drawn_2 ?_
  refine W.eq (g2 := F0 m 3 ls [.int (zi ((L : Nat) : Int)), .int (zi k)]) (by rw [zi_nat L]) ?_
  refine zz_icmp_ge (tgt := 12) hx hb dL_drawn_3 (by decide) hgk ⟨by omega, by omega⟩ (fun h => ?_) (fun h => ?_)
  · refine zz_ldc (n := 14927183) (v := 14927183) hx hb hown (hts (.constant RL 82 (14927183)) (by decide +kernel)) (by decide +kernel) dL_drawn_12 ?_
    refine zz_iload_n hx hb hl 1 dL_drawn_14 rfl rfl ?_
    refine zz_iconst hx hb dL_drawn_15 ?_
    refine zz_iadd hx hb dL_drawn_16 ?_
    refine zz_imul hx hb dL_drawn_17 ?_
    refine zz_sipush hx hb dL_drawn_18 (by decide +kernel) ?_
    refine zz_iadd hx hb dL_drawn_21 ?_
    exact htail _
  · refine lv_aload_n hx hb dL_drawn_6 rfl (zh_at hl 0 rfl) ?_
    refine zz_iload_n hx hb hl 1 dL_drawn_7 rfl rfl ?_
    refine va_sld hx hb hX hbl (fun h => h) hS (fun q => ?_) dL_drawn_8 ?_
    · rcases q with q | q
      · rw [zi_lt0 hgk] at q; omega
      · rw [zi_clamp hgk] at q; omega
    refine zz_goto (tgt := 22) hx hb dL_drawn_9 (by decide) ?_
    exact htail _
section ZD1
variable {p : Program} {l : Launch} {e : Env} {R : Room} {s : State} {m : MethodId} {args : Array Value} {below : List Frame} {meth : Method} {c : Code} {H : Heap} {locs : List Loc} {cells slots : Nat} {Q : State → Prop}
variable {cc : ByteArray} {pc : Nat} {ls : Array Slot} {rest : List Value} {G : zG} {ad : zA} {A A0 : Nat → Prop} {σ : zS} {H0 : Heap} {N0 : Nat}
theorem zXs.blind {b L : Nat} {xs : Nat → Int32} {av : List Value} : FrameBlind (va_Pc av (zXs b L xs)) := fun a U g mk q => ⟨q.1, va_X.moved (u := U) (U := U.calling g mk a) (Vm.Alike.refl U.vm) q.2.1, q.2.2⟩
/-- script[k], or what stands for it -/
theorem zl_drawn {nL index : Nat} {Ts : List Cond} {own : String} {b L : Nat} {xs : Nat → Int32} (hL : L ≤ 260) {k : Int} (hk : 0 ≤ k ∧ k ≤ 1000)
    (S : CallFix p m c cc nL s args Ts own) (cw : CallB R s args own index yL_drawn cL_drawn 2 (some .int) wsL_drawn ({ frames := 0, cells := 0, slots := 0, locals := 0 }) 0 0 2 ∧ (Cond.static yL_drawn).before args s = true) (hX : va_X b L xs s s.heap) (hbl : b < s.heap.size) (hbA : ¬ A0 b) (hS : va_S A0 s.heap H locs)
    (hsize : ls.size = nL) (hrest : (rest.map fun v => v.category).sum ≤ 8) (hdg : decode cc pc = .ok (.invokestatic index, 3)) (hf : cells ≤ R.cells ∧ slots ≤ R.slots)
    (kk : ∀ (x : Int) (H1 : Heap) (locs1 : List Loc), 0 ≤ x → zg x → H.size ≤ H1.size → (∀ q, q < H.size → H1[q]? = H[q]?) → va_S A0 s.heap H1 locs1 → W p l e R s m args below meth c H1 locs1 cells slots Q (F0 m (pc + 3) ls (.int (zi x) :: rest))) : W p l e R s m args below meth c H locs cells slots Q (F0 m pc ls (.int (zi k) :: .ref b :: rest)) := by
  have hr := va_runS (e := e) (below := below) (meth := meth) (locs := locs) (g := F0 m pc ls (.int (zi k) :: .ref b :: rest)) (rest := rest) S (c_L_drawn l b L xs hL k hk) cw ⟨zXs.blind, fun U hU hWm => ⟨rfl, by rw [hU]; exact (hX.kept (hS.2.1 b hbl hbA)).moved hWm.alike, by rw [hU]; exact Nat.lt_of_lt_of_le hbl hS.1⟩⟩ rfl rfl hsize rfl (lv_room hrest) hdg hf
  intro T hT X
  obtain ⟨v, st₀, t, T', L9, h0, X', hL9, e1, e2, ⟨⟨x, hv, hp⟩, hF⟩, st⟩ := hr T hT X
  cases hv
  obtain ⟨k1, k2, k3⟩ := zl_keep h0 e1 hS (A := fun _ => False) (fun q h => h.elim) hL9 hF
  obtain ⟨t2, a1, b1⟩ := kk x T'.heap (locs ++ L9) hp.1 hp.2 k1 (fun q hq => k2 q hq (fun h => h)) k3 T' rfl X'
  exact ⟨t2, st t2 a1, b1⟩
end ZD1
