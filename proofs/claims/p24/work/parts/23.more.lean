theorem zcat_i (x : Int32) : (Value.int x).category = 1 := rfl
theorem zlN {ad : zA} {κ i : Nat} (h : (ad κ i).isSome = true) : zl ad κ ((i : Nat) : Int) := ⟨Int.natCast_nonneg i, h⟩
theorem zg_01 {y : Int} (h : y = 0 ∨ y = 1) : zg y := by
  rcases h with h | h <;> rw [h] <;> exact ⟨by decide, by decide⟩
theorem zg_min {x y : Int} (hx : zg x) (hy : zg y) : zg (min x y) := by
  obtain ⟨h1, h2⟩ := hx
  obtain ⟨h3, h4⟩ := hy
  exact ⟨by omega, by omega⟩
theorem zg_max {x y : Int} (hx : zg x) (hy : zg y) : zg (max x y) := by
  obtain ⟨h1, h2⟩ := hx
  obtain ⟨h3, h4⟩ := hy
  exact ⟨by omega, by omega⟩
theorem znar_r (C : String) (ad : zA) (κ : Nat) (v : Int) : narrow (.object C) (zr ad κ v) = zr ad κ v := by
  unfold zr
  rcases va_rf_or (zq ad κ v) with h | ⟨a, h⟩ <;> rw [h] <;> rfl
theorem zfit_r (C : String) (ad : zA) (κ : Nat) (v : Int) : fits (.object C) (zr ad κ v) = true := by
  unfold zr
  rcases va_rf_or (zq ad κ v) with h | ⟨a, h⟩ <;> rw [h] <;> rfl
/-- what lives in the class's world: the fixed cells, nd drivers, nr requests -/
def zlive (κ i nd nr : Nat) : Bool := match κ with
  | 0 => i == 0 | 1 => i == 0 | 2 => i == 0 | 3 => i == 0 | 4 => i == 0 | 5 => i == 0 | 6 => decide (i < 10) | 7 => i == 0 | 8 => i == 0 | 9 => i == 0 | 10 => decide (i < 5) | 11 => i == 0 | 12 => decide (i < 6) | 13 => i == 0 | 14 => i == 0 | 15 => i == 0 | 16 => i == 0
  | 17 => decide (i < nd) | 18 => decide (i < nd) | 19 => decide (i < nd) | 20 => decide (i < nd) | 21 => decide (i < nd) | 22 => decide (i < nd) | 23 => decide (i < nr) | 24 => i == 0 | 25 => i == 0 | 26 => i == 0 | 27 => i == 0 | _ => false
def zX (ad : zA) (nd nr : Nat) : Prop := ∀ κ i, zlive κ i nd nr = true → (ad κ i).isSome = true
/-- the reference's world -/
def zM (ad : zA) : Prop := ∀ κ, κ = 30 ∨ (44 ≤ κ ∧ κ ≤ 81 ∧ zn κ ≠ 0) → (ad κ 0).isSome = true
section ZT
variable {p : Program} {l : Launch} {e : Env} {R : Room} {s : State} {m : MethodId} {args : Array Value} {below : List Frame} {meth : Method} {c : Code} {H : Heap} {locs : List Loc} {cells slots : Nat} {Q : State → Prop}
variable {cc : ByteArray} {pc : Nat} {ls : Array Slot} {rest : List Value} {G : zG} {ad : zA} {A : Nat → Prop} {σ : zS} {H0 : Heap} {N0 : Nat}
theorem zz_mmin (hx : p.tables.exec = Jvm.exec) (hb : c.code = cc) (hml : c.maxLocals = ls.size) {own : String} {index : Nat} (hown : s.vm.findClass own = some m.cls) (hlink : (Cond.methodLink own index Lib.Math.min.name).before args s = true) (hstat : (Cond.static Lib.Math.min.name).before args s = true) (hini : (Cond.initialized "java/lang/Math").before args s = true) (hcode : (Cond.code Lib.Math.min.name Lib.Math.min.code 2 (some .int)).before args s = true)
    (hframes : 1 ≤ R.frames) (hlocals : (rest.map fun v => v.category).sum + 13 ≤ R.locals) (hc : cells ≤ R.cells) (hs : slots ≤ R.slots) {x y : Int} (gx : zg x) (gy : zg y) (hdg : decode cc pc = .ok (.invokestatic index, 3))
    (kk : W p l e R s m args below meth c H locs cells slots Q (F0 m (pc + 3) ls (.int (zi (min x y)) :: rest))) : W p l e R s m args below meth c H locs cells slots Q (F0 m pc ls (.int (zi y) :: .int (zi x) :: rest)) := by
  refine va_mmin hx hb hml hown hlink hstat hini hcode hframes hlocals hc hs hdg ?_
  have e1 : (if zi y < zi x then zi y else zi x) = zi (min x y) := by
    by_cases h : y < x
    · rw [if_pos ((zi_lt gy gx).mpr h), show min x y = y by omega]
    · rw [if_neg (fun q => h ((zi_lt gy gx).mp q)), show min x y = x by omega]
  rw [e1]
  exact kk
theorem zz_mmax (hx : p.tables.exec = Jvm.exec) (hb : c.code = cc) (hml : c.maxLocals = ls.size) {own : String} {index : Nat} (hown : s.vm.findClass own = some m.cls) (hlink : (Cond.methodLink own index Lib.Math.max.name).before args s = true) (hstat : (Cond.static Lib.Math.max.name).before args s = true) (hini : (Cond.initialized "java/lang/Math").before args s = true) (hcode : (Cond.code Lib.Math.max.name Lib.Math.max.code 2 (some .int)).before args s = true)
    (hframes : 1 ≤ R.frames) (hlocals : (rest.map fun v => v.category).sum + 13 ≤ R.locals) (hc : cells ≤ R.cells) (hs : slots ≤ R.slots) {x y : Int} (gx : zg x) (gy : zg y) (hdg : decode cc pc = .ok (.invokestatic index, 3))
    (kk : W p l e R s m args below meth c H locs cells slots Q (F0 m (pc + 3) ls (.int (zi (max x y)) :: rest))) : W p l e R s m args below meth c H locs cells slots Q (F0 m pc ls (.int (zi y) :: .int (zi x) :: rest)) := by
  refine va_mmax hx hb hml hown hlink hstat hini hcode hframes hlocals hc hs hdg ?_
  have e1 : (if zi x < zi y then zi y else zi x) = zi (max x y) := by
    by_cases h : x < y
    · rw [if_pos ((zi_lt gx gy).mpr h), show max x y = y by omega]
    · rw [if_neg (fun q => h ((zi_lt gx gy).mp q)), show max x y = x by omega]
  rw [e1]
  exact kk
theorem zz_dup2 (hx : p.tables.exec = Jvm.exec) (hb : c.code = cc) {u v : Value} (hdg : decode cc pc = .ok (.dup2, 1)) (hu : u.category = 1) (hv : v.category = 1)
    (k : W p l e R s m args below meth c H locs cells slots Q (F0 m (pc + 1) ls (u :: v :: u :: v :: rest))) : W p l e R s m args below meth c H locs cells slots Q (F0 m pc ls (u :: v :: rest)) := by
  intro T hT X
  obtain ⟨t, a, b⟩ := k T hT X
  refine ⟨t, ?_, b⟩
  jvm_step X.here [X.here.top, hx, hb, hdg, hu, hv]
  exact a
/-- a reference, or null, put into an array of references to objects -/
theorem zz_aast (hx : p.tables.exec = Jvm.exec) (hb : c.code = cc) (hK : zK G s) (hW : ZW G ad A σ H) (hS : va_S A H0 H locs) {κ κ' : Nat} {C : String} {T : u_T} {N : Nat} {v x y : Int} (hv : zl ad κ v) (hkd : zk κ = false) (ht1 : 10 ≤ zt κ x.toNat) (ht2 : zt κ x.toNat < 100) (hκ : zt κ x.toNat - 10 = κ') (hc : vwCl[zc κ']? = some (C, T, N)) (hk' : zk κ' = true) (hf : zf κ = .object C) (h0 : 0 ≤ x) (h1 : x < zn κ) (hy : zln ad κ' y) (hrg : zg y) (hdg : decode cc pc = .ok (.aastore, 1))
    (kk : ∀ (H1 : Heap) (locs1 : List Loc), ZW G ad A (zu σ κ v.toNat x.toNat y) H1 → va_S A H0 H1 locs1 → W p l e R s m args below meth c H1 locs1 cells slots Q (F0 m (pc + 1) ls rest)) : W p l e R s m args below meth c H locs cells slots Q (F0 m pc ls (zr ad κ' y :: .int (zi x) :: zr ad κ v :: rest)) := by
  obtain ⟨a, ha, er⟩ := zr_ref hv
  have hg : zg x := ⟨by omega, by have := zn_lt κ; omega⟩
  obtain ⟨hA, hRA⟩ := hK.2.1 κ hkd
  rw [hf] at hA hRA
  have he : zv ad (zt κ x.toNat) v.toNat x.toNat y = zr ad κ' y := by rw [zv_r ht1 ht2, hκ]
  rw [er]
  have hr : 10 ≤ zt κ x.toNat → zt κ x.toNat < 100 → zln ad (zt κ x.toNat - 10) y := fun _ _ => by rw [hκ]; exact hy
  rcases hy with h | h
  · rw [zr_null h] at he ⊢
    refine va_WaastN (C := C) hx hb (zcell hW ha hkd) (hA _ _) (fun q => by cases q) (by rw [arrV_size]; exact zin h0 h1 (zn_lt κ)) rfl rfl hdg fun H1 e1 e2 e3 => ?_
    rw [zi_clamp hg] at e1 ⊢
    exact kk H1 _ (zput_arr hW ha hkd he hrg hr (fun q => by omega) e1 e3) (hS.put e2 e3 (hW.1 _ _ _ ha).2)
  · obtain ⟨b, hb', eb⟩ := zr_ref h
    rw [eb] at he ⊢
    have hz := (hW.1 _ _ _ hb').1
    unfold zat at hz
    rw [if_pos hk'] at hz
    obtain ⟨cellV, g1, g2, g3, -⟩ := hz
    have hcls := (hK.1.1 _ _ hc).2
    obtain ⟨kA, comp, k1, k2, k3, -⟩ := hRA
    have hcomp : comp = G.1.1 (zc κ') := Option.some.inj (k3.symm.trans hcls.1)
    subst hcomp
    obtain ⟨kC, hkC, -⟩ := id hcls.2
    refine W.aast hx hb (zcell hW ha hkd) (fun q h => by cases h) (fun h => by cases h) k1 k2 rfl hkC ⟨fun q => by rw [zi_lt0 hg] at q; omega, by rw [arrV_size, zi_clamp hg]; omega⟩ g1 (fun q h => by rw [g3] at h; cases h) (by rw [g2]; exact hkC) (by rw [g2]; exact va_assign hcls) rfl rfl hdg fun H1 e1 e2 e3 => ?_
    rw [zi_clamp hg] at e1 ⊢
    exact kk H1 _ (zput_arr hW ha hkd he hrg hr (fun q => by omega) e1 e3) (hS.put e2 e3 (hW.1 _ _ _ ha).2)
end ZT
/-! bits -/
section ZBITS
variable {p : Program} {l : Launch} {e : Env} {R : Room} {s : State} {m : MethodId} {args : Array Value} {below : List Frame} {meth : Method} {c : Code} {H : Heap} {locs : List Loc} {cells slots : Nat} {Q : State → Prop}
variable {cc : ByteArray} {pc : Nat} {ls : Array Slot} {rest : List Value}
theorem zz_ishl (hx : p.tables.exec = Jvm.exec) (hb : c.code = cc) {x y w : Int} (hw : zi x <<< (zi y &&& 31) = zi w) (hdg : decode cc pc = .ok (.ishl, 1))
    (k : W p l e R s m args below meth c H locs cells slots Q (F0 m (pc + 1) ls (.int (zi w) :: rest))) : W p l e R s m args below meth c H locs cells slots Q (F0 m pc ls (.int (zi y) :: .int (zi x) :: rest)) := lv_ishl hx hb hdg (by rw [hw]; exact k)
theorem zz_ishr (hx : p.tables.exec = Jvm.exec) (hb : c.code = cc) {x y w : Int} (hw : zi x >>> (zi y &&& 31) = zi w) (hdg : decode cc pc = .ok (.ishr, 1))
    (k : W p l e R s m args below meth c H locs cells slots Q (F0 m (pc + 1) ls (.int (zi w) :: rest))) : W p l e R s m args below meth c H locs cells slots Q (F0 m pc ls (.int (zi y) :: .int (zi x) :: rest)) := lv_ishr hx hb hdg (by rw [hw]; exact k)
theorem zz_iand (hx : p.tables.exec = Jvm.exec) (hb : c.code = cc) {x y w : Int} (hw : zi x &&& zi y = zi w) (hdg : decode cc pc = .ok (.iand, 1))
    (k : W p l e R s m args below meth c H locs cells slots Q (F0 m (pc + 1) ls (.int (zi w) :: rest))) : W p l e R s m args below meth c H locs cells slots Q (F0 m pc ls (.int (zi y) :: .int (zi x) :: rest)) := lv_iand hx hb hdg (by rw [hw]; exact k)
theorem zz_ior (hx : p.tables.exec = Jvm.exec) (hb : c.code = cc) {x y w : Int} (hw : zi x ||| zi y = zi w) (hdg : decode cc pc = .ok (.ior, 1))
    (k : W p l e R s m args below meth c H locs cells slots Q (F0 m (pc + 1) ls (.int (zi w) :: rest))) : W p l e R s m args below meth c H locs cells slots Q (F0 m pc ls (.int (zi y) :: .int (zi x) :: rest)) := lv_ior hx hb hdg (by rw [hw]; exact k)
theorem zz_ixor (hx : p.tables.exec = Jvm.exec) (hb : c.code = cc) {x y w : Int} (hw : zi x ^^^ zi y = zi w) (hdg : decode cc pc = .ok (.ixor, 1))
    (k : W p l e R s m args below meth c H locs cells slots Q (F0 m (pc + 1) ls (.int (zi w) :: rest))) : W p l e R s m args below meth c H locs cells slots Q (F0 m pc ls (.int (zi y) :: .int (zi x) :: rest)) := lv_ixor hx hb hdg (by rw [hw]; exact k)
end ZBITS
theorem zi_shl1 : ∀ d : Nat, d < 10 → zi 1 <<< (zi (d : Int) &&& 31) = zi ((2 ^ d : Nat) : Int) := by decide +kernel
theorem zand_bit : ∀ d : Nat, d < 8 → ∀ t : Nat, t < 256 → t &&& 2 ^ d = (t.testBit d).toNat * 2 ^ d := by decide +kernel
theorem zi_bit {t d : Nat} (ht : t < 256) (hd : d < 8) : zi (t : Int) &&& zi ((2 ^ d : Nat) : Int) = zi (((t.testBit d).toNat * 2 ^ d : Nat) : Int) := by
  have h2 : (2 : Nat) ^ d < 2 ^ 8 := Nat.pow_lt_pow_right (by decide) hd
  rw [zi_and _ _ (by omega) (by omega), zand_bit d hd t ht]
theorem zi_sor {t d : Nat} (ht : t < 256) (hd : d < 8) : zi (t : Int) ||| zi ((2 ^ d : Nat) : Int) = zi ((t ||| 2 ^ d : Nat) : Int) := by
  have h2 : (2 : Nat) ^ d < 2 ^ 8 := Nat.pow_lt_pow_right (by decide) hd
  exact zi_or _ _ (by omega) (by omega)
/-- a set without one member -/
def yrm (g r : Nat) : Nat := if g.testBit r = true then g - 2 ^ r else g
theorem zi_not : ∀ r : Nat, r < 5 → zi ((2 ^ r : Nat) : Int) ^^^ zi (-1) = zi (-((2 ^ r : Nat) : Int) - 1) := by decide +kernel
theorem zi_rm : ∀ r : Nat, r < 5 → ∀ g : Nat, g < 32 → zi (g : Int) &&& zi (-((2 ^ r : Nat) : Int) - 1) = zi ((yrm g r : Nat) : Int) := by decide +kernel
theorem yrm_lt (g r : Nat) : yrm g r ≤ g := by
  unfold yrm
  split
  · exact Nat.sub_le _ _
  · exact Nat.le_refl _
def zliveM (κ : Nat) : Bool := κ == 30 || (decide (44 ≤ κ) && decide (κ ≤ 81) && zn κ != 0)
/-- the reference's world, by kinds -/
def zMm (ad : zA) : Prop := ∀ κ, zliveM κ = true → (ad κ 0).isSome = true
