section ZS
variable {p : Program} {l : Launch} {e : Env} {R : Room} {s : State} {m : MethodId} {args : Array Value} {below : List Frame} {meth : Method} {c : Code} {H : Heap} {locs : List Loc} {cells slots : Nat} {Q : State → Prop}
variable {cc : ByteArray} {pc : Nat} {ls : Array Slot} {rest : List Value} {G : zG} {ad : zA} {A : Nat → Prop} {σ : zS} {H0 : Heap} {N0 : Nat}
theorem zz_iconst (hx : p.tables.exec = Jvm.exec) (hb : c.code = cc) {n : Int} (hdg : decode cc pc = .ok (.iconst n, 1))
    (k : W p l e R s m args below meth c H locs cells slots Q (F0 m (pc + 1) ls (.int (zi n) :: rest))) : W p l e R s m args below meth c H locs cells slots Q (F0 m pc ls rest) := lv_iconst hx hb hdg rfl k
theorem zz_bipush (hx : p.tables.exec = Jvm.exec) (hb : c.code = cc) {n : Int} (hdg : decode cc pc = .ok (.bipush n, 2)) (hv : (Int8.ofInt n).toInt32 = zi n)
    (k : W p l e R s m args below meth c H locs cells slots Q (F0 m (pc + 2) ls (.int (zi n) :: rest))) : W p l e R s m args below meth c H locs cells slots Q (F0 m pc ls rest) := lv_bipush hx hb hdg hv k
theorem zz_sipush (hx : p.tables.exec = Jvm.exec) (hb : c.code = cc) {n : Int} (hdg : decode cc pc = .ok (.sipush n, 3)) (hv : (Int16.ofInt n).toInt32 = zi n)
    (k : W p l e R s m args below meth c H locs cells slots Q (F0 m (pc + 3) ls (.int (zi n) :: rest))) : W p l e R s m args below meth c H locs cells slots Q (F0 m pc ls rest) := lv_sipush hx hb hdg hv k
theorem zz_ldc (hx : p.tables.exec = Jvm.exec) (hb : c.code = cc) {own : String} {index : Nat} {v : Int32} {n : Int} (hown : s.vm.findClass own = some m.cls) (hconst : (Jvm.Cond.constant own index v).before args s = true) (hv : v = zi n) (hdg : decode cc pc = .ok (.ldc index, 2))
    (k : W p l e R s m args below meth c H locs cells slots Q (F0 m (pc + 2) ls (.int (zi n) :: rest))) : W p l e R s m args below meth c H locs cells slots Q (F0 m pc ls rest) := W.ldc hx hb hown hconst rfl hdg (by rw [hv]; exact k)
theorem zz_null (hx : p.tables.exec = Jvm.exec) (hb : c.code = cc) (hdg : decode cc pc = .ok (.aconst_null, 1)) (ad : zA) (κ : Nat)
    (k : W p l e R s m args below meth c H locs cells slots Q (F0 m (pc + 1) ls (zr ad κ (-1) :: rest))) : W p l e R s m args below meth c H locs cells slots Q (F0 m pc ls rest) := by
  intro T hT X
  obtain ⟨t, a, b⟩ := k T hT X
  refine ⟨t, ?_, b⟩
  rw [zr_null (by decide)] at a
  jvm_step X.here [X.here.top, hx, hb, hdg]
  exact a
theorem zz_iload_n (hx : p.tables.exec = Jvm.exec) (hb : c.code = cc) {j : Fin 4} {i : Nat} {x : Int} {n : Nat} {lv : List (Nat × Value)} (hl : zh ls n lv) (k0 : Nat) (hdg : decode cc pc = .ok (.iload_n j, 1)) (hi : (j : Nat) = i) (hk : lv[k0]? = some (i, .int (zi x)))
    (k : W p l e R s m args below meth c H locs cells slots Q (F0 m (pc + 1) ls (.int (zi x) :: rest))) : W p l e R s m args below meth c H locs cells slots Q (F0 m pc ls rest) := lv_iload_n hx hb hdg hi (zh_at hl k0 hk) k
theorem zz_iload (hx : p.tables.exec = Jvm.exec) (hb : c.code = cc) {i : Nat} {x : Int} {n : Nat} {lv : List (Nat × Value)} (hl : zh ls n lv) (k0 : Nat) (hdg : decode cc pc = .ok (.iload i, 2)) (hk : lv[k0]? = some (i, .int (zi x)))
    (k : W p l e R s m args below meth c H locs cells slots Q (F0 m (pc + 2) ls (.int (zi x) :: rest))) : W p l e R s m args below meth c H locs cells slots Q (F0 m pc ls rest) := lv_iload hx hb hdg (zh_at hl k0 hk) k
theorem zz_aload_n (hx : p.tables.exec = Jvm.exec) (hb : c.code = cc) {j : Fin 4} {i κ : Nat} {x : Int} {n : Nat} {lv : List (Nat × Value)} (hl : zh ls n lv) (k0 : Nat) (hdg : decode cc pc = .ok (.aload_n j, 1)) (hi : (j : Nat) = i) (hk : lv[k0]? = some (i, zr ad κ x))
    (k : W p l e R s m args below meth c H locs cells slots Q (F0 m (pc + 1) ls (zr ad κ x :: rest))) : W p l e R s m args below meth c H locs cells slots Q (F0 m pc ls rest) := by
  have h := zh_at hl k0 hk
  unfold zr at h k
  rcases va_rf_or (zq ad κ x) with e | ⟨a, e⟩ <;> rw [e] at h k
  · exact lv_aload_nN hx hb hdg hi h k
  · exact lv_aload_n hx hb hdg hi h k
theorem zz_aload (hx : p.tables.exec = Jvm.exec) (hb : c.code = cc) {i κ : Nat} {x : Int} {n : Nat} {lv : List (Nat × Value)} (hl : zh ls n lv) (k0 : Nat) (hdg : decode cc pc = .ok (.aload i, 2)) (hk : lv[k0]? = some (i, zr ad κ x))
    (k : W p l e R s m args below meth c H locs cells slots Q (F0 m (pc + 2) ls (zr ad κ x :: rest))) : W p l e R s m args below meth c H locs cells slots Q (F0 m pc ls rest) := by
  have h := zh_at hl k0 hk
  unfold zr at h k
  rcases va_rf_or (zq ad κ x) with e | ⟨a, e⟩ <;> rw [e] at h k
  · exact lv_aloadN hx hb hdg h k
  · exact lv_aload hx hb hdg h k
theorem zz_istore_n (hx : p.tables.exec = Jvm.exec) (hb : c.code = cc) {j : Fin 4} {i n : Nat} {x : Int} {lv lv' : List (Nat × Value)} (hl : zh ls n lv) (hdg : decode cc pc = .ok (.istore_n j, 1)) (hi : (j : Nat) = i) (hn : i < n) (he : (i, Value.int (zi x)) :: lv.filter (fun q => !(q.1 == i)) = lv')
    (k : ∀ ls', zh ls' n lv' → W p l e R s m args below meth c H locs cells slots Q (F0 m (pc + 1) ls' rest)) : W p l e R s m args below meth c H locs cells slots Q (F0 m pc ls (.int (zi x) :: rest)) := lv_istore_n hx hb hdg hi hl.1 hn rfl (fun ls' h => k ls' (zh_set rfl hl.2 h he))
theorem zz_istore (hx : p.tables.exec = Jvm.exec) (hb : c.code = cc) {i n : Nat} {x : Int} {lv lv' : List (Nat × Value)} (hl : zh ls n lv) (hdg : decode cc pc = .ok (.istore i, 2)) (hn : i < n) (he : (i, Value.int (zi x)) :: lv.filter (fun q => !(q.1 == i)) = lv')
    (k : ∀ ls', zh ls' n lv' → W p l e R s m args below meth c H locs cells slots Q (F0 m (pc + 2) ls' rest)) : W p l e R s m args below meth c H locs cells slots Q (F0 m pc ls (.int (zi x) :: rest)) := lv_istore hx hb hdg hl.1 hn rfl (fun ls' h => k ls' (zh_set rfl hl.2 h he))
theorem zz_astore_n (hx : p.tables.exec = Jvm.exec) (hb : c.code = cc) {j : Fin 4} {i n κ : Nat} {x : Int} {lv lv' : List (Nat × Value)} (hl : zh ls n lv) (hdg : decode cc pc = .ok (.astore_n j, 1)) (hi : (j : Nat) = i) (hn : i < n) (he : (i, zr ad κ x) :: lv.filter (fun q => !(q.1 == i)) = lv')
    (k : ∀ ls', zh ls' n lv' → W p l e R s m args below meth c H locs cells slots Q (F0 m (pc + 1) ls' rest)) : W p l e R s m args below meth c H locs cells slots Q (F0 m pc ls (zr ad κ x :: rest)) := by
  have hc := zr_cat ad κ x
  unfold zr at he hc ⊢
  rcases va_rf_or (zq ad κ x) with e | ⟨a, e⟩ <;> rw [e] at he hc ⊢
  · exact lv_astore_nN hx hb hdg hi hl.1 hn rfl (fun ls' h => k ls' (zh_set hc hl.2 h he))
  · exact lv_astore_n hx hb hdg hi hl.1 hn rfl (fun ls' h => k ls' (zh_set hc hl.2 h he))
theorem zz_astore (hx : p.tables.exec = Jvm.exec) (hb : c.code = cc) {i n κ : Nat} {x : Int} {lv lv' : List (Nat × Value)} (hl : zh ls n lv) (hdg : decode cc pc = .ok (.astore i, 2)) (hn : i < n) (he : (i, zr ad κ x) :: lv.filter (fun q => !(q.1 == i)) = lv')
    (k : ∀ ls', zh ls' n lv' → W p l e R s m args below meth c H locs cells slots Q (F0 m (pc + 2) ls' rest)) : W p l e R s m args below meth c H locs cells slots Q (F0 m pc ls (zr ad κ x :: rest)) := by
  have hc := zr_cat ad κ x
  unfold zr at he hc ⊢
  rcases va_rf_or (zq ad κ x) with e | ⟨a, e⟩ <;> rw [e] at he hc ⊢
  · exact lv_astoreN hx hb hdg hl.1 hn rfl (fun ls' h => k ls' (zh_set hc hl.2 h he))
  · exact lv_astore hx hb hdg hl.1 hn rfl (fun ls' h => k ls' (zh_set hc hl.2 h he))
theorem zz_iinc (hx : p.tables.exec = Jvm.exec) (hb : c.code = cc) {i nL k0 : Nat} {n x : Int} {lv lv' : List (Nat × Value)} (hl : zh ls nL lv) (hdg : decode cc pc = .ok (.iinc i n, 3)) (hk : lv[k0]? = some (i, .int (zi x))) (hn : i < nL) (he : (i, Value.int (zi (x + n))) :: lv.filter (fun q => !(q.1 == i)) = lv')
    (k : ∀ ls', zh ls' nL lv' → W p l e R s m args below meth c H locs cells slots Q (F0 m (pc + 3) ls' rest)) : W p l e R s m args below meth c H locs cells slots Q (F0 m pc ls rest) := lv_iinc hx hb hdg hl.1 hk (zi_add x n) hn rfl (fun ls' h => k ls' (zh_set rfl hl.2 h he))
theorem zz_iadd (hx : p.tables.exec = Jvm.exec) (hb : c.code = cc) {x y : Int} (hdg : decode cc pc = .ok (.iadd, 1))
    (k : W p l e R s m args below meth c H locs cells slots Q (F0 m (pc + 1) ls (.int (zi (x + y)) :: rest))) : W p l e R s m args below meth c H locs cells slots Q (F0 m pc ls (.int (zi y) :: .int (zi x) :: rest)) := lv_iadd hx hb hdg (by rw [zi_add]; exact k)
theorem zz_isub (hx : p.tables.exec = Jvm.exec) (hb : c.code = cc) {x y : Int} (hdg : decode cc pc = .ok (.isub, 1))
    (k : W p l e R s m args below meth c H locs cells slots Q (F0 m (pc + 1) ls (.int (zi (x - y)) :: rest))) : W p l e R s m args below meth c H locs cells slots Q (F0 m pc ls (.int (zi y) :: .int (zi x) :: rest)) := lv_isub hx hb hdg (by rw [zi_sub]; exact k)
theorem zz_imul (hx : p.tables.exec = Jvm.exec) (hb : c.code = cc) {x y : Int} (hdg : decode cc pc = .ok (.imul, 1))
    (k : W p l e R s m args below meth c H locs cells slots Q (F0 m (pc + 1) ls (.int (zi (x * y)) :: rest))) : W p l e R s m args below meth c H locs cells slots Q (F0 m pc ls (.int (zi y) :: .int (zi x) :: rest)) := lv_imul hx hb hdg (by rw [zi_mul]; exact k)
theorem zz_idiv (hx : p.tables.exec = Jvm.exec) (hb : c.code = cc) {x y : Int} (hdg : decode cc pc = .ok (.idiv, 1)) (gx : zg x) (gy : zg y) (h0 : 0 ≤ x) (h1 : 0 < y)
    (k : W p l e R s m args below meth c H locs cells slots Q (F0 m (pc + 1) ls (.int (zi (x / y)) :: rest))) : W p l e R s m args below meth c H locs cells slots Q (F0 m pc ls (.int (zi y) :: .int (zi x) :: rest)) := lv_idiv hx hb hdg (fun h => by rw [zi_eq0 gy] at h; omega) (by rw [zi_div gx gy h0 h1]; exact k)
theorem zz_irem (hx : p.tables.exec = Jvm.exec) (hb : c.code = cc) {x y : Int} (hdg : decode cc pc = .ok (.irem, 1)) (gx : zg x) (gy : zg y) (h0 : 0 ≤ x) (h1 : 0 < y)
    (k : W p l e R s m args below meth c H locs cells slots Q (F0 m (pc + 1) ls (.int (zi (x % y)) :: rest))) : W p l e R s m args below meth c H locs cells slots Q (F0 m pc ls (.int (zi y) :: .int (zi x) :: rest)) := lv_irem hx hb hdg (fun h => by rw [zi_eq0 gy] at h; omega) (by rw [zi_mod gx gy h0 h1]; exact k)
/-! branches -/
theorem zz_goto (hx : p.tables.exec = Jvm.exec) (hb : c.code = cc) {off : Int} {tgt : Nat} (hdg : decode cc pc = .ok (.goto off, 3)) (ht : (pc : Int) + off = (tgt : Int)) (k : W p l e R s m args below meth c H locs cells slots Q (F0 m tgt ls rest)) : W p l e R s m args below meth c H locs cells slots Q (F0 m pc ls rest) := lv_goto hx hb hdg ht k
theorem zz_icmp_lt (hx : p.tables.exec = Jvm.exec) (hb : c.code = cc) {x y : Int} {off : Int} {tgt : Nat} (hdg : decode cc pc = .ok (.if_icmp .lt off, 3)) (ht : (pc : Int) + off = (tgt : Int)) (gx : zg x) (gy : zg y)
    (kt : x < y → W p l e R s m args below meth c H locs cells slots Q (F0 m tgt ls rest)) (kf : ¬ x < y → W p l e R s m args below meth c H locs cells slots Q (F0 m (pc + 3) ls rest)) : W p l e R s m args below meth c H locs cells slots Q (F0 m pc ls (.int (zi y) :: .int (zi x) :: rest)) := lv_icmp_lt hx hb hdg ht (fun h => kt ((zi_lt gx gy).mp h)) (fun h => kf (fun q => h ((zi_lt gx gy).mpr q)))
theorem zz_icmp_ge (hx : p.tables.exec = Jvm.exec) (hb : c.code = cc) {x y : Int} {off : Int} {tgt : Nat} (hdg : decode cc pc = .ok (.if_icmp .ge off, 3)) (ht : (pc : Int) + off = (tgt : Int)) (gx : zg x) (gy : zg y)
    (kt : y ≤ x → W p l e R s m args below meth c H locs cells slots Q (F0 m tgt ls rest)) (kf : ¬ y ≤ x → W p l e R s m args below meth c H locs cells slots Q (F0 m (pc + 3) ls rest)) : W p l e R s m args below meth c H locs cells slots Q (F0 m pc ls (.int (zi y) :: .int (zi x) :: rest)) := lv_icmp_ge hx hb hdg ht (fun h => kt ((zi_le gy gx).mp h)) (fun h => kf (fun q => h ((zi_le gy gx).mpr q)))
theorem zz_icmp_gt (hx : p.tables.exec = Jvm.exec) (hb : c.code = cc) {x y : Int} {off : Int} {tgt : Nat} (hdg : decode cc pc = .ok (.if_icmp .gt off, 3)) (ht : (pc : Int) + off = (tgt : Int)) (gx : zg x) (gy : zg y)
    (kt : y < x → W p l e R s m args below meth c H locs cells slots Q (F0 m tgt ls rest)) (kf : ¬ y < x → W p l e R s m args below meth c H locs cells slots Q (F0 m (pc + 3) ls rest)) : W p l e R s m args below meth c H locs cells slots Q (F0 m pc ls (.int (zi y) :: .int (zi x) :: rest)) := lv_icmp_gt hx hb hdg ht (fun h => kt ((zi_lt gy gx).mp h)) (fun h => kf (fun q => h ((zi_lt gy gx).mpr q)))
theorem zz_icmp_le (hx : p.tables.exec = Jvm.exec) (hb : c.code = cc) {x y : Int} {off : Int} {tgt : Nat} (hdg : decode cc pc = .ok (.if_icmp .le off, 3)) (ht : (pc : Int) + off = (tgt : Int)) (gx : zg x) (gy : zg y)
    (kt : x ≤ y → W p l e R s m args below meth c H locs cells slots Q (F0 m tgt ls rest)) (kf : ¬ x ≤ y → W p l e R s m args below meth c H locs cells slots Q (F0 m (pc + 3) ls rest)) : W p l e R s m args below meth c H locs cells slots Q (F0 m pc ls (.int (zi y) :: .int (zi x) :: rest)) := lv_icmp_le hx hb hdg ht (fun h => kt ((zi_le gx gy).mp h)) (fun h => kf (fun q => h ((zi_le gx gy).mpr q)))
theorem zz_icmp_eq (hx : p.tables.exec = Jvm.exec) (hb : c.code = cc) {x y : Int} {off : Int} {tgt : Nat} (hdg : decode cc pc = .ok (.if_icmp .eq off, 3)) (ht : (pc : Int) + off = (tgt : Int)) (gx : zg x) (gy : zg y)
    (kt : x = y → W p l e R s m args below meth c H locs cells slots Q (F0 m tgt ls rest)) (kf : ¬ x = y → W p l e R s m args below meth c H locs cells slots Q (F0 m (pc + 3) ls rest)) : W p l e R s m args below meth c H locs cells slots Q (F0 m pc ls (.int (zi y) :: .int (zi x) :: rest)) := lv_icmp_eq hx hb hdg ht (fun h => kt ((zi_inj gx gy).mp h)) (fun h => kf (fun q => h ((zi_inj gx gy).mpr q)))
theorem zz_icmp_ne (hx : p.tables.exec = Jvm.exec) (hb : c.code = cc) {x y : Int} {off : Int} {tgt : Nat} (hdg : decode cc pc = .ok (.if_icmp .ne off, 3)) (ht : (pc : Int) + off = (tgt : Int)) (gx : zg x) (gy : zg y)
    (kt : ¬ x = y → W p l e R s m args below meth c H locs cells slots Q (F0 m tgt ls rest)) (kf : x = y → W p l e R s m args below meth c H locs cells slots Q (F0 m (pc + 3) ls rest)) : W p l e R s m args below meth c H locs cells slots Q (F0 m pc ls (.int (zi y) :: .int (zi x) :: rest)) := lv_icmp_ne hx hb hdg ht (fun h => kt (fun q => h ((zi_inj gx gy).mpr q))) (fun h => kf ((zi_inj gx gy).mp h))
theorem zz_if_lt (hx : p.tables.exec = Jvm.exec) (hb : c.code = cc) {x : Int} {off : Int} {tgt : Nat} (hdg : decode cc pc = .ok (.ifCond .lt off, 3)) (ht : (pc : Int) + off = (tgt : Int)) (gx : zg x)
    (kt : x < 0 → W p l e R s m args below meth c H locs cells slots Q (F0 m tgt ls rest)) (kf : ¬ x < 0 → W p l e R s m args below meth c H locs cells slots Q (F0 m (pc + 3) ls rest)) : W p l e R s m args below meth c H locs cells slots Q (F0 m pc ls (.int (zi x) :: rest)) := lv_if_lt hx hb hdg ht (fun h => kt ((zi_lt0 gx).mp h)) (fun h => kf (fun q => h ((zi_lt0 gx).mpr q)))
theorem zz_if_ge (hx : p.tables.exec = Jvm.exec) (hb : c.code = cc) {x : Int} {off : Int} {tgt : Nat} (hdg : decode cc pc = .ok (.ifCond .ge off, 3)) (ht : (pc : Int) + off = (tgt : Int)) (gx : zg x)
    (kt : 0 ≤ x → W p l e R s m args below meth c H locs cells slots Q (F0 m tgt ls rest)) (kf : ¬ 0 ≤ x → W p l e R s m args below meth c H locs cells slots Q (F0 m (pc + 3) ls rest)) : W p l e R s m args below meth c H locs cells slots Q (F0 m pc ls (.int (zi x) :: rest)) := by
  have g0 : zg 0 := ⟨by decide, by decide⟩
  refine lv_if_ge hx hb hdg ht (fun h => kt ?_) (fun h => kf (fun q => h ?_))
  · rw [zi_zero] at h; exact (zi_le g0 gx).mp h
  · rw [zi_zero]; exact (zi_le g0 gx).mpr q
theorem zz_if_le (hx : p.tables.exec = Jvm.exec) (hb : c.code = cc) {x : Int} {off : Int} {tgt : Nat} (hdg : decode cc pc = .ok (.ifCond .le off, 3)) (ht : (pc : Int) + off = (tgt : Int)) (gx : zg x)
    (kt : x ≤ 0 → W p l e R s m args below meth c H locs cells slots Q (F0 m tgt ls rest)) (kf : ¬ x ≤ 0 → W p l e R s m args below meth c H locs cells slots Q (F0 m (pc + 3) ls rest)) : W p l e R s m args below meth c H locs cells slots Q (F0 m pc ls (.int (zi x) :: rest)) := lv_if_le hx hb hdg ht (fun h => kt ((zi_le0 gx).mp h)) (fun h => kf (fun q => h ((zi_le0 gx).mpr q)))
theorem zz_if_eq (hx : p.tables.exec = Jvm.exec) (hb : c.code = cc) {x : Int} {off : Int} {tgt : Nat} (hdg : decode cc pc = .ok (.ifCond .eq off, 3)) (ht : (pc : Int) + off = (tgt : Int)) (gx : zg x)
    (kt : x = 0 → W p l e R s m args below meth c H locs cells slots Q (F0 m tgt ls rest)) (kf : ¬ x = 0 → W p l e R s m args below meth c H locs cells slots Q (F0 m (pc + 3) ls rest)) : W p l e R s m args below meth c H locs cells slots Q (F0 m pc ls (.int (zi x) :: rest)) := lv_if_eq hx hb hdg ht (fun h => kt ((zi_eq0 gx).mp h)) (fun h => kf (fun q => h ((zi_eq0 gx).mpr q)))
theorem zz_if_ne (hx : p.tables.exec = Jvm.exec) (hb : c.code = cc) {x : Int} {off : Int} {tgt : Nat} (hdg : decode cc pc = .ok (.ifCond .ne off, 3)) (ht : (pc : Int) + off = (tgt : Int)) (gx : zg x)
    (kt : ¬ x = 0 → W p l e R s m args below meth c H locs cells slots Q (F0 m tgt ls rest)) (kf : x = 0 → W p l e R s m args below meth c H locs cells slots Q (F0 m (pc + 3) ls rest)) : W p l e R s m args below meth c H locs cells slots Q (F0 m pc ls (.int (zi x) :: rest)) := lv_if_ne hx hb hdg ht (fun h => kt (fun q => h ((zi_eq0 gx).mpr q))) (fun h => kf ((zi_eq0 gx).mp h))
theorem zz_if_eqb (hx : p.tables.exec = Jvm.exec) (hb : c.code = cc) {P : Prop} {off : Int} {tgt : Nat} (hdg : decode cc pc = .ok (.ifCond .eq off, 3)) (ht : (pc : Int) + off = (tgt : Int))
    (kt : ¬ P → W p l e R s m args below meth c H locs cells slots Q (F0 m tgt ls rest)) (kf : P → W p l e R s m args below meth c H locs cells slots Q (F0 m (pc + 3) ls rest)) : W p l e R s m args below meth c H locs cells slots Q (F0 m pc ls (.int (zi (zb P)) :: rest)) := zz_if_eq hx hb hdg ht (zg_b P) (fun h => kt (zb_eq0.mp h)) (fun h => kf (Classical.byContradiction fun q => h (zb_eq0.mpr q)))
theorem zz_if_neb (hx : p.tables.exec = Jvm.exec) (hb : c.code = cc) {P : Prop} {off : Int} {tgt : Nat} (hdg : decode cc pc = .ok (.ifCond .ne off, 3)) (ht : (pc : Int) + off = (tgt : Int))
    (kt : P → W p l e R s m args below meth c H locs cells slots Q (F0 m tgt ls rest)) (kf : ¬ P → W p l e R s m args below meth c H locs cells slots Q (F0 m (pc + 3) ls rest)) : W p l e R s m args below meth c H locs cells slots Q (F0 m pc ls (.int (zi (zb P)) :: rest)) := zz_if_ne hx hb hdg ht (zg_b P) (fun h => kt (Classical.byContradiction fun q => h (zb_eq0.mpr q))) (fun h => kf (zb_eq0.mp h))
/-! null tests: a reference that is told by the store and valid -/
theorem zz_ifnull (hx : p.tables.exec = Jvm.exec) (hb : c.code = cc) {κ : Nat} {v : Int} {off : Int} {tgt : Nat} (hv : zln ad κ v) (hdg : decode cc pc = .ok (.ifnull off, 3)) (ht : (pc : Int) + off = (tgt : Int))
    (kt : v < 0 → W p l e R s m args below meth c H locs cells slots Q (F0 m tgt ls rest)) (kf : zl ad κ v → W p l e R s m args below meth c H locs cells slots Q (F0 m (pc + 3) ls rest)) : W p l e R s m args below meth c H locs cells slots Q (F0 m pc ls (zr ad κ v :: rest)) := by
  rcases hv with h | h
  · rw [zr_null h]; exact lv_ifnullN hx hb hdg ht (kt h)
  · obtain ⟨a, -, e⟩ := zr_ref h
    rw [e]; exact lv_ifnull hx hb hdg (kf h)
theorem zz_ifnonnull (hx : p.tables.exec = Jvm.exec) (hb : c.code = cc) {κ : Nat} {v : Int} {off : Int} {tgt : Nat} (hv : zln ad κ v) (hdg : decode cc pc = .ok (.ifnonnull off, 3)) (ht : (pc : Int) + off = (tgt : Int))
    (kt : zl ad κ v → W p l e R s m args below meth c H locs cells slots Q (F0 m tgt ls rest)) (kf : v < 0 → W p l e R s m args below meth c H locs cells slots Q (F0 m (pc + 3) ls rest)) : W p l e R s m args below meth c H locs cells slots Q (F0 m pc ls (zr ad κ v :: rest)) := by
  rcases hv with h | h
  · rw [zr_null h]; exact lv_ifnonnullN hx hb hdg (kf h)
  · obtain ⟨a, -, e⟩ := zr_ref h
    rw [e]; exact lv_ifnonnull hx hb hdg ht (kt h)
theorem zq_inj (hW : ZW G ad A σ H) {κ : Nat} {v w : Int} (hv : zln ad κ v) (hw : zln ad κ w) : zq ad κ v = zq ad κ w ↔ (v = w ∨ (v < 0 ∧ w < 0)) := by
  constructor
  · intro h
    rcases hv with hv | hv <;> rcases hw with hw | hw
    · exact Or.inr ⟨hv, hw⟩
    · obtain ⟨a, ha, -⟩ := zr_ref hw
      unfold zq at h
      rw [if_pos hv, if_neg (by have := hw.1; omega), ha] at h
      cases h
    · obtain ⟨a, ha, -⟩ := zr_ref hv
      unfold zq at h
      rw [if_pos hw, if_neg (by have := hv.1; omega), ha] at h
      cases h
    · obtain ⟨a, ha, -⟩ := zr_ref hv
      obtain ⟨b, hb, -⟩ := zr_ref hw
      have h1 := hv.1
      have h2 := hw.1
      unfold zq at h
      rw [if_neg (by omega), if_neg (by omega), ha, hb] at h
      cases h
      have := (hW.2.1 _ _ _ _ _ ha hb).2
      exact Or.inl (by omega)
  · rintro (h | ⟨h1, h2⟩)
    · rw [h]
    · unfold zq; rw [if_pos h1, if_pos h2]
theorem zz_acmp_ne (hx : p.tables.exec = Jvm.exec) (hb : c.code = cc) (hW : ZW G ad A σ H) {κ : Nat} {v w : Int} {off : Int} {tgt : Nat} (hv : zln ad κ v) (hw : zl ad κ w) (hdg : decode cc pc = .ok (.if_acmp .ne off, 3)) (ht : (pc : Int) + off = (tgt : Int))
    (kt : ¬ v = w → W p l e R s m args below meth c H locs cells slots Q (F0 m tgt ls rest)) (kf : v = w → W p l e R s m args below meth c H locs cells slots Q (F0 m (pc + 3) ls rest)) : W p l e R s m args below meth c H locs cells slots Q (F0 m pc ls (zr ad κ w :: zr ad κ v :: rest)) := by
  have e := zq_inj hW hv (Or.inr hw)
  have h0 := hw.1
  refine lv_acmp_ne hx hb hdg ht (fun h => kt (fun q => h (e.mpr (Or.inl q)))) (fun h => kf ?_)
  rcases e.mp h with q | q
  · exact q
  · omega
/-! ends -/
theorem zz_reti (hx : p.tables.exec = Jvm.exec) (hb : c.code = cc) (hr : meth.sig.returnType = some .int) (hlocks : meth.locks = false) {post : Int → zS → Prop} (hW : ZW G ad A σ H) (hS : va_S A s.heap H locs) {x : Int} (hp : post x σ) (hdg : decode cc pc = .ok (.ireturn, 1)) :
    W p l e R s m args below meth c H locs cells slots (MQ below (zQ G ad A zri post) args s cells slots A) (F0 m pc ls [.int (zi x)]) :=
  W.iret hx hb hr (fun t ht _ => ⟨⟨x, σ, rfl, hp, by rw [ht]; exact hW⟩, hS.F ht⟩) hS.2.2 hdg hlocks
theorem zz_retz (hx : p.tables.exec = Jvm.exec) (hb : c.code = cc) (hr : meth.sig.returnType = some .boolean) (hlocks : meth.locks = false) {post : Int → zS → Prop} (hW : ZW G ad A σ H) (hS : va_S A s.heap H locs) {x : Int} (h01 : x = 0 ∨ x = 1) (hp : post x σ) (hdg : decode cc pc = .ok (.ireturn, 1)) :
    W p l e R s m args below meth c H locs cells slots (MQ below (zQ G ad A zri post) args s cells slots A) (F0 m pc ls [.int (zi x)]) :=
  W.zret hx hb hr (znar_b h01) (fun t ht _ => ⟨⟨x, σ, rfl, hp, by rw [ht]; exact hW⟩, hS.F ht⟩) hS.2.2 hdg hlocks
theorem zz_retv (hx : p.tables.exec = Jvm.exec) (hb : c.code = cc) (hr : meth.sig.returnType = none) (hlocks : meth.locks = false) {post : Unit → zS → Prop} (hW : ZW G ad A σ H) (hS : va_S A s.heap H locs) (hp : post () σ) (hdg : decode cc pc = .ok (.return_, 1)) :
    W p l e R s m args below meth c H locs cells slots (MQ below (zQ G ad A zrv post) args s cells slots A) (F0 m pc ls []) :=
  W.vret hx hb hr (fun t ht _ => ⟨⟨(), σ, rfl, hp, by rw [ht]; exact hW⟩, hS.F ht⟩) hS.2.2 hdg hlocks
theorem zz_reta (hx : p.tables.exec = Jvm.exec) (hb : c.code = cc) {C : String} {κ : Nat} (hr : meth.sig.returnType = some (.object C)) (hlocks : meth.locks = false) {post : Int → zS → Prop} (hW : ZW G ad A σ H) (hS : va_S A s.heap H locs) {x : Int} (hp : post x σ) (hdg : decode cc pc = .ok (.areturn, 1)) :
    W p l e R s m args below meth c H locs cells slots (MQ below (zQ G ad A (zrr ad κ) post) args s cells slots A) (F0 m pc ls [zr ad κ x]) :=
  W.aret hx hb hr (Or.inl ⟨C, rfl⟩) (va_rf_or _) (fun t ht _ => ⟨⟨x, σ, rfl, hp, by rw [ht]; exact hW⟩, hS.F ht⟩) hS.2.2 hdg hlocks
/-! calls -/
theorem zz_after {X : Type} {ret : X → Option Value} {post : X → zS → Prop} {mc ms : Nat} {st0 : List Value} {a : Array Value} (hr : va_Run p l e R s m args below meth c H locs cells slots mc ms (F0 m pc ls st0) rest (zQ G ad A ret post a) A) (hS : va_S A H0 H locs)
    (kk : ∀ (x : X) (u : zS) (H1 : Heap) (locs1 : List Loc), post x u → ZW G ad A u H1 → H.size ≤ H1.size → va_S A H0 H1 locs1 → W p l e R s m args below meth c H1 locs1 (cells + mc) (slots + ms) Q (F0 m (pc + 3) ls ((ret x).toList ++ rest))) : W p l e R s m args below meth c H locs cells slots Q (F0 m pc ls st0) := by
  intro T hT X
  obtain ⟨v, st₀, t, T', L, h0, X', hL, e1, e2, ⟨⟨x, u, hv, hp, hb⟩, hz, hk⟩, st⟩ := hr T hT X
  cases hv
  rw [h0] at hz hk
  obtain ⟨t2, a1, b1⟩ := kk x u T'.heap (locs ++ L) hp (by rw [e1]; exact hb) (by rw [e1]; exact hz)
    ⟨Nat.le_trans hS.1 (by rw [e1]; exact hz), fun q h1 h2 => by rw [e1, hk q (Nat.lt_of_lt_of_le h1 hS.1) h2]; exact hS.2.1 q h1 h2, fun q hq => by
      rcases List.mem_append.mp hq with h | h
      · exact hS.2.2 q h
      · exact hL q h⟩ T' rfl X'
  exact ⟨t2, st t2 a1, b1⟩
theorem zz_callV {X : Type} {y : MethodName} {bytes : ByteArray} {maxL nL mc ms n index κ : Nat} {rt : Option FieldType} {ws : List Cond} {rm : Room} {ret : X → Option Value} {post : X → zS → Prop} {Ts : List Cond} {own C : String} {T : u_T} {N : Nat} {v : Int} {As : List Value} {st0 : List Value}
    (S : CallFix p m c cc nL s args Ts own) (hM : Met l y ws rm (zP G ad A N0 σ (zr ad κ v :: As)) (zQ G ad A ret post) mc ms A) (cw : CallW R s args own C index y bytes maxL rt ws rm mc ms n) (hK : zK G s) (hW : ZW G ad A σ H) (hv : zl ad κ v) (hkd : zk κ = true) (hc : vwCl[zc κ]? = some (C, T, N)) (hsz : N0 ≤ H.size) (hS : va_S A H0 H locs)
    (hn : As.length = n) (hsize : ls.size = nL) (hst : As.reverse ++ zr ad κ v :: rest = st0) (hrest : (rest.map fun v => v.category).sum ≤ 8) (hdg : decode cc pc = .ok (.invokevirtual index, 3)) (hf : cells + mc ≤ R.cells ∧ slots + ms ≤ R.slots)
    (kk : ∀ (x : X) (u : zS) (H1 : Heap) (locs1 : List Loc), post x u → ZW G ad A u H1 → H.size ≤ H1.size → va_S A H0 H1 locs1 → W p l e R s m args below meth c H1 locs1 (cells + mc) (slots + ms) Q (F0 m (pc + 3) ls ((ret x).toList ++ rest))) : W p l e R s m args below meth c H locs cells slots Q (F0 m pc ls st0) := by
  obtain ⟨a, ha, er⟩ := zr_ref hv
  rw [er] at hM hst
  have hz := (hW.1 _ _ _ ha).1
  unfold zat at hz
  rw [if_pos hkd] at hz
  obtain ⟨cell, q1, q2, q3, q4⟩ := hz
  obtain ⟨-, hfc, -⟩ := hK.1.1 _ _ hc
  refine zz_after (va_runV (g := F0 m pc ls st0) (rest := rest) S hM cw ⟨zP.blind, ⟨cell, q1, by rw [q3]; rfl, by rw [q2]; exact hfc⟩, fun U hU hWm => ⟨rfl, by rw [hU]; exact hsz, by rw [hU]; exact hW, hK.warm hWm⟩⟩ rfl hn hsize hst.symm (lv_room hrest) hdg hf) hS kk
theorem zz_callS {X : Type} {y : MethodName} {bytes : ByteArray} {maxL nL mc ms n index : Nat} {rt : Option FieldType} {ws : List Cond} {rm : Room} {ret : X → Option Value} {post : X → zS → Prop} {Ts : List Cond} {own : String} {As : List Value} {st0 : List Value}
    (S : CallFix p m c cc nL s args Ts own) (hM : Met l y ws rm (zP G ad A N0 σ As) (zQ G ad A ret post) mc ms A) (cw : CallB R s args own index y bytes maxL rt ws rm mc ms n ∧ (Cond.static y).before args s = true) (hK : zK G s) (hW : ZW G ad A σ H) (hsz : N0 ≤ H.size) (hS : va_S A H0 H locs)
    (hn : As.length = n) (hsize : ls.size = nL) (hst : As.reverse ++ rest = st0) (hrest : (rest.map fun v => v.category).sum ≤ 8) (hdg : decode cc pc = .ok (.invokestatic index, 3)) (hf : cells + mc ≤ R.cells ∧ slots + ms ≤ R.slots)
    (kk : ∀ (x : X) (u : zS) (H1 : Heap) (locs1 : List Loc), post x u → ZW G ad A u H1 → H.size ≤ H1.size → va_S A H0 H1 locs1 → W p l e R s m args below meth c H1 locs1 (cells + mc) (slots + ms) Q (F0 m (pc + 3) ls ((ret x).toList ++ rest))) : W p l e R s m args below meth c H locs cells slots Q (F0 m pc ls st0) :=
  zz_after (va_runS (g := F0 m pc ls st0) (rest := rest) S hM cw ⟨zP.blind, fun U hU hWm => ⟨rfl, by rw [hU]; exact hsz, by rw [hU]; exact hW, hK.warm hWm⟩⟩ rfl hn hsize hst.symm (lv_room hrest) hdg hf) hS kk
end ZS
/-- a method by its body -/
theorem zz_of {l : Launch} {G : zG} {ad : zA} {A : Nat → Prop} {σ : zS} {N0 : Nat} {y : MethodName} {ws ws' : List Cond} {rm : Room} {Qc : Array Value → State → Outcome → State → Prop} {mc ms : Nat} {cc : ByteArray} {maxL : Nat} {ret : Option FieldType} {av : List Value}
    (hy : plainName y.cls = true) (hw : ws = Cond.code y cc maxL ret :: ws') (hrm : rm.cells = mc ∧ rm.slots = ms) (hcat : ∀ v ∈ av, v.category = 1) (hlen : av.length ≤ maxL)
    (body : ∀ (p : Program) (e : Env) (s : State) (m : MethodId) (below : List Frame) (meth : Method) (c : Code), p.tables.exec = Jvm.exec → c.code = cc → meth.sig.returnType = ret → c.maxLocals = maxL → (∀ w ∈ ws, w.before av.toArray s = true) → s.vm.findClass y.cls = some m.cls → meth.locks = false → N0 ≤ s.heap.size → ZW G ad A σ s.heap → zK G s → ∀ ls, zh ls maxL (zargs 0 av) →
      W p l e rm s m av.toArray below meth c s.heap [] 0 0 (MQ below Qc av.toArray s mc ms A) (F0 m 0 ls [])) : Met l y ws rm (zP G ad A N0 σ av) Qc mc ms A := by
  refine Met.ofW (cc := cc) (maxL := maxL) (ret := ret) hy hw ?_
  intro p e s m args below meth c s₁ B hml hv
  obtain ⟨rfl, hsz, hW, hK⟩ := hv
  obtain ⟨ls, e1, e2⟩ := zh_entry m av (n := maxL) hcat hlen
  rw [e1]
  exact body p e s m below meth c B.exec B.bytes B.returns hml (atoms_spec (ws := ws) B.pre) (findClass_of_methodNamed B.named) B.notSynchronized hsz hW hK ls e2
