def zNws : List (String × Nat × String × String × String × String) := [("HailCity", 63, "HailCity$CityMap", "streetCount", "I", "HailCity"), ("HailCity", 222, "HailCity$Matching", "requests", "[LHailCity$Request;", "HailCity"), ("HailCity", 216, "HailCity$Matching", "count", "I", "HailCity"), ("HailCity$Driver", 30, "HailCity$Row", "size", "I", "HailCity"), ("HailCity$Sharing", 39, "HailCity$Row", "size", "I", "HailCity"), ("HailCity", 110, "HailCity$Row", "size", "I", "HailCity"), ("HailCity", 331, "HailCity$Sharing", "driver", "LHailCity$Driver;", "HailCity"), ("HailCity", 332, "HailCity$Sharing", "in", "I", "HailCity"), ("HailCity", 335, "HailCity$Sharing", "out", "I", "HailCity"), ("HailCity", 338, "HailCity$Sharing", "letInAt", "I", "HailCity"), ("HailCity", 99, "HailCity$Driver", "number", "I", "HailCity"), ("HailCity$Sharing", 34, "HailCity$Driver", "row", "LHailCity$Row;", "HailCity"), ("HailCity", 106, "HailCity$Driver", "row", "LHailCity$Row;", "HailCity"), ("HailCity", 192, "HailCity$Driver", "rating", "I", "HailCity"), ("HailCity", 322, "HailCity$Driver", "isBarred", "Z", "HailCity"), ("HailCity", 125, "HailCity$Driver", "place", "I", "HailCity"), ("HailCity", 117, "HailCity$Driver", "isResting", "Z", "HailCity"), ("HailCity", 287, "HailCity$Driver", "freeSince", "I", "HailCity"), ("HailCity$Sharing", 62, "HailCity$Driver", "nextAt", "I", "HailCity"), ("HailCity", 137, "HailCity$Driver", "nextAt", "I", "HailCity"), ("HailCity", 239, "HailCity$Driver", "minutesThatCount", "I", "HailCity"), ("HailCity", 242, "HailCity$Driver", "doneCount", "I", "HailCity"), ("HailCity", 257, "HailCity$Driver", "donePrices", "I", "HailCity"), ("HailCity", 163, "HailCity$Request", "number", "I", "HailCity"), ("HailCity$Sharing", 79, "HailCity$Request", "from", "I", "HailCity"), ("HailCity$CityMap", 38, "HailCity$Request", "from", "I", "HailCity"), ("HailCity", 195, "HailCity$Request", "from", "I", "HailCity"), ("HailCity$Sharing", 88, "HailCity$Request", "to", "I", "HailCity"), ("HailCity$CityMap", 43, "HailCity$Request", "to", "I", "HailCity"), ("HailCity", 308, "HailCity$Request", "to", "I", "HailCity"), ("HailCity$Row", 45, "HailCity$Request", "isShared", "Z", "HailCity"), ("HailCity", 223, "HailCity$Request", "isShared", "Z", "HailCity"), ("HailCity$Sharing", 110, "HailCity$Request", "patienceOver", "I", "HailCity"), ("HailCity", 157, "HailCity$Request", "patienceOver", "I", "HailCity"), ("HailCity", 160, "HailCity$Request", "price", "I", "HailCity"), ("HailCity", 168, "HailCity$Request", "state", "I", "HailCity"), ("HailCity", 173, "HailCity$Request", "driver", "LHailCity$Driver;", "HailCity"), ("HailCity", 181, "HailCity$Request", "sentAt", "I", "HailCity"), ("HailCity$Sharing", 107, "HailCity$Request", "promise", "I", "HailCity"), ("HailCity", 230, "HailCity$Request", "promise", "I", "HailCity"), ("HailCity", 233, "HailCity$Request", "letOutAt", "I", "HailCity"), ("HailCity", 184, "HailCity$Request", "isRated", "Z", "HailCity")]
def zNf (q : String × Nat × String × String × String × String) : Cond := .fieldLinkNest q.1 q.2.1 q.2.2.1 q.2.2.2.1 q.2.2.2.2.1 q.2.2.2.2.2
/-- what the tables know: the classes, the arrays, the private fields of nest mates -/
def zK (G : zG) (U : State) : Prop := va_K G.1 vwCl [] U ∧ (∀ κ, zk κ = false → ArrOfT U (G.2 κ) (zf κ) ∧ va_RA U (G.2 κ) (zf κ)) ∧ ∀ q ∈ zNws, va_Nw (zNf q) U
theorem zK.warm {G : zG} {s U : State} (hW : s.WarmedH U.vm) (h : zK G s) : zK G U :=
  ⟨va_K.moved hW.alike h.1, fun κ hk => ⟨arrOfT_moved hW.alike (h.2.1 κ hk).1, (h.2.1 κ hk).2.moved hW.alike⟩, fun q hq => va_Nw.warmF hW (h.2.2 q hq)⟩
theorem zK.same {G : zG} {u U : State} (hvm : u.vm = U.vm) (h : zK G u) : zK G U := by
  have ha : u.vm.Alike U.vm := by rw [hvm]; exact Vm.Alike.refl U.vm
  exact ⟨va_K.moved ha h.1, fun κ hk => ⟨arrOfT_moved ha (h.2.1 κ hk).1, (h.2.1 κ hk).2.moved ha⟩, fun q hq => va_Nw.same rfl hvm (h.2.2 q hq)⟩
/-- locals: one slot each -/
def zh (ls : Array Slot) (n : Nat) (lv : List (Nat × Value)) : Prop := lv_has ls n lv ∧ ∀ q ∈ lv, q.2.category = 1
def zargs : Nat → List Value → List (Nat × Value)
  | _, [] => []
  | i, v :: vs => (i, v) :: zargs (i + 1) vs
theorem zargs_eq : ∀ (vs : List Value) (i : Nat), (∀ v ∈ vs, v.category = 1) → lv_args i vs = zargs i vs
  | [], _, _ => rfl
  | v :: vs, i, h => by
    have h1 : ¬ v.category = 2 := by rw [h v List.mem_cons_self]; decide
    show (i, v) :: lv_args (if v.category = 2 then i + 2 else i + 1) vs = (i, v) :: zargs (i + 1) vs
    rw [if_neg h1, zargs_eq vs (i + 1) (fun w hw => h w (List.mem_cons_of_mem _ hw))]
theorem zargs_cat : ∀ (vs : List Value) (i : Nat), (∀ v ∈ vs, v.category = 1) → ∀ q ∈ zargs i vs, q.2.category = 1
  | [], _, _ => fun q hq => by cases hq
  | v :: vs, i, h => fun q hq => by
    rcases List.mem_cons.mp hq with e | e
    · rw [e]; exact h v List.mem_cons_self
    · exact zargs_cat vs (i + 1) (fun w hw => h w (List.mem_cons_of_mem _ hw)) q e
theorem zsl_len : ∀ (vs : List Value), (∀ v ∈ vs, v.category = 1) → (lg_sl vs).length = vs.length
  | [], _ => rfl
  | v :: vs, h => by
    have h1 : ¬ v.category = 2 := by rw [h v List.mem_cons_self]; decide
    have := zsl_len vs (fun w hw => h w (List.mem_cons_of_mem _ hw))
    unfold lg_sl at this ⊢
    rw [List.flatMap_cons, if_neg h1, List.length_append, this]
    simp
    omega
theorem zh_entry (m : MethodId) (vs : List Value) {n : Nat} (hc : ∀ v ∈ vs, v.category = 1) (hn : vs.length ≤ n) : ∃ ls, entryFrame m vs.toArray n = F0 m 0 ls [] ∧ zh ls n (zargs 0 vs) := by
  refine ⟨_, lg_entry_eq m vs n, ?_, zargs_cat vs 0 hc⟩
  rw [← zargs_eq vs 0 hc]
  exact lv_entry vs (by rw [zsl_len vs hc]; exact hn)
theorem zh_at {ls : Array Slot} {n : Nat} {lv : List (Nat × Value)} (h : zh ls n lv) (k : Nat) {i : Nat} {v : Value} (hk : lv[k]? = some (i, v)) : ls[i]? = some (.val v) := lv_at h.1 k hk
theorem zh_set {ls' : Array Slot} {n : Nat} {lv lv' : List (Nat × Value)} {i : Nat} {w : Value} (hw : w.category = 1) (hlv : ∀ q ∈ lv, q.2.category = 1) (h : lv_has ls' n ((i, w) :: lv.filter (fun q => !(q.1 == i) && !(q.1 + 1 == i && q.2.category == 2)))) (e : (i, w) :: lv.filter (fun q => !(q.1 == i)) = lv') : zh ls' n lv' := by
  have e2 : lv.filter (fun q => !(q.1 == i) && !(q.1 + 1 == i && q.2.category == 2)) = lv.filter (fun q => !(q.1 == i)) := by
    apply List.filter_congr
    intro q hq
    have h1 := hlv q hq
    rw [h1]
    simp
  rw [e2, e] at h
  refine ⟨h, fun q hq => ?_⟩
  rw [← e] at hq
  rcases List.mem_cons.mp hq with r | r
  · rw [r]; exact hw
  · exact hlv q (List.mem_filter.mp r).1
theorem zh_sub {ls : Array Slot} {nL : Nat} {l l' : List (Nat × Value)} (h : zh ls nL l) (ks : List Nat) (hl : lv_pick l ks = l') : zh ls nL l' := by
  refine ⟨lv_sub h.1 ks hl, fun q hq => ?_⟩
  rw [← hl] at hq
  obtain ⟨k, -, hk⟩ := List.mem_filterMap.mp hq
  exact h.2 q (List.mem_of_getElem? hk)
/-! contracts -/
def zP (G : zG) (ad : zA) (A : Nat → Prop) (N0 : Nat) (σ : zS) (av : List Value) : Array Value → State → Prop := va_Pc av (fun U => N0 ≤ U.heap.size ∧ ZW G ad A σ U.heap ∧ zK G U)
def zQ {X : Type} (G : zG) (ad : zA) (A : Nat → Prop) (ret : X → Option Value) (post : X → zS → Prop) : Array Value → State → Outcome → State → Prop := fun _ st oc t => (∃ (x : X) (u : zS), oc = .returned (ret x) ∧ post x u ∧ ZW G ad A u t.heap) ∧ va_F A st t
def zri (x : Int) : Option Value := some (.int (zi x))
def zrv (_ : Unit) : Option Value := none
def zrr (ad : zA) (κ : Nat) (x : Int) : Option Value := some (zr ad κ x)
theorem zP.blind {G : zG} {ad : zA} {A : Nat → Prop} {N0 : Nat} {σ : zS} {av : List Value} : FrameBlind (zP G ad A N0 σ av) := fun a U g mk q => ⟨q.1, q.2.1, q.2.2.1, zK.same (u := U) (U := U.calling g mk a) rfl q.2.2.2⟩
theorem zat.kept {G : zG} {ad : zA} {σ : zS} {H H1 : Heap} {κ i a : Nat} (h : zat G ad σ H κ i a) (e : H1[a]? = H[a]?) : zat G ad σ H1 κ i a := by
  unfold zat at h ⊢
  by_cases hk : zk κ = true
  · rw [if_pos hk] at h ⊢; exact h.kept e
  · rw [if_neg hk] at h ⊢; rw [e]; exact h
theorem zat.lt {G : zG} {ad : zA} {σ : zS} {H : Heap} {κ i a : Nat} (h : zat G ad σ H κ i a) : a < H.size := by
  unfold zat at h
  by_cases hk : zk κ = true
  · rw [if_pos hk] at h
    obtain ⟨cell, q, -⟩ := h
    exact (Array.getElem?_eq_some_iff.mp q).1
  · rw [if_neg hk] at h
    exact (Array.getElem?_eq_some_iff.mp h).1
theorem zat.congr {G : zG} {ad : zA} {σ σ' : zS} {H : Heap} {κ i a : Nat} (h : zat G ad σ H κ i a) (e : ∀ k, σ κ i k = σ' κ i k) : zat G ad σ' H κ i a := by
  have e2 : (fun k => zv ad (zt κ k) i k (σ κ i k)) = (fun k => zv ad (zt κ k) i k (σ' κ i k)) := funext fun k => by rw [e k]
  unfold zat at h ⊢
  rw [← e2]
  exact h
theorem ZW.put {G : zG} {ad : zA} {A : Nat → Prop} {σ : zS} {H H1 : Heap} {κ i k a : Nat} {x : Int} (h : ZW G ad A σ H) (ha : ad κ i = some a) (hx : zg x) (hr : 10 ≤ zt κ k → zt κ k < 100 → zln ad (zt κ k - 10) x) (hbz : zt κ k = 1 → x = 0 ∨ x = 1) (oq : ∀ q, q ≠ a → H1[q]? = H[q]?) (hz : zat G ad (zu σ κ i k x) H1 κ i a) : ZW G ad A (zu σ κ i k x) H1 := by
  refine ⟨fun κ' i' a' ha' => ?_, h.2.1, fun κ' i' k' => ?_, fun κ' i' k' hs h1 h2 => ?_, fun κ' i' k' h1 => ?_⟩
  · by_cases e : κ' = κ ∧ i' = i
    · obtain ⟨rfl, rfl⟩ := e
      cases ha.symm.trans ha'
      exact ⟨hz, (h.1 _ _ _ ha).2⟩
    · refine ⟨?_, (h.1 _ _ _ ha').2⟩
      have hne : a' ≠ a := fun q => e (by rw [q] at ha'; exact h.2.1 _ _ _ _ _ ha' ha)
      refine ((h.1 _ _ _ ha').1.kept (oq a' hne)).congr (fun k' => ?_)
      exact (if_neg fun q => e ⟨q.1, q.2.1⟩).symm
  · by_cases e : κ' = κ ∧ i' = i ∧ k' = k
    · obtain ⟨rfl, rfl, rfl⟩ := e
      rw [zu_same]; exact hx
    · show zg (if _ then _ else _)
      rw [if_neg e]; exact h.2.2.1 _ _ _
  · by_cases e : κ' = κ ∧ i' = i ∧ k' = k
    · obtain ⟨rfl, rfl, rfl⟩ := e
      rw [zu_same]; exact hr h1 h2
    · show zln _ _ (if _ then _ else _)
      rw [if_neg e]; exact h.2.2.2.1 _ _ _ hs h1 h2
  · by_cases e : κ' = κ ∧ i' = i ∧ k' = k
    · obtain ⟨rfl, rfl, rfl⟩ := e
      rw [zu_same]; exact hbz h1
    · rw [zu_ne e]; exact h.2.2.2.2 _ _ _ h1
section ZR
variable {p : Program} {l : Launch} {e : Env} {R : Room} {s : State} {m : MethodId} {args : Array Value} {below : List Frame} {meth : Method} {c : Code} {H : Heap} {locs : List Loc} {cells slots : Nat} {Q : State → Prop}
variable {cc : ByteArray} {pc : Nat} {ls : Array Slot} {rest : List Value} {G : zG} {ad : zA} {A : Nat → Prop} {σ : zS} {H0 : Heap} {N0 : Nat}
theorem zz_get (hx : p.tables.exec = Jvm.exec) (hb : c.code = cc) {own ref C : String} {T : u_T} {N index κ k : Nat} {v : Int} {w : Value} {Ts : List Cond} (hts : ∀ w ∈ Ts, w.before args s = true) (hin : ∀ w ∈ u_ws C T N, w ∈ Ts) (hown : s.vm.findClass own = some m.cls) (hK : zK G s) (hW : ZW G ad A σ H) (hv : zl ad κ v) (hkd : zk κ = true) (hc : vwCl[zc κ]? = some (C, T, N)) (hN : zn κ = N) (hk : k < N) (hlink : (Cond.fieldLink own index ref (T k).2.1 (T k).2.2.1).before args s = true) (hsame : ∀ x, s.fieldFound? (T k).1 (T k).2.1 (T k).2.2.1 = some x → s.fieldFound? ref (T k).2.1 (T k).2.2.1 = some x) (he : zv ad (zt κ k) v.toNat k (σ κ v.toNat k) = w) (hdg : decode cc pc = .ok (.getfield index, 3))
    (kk : W p l e R s m args below meth c H locs cells slots Q (F0 m (pc + 3) ls (w :: rest))) : W p l e R s m args below meth c H locs cells slots Q (F0 m pc ls (zr ad κ v :: rest)) := by
  obtain ⟨a, ha, er⟩ := zr_ref hv
  rw [er]
  have hz := (hW.1 _ _ _ ha).1
  unfold zat at hz
  rw [if_pos hkd] at hz
  obtain ⟨cell, q1, q2, q3, q4⟩ := hz
  obtain ⟨hS, hfc, kC, hkC, hkind⟩ := hK.1.1 _ _ hc
  obtain ⟨cf, kf, fi, f, hi, hsl⟩ := hS k hk
  refine W.getf hx hb hown hlink (hsame _ hi) (u_facts hfc hkC (u_lays hts hin hk) hi).1 q1 (by rw [q3]; exact fun h => by cases h) (v := w) ?_ rfl rfl hdg kk
  rw [hsl, q4 k (by rw [hN]; exact hk), ← he]
theorem zz_getN (hx : p.tables.exec = Jvm.exec) (hb : c.code = cc) {own ref C host : String} {T : u_T} {N index κ k : Nat} {v : Int} {w : Value} {Ts : List Cond} (hts : ∀ w ∈ Ts, w.before args s = true) (hin : ∀ w ∈ u_ws C T N, w ∈ Ts) (hown : s.vm.findClass own = some m.cls) (hK : zK G s) (hW : ZW G ad A σ H) (hv : zl ad κ v) (hkd : zk κ = true) (hc : vwCl[zc κ]? = some (C, T, N)) (hN : zn κ = N) (hk : k < N) (hlink : (own, index, ref, (T k).2.1, (T k).2.2.1, host) ∈ zNws) (hsame : ∀ x, s.fieldFound? (T k).1 (T k).2.1 (T k).2.2.1 = some x → s.fieldFound? ref (T k).2.1 (T k).2.2.1 = some x) (he : zv ad (zt κ k) v.toNat k (σ κ v.toNat k) = w) (hdg : decode cc pc = .ok (.getfield index, 3))
    (kk : W p l e R s m args below meth c H locs cells slots Q (F0 m (pc + 3) ls (w :: rest))) : W p l e R s m args below meth c H locs cells slots Q (F0 m pc ls (zr ad κ v :: rest)) := by
  obtain ⟨a, ha, er⟩ := zr_ref hv
  rw [er]
  have hz := (hW.1 _ _ _ ha).1
  unfold zat at hz
  rw [if_pos hkd] at hz
  obtain ⟨cell, q1, q2, q3, q4⟩ := hz
  obtain ⟨hS, hfc, kC, hkC, hkind⟩ := hK.1.1 _ _ hc
  obtain ⟨cf, kf, fi, f, hi, hsl⟩ := hS k hk
  have hl2 : (Cond.fieldLinkNest own index ref (T k).2.1 (T k).2.2.1 host).before args s = true := va_Nw.use rfl (hK.2.2 _ hlink)
  refine va_Wgetf hx hb hown hl2 (hsame _ hi) (u_facts hfc hkC (u_lays hts hin hk) hi).1 q1 (by rw [q3]; exact fun h => by cases h) (v := w) ?_ rfl rfl hdg kk
  rw [hsl, q4 k (by rw [hN]; exact hk), ← he]
theorem zz_put (hx : p.tables.exec = Jvm.exec) (hb : c.code = cc) {own ref C : String} {T : u_T} {N index κ k : Nat} {v x : Int} {w : Value} {Ts : List Cond} (hts : ∀ w ∈ Ts, w.before args s = true) (hin : ∀ w ∈ u_ws C T N, w ∈ Ts) (ty0 : Nat → FieldType) (hty : ∀ k, k < N → parseFieldDescriptor (T k).2.2.1 = some (ty0 k)) (hnm : ∀ a, a < N → ∀ b, b < N → a ≠ b → (T a).2.1 ≠ (T b).2.1) (hown : s.vm.findClass own = some m.cls) (hK : zK G s) (hW : ZW G ad A σ H) (hS0 : va_S A H0 H locs) (hv : zl ad κ v) (hkd : zk κ = true) (hc : vwCl[zc κ]? = some (C, T, N)) (hN : zn κ = N) (hk : k < N) (hlink : (Cond.fieldLink own index ref (T k).2.1 (T k).2.2.1).before args s = true) (hsame : ∀ x, s.fieldFound? (T k).1 (T k).2.1 (T k).2.2.1 = some x → s.fieldFound? ref (T k).2.1 (T k).2.2.1 = some x) (hfin : (T k).2.2.2 = false) {ty : FieldType} (hd : parseFieldDescriptor (T k).2.2.1 = some ty) (hn : narrow ty w = w) (hfit : fits ty w = true) (he : zv ad (zt κ k) v.toNat k x = w) (hrg : zg x) (hr : 10 ≤ zt κ k → zt κ k < 100 → zln ad (zt κ k - 10) x) (hbz : zt κ k = 1 → x = 0 ∨ x = 1) (hdg : decode cc pc = .ok (.putfield index, 3))
    (kk : ∀ (H1 : Heap) (locs1 : List Loc), ZW G ad A (zu σ κ v.toNat k x) H1 → va_S A H0 H1 locs1 → W p l e R s m args below meth c H1 locs1 cells slots Q (F0 m (pc + 3) ls rest)) : W p l e R s m args below meth c H locs cells slots Q (F0 m pc ls (w :: zr ad κ v :: rest)) := by
  obtain ⟨a, ha, er⟩ := zr_ref hv
  rw [er]
  have hz := (hW.1 _ _ _ ha).1
  unfold zat at hz
  rw [if_pos hkd] at hz
  obtain ⟨cell, q1, q2, q3, q4⟩ := hz
  have hap := va_apart (own := own) hts hin ty0 hty hnm hK.1 hc
  obtain ⟨hS, hfc, kC, hkC, hkind⟩ := hK.1.1 _ _ hc
  obtain ⟨cf, kf, fi, f, hi, hsl⟩ := hS k hk
  have hlay := hts _ (hin _ (u_in_lay hk))
  unfold u_lay at hlay
  rw [if_neg (by rw [hfin]; decide)] at hlay
  have hst := (u_facts hfc hkC (u_lays hts hin hk) hi).1
  have h6 := u_store hfc hkC hkind hlay hi hd hn hfit
  rw [hN] at q4
  refine W.putK hx hb (f := f) ⟨hown, hlink, ⟨_, _, _, hsame _ hi⟩, hst⟩ (by rw [q2]; exact h6) q1 q3 (by rw [hsl]; exact k2_hasslot (q4 k hk)) rfl rfl hdg fun H' e1 e2 e3 => ?_
  rw [hsl] at e1 ⊢
  refine kk H' _ (hW.put ha hrg hr hbz e3 ?_) (hS0.put e2 e3 (hW.1 _ _ _ ha).2)
  unfold zat
  rw [if_pos hkd, hN]
  refine t_OB.to (V := updV (fun k' => zv ad (zt κ k') v.toNat k' (σ κ v.toNat k')) k w) ⟨_, e1, q2, q3, t_set q4 hap hk w⟩ (fun j _ => ?_)
  by_cases hj : j = k
  · subst hj
    show (if j = j then w else _) = _
    rw [if_pos rfl, zu_same, he]
  · show (if j = k then w else _) = _
    rw [if_neg hj, zu_s hj]
theorem zz_putN (hx : p.tables.exec = Jvm.exec) (hb : c.code = cc) {own ref C host : String} {T : u_T} {N index κ k : Nat} {v x : Int} {w : Value} {Ts : List Cond} (hts : ∀ w ∈ Ts, w.before args s = true) (hin : ∀ w ∈ u_ws C T N, w ∈ Ts) (ty0 : Nat → FieldType) (hty : ∀ k, k < N → parseFieldDescriptor (T k).2.2.1 = some (ty0 k)) (hnm : ∀ a, a < N → ∀ b, b < N → a ≠ b → (T a).2.1 ≠ (T b).2.1) (hown : s.vm.findClass own = some m.cls) (hK : zK G s) (hW : ZW G ad A σ H) (hS0 : va_S A H0 H locs) (hv : zl ad κ v) (hkd : zk κ = true) (hc : vwCl[zc κ]? = some (C, T, N)) (hN : zn κ = N) (hk : k < N) (hlink : (own, index, ref, (T k).2.1, (T k).2.2.1, host) ∈ zNws) (hsame : ∀ x, s.fieldFound? (T k).1 (T k).2.1 (T k).2.2.1 = some x → s.fieldFound? ref (T k).2.1 (T k).2.2.1 = some x) (hfin : (T k).2.2.2 = false) {ty : FieldType} (hd : parseFieldDescriptor (T k).2.2.1 = some ty) (hn : narrow ty w = w) (hfit : fits ty w = true) (he : zv ad (zt κ k) v.toNat k x = w) (hrg : zg x) (hr : 10 ≤ zt κ k → zt κ k < 100 → zln ad (zt κ k - 10) x) (hbz : zt κ k = 1 → x = 0 ∨ x = 1) (hdg : decode cc pc = .ok (.putfield index, 3))
    (kk : ∀ (H1 : Heap) (locs1 : List Loc), ZW G ad A (zu σ κ v.toNat k x) H1 → va_S A H0 H1 locs1 → W p l e R s m args below meth c H1 locs1 cells slots Q (F0 m (pc + 3) ls rest)) : W p l e R s m args below meth c H locs cells slots Q (F0 m pc ls (w :: zr ad κ v :: rest)) := by
  obtain ⟨a, ha, er⟩ := zr_ref hv
  rw [er]
  have hz := (hW.1 _ _ _ ha).1
  unfold zat at hz
  rw [if_pos hkd] at hz
  obtain ⟨cell, q1, q2, q3, q4⟩ := hz
  have hap := va_apart (own := own) hts hin ty0 hty hnm hK.1 hc
  obtain ⟨hS, hfc, kC, hkC, hkind⟩ := hK.1.1 _ _ hc
  obtain ⟨cf, kf, fi, f, hi, hsl⟩ := hS k hk
  have hlay := hts _ (hin _ (u_in_lay hk))
  unfold u_lay at hlay
  rw [if_neg (by rw [hfin]; decide)] at hlay
  have hst := (u_facts hfc hkC (u_lays hts hin hk) hi).1
  have h6 := u_store hfc hkC hkind hlay hi hd hn hfit
  have hl2 : (Cond.fieldLinkNest own index ref (T k).2.1 (T k).2.2.1 host).before args s = true := va_Nw.use rfl (hK.2.2 _ hlink)
  rw [hN] at q4
  refine va_WputK hx hb (f := f) hown hl2 (hsame _ hi) hst (by rw [q2]; exact h6) q1 q3 (by rw [hsl]; exact k2_hasslot (q4 k hk)) rfl rfl hdg fun H' e1 e2 e3 => ?_
  rw [hsl] at e1 ⊢
  refine kk H' _ (hW.put ha hrg hr hbz e3 ?_) (hS0.put e2 e3 (hW.1 _ _ _ ha).2)
  unfold zat
  rw [if_pos hkd, hN]
  refine t_OB.to (V := updV (fun k' => zv ad (zt κ k') v.toNat k' (σ κ v.toNat k')) k w) ⟨_, e1, q2, q3, t_set q4 hap hk w⟩ (fun j _ => ?_)
  by_cases hj : j = k
  · subst hj
    show (if j = j then w else _) = _
    rw [if_pos rfl, zu_same, he]
  · show (if j = k then w else _) = _
    rw [if_neg hj, zu_s hj]
/-! arrays -/
theorem zin {x : Int} {n : Nat} (h0 : 0 ≤ x) (h1 : x < n) (hn : n < 1000000) : vp_in (zi x) n := by
  have hg : zg x := ⟨by omega, by omega⟩
  rintro (h | h)
  · rw [zi_lt0 hg] at h; omega
  · rw [zi_clamp hg] at h; omega
theorem zn_lt (κ : Nat) : zn κ < 1000000 := by unfold zn; split <;> decide
theorem zcell (hW : ZW G ad A σ H) {κ i a : Nat} (ha : ad κ i = some a) (hkd : zk κ = false) : H[a]? = some (arrV (G.2 κ) (zn κ) (fun k => zv ad (zt κ k) i k (σ κ i k))) := by
  have hz := (hW.1 _ _ _ ha).1
  unfold zat at hz
  rw [if_neg (by rw [hkd]; decide)] at hz
  exact hz
theorem zput_arr (hW : ZW G ad A σ H) {κ i a k : Nat} {x : Int} {w : Value} {H1 : Heap} (ha : ad κ i = some a) (hkd : zk κ = false) (he : zv ad (zt κ k) i k x = w) (hrg : zg x) (hr : 10 ≤ zt κ k → zt κ k < 100 → zln ad (zt κ k - 10) x) (hbz : zt κ k = 1 → x = 0 ∨ x = 1) (e1 : H1[a]? = some ((arrV (G.2 κ) (zn κ) (fun k => zv ad (zt κ k) i k (σ κ i k))).setSlot k w)) (e3 : ∀ q, q ≠ a → H1[q]? = H[q]?) : ZW G ad A (zu σ κ i k x) H1 := by
  refine hW.put ha hrg hr hbz e3 ?_
  unfold zat
  rw [if_neg (by rw [hkd]; decide), e1, arrV_store]
  congr 2
  funext j
  by_cases hj : j = k
  · subst hj
    show (if j = j then w else _) = _
    rw [if_pos rfl, zu_same, he]
  · show (if j = k then w else _) = _
    rw [if_neg hj, zu_s hj]
theorem zz_iald (hx : p.tables.exec = Jvm.exec) (hb : c.code = cc) (hK : zK G s) (hW : ZW G ad A σ H) {κ : Nat} {v x w : Int} (hv : zl ad κ v) (hkd : zk κ = false) (hf : zf κ = .int) (ht : zt κ x.toNat = 0) (h0 : 0 ≤ x) (h1 : x < zn κ) (he : σ κ v.toNat x.toNat = w) (hdg : decode cc pc = .ok (.iaload, 1))
    (kk : W p l e R s m args below meth c H locs cells slots Q (F0 m (pc + 1) ls (.int (zi w) :: rest))) : W p l e R s m args below meth c H locs cells slots Q (F0 m pc ls (.int (zi x) :: zr ad κ v :: rest)) := by
  subst he
  obtain ⟨a, ha, er⟩ := zr_ref hv
  rw [er]
  have hg : zg x := ⟨by omega, by have := zn_lt κ; omega⟩
  have hA := (hK.2.1 κ hkd).1
  rw [hf] at hA
  refine W.iald (v := .int (zi (σ κ v.toNat x.toNat))) hx hb (zcell hW ha hkd) (hA _ _) (fun q => by cases q) (by rw [arrV_size]; exact zin h0 h1 (zn_lt κ)) ?_ rfl rfl hdg kk
  rw [zi_clamp hg, arrV_read _ _ (by omega), zv_i (by rw [ht]; decide)]
theorem zz_zald (hx : p.tables.exec = Jvm.exec) (hb : c.code = cc) (hK : zK G s) (hW : ZW G ad A σ H) {κ : Nat} {v x w : Int} (hv : zl ad κ v) (hkd : zk κ = false) (hf : zf κ = .boolean) (ht : zt κ x.toNat = 1) (h0 : 0 ≤ x) (h1 : x < zn κ) (he : σ κ v.toNat x.toNat = w) (hdg : decode cc pc = .ok (.baload, 1))
    (kk : W p l e R s m args below meth c H locs cells slots Q (F0 m (pc + 1) ls (.int (zi w) :: rest))) : W p l e R s m args below meth c H locs cells slots Q (F0 m pc ls (.int (zi x) :: zr ad κ v :: rest)) := by
  subst he
  obtain ⟨a, ha, er⟩ := zr_ref hv
  rw [er]
  have hg : zg x := ⟨by omega, by have := zn_lt κ; omega⟩
  have hA := (hK.2.1 κ hkd).1
  rw [hf] at hA
  refine W.zald (v := .int (zi (σ κ v.toNat x.toNat))) hx hb (zcell hW ha hkd) (hA _ _) (fun q => by cases q) (by rw [arrV_size]; exact zin h0 h1 (zn_lt κ)) ?_ rfl rfl hdg kk
  rw [zi_clamp hg, arrV_read _ _ (by omega), zv_i (by rw [ht]; decide)]
theorem zz_aald (hx : p.tables.exec = Jvm.exec) (hb : c.code = cc) (hK : zK G s) (hW : ZW G ad A σ H) {κ : Nat} {v x : Int} {w : Value} (hv : zl ad κ v) (hkd : zk κ = false) (hf : (zf κ).isReference = true) (h0 : 0 ≤ x) (h1 : x < zn κ) (he : zv ad (zt κ x.toNat) v.toNat x.toNat (σ κ v.toNat x.toNat) = w) (hdg : decode cc pc = .ok (.aaload, 1))
    (kk : W p l e R s m args below meth c H locs cells slots Q (F0 m (pc + 1) ls (w :: rest))) : W p l e R s m args below meth c H locs cells slots Q (F0 m pc ls (.int (zi x) :: zr ad κ v :: rest)) := by
  obtain ⟨a, ha, er⟩ := zr_ref hv
  rw [er]
  have hg : zg x := ⟨by omega, by have := zn_lt κ; omega⟩
  refine W.aald (v := w) hx hb (zcell hW ha hkd) ((hK.2.1 κ hkd).1 _ _) hf (fun q => by cases q) (by rw [arrV_size]; exact zin h0 h1 (zn_lt κ)) ?_ rfl rfl hdg kk
  rw [zi_clamp hg, arrV_read _ _ (by omega), he]
theorem zz_iast (hx : p.tables.exec = Jvm.exec) (hb : c.code = cc) (hK : zK G s) (hW : ZW G ad A σ H) (hS : va_S A H0 H locs) {κ : Nat} {v x y : Int} (hv : zl ad κ v) (hkd : zk κ = false) (hf : zf κ = .int) (ht : zt κ x.toNat = 0) (h0 : 0 ≤ x) (h1 : x < zn κ) (hrg : zg y) (hdg : decode cc pc = .ok (.iastore, 1))
    (kk : ∀ (H1 : Heap) (locs1 : List Loc), ZW G ad A (zu σ κ v.toNat x.toNat y) H1 → va_S A H0 H1 locs1 → W p l e R s m args below meth c H1 locs1 cells slots Q (F0 m (pc + 1) ls rest)) : W p l e R s m args below meth c H locs cells slots Q (F0 m pc ls (.int (zi y) :: .int (zi x) :: zr ad κ v :: rest)) := by
  obtain ⟨a, ha, er⟩ := zr_ref hv
  rw [er]
  have hg : zg x := ⟨by omega, by have := zn_lt κ; omega⟩
  have hA := (hK.2.1 κ hkd).1
  rw [hf] at hA
  refine W.iast hx hb (zcell hW ha hkd) (hA _ _) (fun q => by cases q) (by rw [arrV_size]; exact zin h0 h1 (zn_lt κ)) rfl rfl hdg fun H1 e1 e2 e3 => ?_
  rw [zi_clamp hg] at e1 ⊢
  exact kk H1 _ (zput_arr hW ha hkd (by rw [zv_i (by rw [ht]; decide)]) hrg (fun h => by rw [ht] at h; omega) (fun h => by rw [ht] at h; omega) e1 e3) (hS.put e2 e3 (hW.1 _ _ _ ha).2)
theorem znar_b {y : Int} (h : y = 0 ∨ y = 1) : narrow .boolean (.int (zi y)) = .int (zi y) := by
  rcases h with h | h <;> subst h <;> decide +kernel
theorem zz_zast (hx : p.tables.exec = Jvm.exec) (hb : c.code = cc) (hK : zK G s) (hW : ZW G ad A σ H) (hS : va_S A H0 H locs) {κ : Nat} {v x y : Int} (hv : zl ad κ v) (hkd : zk κ = false) (hf : zf κ = .boolean) (ht : zt κ x.toNat = 1) (h0 : 0 ≤ x) (h1 : x < zn κ) (hy : y = 0 ∨ y = 1) (hdg : decode cc pc = .ok (.bastore, 1))
    (kk : ∀ (H1 : Heap) (locs1 : List Loc), ZW G ad A (zu σ κ v.toNat x.toNat y) H1 → va_S A H0 H1 locs1 → W p l e R s m args below meth c H1 locs1 cells slots Q (F0 m (pc + 1) ls rest)) : W p l e R s m args below meth c H locs cells slots Q (F0 m pc ls (.int (zi y) :: .int (zi x) :: zr ad κ v :: rest)) := by
  obtain ⟨a, ha, er⟩ := zr_ref hv
  rw [er]
  have hg : zg x := ⟨by omega, by have := zn_lt κ; omega⟩
  have hA := (hK.2.1 κ hkd).1
  rw [hf] at hA
  refine W.zast hx hb (zcell hW ha hkd) (hA _ _) (fun q => by cases q) (by rw [arrV_size]; exact zin h0 h1 (zn_lt κ)) rfl rfl hdg fun H1 e1 e2 e3 => ?_
  rw [zi_clamp hg, znar_b hy] at e1
  rw [zi_clamp hg]
  exact kk H1 _ (zput_arr hW ha hkd (by rw [zv_i (by rw [ht]; decide)]) (by rcases hy with h | h <;> rw [h] <;> exact ⟨by decide, by decide⟩) (fun h => by rw [ht] at h; omega) (fun _ => hy) e1 e3) (hS.put e2 e3 (hW.1 _ _ _ ha).2)
end ZR
