theorem w_triv {G : zG} {A : Nat → Prop} {H : Heap} : ZW G (fun _ _ => none) A (fun _ _ _ => 0) H := ⟨fun κ i a h => (by cases h), fun _ _ _ _ _ h => (by cases h), fun _ _ _ => zg_01 (Or.inl rfl), fun _ _ _ h => (by cases h), fun _ _ _ _ => Or.inl rfl⟩
theorem w_CP0 {u t : zS} (h : CP u t 0 0 0) : CP (zsl u 90 0 (fun _ => 0)) t 0 0 0 := by
  obtain ⟨g, -, -⟩ := h
  exact ⟨CPg_ot g (fun κ i k hk => zsl_ne (by omega)) (fun κ k hk => rfl) (by rw [zsl_ne (by omega)]; exact g.2.1.2.1) (by rw [zsl_ne (by omega)]; exact g.2.1.2.2), fun d h1 => absurd h1 (Nat.not_lt_zero d), fun q h1 => absurd h1 (Nat.not_lt_zero q)⟩
set_option maxRecDepth 20000 in
theorem w_in : Cond.classLink RL 8 RX6 ∈ wsL_law0_r1 ∧ Cond.instantiable RX6 10 ∈ wsL_law0_r1 ∧ Cond.initialized RX6 ∈ wsL_law0_r1 ∧ Cond.classLink RL 80 RX7 ∈ wsL_law0_r1 ∧ Cond.instantiable RX7 42 ∈ wsL_law0_r1 ∧ Cond.initialized RX7 ∈ wsL_law0_r1 ∧ Cond.arrayClass .long ∈ wsL_law0_r1 ∧ Cond.methodLink RL 79 yX6_init ∈ wsL_law0_r1 ∧ Cond.instanceMethod yX6_init ∈ wsL_law0_r1 := by decide +kernel
set_option maxRecDepth 20000 in
theorem w_in2 : Cond.methodLink RL 82 yX7_init ∈ wsL_law0_r4 ∧ Cond.instanceMethod yX7_init ∈ wsL_law0_r4 := by decide +kernel
set_option maxHeartbeats 4000000 in
set_option maxRecDepth 100000 in
theorem whole_start {p : Program} {e : Env} {s : State} {m : MethodId} {below : List Frame} {meth : Method} {c : Code} (l : Launch) (hflags : l.flags = flags0) {b L : Nat} {xs : Nat → Int32} (hL : L ≤ 2560) (C0 : lw_At p s m meth c b L xs) : W p l e room_1 s m #[Value.ref b] below meth c s.heap [] 0 0 (lw_Z below #[Value.ref b] s) (entryFrame m ([Value.ref b] : List Value).toArray 7) := by
  obtain ⟨hx, hb, hr, hml, hown, hts, hXs, hbl, hlocks, hgv⟩ := C0
  have hst : l.stackTraces = false := by
    unfold Launch.stackTraces
    rw [hflags]
    decide
  have hown : s.vm.findClass RL = some m.cls := hown
  have S : CallFix p m c cL_law 7 s #[Value.ref b] lw_tbl RL := ⟨hx, hb, hml, hown, hts⟩
  obtain ⟨G, hK, hE, hAA, hNC⟩ := z_world hts hgv
  have hE : zE (zA0 s) s := hE
  obtain ⟨k1, k2, k3, k4, k5, k6, k7, k8, k9⟩ := w_in
  obtain ⟨k10, k11⟩ := w_in2
  have hw : ∀ w ∈ wsL_law0_r1, w.before #[Value.ref b] s = true := fun w h => hts w (in_wsL_law0_r1 w h)
  have hw3 : ∀ w ∈ wsL_law0_r4, w.before #[Value.ref b] s = true := fun w h => hts w (in_wsL_law0_r4 w h)
  obtain ⟨ls, e1, hl⟩ := zh_entry m [.ref b] (n := 7) (by intro v hv; simp at hv; subst hv; rfl) (Nat.le_of_ble_eq_true rfl)
  refine W.eq (g2 := F0 m 0 ls []) e1 ?_
  have hl : zh ls 7 [(0, .ref b)] := hl
  have hS0 : va_S (zA0 s) s.heap s.heap [] := va_S.rf
  refine zn_new (κ := 0) (T := TX6) (N := 10) (C := RX6) (own := RL) hx hb hts inX6 tyX6 tyX6_ok hown (hw _ k1) (hw _ k2) (hw _ k3) hK rfl rfl (by decide +kernel) (w_triv (A := zA0 s)) hS0 (Nat.le_of_ble_eq_true rfl) (Nat.le_of_ble_eq_true rfl) dL_law_0 (fun o1 H1 hN1 ho1 hz1 hk1 hS1 => ?_)
  refine lv_dup hx hb dL_law_3 rfl ?_
  refine zn_callI (A' := zA0 s) (N0 := H1.size) (As := []) (rest := [.ref o1]) S (c_X6_init l G (fun _ _ => none) (zA0 s) H1.size (fun _ _ _ => 0) o1 (fun q h => Nat.le_trans hS1.1 h) (Nat.le_of_eq ho1) (fun _ _ _ => rfl)) (cwI 0 hts gk_X6_init rfl rfl rfl (hw _ k3) (hw _ k8) (hw _ k9) rfl (by decide +kernel) ⟨Nat.le_of_ble_eq_true rfl, Nat.le_of_ble_eq_true rfl⟩) hK hAA hN1 (Nat.le_refl _) hS1 (fun q h => h) rfl hl.1.1 rfl (Nat.le_of_ble_eq_true rfl) dL_law_4 ⟨Nat.le_of_ble_eq_true rfl, Nat.le_of_ble_eq_true rfl⟩ (fun ad1 u1 H2 locs2 hp1 hW2 hz2 hk2 hS2 => ?_)
  refine W.eq (g2 := F0 m 7 ls [zr ad1 0 ((0 : Nat) : Int)]) (by rw [zr_nat, hp1.1]; rfl) ?_
  refine zz_astore_n (lv' := [(1, zr ad1 0 ((0 : Nat) : Int)), (0, .ref b)]) hx hb hl dL_law_7 rfl (by decide) rfl (fun ls hl => ?_)
  have hAq : ∀ q, H2.size ≤ q → zA0 s q := fun q h => Nat.le_trans hS2.1 h
  refine zn_new (κ := 30) (T := TX7) (N := 42) (C := RX7) (own := RL) hx hb hts inX7 tyX7 tyX7_ok hown (hw _ k4) (hw _ k5) (hw _ k6) hK rfl rfl (by decide +kernel) (w_triv (A := zA0 s)) hS2 (Nat.le_of_ble_eq_true rfl) (Nat.le_of_ble_eq_true rfl) dL_law_8 (fun o2 H3 hN3 ho3 hz3 hk3 hS3 => ?_)
  refine lv_dup hx hb dL_law_11 rfl ?_
  refine zn_callI (A' := fun q => H2.size ≤ q) (N0 := H3.size) (As := []) (rest := [.ref o2]) S (c_X7_init l G (fun _ _ => none) (fun q => H2.size ≤ q) H3.size (fun _ _ _ => 0) o2 (fun q h => Nat.le_trans hz3 h) (Nat.le_of_eq ho3) (fun _ _ => rfl)) (cwI 0 hts gk_X7_init rfl rfl rfl (hw _ k6) (hw3 _ k10) (hw3 _ k11) rfl (by decide +kernel) ⟨Nat.le_of_ble_eq_true rfl, Nat.le_of_ble_eq_true rfl⟩) hK hAA ⟨w_triv, hN3.2.1, hN3.2.2⟩ (Nat.le_refl _) hS3 hAq rfl hl.1.1 rfl (Nat.le_of_ble_eq_true rfl) dL_law_12 ⟨Nat.le_of_ble_eq_true rfl, Nat.le_of_ble_eq_true rfl⟩ (fun ad2 u2 H4 locs4 hp2 hW4 hz4 hk4 hS4 => ?_)
  refine W.eq (g2 := F0 m 15 ls [zr ad2 30 ((0 : Nat) : Int)]) (by rw [zr_nat, hp2.1]; rfl) ?_
  refine zz_astore_n (lv' := [(2, zr ad2 30 ((0 : Nat) : Int)), (1, zr ad1 0 ((0 : Nat) : Int)), (0, .ref b)]) hx hb hl dL_law_15 rfl (by decide) rfl (fun ls hl => ?_)
  have hC3 : ZW G ad1 (zA0 s) u1 H3 := hW2.heap hk3
  have hC4 : ZW G ad1 (zA0 s) u1 H4 := hC3.heapA fun κ i a ha => hk4 a (hC3.lt ha) (fun q => by have := hW2.lt ha; omega)
  refine zz_iconst hx hb dL_law_16 ?_
  refine va_newaK hx hb (atype := .long) (hw _ k7) rfl dL_law_17 rfl (by decide) (N := 1) (by decide) (by decide) (Nat.le_of_ble_eq_true rfl) (Nat.le_of_ble_eq_true rfl) rfl (fun H5 cA f1 f2 f3 f4 f5 => ?_)
  have hcA : cA = G.2 90 := Option.some.inj (f5.symm.trans (hK.2.1 90 rfl).2)
  subst hcA
  have h90 : ad1 90 0 = none := by rw [hp1.2.2.1 90 0 (by decide) (by decide)]
  have hC5 := hC4.heap f3
  have hap : ∀ κ i, ad1 κ i ≠ some H4.size := fun κ i q => by have := hC4.lt q; omega
  have hN90 : ∀ κ i, zlive κ i 0 0 = true → ¬ (κ = 90 ∧ i = 0) := by
    rintro κ i h ⟨rfl, rfl⟩
    cases h
  have hD5 : ZW G (zax ad1 90 0 H4.size) (zA0 s) (zsl u1 90 0 (fun _ => 0)) H5 := by
    refine hC5.enter (fun _ => 0) ⟨by decide, h90, fun κ h => by simp [zhl] at h⟩ hap hS4.1 (fun _ => ⟨by decide, by decide⟩) (fun _ _ => Or.inl rfl) (fun k h1 h2 => absurd h1 (by show ¬ 10 ≤ 2; decide)) ?_
    unfold zat
    rw [if_neg (by decide)]
    refine f1.trans (congrArg some (arrV_congr fun k hk => ?_))
    rw [zsl_same]
    rfl
  have hM5 : ZW G ad2 (zA0 s) u2 H5 := (hW4.heap f3).reA (fun κ i a ha => hAq a (hW4.1 κ i a ha).2)
  have hdj : zDj (zax ad1 90 0 H4.size) ad2 := fun κ i κ' i' a ha hb' => by
    have h1 := (hW4.1 _ _ _ hb').2
    have h2 := hW4.lt hb'
    by_cases q : κ = 90 ∧ i = 0
    · rw [q.1, q.2, zax_same] at ha
      cases ha
      omega
    · rw [zax_ne q] at ha
      have := hW2.lt ha
      omega
  refine W.eq (g2 := F0 m 19 ls [zr (zax ad1 90 0 H4.size) 90 ((0 : Nat) : Int)]) (by rw [zr_nat, zax_same]; rfl) ?_
  refine zz_astore_n (lv' := [(3, zr (zax ad1 90 0 H4.size) 90 ((0 : Nat) : Int)), (2, zr ad2 30 ((0 : Nat) : Int)), (1, zr ad1 0 ((0 : Nat) : Int)), (0, .ref b)]) hx hb hl dL_law_19 rfl (by decide) rfl (fun ls hl => ?_)
  refine zz_iconst hx hb dL_law_20 ?_
  refine zz_istore (lv' := [(4, .int (zi 0)), (3, zr (zax ad1 90 0 H4.size) 90 ((0 : Nat) : Int)), (2, zr ad2 30 ((0 : Nat) : Int)), (1, zr ad1 0 ((0 : Nat) : Int)), (0, .ref b)]) hx hb hl dL_law_21 (by decide) rfl (fun ls hl => ?_)
  rw [show zr ad1 0 ((0 : Nat) : Int) = zr (zax ad1 90 0 H4.size) 0 ((0 : Nat) : Int) from zr_to (zax_ne (by decide))] at hl
  refine zw_widen (k := 75 + 8 * 0) (n := 3116 + 63 * 0) (by decide) (by decide) ?_
  refine w_loop S hr hlocks hst hXs hbl hL hK hE hAA hNC (L + 1) 0 (zax ad1 90 0 H4.size) (zsl u1 90 0 (fun _ => 0)) u2 0 0 0 H5 locs4 ls (by omega) (by omega) ⟨hD5, hM5, hdj, fun κ i h => ?_, ?_, fun κ i h1 h2 h3 => ?_, hp2.2.1, w_CP0 (CP_start hp1 hp2), yWF_B (yWF_start hp2) (by decide) (by decide)⟩ (hS4.push (by omega) f3) hl
  · rw [zax_ne (hN90 κ i h)]
    exact hp1.2.1 κ i h
  · rw [zax_same]; rfl
  · rw [zax_ne (by omega), hp1.2.2.1 κ i h1 (by omega)]
set_option maxHeartbeats 4000000 in
theorem lw_walk (l : Launch) (hflags : l.flags = flags0) (b : Addr) (xs : List Int32) : MetFree l x (headSpec (Jvm.Cond.code x code maxLocals ret :: tables_1) room_1) (lw_P b xs) (fun _ _ _ _ _ => True) lw_Q := by
  refine MetFree.of_bodyS (code := code) (maxLocals := maxLocals) (ret := ret) (by decide) ?_ ?_
  · intro args s m h hn
    obtain ⟨meth, c, h1, h2, h3, h4, h5, h6, -, -⟩ := Cond.code_spec hn (atoms_spec (ws := Jvm.Cond.code x code maxLocals ret :: tables_1) h _ List.mem_cons_self)
    exact ⟨meth, c, h1, h2, h3, h4, h5, h6⟩
  · intro p e s m args below meth c s₁ B hml0 hP _
    obtain ⟨rfl, hx, hbd, hgv⟩ := hP
    obtain ⟨scr, harrAt, hlist, hof, hsmall⟩ := hx
    obtain ⟨hcb, hkn, -, -⟩ := State.arrayAt?_spec harrAt
    have hown : s.vm.findClass R_law = some m.cls := findClass_of_methodNamed B.named
    have hts0 : ∀ c ∈ (Jvm.Cond.code x code maxLocals ret :: tables_1), c.before #[Value.ref b] s = true := atoms_spec (ws := Jvm.Cond.code x code maxLocals ret :: tables_1) B.pre
    have hts : ∀ w ∈ lw_tbl, w.before #[Value.ref b] s = true := k2_hts_sels lw_privs (fun w hw => hts0 w (List.mem_cons_of_mem _ hw)) lw_privs_ok
    have hml : c.maxLocals = 7 := B.maxLocals_eq (hts0 _ List.mem_cons_self)
    have X₀ : Stand p l e room_1 s m #[Value.ref b] below meth c s₁ [] 0 0 := Stand.of_body B
    have hh0 : s₁.heap = s.heap := by rw [B.state]; rfl
    have hsz : scr.slots.size = xs.length := by rw [← Array.length_toList, hlist, List.length_map]
    have hval : ∀ j : Nat, j < xs.length → scr.slots[j]? = some (.int (xs.getD j 0)) := fun j hj => by
      rw [← Array.getElem?_toList, hlist]
      simp [hj]
    have hbl : b < s.heap.size := (Array.getElem?_eq_some_iff.mp hcb).1
    have hX : va_X b xs.length (fun j => xs.getD j 0) s s.heap := ⟨scr, hcb, hof, hkn, hsz, hval⟩
    have K : W p l e room_1 s m #[Value.ref b] below meth c s₁.heap [] 0 0 (lw_Z below #[Value.ref b] s) (entryFrame m ([Value.ref b] : List Value).toArray 7) := by
      rw [hh0]
      exact whole_start l hflags hbd ⟨B.exec, B.bytes, B.returns, hml, hown, hts, hX, hbl, B.notSynchronized, hgv⟩
    obtain ⟨t, a1, o, b1, b2, b3⟩ := K s₁ rfl X₀
    exact ⟨t, o, a1, b1, b2, b3⟩
theorem lw_pre_spec {args : Array Value} {s : State} (h : (Jvm.Cond.and given_1 narrow_1).before args s = true) (hr : rest_1_c.before args s = true) : ∃ (b : Addr) (xs : List Int32), lw_P b xs args s := by
  have hs := flat_of_before _ h
  have hq := flat_of_before _ hr
  have hc : (Cond.count 1).before args s = true := hs _ (by decide +kernel)
  have harr : (Cond.arrayOf (.arg 0) .int).before args s = true := hs _ (by decide +kernel)
  have hle : (Cond.le (.length (.arg 0)) (.int 2560)).before args s = true := hs _ (by decide +kernel)
  have hlen : (Cond.isInt (.length (.arg 0))).before args s = true := hq _ (by decide +kernel)
  have hall : (Cond.all (.arg 0) (.isInt (.elem (.arg 0) (.index 0)))).before args s = true := hq _ (by decide +kernel)
  obtain ⟨b, xs, hb, hx⟩ := State.ints_of_pre rfl harr hlen hall
  have hsm : xs.length < 2 ^ 31 := hx.choose_spec.2.2.2
  have hev : (Term.length (.arg 0)).eval args s none [] s = some (.int xs.length.toInt32) := hx.length_eval hb
  have hv := Cond.le_ints hev (show (Term.int 2560).eval args s none [] s = some (.int 2560) from rfl)
  have hd : xs.length.toInt32 ≤ 2560 := by
    simpa [Cond.before, Cond.holds, hv] using hle
  have hN : xs.length ≤ 2560 := (Int32.ofNat_le_ofNat hsm (by decide)).mp (show Int32.ofNat xs.length ≤ Int32.ofNat 2560 from hd)
  exact ⟨b, xs, Cond.one_arg hc (show args[0]? = some (.ref b) from hb), hx, hN, h⟩
theorem lw_comes (l : Launch) (hflags : l.flags = flags0) : Comes l x (Jvm.Cond.code x code maxLocals ret :: tables_1) room_1 (fun tb e args s => Calls_1 tb e args s ∧ rest_1 tb e args s ∧ Pre_1 tb e args s)
    (fun _ _ args s o t => lw_Q args s o t) := by
  intro p e ha hc hk s m args below hf hfit hheap happ hpre
  obtain ⟨b, xs, hP⟩ := lw_pre_spec hpre.2.2 hpre.2.1
  obtain ⟨k, o, h1, h2, h3, hQ⟩ := lw_walk l hflags b xs p e ha hc hk s m args below hf ((Spec.applies_iff_loose hf).mp happ).1 hP trivial
  exact ⟨k, o, h1, h2, h3, hQ⟩
theorem lw_frame {s t : State} {o : Outcome} {args : Array Value} (h : Framed s o t [] 601024 7293034) :
    Framed s o t (fieldLocs frame_1_writes args s ++ arrayLocs frame_1_arrays args s ++ staticLocs frame_1_statics s) 601024 7293034 := h
theorem lw_limb (L : Cond) (hL : ∀ (args : Array Value) (s t : State), L.after args s (.returned (some (.int 1))) t = true) :
    ArmFor flags0 classFile x code maxLocals ret World_1 tables_1 room_1 Calls_1 rest_1 Pre_1
      (fun tb e a s o t => postC L tb e a s o t ∧ Framed s o t (fieldLocs frame_1_writes a s ++ arrayLocs frame_1_arrays a s ++ staticLocs frame_1_statics s) 601024 7293034) := by
  intro l hflags _ _ p e ha hc hk s m args below hf hfit hheap happ hpre
  obtain ⟨k, o, h1, h2, h3, rfl, hF⟩ := lw_comes l hflags p e ha hc hk s m args below hf hfit hheap happ hpre
  exact ⟨k, _, h1, h2, h3, hL args s _, lw_frame hF⟩
theorem i_vc : Claimed_1_1 ∧ Claimed_1_2 := ⟨lw_limb limb_1_1 (fun args s t => by simp [limb_1_1, Cond.after, Cond.holds, Cond.value]), lw_limb limb_1_2 (fun args s t => Cond.after_iff.mpr (by
  first | (rw [show limb_1_2 = Cond.eq .result (.int 1) from rfl, Cond.eq_ints (x := 1) (y := 1) rfl rfl]; simp; done) | (simp [limb_1_2, Cond.value, Term.eval]; done)))⟩

