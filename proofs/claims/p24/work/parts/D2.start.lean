/-! P24: THE DRIVES: words, rows, the start -/
def wsD : List Cond := Cond.code yL_drives cL_drives 13 (some .boolean) :: lw_tbl.filter goodWord
theorem wD_f {w : Cond} (hm : w ∈ lw_tbl) (h : goodWord w = true) : w ∈ wsD := List.mem_cons_of_mem _ (List.mem_filter.mpr ⟨hm, h⟩)
theorem goodIn_f {ws : List Cond} (hm : ∀ w ∈ ws, w ∈ lw_tbl) (h : ws.all goodWord = true) : GoodIn wsD ws := goodIn_sub (fun w hw => wD_f (hm w hw) (List.all_eq_true.mp h w hw)) h
set_option maxRecDepth 20000 in
theorem wD_code : Cond.code yL_drives cL_drives 13 (some .boolean) ∈ lw_tbl := by decide +kernel
set_option maxRecDepth 20000 in
theorem gk_L_drives : GoodIn lw_tbl (va_wsS RL 174 yL_drives wsD) := goodIn_app (goodIn_sub (lw_in [40, 41, 25] (by decide +kernel)) (by decide +kernel)) (fun w hw => by
  rcases List.mem_cons.mp hw with h | h
  · rw [h]
    exact ⟨wD_code, good_of_word (by decide +kernel)⟩
  · exact ⟨(List.mem_filter.mp h).1, good_of_word (List.mem_filter.mp h).2⟩)
set_option maxRecDepth 20000 in
theorem wD_in : Cond.classLink RL 8 RX6 ∈ wsD ∧ Cond.instantiable RX6 10 ∈ wsD ∧ Cond.initialized RX6 ∈ wsD ∧ Cond.methodLink RL 152 yX6_init ∈ wsD ∧ Cond.instanceMethod yX6_init ∈ wsD ∧ Cond.arrayClass .int ∈ wsD ∧ Cond.constant RL 157 (2000000000) ∈ wsD := ⟨wD_f (by decide +kernel) (by decide +kernel), wD_f (by decide +kernel) (by decide +kernel), wD_f (by decide +kernel) (by decide +kernel), wD_f (by decide +kernel) (by decide +kernel), wD_f (by decide +kernel) (by decide +kernel), wD_f (by decide +kernel) (by decide +kernel), wD_f (by decide +kernel) (by decide +kernel)⟩
set_option maxRecDepth 20000 in
theorem inD6 : ∀ w ∈ u_ws RX6 TX6 10, w ∈ wsD := fun w hw => wD_f (in_wsX60 w hw) (List.all_eq_true.mp (by decide +kernel : (u_ws RX6 TX6 10).all goodWord = true) w hw)
set_option maxRecDepth 20000 in
theorem gD_L_drawn : GoodIn wsD (va_wsS RL 153 yL_drawn wsL_drawn) := goodIn_app (goodIn_f (lw_in [215, 216, 25] (by decide +kernel)) (by decide +kernel)) (goodIn_f gw_wsL_drawn (by decide +kernel))
set_option maxRecDepth 20000 in
theorem gD_L_street : GoodIn wsD (va_wsS RL 158 yL_street wsL_street) := goodIn_app (goodIn_f (lw_in [221, 222, 25] (by decide +kernel)) (by decide +kernel)) (goodIn_f gw_wsL_street (by decide +kernel))
set_option maxRecDepth 20000 in
theorem gD_L_driver : GoodIn wsD (va_wsS RL 161 yL_driver wsL_driver) := goodIn_app (goodIn_f (lw_in [348, 349, 25] (by decide +kernel)) (by decide +kernel)) (goodIn_f gw_wsL_driver (by decide +kernel))
set_option maxRecDepth 20000 in
theorem gD_L_sum : GoodIn wsD (va_wsS RL 163 yL_sum wsL_sum) := goodIn_app (goodIn_f (lw_in [419, 420, 25] (by decide +kernel)) (by decide +kernel)) (goodIn_f gw_wsL_sum (by decide +kernel))
set_option maxRecDepth 20000 in
theorem gD_L_does : GoodIn wsD (va_wsS RL 166 yL_does wsL_does) := goodIn_app (goodIn_f (lw_in [557, 558, 25] (by decide +kernel)) (by decide +kernel)) (goodIn_f gw_wsL_does (by decide +kernel))
set_option maxRecDepth 20000 in
theorem gD_L_isRefused : GoodIn wsD (va_wsS RL 118 yL_isRefused wsL_isRefused) := goodIn_app (goodIn_f (lw_in [627, 628, 25] (by decide +kernel)) (by decide +kernel)) (goodIn_f gw_wsL_isRefused (by decide +kernel))
set_option maxRecDepth 20000 in
theorem gD_L_isLawful : GoodIn wsD (va_wsS RL 170 yL_isLawful wsL_isLawful) := goodIn_app (goodIn_f (lw_in [807, 808, 25] (by decide +kernel)) (by decide +kernel)) (goodIn_f gw_wsL_isLawful (by decide +kernel))
set_option maxRecDepth 20000 in
theorem gD_X6_init : GoodIn wsD wsX6_init := goodIn_f gw_wsX6_init (by decide +kernel)
/-- a city with nothing in it, as the pure steps have it -/
noncomputable def pS0 : zS := fun κ _ k => if κ = 30 then zup (zd0 30) 2 300 k else if κ = 47 then ywf 100000 (fun _ => 0) (fun _ => 0) (fun _ => 0) 0 10 (k / 10) (k % 10) else 0
def pSt (t : zS) : Prop := (∀ k, t 30 0 k = zup (zd0 30) 2 300 k) ∧ (∀ κ, 44 ≤ κ → κ ≤ 81 → zn κ ≠ 0 → κ ≠ 47 → ∀ k, t κ 0 k = 0) ∧ ∀ a b, a < 10 → b < 10 → t 47 0 (10 * a + b) = ywf 100000 (fun _ => 0) (fun _ => 0) (fun _ => 0) 0 10 a b
theorem pS0_ok : pSt pS0 := by
  refine ⟨fun k => if_pos rfl, fun κ h1 h2 h3 h4 k => ?_, fun a b ha hb => ?_⟩
  · show (if κ = 30 then _ else if κ = 47 then _ else (0 : Int)) = 0
    rw [if_neg (by omega), if_neg h4]
  · show (if 47 = 30 then _ else if 47 = 47 then _ else (0 : Int)) = _
    rw [if_neg (by decide), if_pos rfl, show (10 * a + b) / 10 = a by omega, show (10 * a + b) % 10 = b by omega]
theorem yWF_start {t : zS} (h : pSt t) : yWF t 0 0 0 0 0 := by
  obtain ⟨h30, hz, hw⟩ := h
  have e : ∀ κ k, 44 ≤ κ → κ ≤ 81 → zn κ ≠ 0 → κ ≠ 47 → t κ 0 k = 0 := fun κ k h1 h2 h3 h4 => hz κ h1 h2 h3 h4 k
  have e8 : t 30 0 8 = 0 := by rw [h30]; rfl
  have e23 : t 30 0 23 = 0 := by rw [h30]; rfl
  have e3 : t 30 0 3 = 0 := by rw [h30]; rfl
  have e1 : t 30 0 1 = 0 := by rw [h30]; rfl
  have e2 : t 30 0 2 = 300 := by rw [h30]; rfl
  have e17 : t 30 0 17 = 0 := by rw [h30]; rfl
  have e44 : t 44 0 = fun _ => 0 := funext fun k => e 44 k (by decide) (by decide) (by decide) (by decide)
  have e45 : t 45 0 = fun _ => 0 := funext fun k => e 45 k (by decide) (by decide) (by decide) (by decide)
  have e46 : t 46 0 = fun _ => 0 := funext fun k => e 46 k (by decide) (by decide) (by decide) (by decide)
  refine ⟨⟨⟨by omega, by omega, by omega⟩, ⟨e8, e23, e3⟩, by omega, by omega, by omega, fun s hs => absurd hs (Nat.not_lt_zero s), fun a b ha hb => ?_⟩, fun d hd => absurd hd (Nat.not_lt_zero d), fun q hq => absurd hq (Nat.not_lt_zero q), fun d _ _ => ⟨⟨?_, ?_, ?_, ?_, ?_, ?_, ?_, ?_⟩, fun j _ => ?_⟩, fun q _ _ => ⟨?_, ?_, ?_⟩⟩
  · rw [hw a b ha hb, e44, e45, e46]
  · exact e 50 _ (by decide) (by decide) (by decide) (by decide)
  · exact e 51 _ (by decide) (by decide) (by decide) (by decide)
  · exact e 52 _ (by decide) (by decide) (by decide) (by decide)
  · exact e 58 _ (by decide) (by decide) (by decide) (by decide)
  · exact e 60 _ (by decide) (by decide) (by decide) (by decide)
  · exact e 61 _ (by decide) (by decide) (by decide) (by decide)
  · exact e 62 _ (by decide) (by decide) (by decide) (by decide)
  · rw [e 55 _ (by decide) (by decide) (by decide) (by decide)]; exact ⟨by decide, by decide⟩
  · exact e 59 _ (by decide) (by decide) (by decide) (by decide)
  · exact e 64 _ (by decide) (by decide) (by decide) (by decide)
  · exact e 73 _ (by decide) (by decide) (by decide) (by decide)
  · exact e 74 _ (by decide) (by decide) (by decide) (by decide)
theorem CP_start {o1 : Nat} {ad ad' : zA} {σ u t : zS} (h : zpHail o1 ad σ ad' u) (g : pSt t) : CP u t 0 0 0 := by
  obtain ⟨-, -, -, -, h0, h1, h6, -, -⟩ := h
  obtain ⟨h30, -, hw⟩ := g
  refine ⟨⟨⟨?_, ?_, h1⟩, ⟨?_, ?_, ?_⟩, fun i hi => absurd hi (Nat.not_lt_zero i), fun i hi => absurd hi (Nat.not_lt_zero i), fun k hk => absurd hk (Nat.not_lt_zero k), fun a b ha hb => ?_⟩, fun d hd => absurd hd (Nat.not_lt_zero d), fun q hq => absurd hq (Nat.not_lt_zero q)⟩
  · rw [h0]; rfl
  · rw [h0]; rfl
  · rw [h0, h30]; rfl
  · rw [h0, h30]; rfl
  · rw [h0, h30]; rfl
  · rw [hw a b ha hb, h6 a b ha hb]
    rcases ywf_cm (o := fun _ => 0) (p := fun _ => 0) (t := fun _ => 0) (n := 0) (fun s hs => absurd hs (Nat.not_lt_zero s)) a b with ⟨q1, q2⟩ | ⟨q1, q2⟩
    · exact Or.inl ⟨by omega, q2⟩
    · exact Or.inr ⟨q1, q2⟩
theorem pSt_v {t : zS} (h : pSt t) : t 30 0 1 = 0 ∧ t 30 0 2 = 300 := by
  obtain ⟨h30, -, -⟩ := h
  exact ⟨by rw [h30]; rfl, by rw [h30]; rfl⟩
theorem pV_00 {t : zS} {sl : Prop} : pV t sl 0 0 := ⟨⟨fun q hq => absurd hq (Nat.not_lt_zero q), fun d hd => absurd hd (Nat.not_lt_zero d)⟩, fun d hd => absurd hd (Nat.not_lt_zero d), fun q hq => absurd hq (Nat.not_lt_zero q)⟩
theorem pE_00 {t : zS} : pE t 0 0 := ⟨fun q hq => absurd hq (Nat.not_lt_zero q), fun d hd => absurd hd (Nat.not_lt_zero d)⟩
theorem pIn_cg {σ u t : zS} {sl : Prop} {nr : Nat} (h : pIn σ t sl nr) (e : ∀ κ i k, 86 ≤ κ → u κ i k = σ κ i k) : pIn u t sl nr := by
  obtain ⟨h1, h2, h3, h4, h5, h6⟩ := h
  refine ⟨h1, by rw [e _ _ _ (by decide)]; exact h2, by rw [e _ _ _ (by decide)]; exact h3, by rw [e _ _ _ (by decide)]; exact h4, by rw [e _ _ _ (by decide)]; exact h5, fun q hq => pH2_cg (h6 q hq) (fun j _ => e _ _ _ (by decide))⟩
theorem pHm_cg {σ u t : zS} {nr : Nat} (h : pHm σ t nr) (e : ∀ κ i k, 86 ≤ κ → u κ i k = σ κ i k) : pHm u t nr := fun q hq => pH1_cg (h q hq) (fun j _ => e _ _ _ (by decide))
theorem pC_cc {ad : zA} {σ t : zS} {nd nr ns : Nat} {c c' : Int} (h : pC ad σ t nd nr ns c) (e : c = c') : pC ad σ t nd nr ns c' := e ▸ h
/-- what stands when the drives are called -/
def zPR (G : zG) (A : Nat → Prop) (N0 b L : Nat) (xs : Nat → Int32) (U : State) : Prop := zXs b L xs U ∧ N0 ≤ U.heap.size ∧ zK G U ∧ zE A U ∧ zAA G U ∧ zNC U
section ZD2
variable {p : Program} {l : Launch} {e : Env} {R : Room} {s : State} {m : MethodId} {args : Array Value} {below : List Frame} {meth : Method} {c : Code} {H : Heap} {locs : List Loc} {cells slots : Nat} {Q : State → Prop}
variable {cc : ByteArray} {pc : Nat} {ls : Array Slot} {rest : List Value} {G : zG} {ad : zA} {A A0 : Nat → Prop} {σ : zS} {H0 : Heap} {N0 : Nat}
theorem zPR.blind {b L : Nat} {xs : Nat → Int32} {av : List Value} : FrameBlind (va_Pc av (zPR G A N0 b L xs)) := fun a U g mk q => ⟨q.1, ⟨va_X.moved (u := U) (U := U.calling g mk a) (Vm.Alike.refl U.vm) q.2.1.1, q.2.1.2⟩, q.2.2.1, zK.same (u := U) (U := U.calling g mk a) rfl q.2.2.2.1, zE.same (u := U) (U := U.calling g mk a) rfl rfl q.2.2.2.2.1, zAA.same (u := U) (U := U.calling g mk a) rfl q.2.2.2.2.2.1, zNC.same (u := U) (U := U.calling g mk a) rfl q.2.2.2.2.2.2⟩
theorem zd_retz (hx : p.tables.exec = Jvm.exec) (hb : c.code = cc) (hr : meth.sig.returnType = some .boolean) (hlocks : meth.locks = false) {post : Int → Prop} (hS : va_S A s.heap H locs) {x : Int} (h01 : x = 0 ∨ x = 1) (hp : post x) (hdg : decode cc pc = .ok (.ireturn, 1)) :
    W p l e R s m args below meth c H locs cells slots (MQ below (zQg A post) args s cells slots A) (F0 m pc ls [.int (zi x)]) :=
  W.zret hx hb hr (znar_b h01) (fun t ht _ => ⟨⟨x, rfl, hp⟩, hS.F ht⟩) hS.2.2 hdg hlocks
/-- the law's drives are called -/
theorem zl_drives {nL mc ms n index : Nat} {rm : Room} {Ts ws : List Cond} {own : String} {b L : Nat} {xs : Nat → Int32} {post : Int → Prop} {As st0 : List Value}
    (S : CallFix p m c cc nL s args Ts own) (hM : Met l yL_drives ws rm (va_Pc As (zPR G A N0 b L xs)) (zQg A post) mc ms A) (cw : CallB R s args own index yL_drives cL_drives 13 (some .boolean) ws rm mc ms n ∧ (Cond.static yL_drives).before args s = true) (hX : va_X b L xs s s.heap) (hbl : b < s.heap.size) (hbA : ¬ A b) (hN : N0 ≤ s.heap.size) (hK : zK G s) (hE : zE A s) (hAA : zAA G s) (hNC : zNC s) (hS : va_S A s.heap H locs)
    (hn : As.length = n) (hsize : ls.size = nL) (hst : As.reverse ++ rest = st0) (hrest : (rest.map fun v => v.category).sum ≤ 8) (hdg : decode cc pc = .ok (.invokestatic index, 3)) (hf : cells + mc ≤ R.cells ∧ slots + ms ≤ R.slots)
    (kk : ∀ (x : Int) (H1 : Heap) (locs1 : List Loc), post x → va_S A s.heap H1 locs1 → W p l e R s m args below meth c H1 locs1 (cells + mc) (slots + ms) Q (F0 m (pc + 3) ls (.int (zi x) :: rest))) : W p l e R s m args below meth c H locs cells slots Q (F0 m pc ls st0) := by
  have hr := va_runS (e := e) (below := below) (meth := meth) (locs := locs) (g := F0 m pc ls st0) (rest := rest) S hM cw ⟨zPR.blind, fun U hU hWm => ⟨rfl, ⟨by rw [hU]; exact (hX.kept (hS.2.1 b hbl hbA)).moved hWm.alike, by rw [hU]; exact Nat.lt_of_lt_of_le hbl hS.1⟩, by rw [hU]; exact Nat.le_trans hN hS.1, hK.warm hWm, hE.go hS hU hWm, hAA.warm hWm, hNC.moved hWm.alike⟩⟩ rfl hn hsize hst.symm (lv_room hrest) hdg hf
  intro T hT X
  obtain ⟨v, st₀, t, T', L9, h0, X', hL9, e1, e2, ⟨⟨x, hv, hp⟩, hF⟩, st⟩ := hr T hT X
  cases hv
  obtain ⟨k1, k2, k3⟩ := zl_keep h0 e1 hS (A := A) (fun q h => h) hL9 hF
  obtain ⟨t2, a1, b1⟩ := kk x T'.heap (locs ++ L9) hp k3 T' rfl X'
  exact ⟨t2, st t2 a1, b1⟩
/-- an array of the law's -/
theorem zd_newarr (hx : p.tables.exec = Jvm.exec) (hb : c.code = cc) {κ N : Nat} (hk : κ = 86 ∨ κ = 87 ∨ κ = 88) (harr : (Cond.arrayClass .int).before args s = true) (hK : zK G s) (hW : ZW G ad A σ H) (hS : va_S A s.heap H locs) (hA : ∀ q, s.heap.size ≤ q → A q) (hf : ad κ 0 = none) (hN : zn κ = N) (hcells : cells + 1 ≤ R.cells) (hslots : slots + N ≤ R.slots) (hdg : decode cc pc = .ok (.newarray .int, 2))
    (kk : ∀ (a : Nat) (H1 : Heap), ZW G (zax ad κ 0 a) A (zsl σ κ 0 (fun _ => 0)) H1 → va_S A s.heap H1 locs → W p l e R s m args below meth c H1 locs (cells + 1) (slots + N) Q (F0 m (pc + 2) ls (zr (zax ad κ 0 a) κ ((0 : Nat) : Int) :: rest))) : W p l e R s m args below meth c H locs cells slots Q (F0 m pc ls (.int (zi (N : Int)) :: rest)) := by
  have hNle : N ≤ 48 := by rcases hk with rfl | rfl | rfl <;> (rw [← hN]; decide)
  have hg : zg (N : Int) := ⟨by omega, by omega⟩
  have hN2 : (zi (N : Int)).toNatClampNeg = N := by rw [zi_clamp hg]; omega
  refine va_newaK hx hb (atype := .int) harr rfl hdg rfl (fun q => by rw [zi_lt0 hg] at q; omega) hN2 (by show N * 4 ≤ _; omega) hcells hslots rfl fun H1 cA e1 z1 o1 hAr hNm => ?_
  have hcA : cA = G.2 κ := by
    rcases hk with rfl | rfl | rfl
    · exact Option.some.inj (hNm.symm.trans (hK.2.1 86 rfl).2)
    · exact Option.some.inj (hNm.symm.trans (hK.2.1 87 rfl).2)
    · exact Option.some.inj (hNm.symm.trans (hK.2.1 88 rfl).2)
  subst hcA
  have hW1 := hW.heap o1
  have hap : ∀ κ' i, ad κ' i ≠ some H.size := fun κ' i q => by have := hW.lt q; omega
  have hD : ZW G (zax ad κ 0 H.size) A (zsl σ κ 0 (fun _ => 0)) H1 := by
    refine hW1.enter (fun _ => 0) ⟨by omega, hf, fun κ' h => by rcases hk with rfl | rfl | rfl <;> simp [zhl] at h⟩ hap (hA _ hS.1) (fun _ => ⟨by decide, by decide⟩) (fun _ _ => Or.inl rfl) (fun k h1 h2 => absurd h1 (by have := zt_hi (κ := κ) (k := k) (by omega); omega)) ?_
    unfold zat
    rw [if_neg (by rcases hk with rfl | rfl | rfl <;> decide)]
    rw [hN]
    refine e1.trans (congrArg some (arrV_congr fun k hk2 => ?_))
    rw [zsl_same]
    have h3 := zt_hi (κ := κ) (k := k) (by omega)
    rcases hk with rfl | rfl | rfl <;> rfl
  refine W.eq (g2 := F0 m (pc + 2) ls (zr (zax ad κ 0 H.size) κ ((0 : Nat) : Int) :: rest)) (by rw [zr_nat, zax_same]; rfl) ?_
  exact kk H.size H1 hD (hS.push (by omega) o1)
end ZD2
