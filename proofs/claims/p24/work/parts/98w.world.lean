/-! THE START: what the tables know -/
theorem zf_cases (κ : Nat) : zf κ = .int ∨ zf κ = .boolean ∨ zf κ = .object RX1 ∨ zf κ = .object RX3 ∨ zf κ = .array .int := by
  unfold zf
  split <;> simp
theorem zkA_p {s : State} {args : Array Value} {ty : FieldType} (h : (Cond.arrayClass ty).before args s = true) (hp : ty = .int ∨ ty = .boolean) : ∃ cA, (ArrOfT s cA ty ∧ va_RA s cA ty) ∧ s.vm.findClass ("[" ++ ty.toString) = some cA ∧ ∃ kA comp, s.vm.classes[cA]? = some kA ∧ kA.kind = .array comp ty := by
  obtain ⟨cA, kA, comp, h1, h2, h3⟩ := Cond.arrayClass_spec h
  refine ⟨cA, ⟨fun n z => ⟨fun k h => (by cases h), kA, h2, comp, h3⟩, ?_⟩, h1, kA, comp, h2, h3⟩
  rcases hp with rfl | rfl <;> exact h1
theorem zkA_o {s : State} {args : Array Value} {C : String} (h : (Cond.arrayOver (.object C)).before args s = true) : ∃ cA, ArrOfT s cA (.object C) ∧ va_RA s cA (.object C) := by
  obtain ⟨comp, cA, kA, h1, -, h2, h3, h4⟩ := Cond.arrayOver_spec h
  exact ⟨cA, fun n z => ⟨fun k h => (by cases h), kA, h2, comp, h3⟩, kA, comp, h2, h3, h1, h4⟩
theorem zkA_a {s : State} {args : Array Value} (h : (Cond.arrayOver (.array .int)).before args s = true) : ∃ cA comp, (ArrOfT s cA (.array .int) ∧ va_RA s cA (.array .int)) ∧ s.vm.findClass (FieldType.array .int).toString = some comp ∧ ∃ kA, s.vm.classes[cA]? = some kA ∧ kA.kind = .array comp (.array .int) := by
  obtain ⟨comp, cA, kA, h1, h2, h3, h4⟩ := Cond.arrayOver_specA h
  exact ⟨cA, comp, ⟨fun n z => ⟨fun k h => (by cases h), kA, h2, comp, h3⟩, h4⟩, h1, kA, h2, h3⟩
def zgz (cI cB cD cR cII : ClassId) (κ : Nat) : ClassId := if zf κ = .int then cI else if zf κ = .boolean then cB else if zf κ = .object RX1 then cD else if zf κ = .object RX3 then cR else cII
theorem zgz_ok {s : State} {cI cB cD cR cII : ClassId} (h1 : ArrOfT s cI .int ∧ va_RA s cI .int) (h2 : ArrOfT s cB .boolean ∧ va_RA s cB .boolean) (h4 : ArrOfT s cD (.object RX1) ∧ va_RA s cD (.object RX1)) (h5 : ArrOfT s cR (.object RX3) ∧ va_RA s cR (.object RX3)) (h6 : ArrOfT s cII (.array .int) ∧ va_RA s cII (.array .int)) (κ : Nat) : ArrOfT s (zgz cI cB cD cR cII κ) (zf κ) ∧ va_RA s (zgz cI cB cD cR cII κ) (zf κ) := by
  unfold zgz
  rcases zf_cases κ with h | h | h | h | h <;> rw [h]
  · exact h1
  · exact h2
  · rw [if_neg (by decide), if_neg (by decide), if_pos rfl]; exact h4
  · rw [if_neg (by decide), if_neg (by decide), if_neg (by decide), if_pos rfl]; exact h5
  · rw [if_neg (by decide), if_neg (by decide), if_neg (by decide), if_neg (by decide)]; exact h6
set_option maxRecDepth 20000 in
theorem zNws_in : ∀ q ∈ zNws, zNf q ∈ lw_tbl := by decide +kernel
set_option maxRecDepth 20000 in
theorem zEx_in : ∀ X ∈ zEx, Cond.castable X X ∈ lw_tbl := by decide +kernel
set_option maxRecDepth 20000 in
theorem zDc_in : ∀ X ∈ zDc, Cond.declares X ∈ lw_tbl := by decide +kernel
set_option maxRecDepth 20000 in
theorem zStr_in : ∀ q ∈ zStr, Cond.stringRef RX6 q.1 q.2 ∈ lw_tbl := by decide +kernel
set_option maxRecDepth 20000 in
theorem zStr_ex : ∀ q ∈ zStr, Cond.exactly (.string RX6 q.1) "java/lang/String" ∈ flatC (Jvm.Cond.and given_1 narrow_1) := by decide +kernel
set_option maxRecDepth 20000 in
theorem zkn_in : Cond.instantiable RX0 5 ∈ lw_tbl ∧ Cond.instantiable RX1 13 ∈ lw_tbl ∧ Cond.instantiable RX2 6 ∈ lw_tbl ∧ Cond.instantiable RX3 12 ∈ lw_tbl ∧ Cond.instantiable RX4 4 ∈ lw_tbl ∧ Cond.instantiable RX5 9 ∈ lw_tbl ∧ Cond.instantiable RX6 10 ∈ lw_tbl ∧ Cond.arrayClass .int ∈ lw_tbl ∧ Cond.arrayClass .boolean ∈ lw_tbl ∧ Cond.arrayOver (.object RX1) ∈ lw_tbl ∧ Cond.arrayOver (.object RX3) ∈ lw_tbl ∧ Cond.arrayOver (.array .int) ∈ lw_tbl ∧ Cond.laysStatic Bundle.tN "UNASSIGNED_STACK" Bundle.steD ∈ lw_tbl ∧ Cond.laysStatic Bundle.tN "SUPPRESSED_SENTINEL" Bundle.listD ∈ lw_tbl ∧ Cond.initialized Bundle.tN ∈ lw_tbl := by decide +kernel
set_option maxRecDepth 20000 in
theorem zst_in : Cond.isRef (.static Bundle.tN "UNASSIGNED_STACK" Bundle.steD) ∈ flatC (Jvm.Cond.and given_1 narrow_1) ∧ Cond.isRef (.static Bundle.tN "SUPPRESSED_SENTINEL" Bundle.listD) ∈ flatC (Jvm.Cond.and given_1 narrow_1) ∧ Cond.not (.castable "java/lang/IllegalArgumentException" "java/lang/IndexOutOfBoundsException") ∈ flatC (Jvm.Cond.and given_1 narrow_1) ∧ Cond.not (.castable "java/lang/IllegalStateException" "java/lang/IndexOutOfBoundsException") ∈ flatC (Jvm.Cond.and given_1 narrow_1) ∧ Cond.not (.castable "java/lang/IllegalStateException" "java/lang/IllegalArgumentException") ∈ flatC (Jvm.Cond.and given_1 narrow_1) := by decide +kernel
theorem z_world {b : Nat} {s : State} (hts : ∀ w ∈ lw_tbl, w.before #[Value.ref b] s = true) (hg : (Jvm.Cond.and given_1 narrow_1).before #[Value.ref b] s = true) : ∃ G : zG, zK G s ∧ zE (fun q => s.heap.size ≤ q) s ∧ zAA G s ∧ zNC s := by
  have hs := flat_of_before _ hg
  obtain ⟨n0, n1, n2, n3, n4, n5, n6, a1, a2, a4, a5, a6, t1, t2, t3⟩ := zkn_in
  obtain ⟨f1, f2, f3, f4, f5⟩ := zst_in
  obtain ⟨c0, i0, k0⟩ := u_known (T := TX0) (N := 5) hts in_wsX00 (hts _ n0)
  obtain ⟨c1, i1, k1⟩ := u_known (T := TX1) (N := 13) hts in_wsX10 (hts _ n1)
  obtain ⟨c2, i2, k2⟩ := u_known (T := TX2) (N := 6) hts in_wsX20 (hts _ n2)
  obtain ⟨c3, i3, k3⟩ := u_known (T := TX3) (N := 12) hts in_wsX30 (hts _ n3)
  obtain ⟨c4, i4, k4⟩ := u_known (T := TX4) (N := 4) hts in_wsX40 (hts _ n4)
  obtain ⟨c5, i5, k5⟩ := u_known (T := TX5) (N := 9) hts in_wsX50 (hts _ n5)
  obtain ⟨c6, i6, k6⟩ := u_known (T := TX6) (N := 10) hts in_wsX60 (hts _ n6)
  obtain ⟨cI, hI, eI, kI, coI, gI1, gI2⟩ := zkA_p (hts _ a1) (Or.inl rfl)
  obtain ⟨cB, hB, -⟩ := zkA_p (hts _ a2) (Or.inr rfl)
  obtain ⟨cD, hD⟩ := zkA_o (hts _ a4)
  obtain ⟨cR, hR⟩ := zkA_o (hts _ a5)
  obtain ⟨cII, comp, hII, eC, kO, gO1, gO2⟩ := zkA_a (hts _ a6)
  have hc : comp = cI := by
    have h9 : s.vm.findClass (FieldType.array .int).toString = some cI := eI
    rw [eC] at h9
    exact Option.some.inj h9
  subst hc
  have hA : ∀ a : Nat, a < s.heap.size → ¬ (fun q => s.heap.size ≤ q) a := fun a h1 h2 => Nat.not_le.mpr h1 h2
  refine ⟨((fun c => [c0, c1, c2, c3, c4, c5, c6].getD c c0, fun c => [i0, i1, i2, i3, i4, i5, i6].getD c i0), zgz comp cB cD cR cII), ⟨⟨fun c q hq => ?_, fun k q hk => by cases hk⟩, fun κ _ => zgz_ok hI hB hD hR hII κ, fun q hq => va_Nw.of rfl (hts _ (zNws_in q hq))⟩, ⟨vx_Zqof (hts _ t1) (hts _ t3) (hs _ f1) hA, vx_Zqof (hts _ t2) (hts _ t3) (hs _ f2) hA, ⟨fun X hX => va_Nw.of rfl (hts _ (zEx_in X hX)), fun X hX => va_Nw.of rfl (hts _ (zDc_in X hX))⟩, fun q hq => ?_⟩, ⟨⟨kO, kI, coI, ?_, gO2, ?_, gI2⟩, va_AO.of (hts _ a4), va_AO.of (hts _ a5)⟩, va_Nc.of (hs _ f3), va_Nc.of (hs _ f4), va_Nc.of (hs _ f5)⟩
  · match c, hq with
    | 0, hq => cases hq; exact k0
    | 1, hq => cases hq; exact k1
    | 2, hq => cases hq; exact k2
    | 3, hq => cases hq; exact k3
    | 4, hq => cases hq; exact k4
    | 5, hq => cases hq; exact k5
    | 6, hq => cases hq; exact k6
    | n + 7, hq => cases hq
  · obtain ⟨a, -, -, -, ha, -⟩ := Cond.exactly_spec (hs _ (zStr_ex q hq))
    exact ⟨a, vk_R.of (hts _ (zStr_in q hq)) ha⟩
  · exact gO1
  · exact gI1
