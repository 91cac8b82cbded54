/-! ARRAYS OF ARRAYS ENTER -/
def zaxs (ad : zA) (κ N : Nat) (f : Nat → Nat) : zA := fun κ' i' => if κ' = κ ∧ i' < N then some (f i') else ad κ' i'
def zslr (σ : zS) (κ N : Nat) : zS := fun κ' i' k => if κ' = κ ∧ i' < N then zd0 κ k else σ κ' i' k
theorem zaxs_zero {ad : zA} {κ : Nat} {f : Nat → Nat} : zaxs ad κ 0 f = ad := by
  funext κ' i'
  unfold zaxs
  rw [if_neg (by omega)]
theorem zslr_zero {σ : zS} {κ : Nat} : zslr σ κ 0 = σ := by
  funext κ' i' k
  unfold zslr
  rw [if_neg (by omega)]
theorem zaxs_succ {ad : zA} {κ N : Nat} {f : Nat → Nat} : zax (zaxs ad κ N f) κ N (f N) = zaxs ad κ (N + 1) f := by
  funext κ' i'
  unfold zax zaxs
  by_cases h : κ' = κ ∧ i' = N
  · rw [if_pos h, if_pos (by omega), h.2]
  · rw [if_neg h]
    by_cases h2 : κ' = κ ∧ i' < N
    · rw [if_pos h2, if_pos (by omega)]
    · rw [if_neg h2, if_neg (by omega)]
theorem zslr_succ {σ : zS} {κ N : Nat} : zsl (zslr σ κ N) κ N (zd0 κ) = zslr σ κ (N + 1) := by
  funext κ' i' k
  unfold zsl zslr
  by_cases h : κ' = κ ∧ i' = N
  · rw [if_pos h, if_pos (by omega)]
  · rw [if_neg h]
    by_cases h2 : κ' = κ ∧ i' < N
    · rw [if_pos h2, if_pos (by omega)]
    · rw [if_neg h2, if_neg (by omega)]
section ZMN
variable {p : Program} {l : Launch} {e : Env} {R : Room} {s : State} {m : MethodId} {args : Array Value} {below : List Frame} {meth : Method} {c : Code} {H : Heap} {locs : List Loc} {cells slots : Nat} {Q : State → Prop}
variable {cc : ByteArray} {pc : Nat} {ls : Array Slot} {rest : List Value} {G : zG} {ad : zA} {A : Nat → Prop} {σ : zS} {H0 : Heap} {N0 : Nat}
theorem zNW.rows {κ0 o κo κi M a : Nat} {V : Nat → Value} (h : zNW G ad A σ H κ0 o V) (hki : zk κi = false) (hlt : κi < 91) (hNi : zn κi = M) (hti : ∀ k, k < M → zt κi k < 2) (hzi : zhl κi = [κo]) (f2 : ∀ i', ad κo i' = none) (hoi : κo ≠ κi) (hA : ∀ q, a ≤ q → A q) (hao : o < a) (hap : ∀ κ' i' b, ad κ' i' = some b → b < a) : ∀ N, (∀ j, j < N → ad κi j = none) → (∀ j, j < N → H[a + 1 + j]? = some (arrV (G.2 κi) M (fun _ => .int 0))) → zNW G (zaxs ad κi N (fun j => a + 1 + j)) A (zslr σ κi N) H κ0 o V
  | 0, _, _ => by rw [zaxs_zero, zslr_zero]; exact h
  | N + 1, f1, hr => by
    have ih := zNW.rows h hki hlt hNi hti hzi f2 hoi hA hao hap N (fun j hj => f1 j (by omega)) (fun j hj => hr j (by omega))
    rw [← zaxs_succ, ← zslr_succ]
    refine ih.arr ⟨hlt, ?_, ?_⟩ hki (fun κ' i' q => ?_) (by omega) (hA _ (by omega)) (fun _ => rfl) (by rw [hNi]; exact hr N (by omega)) (fun k hk => ?_)
    · unfold zaxs
      rw [if_neg (by omega)]
      exact f1 N (by omega)
    · intro κ' hκ
      rw [hzi] at hκ
      rw [List.mem_singleton.mp hκ]
      have hq : ∀ i', zaxs ad κi N (fun j => a + 1 + j) κo i' = none := fun i' => by
        unfold zaxs
        rw [if_neg (fun q => hoi q.1)]
        exact f2 i'
      exact ⟨hq _, fun _ => hq⟩
    · unfold zaxs at q
      by_cases h2 : κ' = κi ∧ i' < N
      · rw [if_pos h2] at q
        have : a + 1 + i' = a + 1 + N := Option.some.inj q
        omega
      · rw [if_neg h2] at q
        have := hap _ _ _ q
        omega
    · rw [hNi] at hk
      have := hti k hk
      rw [zv_i this, show zd0 κi k = 0 from if_neg (by omega)]
      rfl
theorem zn_multi (hx : p.tables.exec = Jvm.exec) (hb : c.code = cc) {own : String} {index : Nat} (hown : s.vm.findClass own = some m.cls) (hclink : (Cond.classLink own index "[[I").before args s = true) (hK : zK G s) (hAA : zAA G s) {κ0 o κo κi N M : Nat} {V : Nat → Value} (h : zNW G ad A σ H κ0 o V) (hS : va_S A H0 H locs) (hA : ∀ q, H0.size ≤ q → A q) (hko : zk κo = false) (hki : zk κi = false) (hlt : κi < 91) (hfo : zf κo = .array .int) (hfi : zf κi = .int) (hNo : zn κo = N) (hNi : zn κi = M) (hto : ∀ k, k < N → zt κo k = 200 + κi) (hti : ∀ k, k < M → zt κi k < 2) (hzi : zhl κi = [κo]) (hoi : κo ≠ κi) (hno : ¬ κi ∈ zhl κo) (f1 : ∀ j, j < N → ad κi j = none) (f2 : ∀ i', ad κo i' = none) (hF : zFree ad κo 0)
    (hN0 : 0 < N) (hN : N ≤ 1000) (hM : M ≤ 1000) (hcells : cells + 1 + N ≤ R.cells) (hslots : slots + N + N * M ≤ R.slots) (hdg : decode cc pc = .ok (.multianewarray index 2, 4))
    (kk : ∀ (a : Nat) (f : Nat → Nat) (H1 : Heap) (locs1 : List Loc), zNW G (zax (zaxs ad κi N f) κo 0 a) A (zsl (zslr σ κi N) κo 0 (zd0 κo)) H1 κ0 o V → va_S A H0 H1 locs1 →
      W p l e R s m args below meth c H1 locs1 (cells + 1 + N) (slots + N + N * M) Q (F0 m (pc + 4) ls (.ref a :: rest))) : W p l e R s m args below meth c H locs cells slots Q (F0 m pc ls (.int (zi (M : Int)) :: .int (zi (N : Int)) :: rest)) := by
  have hGo : G.2 κo = G.2 5 := by
    have h1 := (hK.2.1 κo hko).2
    have h2 := (hK.2.1 5 rfl).2
    rw [hfo] at h1
    exact Option.some.inj (h1.symm.trans h2)
  have hGi : G.2 κi = G.2 6 := by
    have h1 := (hK.2.1 κi hki).2
    have h2 := (hK.2.1 6 rfl).2
    rw [hfi] at h1
    exact Option.some.inj (h1.symm.trans h2)
  refine zz_multi hx hb hown hclink hK hAA hN0 hN hM hcells hslots hdg fun H1 locs1 z1 o1 e1 e2 hl1 => ?_
  have hp := h.push o1
  have hr := zNW.rows (a := H.size) hp hki hlt hNi hti hzi f2 hoi (fun q hq => hA q (Nat.le_trans hS.1 hq)) h.lt (fun κ' i' b hb => h.1.lt hb) N f1 (fun j hj => by rw [hGi]; exact e2 j hj)
  refine kk H.size (fun j => H.size + 1 + j) H1 locs1 (hr.arr ⟨hF.1, ?_, ?_⟩ hko (fun κ' i' q => ?_) (by have := h.lt; omega) (hA _ hS.1) (fun _ => rfl) (by rw [hNo, hGo]; exact e1) (fun k hk => ?_)) ⟨by have := hS.1; omega, fun q h1 h2 => (o1 q (Nat.lt_of_lt_of_le h1 hS.1)).trans (hS.2.1 q h1 h2), fun q hq => ?_⟩
  · unfold zaxs
    rw [if_neg (fun q => hoi q.1)]
    exact hF.2.1
  · intro κ' hκ
    have hne : κ' ≠ κi := fun q => hno (by rw [← q]; exact hκ)
    have hq : ∀ i', zaxs ad κi N (fun j => H.size + 1 + j) κ' i' = ad κ' i' := fun i' => by
      unfold zaxs
      rw [if_neg (fun q => hne q.1)]
    refine ⟨by rw [hq]; exact (hF.2.2 κ' hκ).1, fun q i' => by rw [hq]; exact (hF.2.2 κ' hκ).2 q i'⟩
  · unfold zaxs at q
    by_cases h2 : κ' = κi ∧ i' < N
    · rw [if_pos h2] at q
      have : H.size + 1 + i' = H.size := Option.some.inj q
      omega
    · rw [if_neg h2] at q
      have := h.1.lt q
      omega
  · rw [hNo] at hk
    rw [if_pos hk]
    have ht := hto k hk
    unfold zv
    rw [ht, if_neg (by omega), if_neg (by omega), if_neg (by omega), if_neg (by omega), if_neg (by omega), show 200 + κi - 200 = κi by omega, zr_nat, zax_ne (fun q => hoi q.1.symm)]
    unfold zaxs
    rw [if_pos ⟨rfl, hk⟩]
    rfl
  · rcases hl1 q hq with h1 | h1
    · exact hS.2.2 q h1
    · rw [h1]; exact hA _ hS.1
end ZMN
