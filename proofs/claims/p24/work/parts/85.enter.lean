/-! NEW CELLS ENTER THE WORLD -/
def zax (ad : zA) (κ i a : Nat) : zA := fun κ' i' => if κ' = κ ∧ i' = i then some a else ad κ' i'
theorem zax_same {ad : zA} {κ i a : Nat} : zax ad κ i a κ i = some a := if_pos ⟨rfl, rfl⟩
theorem zax_ne {ad : zA} {κ i a κ' i' : Nat} (h : ¬ (κ' = κ ∧ i' = i)) : zax ad κ i a κ' i' = ad κ' i' := if_neg h
/-- a fresh cell's slot -/
def zd0 (κ k : Nat) : Int := if 10 ≤ zt κ k ∧ zt κ k < 100 then -1 else 0
/-- a cell's slots told anew -/
def zsl (σ : zS) (κ i : Nat) (u : Nat → Int) : zS := fun κ' i' k => if κ' = κ ∧ i' = i then u k else σ κ' i' k
theorem zsl_same {σ : zS} {κ i k : Nat} {u : Nat → Int} : zsl σ κ i u κ i k = u k := if_pos ⟨rfl, rfl⟩
theorem zsl_ne {σ : zS} {κ i κ' i' k : Nat} {u : Nat → Int} (h : ¬ (κ' = κ ∧ i' = i)) : zsl σ κ i u κ' i' k = σ κ' i' k := if_neg h
/-- which kinds of cells point at this kind's by an own index -/
def zhl (κ : Nat) : List Nat := match κ with
  | 1 => [0, 14] | 2 => [1] | 3 => [1] | 4 => [1] | 5 => [1] | 6 => [5] | 7 => [0] | 8 => [7] | 9 => [7] | 10 => [9] | 11 => [7] | 12 => [11] | 13 => [7] | 14 => [0] | 15 => [0] | 16 => [0]
  | 18 => [17] | 19 => [17] | 20 => [18] | 21 => [18] | 22 => [18]
  | 24 => [14] | 25 => [24] | 26 => [24] | 27 => [24]
  | _ => if 44 ≤ κ ∧ κ ≤ 81 then [30] else []
theorem zhl_ok : ∀ κ', κ' < 91 → ∀ k, k < zn κ' → 100 ≤ zt κ' k → (zhl (zt κ' k % 100)).contains κ' = true := by decide +kernel
theorem zhl_two : ∀ κ', κ' < 91 → ∀ k, k < zn κ' → 200 ≤ zt κ' k → zt κ' k = 206 ∨ zt κ' k = 210 ∨ zt κ' k = 212 := by decide +kernel
theorem zt_300 : ∀ κ', κ' < 91 → ∀ k, k < zn κ' → zt κ' k < 300 := by decide +kernel
theorem zt_gap : ∀ κ', κ' < 91 → ∀ k, k < zn κ' → zt κ' k < 4 ∨ 10 ≤ zt κ' k := by decide +kernel
theorem zn_big (κ : Nat) (h : 91 ≤ κ) : zn κ = 0 := by
  unfold zn
  split <;> first | omega | rfl
/-- nothing in the world points at (κ, i) -/
def zFree (ad : zA) (κ i : Nat) : Prop := κ < 91 ∧ ad κ i = none ∧ ∀ κ' ∈ zhl κ, ad κ' i = none ∧ (κ = 6 ∨ κ = 10 ∨ κ = 12 → ∀ i', ad κ' i' = none)
theorem zq_ext {ad : zA} {κ i a κ' : Nat} {v : Int} (h : ¬ (κ' = κ ∧ v.toNat = i ∧ 0 ≤ v)) : zq (zax ad κ i a) κ' v = zq ad κ' v := by
  unfold zq
  by_cases h0 : v < 0
  · rw [if_pos h0, if_pos h0]
  · rw [if_neg h0, if_neg h0, zax_ne (fun q => h ⟨q.1, q.2, by omega⟩)]
theorem zv_ext {ad : zA} {κ i a t i' k : Nat} {v : Int} (ht : t < 4 ∨ 10 ≤ t) (hn : ad κ i = none) (hv : 10 ≤ t → t < 100 → zln ad (t - 10) v) (h1 : ¬ (t = 100 + κ ∧ i' = i)) (h2 : ¬ (t = 200 + κ ∧ k = i)) : zv (zax ad κ i a) t i' k v = zv ad t i' k v := by
  unfold zv zr
  by_cases c1 : t < 2
  · rw [if_pos c1, if_pos c1]
  rw [if_neg c1, if_neg c1]
  by_cases c2 : t = 2
  · rw [if_pos c2, if_pos c2]
  rw [if_neg c2, if_neg c2]
  by_cases c3 : t = 3
  · rw [if_pos c3, if_pos c3]
  rw [if_neg c3, if_neg c3]
  by_cases c4 : t < 100
  · rw [if_pos c4, if_pos c4]
    have c5 : 10 ≤ t := by omega
    rw [zq_ext]
    rintro ⟨q1, q2, q3⟩
    rcases hv c5 c4 with h | h
    · omega
    · have := h.2
      rw [q1, q2, hn] at this
      cases this
  rw [if_neg c4, if_neg c4]
  by_cases c6 : t < 200
  · rw [if_pos c6, if_pos c6, zq_ext]
    rintro ⟨q1, q2, -⟩
    exact h1 ⟨by omega, by omega⟩
  · rw [if_neg c6, if_neg c6, zq_ext]
    rintro ⟨q1, q2, -⟩
    exact h2 ⟨by omega, by omega⟩
theorem arrV_congr {cI : ClassId} {N : Nat} {f g : Nat → Value} (h : ∀ k, k < N → f k = g k) : arrV cI N f = arrV cI N g := by
  unfold arrV
  congr 1
  apply Array.ext
  · rw [Array.size_ofFn, Array.size_ofFn]
  · intro j h1 h2
    rw [Array.getElem_ofFn, Array.getElem_ofFn]
    rw [Array.size_ofFn] at h1
    exact h j h1
theorem zat_to {G : zG} {ad ad' : zA} {σ σ' : zS} {H : Heap} {κ i a : Nat} (h : zat G ad σ H κ i a) (e : ∀ k, k < zn κ → zv ad (zt κ k) i k (σ κ i k) = zv ad' (zt κ k) i k (σ' κ i k)) : zat G ad' σ' H κ i a := by
  unfold zat at h ⊢
  by_cases hk : zk κ = true
  · rw [if_pos hk] at h ⊢
    exact h.to e
  · rw [if_neg hk] at h ⊢
    rw [h, arrV_congr e]
theorem zat_ext {G : zG} {ad : zA} {A : Nat → Prop} {σ : zS} {H : Heap} {κ i a κ' i' a' : Nat} (hf : zFree ad κ i) (hW : ZW G ad A σ H) (ha : ad κ' i' = some a') : zat G (zax ad κ i a) σ H κ' i' a' := by
  refine zat_to (hW.1 _ _ _ ha).1 fun k hk => (zv_ext ?_ hf.2.1 (fun q1 q2 => hW.2.2.2.1 _ _ _ (by rw [ha]; rfl) q1 q2) ?_ ?_).symm
  · exact zt_gap κ' (Nat.lt_of_not_le fun q => by rw [zn_big κ' q] at hk; omega) k hk
  · rintro ⟨q1, rfl⟩
    have hlt : κ' < 91 := Nat.lt_of_not_le fun q => by rw [zn_big κ' q] at hk; omega
    have h1 := zhl_ok κ' hlt k hk (by omega)
    have h2 := zt_300 κ' hlt k hk
    have hκ := hf.1
    rw [q1, show (100 + κ) % 100 = κ by omega] at h1
    have := (hf.2.2 κ' (List.contains_iff_mem.mp h1)).1
    rw [ha] at this
    cases this
  · rintro ⟨q1, rfl⟩
    have hlt : κ' < 91 := Nat.lt_of_not_le fun q => by rw [zn_big κ' q] at hk; omega
    have h1 := zhl_ok κ' hlt k hk (by omega)
    have h3 := zhl_two κ' hlt k hk (by omega)
    have hκ := hf.1
    rw [q1, show (200 + κ) % 100 = κ by omega] at h1
    have := (hf.2.2 κ' (List.contains_iff_mem.mp h1)).2 (by omega) i'
    rw [ha] at this
    cases this
theorem ZW.heap {G : zG} {ad : zA} {A : Nat → Prop} {σ : zS} {H H1 : Heap} (h : ZW G ad A σ H) (e : ∀ q, q < H.size → H1[q]? = H[q]?) : ZW G ad A σ H1 :=
  ⟨fun κ i a ha => ⟨(h.1 κ i a ha).1.kept (e a (h.1 κ i a ha).1.lt), (h.1 κ i a ha).2⟩, h.2.1, h.2.2.1, h.2.2.2.1, h.2.2.2.2⟩
theorem ZW.heapA {G : zG} {ad : zA} {A : Nat → Prop} {σ : zS} {H H1 : Heap} (h : ZW G ad A σ H) (e : ∀ κ i a, ad κ i = some a → H1[a]? = H[a]?) : ZW G ad A σ H1 :=
  ⟨fun κ i a ha => ⟨(h.1 κ i a ha).1.kept (e κ i a ha), (h.1 κ i a ha).2⟩, h.2.1, h.2.2.1, h.2.2.2.1, h.2.2.2.2⟩
theorem ZW.reA {G : zG} {ad : zA} {A A' : Nat → Prop} {σ : zS} {H : Heap} (h : ZW G ad A σ H) (e : ∀ κ i a, ad κ i = some a → A' a) : ZW G ad A' σ H :=
  ⟨fun κ i a ha => ⟨(h.1 κ i a ha).1, e κ i a ha⟩, h.2.1, h.2.2.1, h.2.2.2.1, h.2.2.2.2⟩
/-- a cell enters -/
theorem ZW.enter {G : zG} {ad : zA} {A : Nat → Prop} {σ : zS} {H : Heap} {κ i a : Nat} (u : Nat → Int) (h : ZW G ad A σ H) (hf : zFree ad κ i) (hap : ∀ κ' i', ad κ' i' ≠ some a) (hA : A a) (hg : ∀ k, zg (u k)) (hb : ∀ k, zt κ k = 1 → u k = 0 ∨ u k = 1) (hr : ∀ k, 10 ≤ zt κ k → zt κ k < 100 → zln (zax ad κ i a) (zt κ k - 10) (u k)) (hz : zat G (zax ad κ i a) (zsl σ κ i u) H κ i a) : ZW G (zax ad κ i a) A (zsl σ κ i u) H := by
  refine ⟨fun κ' i' a' ha' => ?_, fun κ1 i1 κ2 i2 b h1 h2 => ?_, fun κ' i' k => ?_, fun κ' i' k hs q1 q2 => ?_, fun κ' i' k q1 => ?_⟩
  · by_cases c : κ' = κ ∧ i' = i
    · obtain ⟨rfl, rfl⟩ := c
      rw [zax_same] at ha'
      cases ha'
      exact ⟨hz, hA⟩
    · rw [zax_ne c] at ha'
      refine ⟨(zat_ext hf h ha').congr fun k => (zsl_ne c).symm, (h.1 _ _ _ ha').2⟩
  · by_cases c1 : κ1 = κ ∧ i1 = i <;> by_cases c2 : κ2 = κ ∧ i2 = i
    · exact ⟨c1.1.trans c2.1.symm, c1.2.trans c2.2.symm⟩
    · rw [zax_ne c2] at h2
      obtain ⟨rfl, rfl⟩ := c1
      rw [zax_same] at h1
      exact absurd (h2.trans h1.symm) (hap _ _)
    · rw [zax_ne c1] at h1
      obtain ⟨rfl, rfl⟩ := c2
      rw [zax_same] at h2
      exact absurd (h1.trans h2.symm) (hap _ _)
    · rw [zax_ne c1] at h1
      rw [zax_ne c2] at h2
      exact h.2.1 _ _ _ _ _ h1 h2
  · by_cases c : κ' = κ ∧ i' = i
    · obtain ⟨rfl, rfl⟩ := c
      rw [zsl_same]; exact hg k
    · rw [zsl_ne c]; exact h.2.2.1 _ _ _
  · by_cases c : κ' = κ ∧ i' = i
    · obtain ⟨rfl, rfl⟩ := c
      rw [zsl_same]; exact hr k q1 q2
    · rw [zax_ne c] at hs
      rw [zsl_ne c]
      rcases h.2.2.2.1 _ _ _ hs q1 q2 with g | g
      · exact Or.inl g
      · refine Or.inr ⟨g.1, ?_⟩
        by_cases c2 : zt κ' k - 10 = κ ∧ (σ κ' i' k).toNat = i
        · rw [c2.1, c2.2, zax_same]; rfl
        · rw [zax_ne c2]; exact g.2
  · by_cases c : κ' = κ ∧ i' = i
    · obtain ⟨rfl, rfl⟩ := c
      rw [zsl_same]; exact hb k q1
    · rw [zsl_ne c]; exact h.2.2.2.2 _ _ _ q1
