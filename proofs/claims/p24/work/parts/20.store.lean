/-! THE STORE: a typed heap by kind, index and slot; ints as integers -/
abbrev zS : Type := Nat → Nat → Nat → Int
abbrev zA : Type := Nat → Nat → Option Nat
abbrev zG : Type := va_G × (Nat → ClassId)
def zi (v : Int) : Int32 := Int32.ofInt v
noncomputable def zb (P : Prop) : Int := @ite Int P (Classical.propDecidable P) 1 0
theorem zb_t {P : Prop} (h : P) : zb P = 1 := if_pos h
theorem zb_f {P : Prop} (h : ¬ P) : zb P = 0 := if_neg h
theorem zb_01 (P : Prop) : zb P = 0 ∨ zb P = 1 := by
  by_cases h : P
  · exact Or.inr (zb_t h)
  · exact Or.inl (zb_f h)
theorem zb_eq1 {P : Prop} : zb P = 1 ↔ P := ⟨fun h => by
  by_cases q : P
  · exact q
  · rw [zb_f q] at h; exact absurd h (by decide), zb_t⟩
theorem zb_eq0 {P : Prop} : zb P = 0 ↔ ¬ P := ⟨fun h q => by rw [zb_t q] at h; exact absurd h (by decide), zb_f⟩
theorem zb_congr {P Q : Prop} (h : P ↔ Q) : zb P = zb Q := by rw [propext h]
theorem zb_of {x : Int} (h : x = 0 ∨ x = 1) : x = zb (x = 1) := by
  rcases h with h | h
  · rw [h]; exact (zb_f (by decide)).symm
  · rw [h]; exact (zb_t rfl).symm
def zg (v : Int) : Prop := -2147483648 ≤ v ∧ v < 2147483648
theorem zg_of {v : Int} (h1 : -2147483648 ≤ v) (h2 : v < 2147483648) : zg v := ⟨h1, h2⟩
theorem zg_b (P : Prop) : zg (zb P) := by
  rcases zb_01 P with h | h <;> rw [h] <;> exact ⟨by decide, by decide⟩
theorem zi_toInt {v : Int} (h : zg v) : (zi v).toInt = v := Int32.toInt_ofInt_of_le (by have := h.1; omega) (by have := h.2; omega)
theorem zi_clamp {v : Int} (h : zg v) : (zi v).toNatClampNeg = v.toNat := Int32.toNatClampNeg_ofInt_of_le (by have := h.1; omega) (by have := h.2; omega)
theorem zi_of (x : Int32) : x = zi x.toInt := (Int32.ofInt_toInt x).symm
theorem zg_toInt (x : Int32) : zg x.toInt := ⟨by have := Int32.le_toInt x; omega, by have := Int32.toInt_lt x; omega⟩
theorem zi_add (x y : Int) : zi x + zi y = zi (x + y) := (Int32.ofInt_add x y).symm
theorem zi_sub (x y : Int) : zi x - zi y = zi (x - y) := (Int32.ofInt_sub x y).symm
theorem zi_mul (x y : Int) : zi x * zi y = zi (x * y) := (Int32.ofInt_mul x y).symm
theorem zi_inj {x y : Int} (hx : zg x) (hy : zg y) : zi x = zi y ↔ x = y := by
  rw [← Int32.toInt_inj, zi_toInt hx, zi_toInt hy]
theorem zi_lt {x y : Int} (hx : zg x) (hy : zg y) : zi x < zi y ↔ x < y := by
  rw [Int32.lt_iff_toInt_lt, zi_toInt hx, zi_toInt hy]
theorem zi_le {x y : Int} (hx : zg x) (hy : zg y) : zi x ≤ zi y ↔ x ≤ y := by
  rw [Int32.le_iff_toInt_le, zi_toInt hx, zi_toInt hy]
theorem zi_zero : (0 : Int32) = zi 0 := by decide
theorem zi_lt0 {x : Int} (hx : zg x) : zi x < 0 ↔ x < 0 := by rw [zi_zero]; exact zi_lt hx ⟨by decide, by decide⟩
theorem zi_le0 {x : Int} (hx : zg x) : zi x ≤ 0 ↔ x ≤ 0 := by rw [zi_zero]; exact zi_le hx ⟨by decide, by decide⟩
theorem zi_eq0 {x : Int} (hx : zg x) : zi x = 0 ↔ x = 0 := by rw [zi_zero]; exact zi_inj hx ⟨by decide, by decide⟩
theorem zi_div {x y : Int} (hx : zg x) (hy : zg y) (h0 : 0 ≤ x) (h1 : 0 < y) : zi x / zi y = zi (x / y) := by
  apply Int32.toInt_inj.1
  have hb : zi y ≠ -1 := fun h => by
    have h2 := congrArg Int32.toInt h
    rw [zi_toInt hy] at h2
    have h3 : (-1 : Int32).toInt = -1 := by decide
    omega
  rw [Int32.toInt_div_of_ne_right _ _ hb, zi_toInt hx, zi_toInt hy, Int.tdiv_eq_ediv_of_nonneg h0]
  have h2 : x / y ≤ x := Int.ediv_le_self y h0
  have h3 : 0 ≤ x / y := Int.ediv_nonneg h0 (by omega)
  exact (zi_toInt ⟨by omega, by have := hx.2; omega⟩).symm
theorem zi_mod {x y : Int} (hx : zg x) (hy : zg y) (h0 : 0 ≤ x) (h1 : 0 < y) : zi x - zi x / zi y * zi y = zi (x % y) := by
  rw [zi_div hx hy h0 h1, zi_mul, zi_sub]
  congr 1
  have := Int.emod_add_mul_ediv x y
  rw [Int.mul_comm (x / y) y]
  omega
theorem zi_nat (n : Nat) : zi (n : Int) = Int32.ofNat n := Int32.ofInt_eq_ofNat
theorem zi_and (x y : Nat) (hx : x < 2 ^ 31) (hy : y < 2 ^ 31) : zi (x : Int) &&& zi (y : Int) = zi ((x &&& y : Nat) : Int) := by
  rw [zi_nat, zi_nat, zi_nat]
  apply Int32.toBitVec.inj
  rw [Int32.toBitVec_and]
  show BitVec.ofNat 32 x &&& BitVec.ofNat 32 y = BitVec.ofNat 32 (x &&& y)
  rw [BitVec.ofNat_and]
theorem zi_or (x y : Nat) (hx : x < 2 ^ 31) (hy : y < 2 ^ 31) : zi (x : Int) ||| zi (y : Int) = zi ((x ||| y : Nat) : Int) := by
  rw [zi_nat, zi_nat, zi_nat]
  apply Int32.toBitVec.inj
  rw [Int32.toBitVec_or]
  show BitVec.ofNat 32 x ||| BitVec.ofNat 32 y = BitVec.ofNat 32 (x ||| y)
  rw [BitVec.ofNat_or]
/-! kinds -/
def zk (κ : Nat) : Bool := κ == 0 || κ == 1 || κ == 7 || κ == 14 || κ == 17 || κ == 18 || κ == 23 || κ == 24 || κ == 30
def zc (κ : Nat) : Nat := match κ with
  | 0 => 6 | 1 => 0 | 7 => 2 | 14 => 5 | 17 => 1 | 18 => 4 | 23 => 3 | 24 => 4 | _ => 7
def zn (κ : Nat) : Nat := match κ with
  | 0 => 10 | 1 => 5 | 2 => 20 | 3 => 20 | 4 => 20 | 5 => 10 | 6 => 10 | 7 => 6 | 8 => 5 | 9 => 5 | 10 => 8 | 11 => 6 | 12 => 256 | 13 => 32 | 14 => 9 | 15 => 8 | 16 => 60
  | 17 => 13 | 18 => 4 | 19 => 10 | 20 => 8 | 21 => 8 | 22 => 8 | 23 => 12 | 24 => 4 | 25 => 8 | 26 => 8 | 27 => 8 | 30 => 42
  | 44 => 20 | 45 => 20 | 46 => 20 | 47 => 100 | 49 => 8 | 50 => 8 | 51 => 8 | 52 => 8 | 53 => 64 | 54 => 64 | 55 => 8 | 56 => 8 | 58 => 8 | 59 => 80 | 60 => 8 | 61 => 8 | 62 => 8
  | 64 => 60 | 65 => 60 | 66 => 60 | 67 => 60 | 68 => 60 | 69 => 60 | 70 => 60 | 71 => 60 | 72 => 60 | 73 => 60 | 74 => 60 | 75 => 5 | 76 => 5 | 77 => 5 | 79 => 10 | 80 => 10 | 81 => 10 | 86 => 4 | 87 => 48 | 88 => 3 | 90 => 1 | _ => 0
/-- a slot's kind: 0 int, 1 boolean, 2 long, 3 the own index, 10+ a reference told by the store, 100+ that of the own index, 200+ that of the slot's number -/
def zt (κ k : Nat) : Nat := match κ with
  | 0 => [101, 115, 116, 107, 114, 0, 0, 0, 0, 0].getD k 0
  | 1 => [102, 103, 104, 105, 0].getD k 0
  | 5 => 206
  | 7 => [108, 109, 111, 113, 0, 0].getD k 0
  | 8 => 33
  | 9 => 210
  | 11 => 212
  | 14 => [101, 124, 33, 27, 0, 0, 0, 0, 0].getD k 0
  | 15 => 27
  | 16 => 33
  | 17 => [3, 118, 119, 0, 0, 1, 0, 1, 0, 0, 0, 0, 0].getD k 0
  | 18 => [120, 121, 122, 0].getD k 0
  | 21 => 33
  | 22 => 1
  | 24 => [125, 126, 127, 0].getD k 0
  | 26 => 33
  | 27 => 1
  | 23 => [3, 0, 0, 1, 0, 0, 0, 27, 0, 0, 0, 1].getD k 0
  | 30 => [0, 0, 0, 0, 144, 145, 146, 147, 0, 149, 150, 151, 152, 153, 154, 155, 156, 0, 158, 159, 160, 161, 162, 0, 164, 165, 166, 167, 168, 169, 170, 171, 172, 173, 174, 175, 176, 177, 0, 179, 180, 181].getD k 0
  | 50 => 1 | 51 => 1 | 68 => 1 | 74 => 1
  | _ => 0
/-- an array's elements -/
def zf (κ : Nat) : FieldType := match κ with
  | 5 => .array .int | 9 => .array .int | 11 => .array .int
  | 8 => .object RX3 | 16 => .object RX3 | 21 => .object RX3 | 26 => .object RX3 | 15 => .object RX1
  | 22 => .boolean | 27 => .boolean | 50 => .boolean | 51 => .boolean | 68 => .boolean | 74 => .boolean
  | _ => .int
def zq (ad : zA) (κ : Nat) (v : Int) : Option Nat := if v < 0 then none else ad κ v.toNat
def zr (ad : zA) (κ : Nat) (v : Int) : Value := va_rf (zq ad κ v)
def zl (ad : zA) (κ : Nat) (v : Int) : Prop := 0 ≤ v ∧ (ad κ v.toNat).isSome = true
def zln (ad : zA) (κ : Nat) (v : Int) : Prop := v < 0 ∨ zl ad κ v
def zv (ad : zA) (t i k : Nat) (v : Int) : Value :=
  if t < 2 then .int (zi v) else if t = 2 then .long (Int64.ofInt v) else if t = 3 then .int (zi (i : Int)) else if t < 100 then zr ad (t - 10) v else if t < 200 then zr ad (t - 100) (i : Int) else zr ad (t - 200) (k : Int)
def zat (G : zG) (ad : zA) (σ : zS) (H : Heap) (κ i a : Nat) : Prop :=
  if zk κ = true then t_OB a (G.1.1 (zc κ)) (zn κ) (G.1.2 (zc κ)) H (fun k => zv ad (zt κ k) i k (σ κ i k))
  else H[a]? = some (arrV (G.2 κ) (zn κ) (fun k => zv ad (zt κ k) i k (σ κ i k)))
/-- the world: every cell that has an address holds its store; the addresses are apart, and of a kind -/
def ZW (G : zG) (ad : zA) (A : Nat → Prop) (σ : zS) (H : Heap) : Prop :=
  (∀ κ i a, ad κ i = some a → zat G ad σ H κ i a ∧ A a) ∧ (∀ κ i κ' i' a, ad κ i = some a → ad κ' i' = some a → κ = κ' ∧ i = i') ∧ (∀ κ i k, zg (σ κ i k)) ∧ (∀ κ i k, (ad κ i).isSome = true → 10 ≤ zt κ k → zt κ k < 100 → zln ad (zt κ k - 10) (σ κ i k)) ∧ (∀ κ i k, zt κ k = 1 → σ κ i k = 0 ∨ σ κ i k = 1)
/-- a store with one slot changed -/
def zu (σ : zS) (κ i k : Nat) (x : Int) : zS := fun κ' i' k' => if κ' = κ ∧ i' = i ∧ k' = k then x else σ κ' i' k'
theorem zu_same {σ : zS} {κ i k : Nat} {x : Int} : zu σ κ i k x κ i k = x := if_pos ⟨rfl, rfl, rfl⟩
theorem zu_k {σ : zS} {κ i k κ' i' k' : Nat} {x : Int} (h : κ' ≠ κ) : zu σ κ i k x κ' i' k' = σ κ' i' k' := if_neg fun q => h q.1
theorem zu_i {σ : zS} {κ i k κ' i' k' : Nat} {x : Int} (h : i' ≠ i) : zu σ κ i k x κ' i' k' = σ κ' i' k' := if_neg fun q => h q.2.1
theorem zu_s {σ : zS} {κ i k κ' i' k' : Nat} {x : Int} (h : k' ≠ k) : zu σ κ i k x κ' i' k' = σ κ' i' k' := if_neg fun q => h q.2.2
theorem zu_ne {σ : zS} {κ i k κ' i' k' : Nat} {x : Int} (h : ¬ (κ' = κ ∧ i' = i ∧ k' = k)) : zu σ κ i k x κ' i' k' = σ κ' i' k' := if_neg h
/-- nothing but S has changed -/
def zfr (S : Nat → Nat → Nat → Prop) (σ u : zS) : Prop := ∀ κ i k, ¬ S κ i k → u κ i k = σ κ i k
def zins (a : Nat) (x : Int) (f : Nat → Int) (j : Nat) : Int := if j < a then f j else if j = a then x else f (j - 1)
theorem zr_ref {ad : zA} {κ : Nat} {v : Int} (h : zl ad κ v) : ∃ a, ad κ v.toNat = some a ∧ zr ad κ v = .ref a := by
  obtain ⟨h0, h1⟩ := h
  obtain ⟨a, ha⟩ := Option.isSome_iff_exists.mp h1
  refine ⟨a, ha, ?_⟩
  unfold zr zq
  rw [if_neg (by omega), ha]
  rfl
theorem zr_null {ad : zA} {κ : Nat} {v : Int} (h : v < 0) : zr ad κ v = .null := by
  unfold zr zq
  rw [if_pos h]
  rfl
theorem zr_cat (ad : zA) (κ : Nat) (v : Int) : (zr ad κ v).category = 1 := by
  unfold zr
  rcases va_rf_or (zq ad κ v) with h | ⟨a, h⟩ <;> rw [h] <;> rfl
theorem zv_i {ad : zA} {t i k : Nat} {v : Int} (h : t < 2) : zv ad t i k v = .int (zi v) := if_pos h
theorem zv_r {ad : zA} {t i k : Nat} {v : Int} (h : 10 ≤ t) (h2 : t < 100) : zv ad t i k v = zr ad (t - 10) v := by
  unfold zv
  rw [if_neg (by omega), if_neg (by omega), if_neg (by omega), if_pos h2]
