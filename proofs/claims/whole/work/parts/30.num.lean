-- numbers: machine ints by the integers that they hold
abbrev lI (z : Int) : Int64 := Int64.ofInt z
abbrev iI (z : Int) : Int32 := Int32.ofInt z
def L_ok (z : Int) : Prop := -4611686018427387904 ≤ z ∧ z ≤ 4611686018427387904
def I_ok (z : Int) : Prop := -1073741824 ≤ z ∧ z ≤ 1073741824
theorem lI_add (a b : Int) : lI a + lI b = lI (a + b) := (Int64.ofInt_add a b).symm
theorem lI_mul (a b : Int) : lI a * lI b = lI (a * b) := (Int64.ofInt_mul a b).symm
theorem lI_sub (a b : Int) : lI a - lI b = lI (a - b) := by
  show Int64.ofInt a - Int64.ofInt b = Int64.ofInt (a - b)
  rw [Int.sub_eq_add_neg, Int64.ofInt_add, Int64.ofInt_neg, Int64.sub_eq_add_neg]
theorem iI_add (a b : Int) : iI a + iI b = iI (a + b) := (Int32.ofInt_add a b).symm
theorem iI_mul (a b : Int) : iI a * iI b = iI (a * b) := (Int32.ofInt_mul a b).symm
theorem iI_sub (a b : Int) : iI a - iI b = iI (a - b) := by
  show Int32.ofInt a - Int32.ofInt b = Int32.ofInt (a - b)
  rw [Int.sub_eq_add_neg, Int32.ofInt_add, Int32.ofInt_neg, Int32.sub_eq_add_neg]
theorem lI_toInt {z : Int} (h : L_ok z) : (lI z).toInt = z := Int64.toInt_ofInt_of_le (by have := h.1; omega) (by have := h.2; omega)
theorem iI_toInt {z : Int} (h : I_ok z) : (iI z).toInt = z := Int32.toInt_ofInt_of_le (by have := h.1; omega) (by have := h.2; omega)
theorem iI_l {z : Int} (h : I_ok z) : (iI z).toInt64 = lI z := Int64.toInt_inj.mp (by rw [Int32.toInt_toInt64, iI_toInt h, lI_toInt ⟨by have := h.1; omega, by have := h.2; omega⟩])
theorem lI_lt {a b : Int} (ha : L_ok a) (hb : L_ok b) : lI a < lI b ↔ a < b := by rw [Int64.lt_iff_toInt_lt, lI_toInt ha, lI_toInt hb]
theorem lI_le {a b : Int} (ha : L_ok a) (hb : L_ok b) : lI a ≤ lI b ↔ a ≤ b := by rw [Int64.le_iff_toInt_le, lI_toInt ha, lI_toInt hb]
theorem lI_eq {a b : Int} (ha : L_ok a) (hb : L_ok b) : lI a = lI b ↔ a = b := by rw [← Int64.toInt_inj, lI_toInt ha, lI_toInt hb]
theorem iI_lt {a b : Int} (ha : I_ok a) (hb : I_ok b) : iI a < iI b ↔ a < b := by rw [Int32.lt_iff_toInt_lt, iI_toInt ha, iI_toInt hb]
theorem iI_le {a b : Int} (ha : I_ok a) (hb : I_ok b) : iI a ≤ iI b ↔ a ≤ b := by rw [Int32.le_iff_toInt_le, iI_toInt ha, iI_toInt hb]
theorem iI_eq {a b : Int} (ha : I_ok a) (hb : I_ok b) : iI a = iI b ↔ a = b := by rw [← Int32.toInt_inj, iI_toInt ha, iI_toInt hb]
theorem nI_i (n : Nat) : nI n = iI n := (Int32.ofInt_eq_ofNat).symm
theorem lN_i9 (n : Nat) : lN n = lI n := (Int64.ofInt_eq_ofNat).symm
theorem l0 : (0 : Int64) = lI 0 := rfl
theorem l1 : (1 : Int64) = lI 1 := rfl
theorem i0 : (0 : Int32) = iI 0 := rfl
theorem i1 : (1 : Int32) = iI 1 := rfl
theorem L_ok0 : L_ok 0 := ⟨by decide, by decide⟩
theorem L_ok1 : L_ok 1 := ⟨by decide, by decide⟩
-- answers that are 0 or 1
noncomputable def bI (p : Prop) : Int32 := @ite Int32 p (Classical.propDecidable p) 1 0
theorem bI_t {p : Prop} (h : p) : bI p = 1 := if_pos h
theorem bI_f {p : Prop} (h : ¬ p) : bI p = 0 := if_neg h
theorem bI_0 {p : Prop} : bI p = 0 ↔ ¬ p := by
  by_cases h : p
  · rw [bI_t h]; exact ⟨fun q => absurd q (by decide), fun q => absurd h q⟩
  · rw [bI_f h]; exact ⟨fun _ => h, fun _ => rfl⟩
theorem bI_1 {p : Prop} : bI p = 1 ↔ p := by
  by_cases h : p
  · rw [bI_t h]; exact ⟨fun _ => h, fun _ => rfl⟩
  · rw [bI_f h]; exact ⟨fun q => absurd q (by decide), fun q => absurd q h⟩
theorem bI_c {p q : Prop} (h : p ↔ q) : bI p = bI q := by rw [propext h]
theorem bI_bz (p : Prop) : bz_i (bI p) = some () := by
  unfold bz_i
  rw [if_pos]
  by_cases h : p
  · exact Or.inr (bI_t h)
  · exact Or.inl (bI_f h)
-- reads
theorem rd_ok {n : Nat} {f : Nat → Int32} {j : Nat} (h : j < n) (hn : n < 10000) : rd_i n f (nI j) = some (f j) := by
  have h1 : (nI j).toNatClampNeg = j := nI_clamp (by omega)
  unfold rd_i
  rw [if_neg, h1]
  rw [h1]
  intro q
  rcases q with q | q
  · exact nI_pos (by omega) q
  · omega
theorem rl_ok {n : Nat} {f : Nat → Int64} {j : Nat} (h : j < n) (hn : n < 10000) : rd_l n f (nI j) = some (f j) := by
  have h1 : (nI j).toNatClampNeg = j := nI_clamp (by omega)
  unfold rd_l
  rw [if_neg, h1]
  rw [h1]
  intro q
  rcases q with q | q
  · exact nI_pos (by omega) q
  · omega
theorem wr_okk {n j : Nat} (h : j < n) (hn : n < 10000) : wr_in n (nI j) = some () := by
  have h1 : (nI j).toNatClampNeg = j := nI_clamp (by omega)
  unfold wr_in
  rw [if_neg]
  rw [h1]
  intro q
  rcases q with q | q
  · exact nI_pos (by omega) q
  · omega
theorem bd_some {α β : Type} (a : α) (f : α → Option β) : (some a).bind f = f a := rfl
-- bounds of products
theorem mul_bd {a b A B : Int} (h1 : -A ≤ a) (h2 : a ≤ A) (h3 : -B ≤ b) (h4 : b ≤ B) : -(A * B) ≤ a * b ∧ a * b ≤ A * B := by
  have hA : 0 ≤ A := by omega
  have hB : 0 ≤ B := by omega
  have k1 : 0 ≤ (A - a) * (B + b) := Int.mul_nonneg (by omega) (by omega)
  have k2 : 0 ≤ (A + a) * (B - b) := Int.mul_nonneg (by omega) (by omega)
  have k3 : 0 ≤ (A - a) * (B - b) := Int.mul_nonneg (by omega) (by omega)
  have k4 : 0 ≤ (A + a) * (B + b) := Int.mul_nonneg (by omega) (by omega)
  have e1 : (A - a) * (B + b) = A * B + A * b - a * B - a * b := by grind
  have e2 : (A + a) * (B - b) = A * B - A * b + a * B - a * b := by grind
  have e3 : (A - a) * (B - b) = A * B - A * b - a * B + a * b := by grind
  have e4 : (A + a) * (B + b) = A * B + A * b + a * B + a * b := by grind
  constructor <;> omega
theorem sq_nn (a : Int) : 0 ≤ a * a := by
  by_cases h : 0 ≤ a
  · exact Int.mul_nonneg h h
  · have := Int.mul_nonneg (a := -a) (b := -a) (by omega) (by omega)
    rw [Int.neg_mul_neg] at this
    exact this
