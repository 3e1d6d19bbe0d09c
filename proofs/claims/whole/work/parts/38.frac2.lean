-- fractions: the greater one, the greatest divisor, lowest terms
theorem fr_cmp {u l v k : Nat} (hl : 0 < l) (hk : 0 < k) : (u / l = v / k → (v * l < u * k ↔ v % k * l < u % l * k)) ∧ (v / k < u / l → v * l < u * k) ∧ (u / l < v / k → ¬ v * l < u * k) := by
  have e1 := Nat.div_add_mod u l
  have e2 := Nat.div_add_mod v k
  have r1 := Nat.mod_lt u hl
  have r2 := Nat.mod_lt v hk
  generalize u / l = q at *
  generalize u % l = r at *
  generalize v / k = q' at *
  generalize v % k = r' at *
  subst e1
  subst e2
  have x1 : (k * q' + r') * l = l * k * q' + r' * l := by rw [Nat.add_mul, Nat.mul_comm l k, Nat.mul_assoc, Nat.mul_comm q' l, ← Nat.mul_assoc]
  have x2 : (l * q + r) * k = l * k * q + r * k := by rw [Nat.add_mul, Nat.mul_assoc, Nat.mul_comm q k, ← Nat.mul_assoc]
  have y1 : r' * l < l * k := by rw [Nat.mul_comm l k]; exact Nat.mul_lt_mul_of_pos_right r2 hl
  have y2 : r * k < l * k := Nat.mul_lt_mul_of_pos_right r1 hk
  refine ⟨?_, ?_, ?_⟩
  · intro h; subst h; omega
  · intro h
    have z : l * k * (q' + 1) ≤ l * k * q := Nat.mul_le_mul_left _ h
    rw [Nat.mul_add, Nat.mul_one] at z
    omega
  · intro h
    have z : l * k * (q + 1) ≤ l * k * q' := Nat.mul_le_mul_left _ h
    rw [Nat.mul_add, Nat.mul_one] at z
    omega
theorem p63 : (9223372036854775808 : Nat) = 2 ^ 63 := by decide
theorem lz : (0 : Int64) = lN 0 := rfl
theorem lo1 : (1 : Int64) = lN 1 := rfl
theorem cl_eq {a b : Nat} (ha : a < 2 ^ 63) (hb : b < 2 ^ 63) : (lg_cmp (lN a) (lN b) = 0) ↔ a = b := by rw [lg_cmp_eq, pk_lEQ ha hb]
theorem cl_le {a b : Nat} (ha : a < 2 ^ 63) (hb : b < 2 ^ 63) : (lg_cmp (lN a) (lN b) ≤ 0) ↔ a ≤ b := by rw [lg_cmp_le, pk_lLE ha hb]
theorem cl_gt {a b : Nat} (ha : a < 2 ^ 63) (hb : b < 2 ^ 63) : (0 < lg_cmp (lN a) (lN b)) ↔ b < a := by rw [lg_cmp_gt, pk_lLT hb ha]
theorem cl_ge {a b : Nat} (ha : a < 2 ^ 63) (hb : b < 2 ^ 63) : (0 ≤ lg_cmp (lN a) (lN b)) ↔ b ≤ a := by rw [lg_cmp_ge, pk_lLE hb ha]
theorem cl_z {a : Nat} (ha : a < 2 ^ 63) : (lg_cmp (lN a) 0 = 0) ↔ a = 0 := by rw [lz]; exact cl_eq ha (by decide)
theorem nzl {n : Nat} (h0 : 0 < n) (h : n < 2 ^ 63) : nz_l (lN n) = some () := by
  unfold nz_l
  rw [if_neg]
  rw [lz, pk_lEQ h (by decide)]
  omega
def Q_ok (u l : Nat) : Prop := u ≤ 640000000000000000 ∧ 0 < l ∧ l ≤ 800000000
theorem x0_isAbove {u l v k : Nat} (h : Q_ok u l) (h' : Q_ok v k) (F : Nat) : s_X0_isAbove F (lN u) (lN l) (lN v) (lN k) = some (bI (v * l < u * k)) := by
  obtain ⟨h1, h2, h3⟩ := h
  obtain ⟨k1, k2, k3⟩ := h'
  have hc := fr_cmp (u := u) (v := v) h2 k2
  have d1 := Nat.div_le_self u l
  have d2 := Nat.div_le_self v k
  have m1 := Nat.mod_lt u h2
  have m2 := Nat.mod_lt v k2
  have b1 : u % l * k ≤ 800000000 * 800000000 := Nat.mul_le_mul (by omega) k3
  have b2 : v % k * l ≤ 800000000 * 800000000 := Nat.mul_le_mul (by omega) h3
  unfold s_X0_isAbove
  rw [lz, if_n (cl_le (by omega) (by omega)) (by omega), if_p (cl_gt (by omega) (by omega)) k2, nzl h2 (by omega), bd_some, bd_some, nzl k2 (by omega), bd_some, bd_some, pk_lRem (by omega) h2 (by omega), pk_lRem (by omega) k2 (by omega), pk_lDiv (by omega) h2 (by omega), pk_lDiv (by omega) k2 (by omega), lN_mul, lN_mul, bd_some, bd_some]
  by_cases q1 : u / l = v / k
  · rw [if_p (cl_eq (by omega) (by omega)) q1]
    by_cases q2 : u % l * k ≤ v % k * l
    · rw [if_p (cl_le (by omega) (by omega)) q2, bI_f (fun q => by have := (hc.1 q1).mp q; omega)]
    · rw [if_n (cl_le (by omega) (by omega)) q2, bI_t ((hc.1 q1).mpr (by omega))]
  · rw [if_n (cl_eq (by omega) (by omega)) q1]
    by_cases q2 : u / l ≤ v / k
    · rw [if_p (cl_le (by omega) (by omega)) q2, bI_f (hc.2.2 (by omega))]
    · rw [if_n (cl_le (by omega) (by omega)) q2, bI_t (hc.2.1 (by omega))]
theorem half {a b : Nat} (h0 : 0 < b) (h : b ≤ a) {m : Nat} (hm : a * b < 2 ^ (m + 1)) : b * (a % b) < 2 ^ m := by
  have h1 : a % b < b := Nat.mod_lt a h0
  have h2 : a % b + b ≤ a := by
    have e := Nat.div_add_mod a b
    have d : 1 ≤ a / b := (Nat.le_div_iff_mul_le h0).mpr (by omega)
    have z : b * 1 ≤ b * (a / b) := Nat.mul_le_mul_left _ d
    omega
  have h3 : 2 * (a % b) ≤ a := by omega
  have h4 : b * (2 * (a % b)) ≤ b * a := Nat.mul_le_mul_left _ h3
  have e1 : b * (2 * (a % b)) = 2 * (b * (a % b)) := by rw [Nat.mul_left_comm]
  rw [Nat.mul_comm b a] at h4
  rw [Nat.pow_succ] at hm
  omega
theorem gcd_st (a b : Nat) : Nat.gcd b (a % b) = Nat.gcd a b := by rw [Nat.gcd_comm b (a % b), ← Nat.gcd_rec, Nat.gcd_comm]
theorem x4_dv {F : Nat} {p1 p2 : Int64} : ∀ (m a b N : Nat), b ≤ a → a * b < 2 ^ m → a < 2 ^ 63 → m < N → s_X4_divisor_6 F p1 p2 N (lN a) (lN b) = some (lN (Nat.gcd a b)) := by
  intro m
  induction m with
  | zero =>
    intro a b N hb hm ha hN
    obtain ⟨N, rfl⟩ : ∃ z, N = z + 1 := ⟨N - 1, by omega⟩
    have hz : b = 0 := by
      rcases Nat.eq_zero_or_pos b with q | q
      · exact q
      · have := Nat.mul_pos (show 0 < a by omega) q; omega
    rw [s_X4_divisor_6, if_p (cl_z (by omega)) hz, hz, Nat.gcd_zero_right]
  | succ m ih =>
    intro a b N hb hm ha hN
    obtain ⟨N, rfl⟩ : ∃ z, N = z + 1 := ⟨N - 1, by omega⟩
    rcases Nat.eq_zero_or_pos b with hz | hz
    · rw [s_X4_divisor_6, if_p (cl_z (by omega)) hz, hz, Nat.gcd_zero_right]
    · have := Nat.mod_lt a hz
      rw [s_X4_divisor_6, if_n (cl_z (by omega)) (by omega), nzl hz (by omega), bd_some, pk_lRem (by omega) hz (by omega), bd_some, ih b (a % b) N (by omega) (half hz hb hm) (by omega) (by omega), gcd_st]
theorem x4_divisor {a b : Nat} (ha : a < 2 ^ 60) (hb : b < 2 ^ 30) {F : Nat} (hF : 100 ≤ F) : s_X4_divisor F (lN a) (lN b) = some (lN (Nat.gcd a b)) := by
  have hm : a * b < 2 ^ 90 := by
    have : a * b ≤ a * 2 ^ 30 := Nat.mul_le_mul_left _ (by omega)
    have : a * 2 ^ 30 < 2 ^ 60 * 2 ^ 30 := Nat.mul_lt_mul_of_pos_right ha (by decide)
    omega
  unfold s_X4_divisor
  rcases Nat.le_total b a with h | h
  · exact x4_dv 90 a b F h hm (by omega) (by omega)
  · obtain ⟨N, rfl⟩ : ∃ z, F = z + 1 := ⟨F - 1, by omega⟩
    rcases Nat.eq_zero_or_pos b with hz | hz
    · rw [s_X4_divisor_6, if_p (cl_z (by omega)) hz, hz, Nat.gcd_zero_right]
    · rw [s_X4_divisor_6, if_n (cl_z (by omega)) (by omega), nzl hz (by omega), bd_some, pk_lRem (by omega) hz (by omega), bd_some]
      have hmod : a % b ≤ a := Nat.mod_le a b
      have hmb := Nat.mod_lt a hz
      rw [x4_dv 90 b (a % b) N (by omega) (by
        have : b * (a % b) ≤ b * a := Nat.mul_le_mul_left _ hmod
        rw [Nat.mul_comm b a] at this
        omega) (by omega) (by omega), gcd_st]
theorem x0_gv {F : Nat} {p1 p2 : Int64} : ∀ (m a b N : Nat) (c : Nat), b ≤ a → a * b < 2 ^ m → a < 2 ^ 63 → m < N → c + m < 199 → s_X0_greatestDivisor_3 F p1 p2 N (lN a) (lN b) (nI c) = some (lN (Nat.gcd a b)) := by
  intro m
  induction m with
  | zero =>
    intro a b N c hb hm ha hN hc
    obtain ⟨N, rfl⟩ : ∃ z, N = z + 1 := ⟨N - 1, by omega⟩
    have hz : b = 0 := by
      rcases Nat.eq_zero_or_pos b with q | q
      · exact q
      · have := Nat.mul_pos (show 0 < a by omega) q; omega
    rw [s_X0_greatestDivisor_3, if_neg (show ¬ (200 : Int32) ≤ nI c from nI_ge (b := 200) (by omega) (by decide)), if_p (cl_z (by omega)) hz, hz, Nat.gcd_zero_right]
  | succ m ih =>
    intro a b N c hb hm ha hN hc
    obtain ⟨N, rfl⟩ : ∃ z, N = z + 1 := ⟨N - 1, by omega⟩
    rw [s_X0_greatestDivisor_3, if_neg (show ¬ (200 : Int32) ≤ nI c from nI_ge (b := 200) (by omega) (by decide))]
    rcases Nat.eq_zero_or_pos b with hz | hz
    · rw [if_p (cl_z (by omega)) hz, hz, Nat.gcd_zero_right]
    · have := Nat.mod_lt a hz
      rw [if_n (cl_z (by omega)) (by omega), nzl hz (by omega), bd_some, pk_lRem (by omega) hz (by omega), bd_some, bd_some, nI_1, ih b (a % b) N (c + 1) (by omega) (half hz hb hm) (by omega) (by omega) (by omega), gcd_st]
theorem x0_greatestDivisor {a b : Nat} (ha : a < 2 ^ 60) (hb : b < 2 ^ 30) {F : Nat} (hF : 100 ≤ F) : s_X0_greatestDivisor F (lN a) (lN b) = some (lN (Nat.gcd a b)) := by
  have hm : a * b < 2 ^ 90 := by
    have : a * b ≤ a * 2 ^ 30 := Nat.mul_le_mul_left _ (by omega)
    have : a * 2 ^ 30 < 2 ^ 60 * 2 ^ 30 := Nat.mul_lt_mul_of_pos_right ha (by decide)
    omega
  unfold s_X0_greatestDivisor
  rw [← nI_0]
  rcases Nat.le_total b a with h | h
  · exact x0_gv 90 a b F 0 h hm (by omega) (by omega) (by omega)
  · obtain ⟨N, rfl⟩ : ∃ z, F = z + 1 := ⟨F - 1, by omega⟩
    rw [s_X0_greatestDivisor_3, if_neg (show ¬ (200 : Int32) ≤ nI 0 from nI_ge (b := 200) (by omega) (by decide))]
    rcases Nat.eq_zero_or_pos b with hz | hz
    · rw [if_p (cl_z (by omega)) hz, hz, Nat.gcd_zero_right]
    · rw [if_n (cl_z (by omega)) (by omega), nzl hz (by omega), bd_some, pk_lRem (by omega) hz (by omega), bd_some, bd_some, nI_1]
      have hmod : a % b ≤ a := Nat.mod_le a b
      have hmb := Nat.mod_lt a hz
      rw [x0_gv 90 b (a % b) N (0 + 1) (by omega) (by
        have : b * (a % b) ≤ b * a := Nat.mul_le_mul_left _ hmod
        rw [Nat.mul_comm b a] at this
        omega) (by omega) (by omega) (by omega), gcd_st]
theorem bI_01 {p : Prop} : bI p = 0 ∨ bI p = 1 := by
  by_cases h : p
  · exact Or.inr (bI_t h)
  · exact Or.inl (bI_f h)
/-- one step of isLess that goes on -/
theorem x4_ls {F : Nat} {p1 p2 p3 p4 : Int64} {p q r s N : Nat} {t : Prop} (hp : p < 2 ^ 63) (hq : q < 2 ^ 63) (hr : r < 2 ^ 63) (hs : s < 2 ^ 63) (hpq : 0 < p ∨ 0 < q) (hrs : 0 < r ∨ 0 < s) : s_X4_isLess_17 F p1 p2 p3 p4 (N + 1) (lN p) (lN q) (lN r) (lN s) (bI t) = ci (0 < q ∧ 0 < s ∧ p / q = r / s) (s_X4_isLess_17 F p1 p2 p3 p4 N (lN q) (lN (p % q)) (lN s) (lN (r % s)) (bI (¬ t))) (some (bI ((t ∧ r * q < p * s) ∨ (¬ t ∧ p * s < r * q)))) := by
  rw [s_X4_isLess_17]
  rcases Nat.eq_zero_or_pos q with hq0 | hq0
  · -- the first is without end
    subst hq0
    have hp0 : 0 < p := by omega
    rw [if_p (cl_z (by omega)) rfl, ci_f (fun z => by omega)]
    unfold s_X4_isLess_31
    have e50 : ∀ v, (s_X4_isLess_50 F p1 p2 p3 p4 (fun y0 y1 y2 y3 y4 => s_X4_isLess_17 F p1 p2 p3 p4 N y0 y1 y2 y3 y4) (lN 0) (lN s) (bI t) 0) = v → v = some (bI ((t ∧ r * 0 < p * s) ∨ (¬ t ∧ p * s < r * 0))) := by
      intro v hv
      rw [← hv]
      unfold s_X4_isLess_50
      by_cases ht : t
      · rw [if_n bI_0 (fun z => z ht), if_p (cl_z (by omega)) rfl]
        rcases Nat.eq_zero_or_pos s with hs0 | hs0
        · rw [if_p (cl_z hs) hs0, bI_f]
          rintro (z | z)
          · rw [hs0] at z; omega
          · exact z.1 ht
        · rw [if_n (cl_z hs) (by omega), bI_t (Or.inl ⟨ht, by rw [Nat.mul_zero]; exact Nat.mul_pos hp0 hs0⟩)]
      · rw [if_p bI_0 ht, show bz_i 0 = some () from rfl, bd_some, bI_f]
        rintro (z | z)
        · exact ht z.1
        · omega
    rcases Nat.eq_zero_or_pos s with hs0 | hs0
    · rw [if_p (cl_z hs) hs0, if_p (cl_z (by omega)) rfl]
      exact e50 _ rfl
    · rw [if_n (cl_z hs) (by omega)]
      exact e50 _ rfl
  · rw [if_n (cl_z hq) (by omega)]
    rcases Nat.eq_zero_or_pos s with hs0 | hs0
    · subst hs0
      have hr0 : 0 < r := by omega
      rw [if_p (cl_z (by omega)) rfl, ci_f (fun z => by omega)]
      unfold s_X4_isLess_31 s_X4_isLess_50
      rw [if_p (cl_z (by omega)) rfl, if_n (cl_z hq) (by omega)]
      by_cases ht : t
      · rw [if_n bI_0 (fun z => z ht), if_n (cl_z hq) (by omega), bI_f]
        rintro (z | z)
        · omega
        · exact z.1 ht
      · rw [if_p bI_0 ht, show bz_i 1 = some () from rfl, bd_some, bI_t (Or.inr ⟨ht, by rw [Nat.mul_zero]; exact Nat.mul_pos hr0 hq0⟩)]
    · have hc := fr_cmp (u := p) (v := r) hq0 hs0
      have d1 := Nat.div_le_self p q
      have d2 := Nat.div_le_self r s
      have m1 := Nat.mod_lt p hq0
      have m2 := Nat.mod_lt r hs0
      rw [if_n (cl_z hs) (by omega), nzl hq0 hq, bd_some, nzl hs0 hs, bd_some, pk_lRem hp hq0 hq, pk_lRem hr hs0 hs, pk_lDiv hp hq0 hq, pk_lDiv hr hs0 hs]
      by_cases he : p / q = r / s
      · rw [if_p (cl_eq (by omega) (by omega)) he, ci_t ⟨hq0, hs0, he⟩, bd_some, bd_some, bd_some, bd_some]
        by_cases ht : t
        · rw [if_n bI_0 (fun z => z ht), bI_f (fun z => z ht)]
        · rw [if_p bI_0 ht, bI_t ht]
      · rw [if_n (cl_eq (by omega) (by omega)) he, ci_f (fun z => he z.2.2), bd_some, bd_some]
        unfold s_X4_isLess_115
        by_cases hlt : r / s ≤ p / q
        · have k1 := hc.2.1 (by omega)
          rw [if_p (cl_ge (by omega) (by omega)) hlt]
          by_cases ht : t
          · rw [if_neg (by rw [bI_t ht]; decide), bI_t (Or.inl ⟨ht, k1⟩)]
          · rw [if_pos (bI_f ht).symm, bI_f]
            rintro (z | z)
            · exact ht z.1
            · omega
        · have k1 := hc.2.2 (by omega)
          have k2 : p * s < r * q := (fr_cmp (u := r) (v := p) hs0 hq0).2.1 (by omega)
          rw [if_n (cl_ge (by omega) (by omega)) hlt]
          by_cases ht : t
          · rw [if_pos (bI_t ht).symm, bI_f]
            rintro (z | z)
            · exact k1 z.2
            · exact z.1 ht
          · rw [if_neg (by rw [bI_f ht]; decide), bI_t (Or.inr ⟨ht, k2⟩)]
theorem ls_next {p q r s : Nat} {t : Prop} (hq : 0 < q) (hs : 0 < s) (he : p / q = r / s) : (((¬ t) ∧ s * (p % q) < q * (r % s)) ∨ (¬ ¬ t ∧ q * (r % s) < s * (p % q))) ↔ ((t ∧ r * q < p * s) ∨ (¬ t ∧ p * s < r * q)) := by
  have h1 := (fr_cmp (u := p) (v := r) hq hs).1 he
  have h2 := (fr_cmp (u := r) (v := p) hs hq).1 he.symm
  rw [Nat.mul_comm s (p % q), Nat.mul_comm q (r % s)]
  constructor
  · rintro (z | z)
    · exact Or.inr ⟨z.1, h2.mpr z.2⟩
    · exact Or.inl ⟨Classical.byContradiction z.1, h1.mpr z.2⟩
  · rintro (z | z)
    · exact Or.inr ⟨fun w => w z.1, h1.mp z.2⟩
    · exact Or.inl ⟨z.1, h2.mp z.2⟩
theorem x4_ll {F : Nat} {p1 p2 p3 p4 : Int64} : ∀ (m p q r s N : Nat) (t : Prop), q ≤ p → p * q < 2 ^ m → p < 2 ^ 63 → r < 2 ^ 63 → s < 2 ^ 63 → m < N → (0 < p ∨ 0 < q) → (0 < r ∨ 0 < s) → s_X4_isLess_17 F p1 p2 p3 p4 N (lN p) (lN q) (lN r) (lN s) (bI t) = some (bI ((t ∧ r * q < p * s) ∨ (¬ t ∧ p * s < r * q))) := by
  intro m
  induction m with
  | zero =>
    intro p q r s N t hb hm hp hr hs hN h1 h2
    obtain ⟨N, rfl⟩ : ∃ z, N = z + 1 := ⟨N - 1, by omega⟩
    have hz : q = 0 := by
      rcases Nat.eq_zero_or_pos q with z | z
      · exact z
      · have := Nat.mul_pos (show 0 < p by omega) z; omega
    rw [x4_ls hp (by omega) hr hs h1 h2, ci_f (fun z => by omega)]
  | succ m ih =>
    intro p q r s N t hb hm hp hr hs hN h1 h2
    obtain ⟨N, rfl⟩ : ∃ z, N = z + 1 := ⟨N - 1, by omega⟩
    rw [x4_ls hp (by omega) hr hs h1 h2]
    by_cases hc : 0 < q ∧ 0 < s ∧ p / q = r / s
    · have := Nat.mod_lt p hc.1
      have := Nat.mod_lt r hc.2.1
      rw [ci_t hc, ih q (p % q) s (r % s) N (¬ t) (by omega) (half hc.1 hb hm) (by omega) (by omega) (by omega) (by omega) (Or.inl hc.1) (Or.inl hc.2.1), bI_c (ls_next hc.1 hc.2.1 hc.2.2)]
    · rw [ci_f hc]
theorem x4_isLess {a b c d : Nat} (h : Q_ok a b) (h' : Q_ok c d) {F : Nat} (hF : 100 ≤ F) : s_X4_isLess F (lN a) (lN b) (lN c) (lN d) = some (bI (a * d < c * b)) := by
  obtain ⟨h1, h2, h3⟩ := h
  obtain ⟨k1, k2, k3⟩ := h'
  have e : bI (a * d < c * b) = bI ((False ∧ c * b < a * d) ∨ (¬ False ∧ a * d < c * b)) := bI_c ⟨fun z => Or.inr ⟨id, z⟩, fun z => z.elim (fun w => w.1.elim) (fun w => w.2)⟩
  unfold s_X4_isLess
  rw [e, ← bI_f (p := False) id]
  have hm : a * b < 2 ^ 90 := by
    have : a * b ≤ 640000000000000000 * 800000000 := Nat.mul_le_mul h1 h3
    omega
  rcases Nat.le_total b a with hb | hb
  · exact x4_ll 90 a b c d F False hb hm (by omega) (by omega) (by omega) (by omega) (Or.inr h2) (Or.inr k2)
  · obtain ⟨N, rfl⟩ : ∃ z, F = z + 1 := ⟨F - 1, by omega⟩
    rw [x4_ls (by omega) (by omega) (by omega) (by omega) (Or.inr h2) (Or.inr k2)]
    by_cases hc : 0 < b ∧ 0 < d ∧ a / b = c / d
    · have := Nat.mod_lt a hc.1
      have := Nat.mod_lt c hc.2.1
      have hmod : a % b ≤ a := Nat.mod_le a b
      rw [ci_t hc, x4_ll 90 b (a % b) d (c % d) N (¬ False) (by omega) (by
        have : b * (a % b) ≤ b * a := Nat.mul_le_mul_left _ hmod
        rw [Nat.mul_comm b a] at this
        omega) (by omega) (by omega) (by omega) (by omega) (Or.inl hc.1) (Or.inl hc.2.1), bI_c (ls_next hc.1 hc.2.1 hc.2.2)]
    · rw [ci_f hc]
