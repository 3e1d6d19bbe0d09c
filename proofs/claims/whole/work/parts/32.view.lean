-- a shape as the mathematics sees it: kind (0 point, 1 line, 2 polygon), corners, their places
abbrev pg_T : Type := Nat × Nat × (Nat → Int) × (Nat → Int)
abbrev g_k (G : pg_T) : Nat := G.1
abbrev g_n (G : pg_T) : Nat := G.2.1
abbrev g_x (G : pg_T) : Nat → Int := G.2.2.1
abbrev g_y (G : pg_T) : Nat → Int := G.2.2.2
def B_ok (z : Int) : Prop := -10000 ≤ z ∧ z ≤ 10000
def wp (n i : Nat) : Nat := if i + 1 = n then 0 else i + 1
theorem wp_lt {n i : Nat} (h : i < n) : wp n i < n := by unfold wp; split <;> omega
theorem wp_mod {n i : Nat} (h : i < n) : (i + 1) % n = wp n i := by
  unfold wp
  split
  · rename_i e; rw [e]; exact Nat.mod_self n
  · exact Nat.mod_eq_of_lt (by omega)
def G_ok (G : pg_T) : Prop := g_k G < 3 ∧ g_n G ≤ 24 ∧ (g_k G = 0 → g_n G ≤ 1) ∧ ∀ j, j < g_n G → B_ok (g_x G j) ∧ B_ok (g_y G j)
/-- the class's object S is the shape G -/
def sv (S : sh_T) (G : pg_T) : Prop := sh_k S = g_k G ∧ sh_z S = nI (g_n G) ∧ g_n G < sh_n S ∧ sh_n S ≤ 25 ∧ (∀ j, j < g_n G → sh_x S j = iI (g_x G j) ∧ sh_y S j = iI (g_y G j)) ∧ (0 < g_n G → sh_x S (g_n G) = iI (g_x G 0) ∧ sh_y S (g_n G) = iI (g_y G 0))
/-- the model's shape k is the shape G -/
def mv (M : mo_T) (k : Nat) (G : pg_T) : Prop := k < 60 ∧ mo_k M k = nI (g_k G + 1) ∧ mo_c M k = nI (g_n G) ∧ ∀ j, j < g_n G → mo_x M (24 * k + j) = lI (g_x G j) ∧ mo_y M (24 * k + j) = lI (g_y G j)
theorem I_B {z : Int} (h : B_ok z) : I_ok z := ⟨by have := h.1; omega, by have := h.2; omega⟩
theorem L_B {z : Int} (h : B_ok z) : L_ok z := ⟨by have := h.1; omega, by have := h.2; omega⟩
theorem df {a b : Int} (ha : B_ok a) (hb : B_ok b) : (iI a - iI b).toInt64 = lI (a - b) := by
  rw [iI_sub]
  exact iI_l ⟨by have := ha.1; have := hb.2; omega, by have := ha.2; have := hb.1; omega⟩
theorem sv_x {S : sh_T} {G : pg_T} (h : sv S G) {i : Nat} (hi : i < g_n G) : rd_i (sh_n S) (sh_x S) (nI i) = some (iI (g_x G i)) := by
  rw [rd_ok (by have := h.2.2.1; omega) (by have := h.2.2.2.1; omega), (h.2.2.2.2.1 i hi).1]
theorem sv_y {S : sh_T} {G : pg_T} (h : sv S G) {i : Nat} (hi : i < g_n G) : rd_i (sh_n S) (sh_y S) (nI i) = some (iI (g_y G i)) := by
  rw [rd_ok (by have := h.2.2.1; omega) (by have := h.2.2.2.1; omega), (h.2.2.2.2.1 i hi).2]
theorem sv_x1 {S : sh_T} {G : pg_T} (h : sv S G) {i : Nat} (hi : i < g_n G) : rd_i (sh_n S) (sh_x S) (nI i + 1) = some (iI (g_x G (wp (g_n G) i))) := by
  rw [nI_1, rd_ok (by have := h.2.2.1; omega) (by have := h.2.2.2.1; omega)]
  unfold wp
  split
  · rename_i e; rw [e, (h.2.2.2.2.2 (by omega)).1]
  · rw [(h.2.2.2.2.1 (i + 1) (by omega)).1]
theorem sv_y1 {S : sh_T} {G : pg_T} (h : sv S G) {i : Nat} (hi : i < g_n G) : rd_i (sh_n S) (sh_y S) (nI i + 1) = some (iI (g_y G (wp (g_n G) i))) := by
  rw [nI_1, rd_ok (by have := h.2.2.1; omega) (by have := h.2.2.2.1; omega)]
  unfold wp
  split
  · rename_i e; rw [e, (h.2.2.2.2.2 (by omega)).2]
  · rw [(h.2.2.2.2.1 (i + 1) (by omega)).2]
/-- the hand of (x, y) as seen along side i -/
abbrev Tr (G : pg_T) (i : Nat) (x y : Int) : Int := cr (g_x G i) (g_y G i) (g_x G (wp (g_n G) i)) (g_y G (wp (g_n G) i)) x y
theorem cr_bd {ax ay bx by' x y : Int} (h1 : B_ok ax) (h2 : B_ok ay) (h3 : B_ok bx) (h4 : B_ok by') (h5 : B_ok x) (h6 : B_ok y) : -800000000 ≤ cr ax ay bx by' x y ∧ cr ax ay bx by' x y ≤ 800000000 := by
  unfold B_ok at *
  have k1 := mul_bd (a := bx - ax) (b := y - ay) (A := 20000) (B := 20000) (by omega) (by omega) (by omega) (by omega)
  have k2 := mul_bd (a := by' - ay) (b := x - ax) (A := 20000) (B := 20000) (by omega) (by omega) (by omega) (by omega)
  unfold cr
  omega
theorem Tr_bd {G : pg_T} (hG : G_ok G) {i : Nat} (hi : i < g_n G) {x y : Int} (hx : B_ok x) (hy : B_ok y) : -800000000 ≤ Tr G i x y ∧ Tr G i x y ≤ 800000000 := cr_bd (hG.2.2.2 i hi).1 (hG.2.2.2 i hi).2 (hG.2.2.2 _ (wp_lt hi)).1 (hG.2.2.2 _ (wp_lt hi)).2 hx hy
theorem x2_turn {S : sh_T} {G : pg_T} (hG : G_ok G) (h : sv S G) {i : Nat} (hi : i < g_n G) {x y : Int} (hx : B_ok x) (hy : B_ok y) (F : Nat) : s_X2_turn F S (nI i) (iI x) (iI y) = some (lI (Tr G i x y)) := by
  have b1 := hG.2.2.2 i hi
  have b2 := hG.2.2.2 _ (wp_lt hi)
  unfold s_X2_turn
  rw [sv_x1 h hi, bd_some, sv_x h hi, bd_some, bd_some, sv_y1 h hi, bd_some, sv_y h hi, bd_some, bd_some, bd_some, bd_some, df b2.1 b1.1, df b2.2 b1.2, df hy b1.2, df hx b1.1, lI_mul, lI_mul, lI_sub]
  rfl
theorem ma_I {a b : Int} (ha : B_ok a) (hb : B_ok b) : ma_i (iI a) (iI b) = iI (max a b) := by
  unfold ma_i
  by_cases h : a < b
  · rw [if_pos ((iI_lt (I_B ha) (I_B hb)).mpr h), Int.max_eq_right (by omega)]
  · rw [if_neg (fun q => h ((iI_lt (I_B ha) (I_B hb)).mp q)), Int.max_eq_left (by omega)]
theorem mi_I {a b : Int} (ha : B_ok a) (hb : B_ok b) : mi_i (iI a) (iI b) = iI (min a b) := by
  unfold mi_i
  by_cases h : b < a
  · rw [if_pos ((iI_lt (I_B hb) (I_B ha)).mpr h), Int.min_eq_right (by omega)]
  · rw [if_neg (fun q => h ((iI_lt (I_B hb) (I_B ha)).mp q)), Int.min_eq_left (by omega)]
theorem B_max {a b : Int} (ha : B_ok a) (hb : B_ok b) : B_ok (max a b) := by unfold B_ok at *; omega
theorem B_min {a b : Int} (ha : B_ok a) (hb : B_ok b) : B_ok (min a b) := by unfold B_ok at *; omega
theorem x2_overlap {a b c d : Int} (ha : B_ok a) (hb : B_ok b) (hc : B_ok c) (hd : B_ok d) (F : Nat) : s_X2_overlap F (iI a) (iI b) (iI c) (iI d) = some (bI (ov a b c d)) := by
  unfold s_X2_overlap
  rw [ma_I ha hb, mi_I hc hd, ma_I hc hd, mi_I ha hb]
  by_cases h1 : max a b < min c d
  · rw [if_pos ((iI_lt (I_B (B_max ha hb)) (I_B (B_min hc hd))).mpr h1), bI_f (fun q => by have := q.1; omega)]
  · rw [if_neg (fun q => h1 ((iI_lt (I_B (B_max ha hb)) (I_B (B_min hc hd))).mp q))]
    by_cases h2 : max c d < min a b
    · rw [if_pos ((iI_lt (I_B (B_max hc hd)) (I_B (B_min ha hb))).mpr h2), bI_f (fun q => by have := q.2; omega)]
    · rw [if_neg (fun q => h2 ((iI_lt (I_B (B_max hc hd)) (I_B (B_min ha hb))).mp q)), bI_t ⟨by omega, by omega⟩]
theorem pr_bd {a b : Int} (ha : -800000000 ≤ a ∧ a ≤ 800000000) (hb : -800000000 ≤ b ∧ b ≤ 800000000) : L_ok (a * b) := by
  have := mul_bd (a := a) (b := b) (A := 800000000) (B := 800000000) (by omega) (by omega) (by omega) (by omega)
  exact ⟨by omega, by omega⟩
theorem cp_gt {a : Int} (ha : L_ok a) : (0 < lg_cmp (lI a) 0) ↔ 0 < a := by rw [lg_cmp_gt, l0, lI_lt L_ok0 ha]
theorem cp_ge {a : Int} (ha : L_ok a) : (0 ≤ lg_cmp (lI a) 0) ↔ 0 ≤ a := by rw [lg_cmp_ge, l0, lI_le L_ok0 ha]
theorem cp_le {a : Int} (ha : L_ok a) : (lg_cmp (lI a) 0 ≤ 0) ↔ a ≤ 0 := by rw [lg_cmp_le, l0, lI_le ha L_ok0]
theorem cp_lt {a : Int} (ha : L_ok a) : (lg_cmp (lI a) 0 < 0) ↔ a < 0 := by rw [lg_cmp_lt, l0, lI_lt ha L_ok0]
theorem cp_eq {a : Int} (ha : L_ok a) : (lg_cmp (lI a) 0 = 0) ↔ a = 0 := by rw [lg_cmp_eq, l0, lI_eq ha L_ok0]
theorem cn_gt {a b : Int} (ha : L_ok a) (hb : L_ok b) : (0 < lg_cmp (lI a) (lI b)) ↔ b < a := by rw [lg_cmp_gt, lI_lt hb ha]
theorem cn_ge {a b : Int} (ha : L_ok a) (hb : L_ok b) : (0 ≤ lg_cmp (lI a) (lI b)) ↔ b ≤ a := by rw [lg_cmp_ge, lI_le hb ha]
theorem cn_le {a b : Int} (ha : L_ok a) (hb : L_ok b) : (lg_cmp (lI a) (lI b) ≤ 0) ↔ a ≤ b := by rw [lg_cmp_le, lI_le ha hb]
theorem cn_lt {a b : Int} (ha : L_ok a) (hb : L_ok b) : (lg_cmp (lI a) (lI b) < 0) ↔ a < b := by rw [lg_cmp_lt, lI_lt ha hb]
theorem cn_eq {a b : Int} (ha : L_ok a) (hb : L_ok b) : (lg_cmp (lI a) (lI b) = 0) ↔ a = b := by rw [lg_cmp_eq, lI_eq ha hb]
theorem if_p {α : Type} {c : Prop} [Decidable c] {p : Prop} (h : c ↔ p) (hp : p) (a b : α) : (if c then a else b) = a := if_pos (h.mpr hp)
theorem if_n {α : Type} {c : Prop} [Decidable c] {p : Prop} (h : c ↔ p) (hp : ¬ p) (a b : α) : (if c then a else b) = b := if_neg (fun q => hp (h.mp q))
/-- side i of G and side j of J have a place in common -/
abbrev Ct (G : pg_T) (i : Nat) (J : pg_T) (j : Nat) : Prop := ct (g_x G i) (g_y G i) (g_x G (wp (g_n G) i)) (g_y G (wp (g_n G) i)) (g_x J j) (g_y J j) (g_x J (wp (g_n J) j)) (g_y J (wp (g_n J) j))
theorem x2_sideTouches {S T : sh_T} {G J : pg_T} (hG : G_ok G) (hJ : G_ok J) (h : sv S G) (k : sv T J) {i j : Nat} (hi : i < g_n G) (hj : j < g_n J) (F : Nat) : s_X2_sideTouches F S (nI i) T (nI j) = some (bI (Ct G i J j)) := by
  have b1 := hG.2.2.2 i hi
  have b2 := hG.2.2.2 _ (wp_lt hi)
  have b3 := hJ.2.2.2 j hj
  have b4 := hJ.2.2.2 _ (wp_lt hj)
  have hB : bI (Ct G i J j) = bI (tc (g_x G i) (g_y G i) (g_x G (wp (g_n G) i)) (g_y G (wp (g_n G) i)) (g_x J j) (g_y J j) (g_x J (wp (g_n J) j)) (g_y J (wp (g_n J) j))) := bI_c ct_tc
  rw [hB]
  unfold s_X2_sideTouches
  rw [sv_x h hi, bd_some, sv_x1 h hi, bd_some, sv_x k hj, bd_some, sv_x1 k hj, bd_some, x2_overlap b1.1 b2.1 b3.1 b4.1, bd_some]
  by_cases h1 : ov (g_x G i) (g_x G (wp (g_n G) i)) (g_x J j) (g_x J (wp (g_n J) j))
  · rw [if_n bI_0 (fun q => q h1), sv_y h hi, bd_some, sv_y1 h hi, bd_some, sv_y k hj, bd_some, sv_y1 k hj, bd_some, x2_overlap b1.2 b2.2 b3.2 b4.2, bd_some]
    by_cases h2 : ov (g_y G i) (g_y G (wp (g_n G) i)) (g_y J j) (g_y J (wp (g_n J) j))
    · rw [if_n bI_0 (fun q => q h2), bd_some, bd_some, x2_turn hG h hi b3.1 b3.2, bd_some, bd_some, bd_some, x2_turn hG h hi b4.1 b4.2, bd_some, lI_mul]
      have t1 := Tr_bd hG hi b3.1 b3.2
      have t2 := Tr_bd hG hi b4.1 b4.2
      by_cases h3 : 0 < Tr G i (g_x J j) (g_y J j) * Tr G i (g_x J (wp (g_n J) j)) (g_y J (wp (g_n J) j))
      · rw [if_p (cp_gt (pr_bd t1 t2)) h3, bI_f (fun q => absurd h3 (Int.not_lt.mpr q.2.2.1))]
      · rw [if_n (cp_gt (pr_bd t1 t2)) h3, bd_some, bd_some, x2_turn hJ k hj b1.1 b1.2, bd_some, bd_some, bd_some, x2_turn hJ k hj b2.1 b2.2, bd_some, lI_mul]
        have t3 := Tr_bd hJ hj b1.1 b1.2
        have t4 := Tr_bd hJ hj b2.1 b2.2
        by_cases h4 : 0 < Tr J j (g_x G i) (g_y G i) * Tr J j (g_x G (wp (g_n G) i)) (g_y G (wp (g_n G) i))
        · rw [if_p (cp_gt (pr_bd t3 t4)) h4, bI_f (fun q => absurd h4 (Int.not_lt.mpr q.2.2.2))]
        · rw [if_n (cp_gt (pr_bd t3 t4)) h4, bI_t ⟨h1, h2, Int.not_lt.mp h3, Int.not_lt.mp h4⟩]
    · rw [if_p bI_0 h2, bI_f (fun q => h2 q.2.1)]
  · rw [if_p bI_0 h1, bI_f (fun q => h1 q.1)]
