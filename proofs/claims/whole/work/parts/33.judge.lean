-- what is wrong with a shape
def fo (ax ay bx by' qx qy : Int) : Prop := (ax - bx) * (qy - by') = (ay - by') * (qx - bx) ∧ 0 < (ax - bx) * (qx - bx) + (ay - by') * (qy - by')
abbrev Fo (G : pg_T) (i j : Nat) : Prop := fo (g_x G i) (g_y G i) (g_x G j) (g_y G j) (g_x G (wp (g_n G) j)) (g_y G (wp (g_n G) j))
def Wq (G : pg_T) (i j : Nat) : Prop := if wp (g_n G) i = j then Fo G i j else if wp (g_n G) j = i then Fo G j i else Ct G i G j
def ln (G : pg_T) (i : Nat) : Prop := g_x G i = g_x G (wp (g_n G) i) ∧ g_y G i = g_y G (wp (g_n G) i)
def Wc (G : pg_T) (i : Nat) : Prop := ln G i ∨ (g_k G = 2 ∧ ∃ j, i < j ∧ j < g_n G ∧ Wq G i j)
def Wm (G : pg_T) (i : Nat) : Prop := ln G i ∨ (g_k G = 2 ∧ ∃ j, j < g_n G ∧ j ≠ i ∧ Wq G i j)
noncomputable def fw (P : Nat → Prop) : Nat → Nat → Int32
  | 0, _ => 1
  | d + 1, j => @ite Int32 (P j) (Classical.propDecidable _) (-10 - nI j) (fw P d (j + 1))
def sd (G : pg_T) : Nat := if g_k G = 1 then g_n G - 1 else g_n G
noncomputable def vd (G : pg_T) : Int32 := if g_n G < g_k G + 1 then 0 else if g_k G = 0 then 1 else fw (Wm G) (sd G) 0
theorem fw_t {P : Nat → Prop} {d j : Nat} (h : P j) : fw P (d + 1) j = -10 - nI j := if_pos h
theorem fw_f {P : Nat → Prop} {d j : Nat} (h : ¬ P j) : fw P (d + 1) j = fw P d (j + 1) := if_neg h
theorem ct_c {ax ay bx by' cx cy dx dy : Int} : ct ax ay bx by' cx cy dx dy ↔ ct cx cy dx dy ax ay bx by' := ⟨ct_sy, ct_sy⟩
theorem wp_2 {n i j : Nat} (hn : 3 ≤ n) (hi : i < n) (h1 : wp n i = j) : ¬ wp n j = i := by
  unfold wp at *
  split at h1 <;> split <;> omega
theorem Wq_sy {G : pg_T} {i j : Nat} (hn : 3 ≤ g_n G) (hi : i < g_n G) (hj : j < g_n G) (h : Wq G i j) : Wq G j i := by
  unfold Wq at *
  by_cases h1 : wp (g_n G) i = j
  · rw [if_pos h1] at h
    rw [if_neg (wp_2 hn hi h1), if_pos h1]
    exact h
  · rw [if_neg h1] at h
    by_cases h2 : wp (g_n G) j = i
    · rw [if_pos h2] at h
      rw [if_pos h2]
      exact h
    · rw [if_neg h2] at h
      rw [if_neg h2, if_neg h1]
      exact ct_sy h
theorem fw_eq {G : pg_T} (hn : g_k G = 2 → 3 ≤ g_n G) : ∀ (d j : Nat), j + d ≤ g_n G → (∀ i, i < j → ¬ Wm G i) → fw (Wc G) d j = fw (Wm G) d j := by
  intro d
  induction d with
  | zero => intro j _ _; rfl
  | succ d ih =>
    intro j hj hno
    by_cases h : Wm G j
    · have hc : Wc G j := by
        rcases h with h | ⟨hk, j', h1, h2, h3⟩
        · exact Or.inl h
        · refine Or.inr ⟨hk, j', ?_, h1, h3⟩
          rcases Nat.lt_or_gt_of_ne h2 with q | q
          · exact absurd (Or.inr ⟨hk, j, by omega, fun e => h2 e.symm, Wq_sy (hn hk) (by omega) h1 h3⟩) (hno j' q)
          · exact q
      rw [fw_t hc, fw_t h]
    · have hc : ¬ Wc G j := by
        intro q
        rcases q with q | ⟨hk, j', h1, h2, h3⟩
        · exact h (Or.inl q)
        · exact h (Or.inr ⟨hk, j', h2, by omega, h3⟩)
      rw [fw_f hc, fw_f h]
      exact ih (j + 1) (by omega) (fun i hi => by
        rcases (show i < j ∨ i = j by omega) with q | q
        · exact hno i q
        · subst q; exact h)
theorem d_bd {a b : Int} (ha : B_ok a) (hb : B_ok b) : -20000 ≤ a - b ∧ a - b ≤ 20000 := by unfold B_ok at *; omega
theorem p_bd {a b : Int} (ha : -20000 ≤ a ∧ a ≤ 20000) (hb : -20000 ≤ b ∧ b ≤ 20000) : -400000000 ≤ a * b ∧ a * b ≤ 400000000 := by
  have := mul_bd (a := a) (b := b) (A := 20000) (B := 20000) (by omega) (by omega) (by omega) (by omega)
  omega
theorem L_4 {a : Int} (h : -400000000 ≤ a ∧ a ≤ 400000000) : L_ok a := ⟨by omega, by omega⟩
theorem L_8 {a : Int} (h : -800000000 ≤ a ∧ a ≤ 800000000) : L_ok a := ⟨by omega, by omega⟩
theorem L_44 {a b : Int} (h : -400000000 ≤ a ∧ a ≤ 400000000) (k : -400000000 ≤ b ∧ b ≤ 400000000) : L_ok (a + b) := ⟨by omega, by omega⟩
theorem L_45 {a b : Int} (h : -400000000 ≤ a ∧ a ≤ 400000000) (k : -400000000 ≤ b ∧ b ≤ 400000000) : L_ok (a - b) := ⟨by omega, by omega⟩
theorem x2_foldsBack {S : sh_T} {G : pg_T} (hG : G_ok G) (h : sv S G) {i j : Nat} (hi : i < g_n G) (hj : j < g_n G) (F : Nat) : s_X2_foldsBack F S (nI i) (nI j) = some (bI (Fo G i j)) := by
  have b1 := hG.2.2.2 i hi
  have b2 := hG.2.2.2 j hj
  have b3 := hG.2.2.2 _ (wp_lt hj)
  have q1 := d_bd b1.1 b2.1
  have q2 := d_bd b1.2 b2.2
  have q3 := d_bd b3.1 b2.1
  have q4 := d_bd b3.2 b2.2
  unfold s_X2_foldsBack
  rw [sv_x h hi, bd_some, sv_x h hj, bd_some, bd_some, sv_y h hi, bd_some, sv_y h hj, bd_some, bd_some, sv_x1 h hj, bd_some, bd_some, bd_some, sv_y1 h hj, bd_some, bd_some, bd_some, df b1.1 b2.1, df b1.2 b2.2, df b3.1 b2.1, df b3.2 b2.2, lI_mul, lI_mul, lI_mul, lI_mul, lI_add]
  by_cases h1 : (g_x G i - g_x G j) * (g_y G (wp (g_n G) j) - g_y G j) = (g_y G i - g_y G j) * (g_x G (wp (g_n G) j) - g_x G j)
  · rw [if_p (cn_eq (L_4 (p_bd q1 q4)) (L_4 (p_bd q2 q3))) h1]
    by_cases h2 : (g_x G i - g_x G j) * (g_x G (wp (g_n G) j) - g_x G j) + (g_y G i - g_y G j) * (g_y G (wp (g_n G) j) - g_y G j) ≤ 0
    · rw [if_p (cp_le (L_44 (p_bd q1 q3) (p_bd q2 q4))) h2, bI_f (fun q => absurd q.2 (Int.not_lt.mpr h2))]
    · rw [if_n (cp_le (L_44 (p_bd q1 q3) (p_bd q2 q4))) h2, bI_t ⟨h1, Int.not_le.mp h2⟩]
  · rw [if_n (cn_eq (L_4 (p_bd q1 q4)) (L_4 (p_bd q2 q3))) h1, bI_f (fun q => h1 q.1)]
theorem nI_e1 {i j : Nat} (hi : i < 10000) (hj : j < 10000) : nI j = nI i + 1 ↔ j = i + 1 := by rw [nI_1]; exact nI_eq (by omega) (by omega)
theorem x2_clash {S : sh_T} {G : pg_T} (hG : G_ok G) (h : sv S G) {i j : Nat} (hij : i < j) (hj : j < g_n G) (hn : 3 ≤ g_n G) (F : Nat) : s_X2_clash F S (nI i) (nI j) = some (bI (Wq G i j)) := by
  have h24 := hG.2.1
  have hi : i < g_n G := by omega
  unfold s_X2_clash Wq
  by_cases e1 : j = i + 1
  · rw [if_p (nI_e1 (by omega) (by omega)) e1, x2_foldsBack hG h hi hj, bd_some, bI_bz, bd_some, if_pos (by unfold wp; split <;> omega)]
  · rw [if_n (nI_e1 (by omega) (by omega)) e1, if_neg (show ¬ wp (g_n G) i = j by unfold wp; split <;> omega)]
    have e35 : s_X2_clash_35 F S (nI i) (nI j) = some (bI (Ct G i G j)) := by
      unfold s_X2_clash_35
      rw [x2_sideTouches hG hG h h hi hj, bd_some, bI_bz, bd_some]
    by_cases e2 : i = 0
    · have c2 : nI i = 0 := by rw [e2]; exact nI_0
      rw [if_pos c2, h.2.1]
      have c3 : (nI j = nI (g_n G) - 1) ↔ j + 1 = g_n G := by
        rw [show g_n G = (g_n G - 1) + 1 by omega, nI_pred, nI_eq (by omega) (by omega)]
        omega
      by_cases e3 : j + 1 = g_n G
      · rw [if_p c3 e3, x2_foldsBack hG h hj hi, bd_some, bI_bz, bd_some, if_pos (show wp (g_n G) j = i by unfold wp; rw [if_pos e3, e2])]
      · rw [if_n c3 e3, e35, if_neg (show ¬ wp (g_n G) j = i by unfold wp; rw [if_neg e3]; omega)]
    · have c2 : ¬ nI i = 0 := nI_ne0 (by omega) (by omega)
      rw [if_neg c2, e35, if_neg (show ¬ wp (g_n G) j = i by unfold wp; split <;> omega)]
theorem x2_wl {S : sh_T} {G : pg_T} (hG : G_ok G) (h : sv S G) {i : Nat} (hi : i < g_n G) (hn : 3 ≤ g_n G) (F : Nat) : ∀ (d j N : Nat), i < j → j + d = g_n G → d < N → s_X2_isWrongSide_52 F S (nI i) N (nI j) = some (bI (∃ j', j ≤ j' ∧ j' < g_n G ∧ Wq G i j')) := by
  have h24 := hG.2.1
  intro d
  induction d with
  | zero =>
    intro j N hij hjd hN
    obtain ⟨N, rfl⟩ : ∃ m, N = m + 1 := ⟨N - 1, by omega⟩
    rw [s_X2_isWrongSide_52, h.2.1, if_pos (nI_le (by omega) (by omega)), bI_f]
    rintro ⟨j', h1, h2, -⟩
    omega
  | succ d ih =>
    intro j N hij hjd hN
    obtain ⟨N, rfl⟩ : ∃ m, N = m + 1 := ⟨N - 1, by omega⟩
    rw [s_X2_isWrongSide_52, h.2.1, if_neg (nI_ge (by omega) (by omega)), x2_clash hG h hij (by omega) hn, bd_some]
    by_cases hw : Wq G i j
    · rw [if_n bI_0 (fun q => q hw), bI_t ⟨j, Nat.le_refl j, by omega, hw⟩]
    · rw [if_p bI_0 hw, bd_some, nI_1, ih (j + 1) N (by omega) (by omega) (by omega)]
      congr 1
      refine bI_c ⟨?_, ?_⟩
      · rintro ⟨j', h1, h2, h3⟩; exact ⟨j', by omega, h2, h3⟩
      · rintro ⟨j', h1, h2, h3⟩
        rcases (show j' = j ∨ j + 1 ≤ j' by omega) with q | q
        · subst q; exact absurd h3 hw
        · exact ⟨j', q, h2, h3⟩
theorem x2_isWrongSide {S : sh_T} {G : pg_T} (hG : G_ok G) (h : sv S G) {i : Nat} (hi : i < g_n G) (hn : g_k G = 2 → 3 ≤ g_n G) {F : Nat} (hF : 100 ≤ F) : s_X2_isWrongSide F S (nI i) = some (bI (Wc G i)) := by
  have b1 := hG.2.2.2 i hi
  have b2 := hG.2.2.2 _ (wp_lt hi)
  have h24 := hG.2.1
  have e36 : ¬ ln G i → s_X2_isWrongSide_36 F S (nI i) = some (bI (Wc G i)) := by
    intro hl
    unfold s_X2_isWrongSide_36
    rw [h.1]
    by_cases hk : g_k G = 2
    · rw [if_pos hk, bd_some, nI_1, x2_wl hG h hi (hn hk) F (g_n G - (i + 1)) (i + 1) F (by omega) (by omega) (by omega)]
      congr 1
      refine bI_c ⟨?_, ?_⟩
      · rintro ⟨j, h1, h2, h3⟩; exact Or.inr ⟨hk, j, by omega, h2, h3⟩
      · rintro (q | ⟨-, j, h1, h2, h3⟩)
        · exact absurd q hl
        · exact ⟨j, by omega, h2, h3⟩
    · rw [if_neg hk, bI_f]
      rintro (q | ⟨q, -⟩)
      · exact hl q
      · exact hk q
  unfold s_X2_isWrongSide
  rw [sv_x h hi, bd_some, sv_x1 h hi, bd_some]
  by_cases h1 : g_x G i = g_x G (wp (g_n G) i)
  · rw [if_p (iI_eq (I_B b1.1) (I_B b2.1)) h1, sv_y h hi, bd_some, sv_y1 h hi, bd_some]
    by_cases h2 : g_y G i = g_y G (wp (g_n G) i)
    · rw [if_p (iI_eq (I_B b1.2) (I_B b2.2)) h2, bI_t (show Wc G i from Or.inl ⟨h1, h2⟩)]
    · rw [if_n (iI_eq (I_B b1.2) (I_B b2.2)) h2, e36 (fun q => h2 q.2)]
  · rw [if_n (iI_eq (I_B b1.1) (I_B b2.1)) h1, e36 (fun q => h1 q.1)]
theorem sd_le (G : pg_T) : sd G ≤ g_n G := by unfold sd; split <;> omega
theorem x2_sideCount {S : sh_T} {G : pg_T} (h : sv S G) (hn : g_k G = 1 → 1 ≤ g_n G) (F : Nat) : s_X2_sideCount F S = some (nI (sd G)) := by
  unfold s_X2_sideCount sd
  rw [h.1, h.2.1]
  by_cases hk : g_k G = 1
  · rw [if_pos hk, if_pos hk]
    obtain ⟨m, hm⟩ : ∃ m, g_n G = m + 1 := ⟨g_n G - 1, by have := hn hk; omega⟩
    rw [hm, nI_pred]
    rfl
  · rw [if_neg hk, if_neg hk]
theorem x2_jl {S : sh_T} {G : pg_T} (hG : G_ok G) (h : sv S G) (hn : g_k G + 1 ≤ g_n G) {F : Nat} (hF : 100 ≤ F) : ∀ (d j N : Nat), j + d = sd G → d < N → s_X2_judge_30 F S N (nI j) = some (fw (Wc G) d j) := by
  have h24 := hG.2.1
  have hsd := sd_le G
  intro d
  induction d with
  | zero =>
    intro j N hjd hN
    obtain ⟨N, rfl⟩ : ∃ m, N = m + 1 := ⟨N - 1, by omega⟩
    rw [s_X2_judge_30, x2_sideCount h (by omega), bd_some, if_pos (nI_le (by omega) (by omega))]
    rfl
  | succ d ih =>
    intro j N hjd hN
    obtain ⟨N, rfl⟩ : ∃ m, N = m + 1 := ⟨N - 1, by omega⟩
    rw [s_X2_judge_30, x2_sideCount h (by omega), bd_some, if_neg (nI_ge (by omega) (by omega)), x2_isWrongSide hG h (by omega) (by omega) hF, bd_some]
    by_cases hw : Wc G j
    · rw [if_n bI_0 (fun q => q hw), fw_t hw]
    · rw [if_p bI_0 hw, bd_some, nI_1, ih (j + 1) N (by omega) (by omega), fw_f hw]
theorem en_lk {k : Nat} (hk : k < 3) : en_l k = nI (k + 1) := by
  rcases (show k = 0 ∨ k = 1 ∨ k = 2 by omega) with rfl | rfl | rfl <;> rfl
theorem x2_judge {S : sh_T} {G : pg_T} (hG : G_ok G) (h : sv S G) {F : Nat} (hF : 100 ≤ F) : s_X2_judge F S = some (vd G) := by
  have h24 := hG.2.1
  have hk3 := hG.1
  unfold s_X2_judge vd
  rw [h.1, h.2.1, en_lk hG.1]
  by_cases h1 : g_n G < g_k G + 1
  · rw [if_neg (nI_ge h1 (by omega)), if_pos h1]
  · rw [if_pos (nI_le (by omega) (by omega)), if_neg h1]
    by_cases h2 : g_k G = 0
    · rw [if_pos h2, if_pos h2]
    · rw [if_neg h2, if_neg h2]
      have := x2_jl hG h (by omega) hF (sd G) 0 F (by omega) (by have := sd_le G; omega)
      rw [nI_0] at this
      rw [this, fw_eq (by omega) (sd G) 0 (by have := sd_le G; omega) (fun i hi => by omega)]
