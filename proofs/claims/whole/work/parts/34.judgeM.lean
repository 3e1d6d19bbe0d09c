-- the model's own way to say what is wrong
def sg (z : Int) : Int := if z < 0 then -1 else if 0 < z then 1 else 0
theorem x4_hand {ax ay bx by' x y : Int} (h1 : B_ok ax) (h2 : B_ok ay) (h3 : B_ok bx) (h4 : B_ok by') (h5 : B_ok x) (h6 : B_ok y) (F : Nat) : s_X4_hand F (lI ax) (lI ay) (lI bx) (lI by') (lI x) (lI y) = some (iI (sg (cr ax ay bx by' x y))) := by
  have hb := L_8 (cr_bd h1 h2 h3 h4 h5 h6)
  unfold s_X4_hand s_X4_cross
  rw [lI_sub, lI_sub, lI_sub, lI_sub, lI_mul, lI_mul, lI_sub, bd_some]
  have e : (bx - ax) * (y - ay) - (by' - ay) * (x - ax) = cr ax ay bx by' x y := rfl
  rw [e]
  generalize cr ax ay bx by' x y = z at hb ⊢
  unfold sg
  by_cases q1 : 0 ≤ z
  · rw [if_p (cp_ge hb) q1, if_neg (show ¬ z < 0 by omega)]
    by_cases q2 : z ≤ 0
    · rw [if_p (cp_le hb) q2, if_neg (show ¬ 0 < z by omega)]; rfl
    · rw [if_n (cp_le hb) q2, if_pos (show 0 < z by omega)]; rfl
  · rw [if_n (cp_ge hb) q1, if_pos (show z < 0 by omega)]; rfl
theorem x4_isBetween {a b v : Int} (h1 : B_ok a) (h2 : B_ok b) (h3 : B_ok v) (F : Nat) : s_X4_isBetween F (lI a) (lI b) (lI v) = some (bI (bt a b v)) := by
  have e14 : ¬ (a ≤ v ∧ v ≤ b) → s_X4_isBetween_14 F (lI a) (lI b) (lI v) = some (bI (bt a b v)) := by
    intro hn
    unfold s_X4_isBetween_14
    by_cases q1 : v < b
    · rw [if_p (cn_gt (L_B h2) (L_B h3)) q1, bI_f (fun q => q.elim (fun q => hn q) (fun q => by omega))]
    · rw [if_n (cn_gt (L_B h2) (L_B h3)) q1]
      by_cases q2 : a < v
      · rw [if_p (cn_gt (L_B h3) (L_B h1)) q2, bI_f (fun q => q.elim (fun q => hn q) (fun q => by omega))]
      · rw [if_n (cn_gt (L_B h3) (L_B h1)) q2, bI_t (show bt a b v from Or.inr ⟨by omega, by omega⟩)]
  unfold s_X4_isBetween
  by_cases q1 : v < a
  · rw [if_p (cn_gt (L_B h1) (L_B h3)) q1, e14 (fun q => by omega)]
  · rw [if_n (cn_gt (L_B h1) (L_B h3)) q1]
    by_cases q2 : v ≤ b
    · rw [if_p (cn_le (L_B h3) (L_B h2)) q2, bI_t (show bt a b v from Or.inl ⟨by omega, by omega⟩)]
    · rw [if_n (cn_le (L_B h3) (L_B h2)) q2, e14 (fun q => by omega)]
theorem sg_I (z : Int) : I_ok (sg z) := by unfold sg I_ok; split <;> (try split) <;> omega
theorem sg_0 {z : Int} : (iI (sg z) = 0) ↔ z = 0 := by
  rw [i0, iI_eq (sg_I z) ⟨by omega, by omega⟩]
  unfold sg; split <;> (try split) <;> omega
theorem x4_isOn {ax ay bx by' x y : Int} (h1 : B_ok ax) (h2 : B_ok ay) (h3 : B_ok bx) (h4 : B_ok by') (h5 : B_ok x) (h6 : B_ok y) (F : Nat) : s_X4_isOn F (lI ax) (lI ay) (lI bx) (lI by') (lI x) (lI y) = some (bI (on ax ay bx by' x y)) := by
  unfold s_X4_isOn
  rw [x4_hand h1 h2 h3 h4 h5 h6, bd_some]
  by_cases q1 : cr ax ay bx by' x y = 0
  · rw [if_p sg_0 q1, x4_isBetween h1 h3 h5, bd_some]
    by_cases q2 : bt ax bx x
    · rw [if_n bI_0 (fun q => q q2), x4_isBetween h2 h4 h6, bd_some]
      by_cases q3 : bt ay by' y
      · rw [if_n bI_0 (fun q => q q3), bI_t (show on ax ay bx by' x y from ⟨q1, q2, q3⟩)]
      · rw [if_p bI_0 q3, bI_f (fun q => q3 q.2.2)]
    · rw [if_p bI_0 q2, bI_f (fun q => q2 q.2.1)]
  · rw [if_n sg_0 q1, bI_f (fun q => q1 q.1)]
theorem sg_c (z : Int) : sg z = -1 ∨ sg z = 0 ∨ sg z = 1 := by unfold sg; split <;> (try split) <;> simp
theorem sg_mul {a b : Int} : (0 ≤ iI (sg a) * iI (sg b)) ↔ ¬ a * b < 0 := by
  have hI : I_ok (sg a * sg b) := by rcases sg_c a with h | h | h <;> rcases sg_c b with k | k | k <;> rw [h, k] <;> exact ⟨by decide, by decide⟩
  rw [iI_mul, i0, iI_le ⟨by omega, by omega⟩ hI]
  constructor
  · intro h q
    rcases mul_ng q with q | q
    · unfold sg at h
      rw [if_pos q.1, if_neg (show ¬ b < 0 by omega), if_pos q.2] at h
      omega
    · unfold sg at h
      rw [if_neg (show ¬ a < 0 by omega), if_pos q.1, if_pos q.2] at h
      omega
  · intro h
    rcases Int.lt_trichotomy a 0 with ha | ha | ha
    · rcases Int.lt_trichotomy b 0 with hb | hb | hb
      · unfold sg; rw [if_pos ha, if_pos hb]; omega
      · subst hb; unfold sg; simp
      · exact absurd (Int.mul_neg_of_neg_of_pos ha hb) h
    · subst ha; unfold sg; simp
    · rcases Int.lt_trichotomy b 0 with hb | hb | hb
      · exact absurd (Int.mul_neg_of_pos_of_neg ha hb) h
      · subst hb; unfold sg; simp
      · unfold sg; rw [if_neg (show ¬ a < 0 by omega), if_pos ha, if_neg (show ¬ b < 0 by omega), if_pos hb]; omega
/-- the model's place a holds (x, y) -/
def mp (M : mo_T) (a : Nat) (x y : Int) : Prop := a < 1500 ∧ mo_x M a = lI x ∧ mo_y M a = lI y ∧ B_ok x ∧ B_ok y
theorem mp_x {M : mo_T} {a : Nat} {x y : Int} (h : mp M a x y) : rd_l 1500 (mo_x M) (nI a) = some (lI x) := by rw [rl_ok h.1 (by decide), h.2.1]
theorem mp_y {M : mo_T} {a : Nat} {x y : Int} (h : mp M a x y) : rd_l 1500 (mo_y M) (nI a) = some (lI y) := by rw [rl_ok h.1 (by decide), h.2.2.1]
theorem mv_p {M : mo_T} {k : Nat} {G : pg_T} (hG : G_ok G) (h : mv M k G) {i : Nat} (hi : i < g_n G) : mp M (24 * k + i) (g_x G i) (g_y G i) := ⟨by have := h.1; have := hG.2.1; omega, (h.2.2.2 i hi).1, (h.2.2.2 i hi).2, (hG.2.2.2 i hi).1, (hG.2.2.2 i hi).2⟩
theorem x4_cut {M : mo_T} {a b c d : Nat} {ax ay bx by' cx cy dx dy : Int} (ha : mp M a ax ay) (hb : mp M b bx by') (hc : mp M c cx cy) (hd : mp M d dx dy) (F : Nat) : s_X4_cut F M (nI a) (nI b) (nI c) (nI d) = some (bI (ct ax ay bx by' cx cy dx dy)) := by
  unfold s_X4_cut
  simp only [mp_x ha, mp_y ha, mp_x hb, mp_y hb, mp_x hc, mp_y hc, mp_x hd, mp_y hd, bd_some]
  obtain ⟨-, -, -, a1, a2⟩ := ha
  obtain ⟨-, -, -, b1, b2⟩ := hb
  obtain ⟨-, -, -, c1, c2⟩ := hc
  obtain ⟨-, -, -, d1, d2⟩ := hd
  rw [x4_isOn a1 a2 b1 b2 c1 c2, bd_some]
  by_cases q1 : on ax ay bx by' cx cy
  · rw [if_n bI_0 (fun q => q q1), bI_t (show ct ax ay bx by' cx cy dx dy from Or.inl q1)]
  · rw [if_p bI_0 q1, x4_isOn a1 a2 b1 b2 d1 d2, bd_some]
    by_cases q2 : on ax ay bx by' dx dy
    · rw [if_n bI_0 (fun q => q q2), bI_t (show ct ax ay bx by' cx cy dx dy from Or.inr (Or.inl q2))]
    · rw [if_p bI_0 q2, x4_isOn c1 c2 d1 d2 a1 a2, bd_some]
      by_cases q3 : on cx cy dx dy ax ay
      · rw [if_n bI_0 (fun q => q q3), bI_t (show ct ax ay bx by' cx cy dx dy from Or.inr (Or.inr (Or.inl q3)))]
      · rw [if_p bI_0 q3, x4_isOn c1 c2 d1 d2 b1 b2, bd_some]
        by_cases q4 : on cx cy dx dy bx by'
        · rw [if_n bI_0 (fun q => q q4), bI_t (show ct ax ay bx by' cx cy dx dy from Or.inr (Or.inr (Or.inr (Or.inl q4))))]
        · rw [if_p bI_0 q4, x4_hand a1 a2 b1 b2 c1 c2, bd_some, x4_hand a1 a2 b1 b2 d1 d2, bd_some, x4_hand c1 c2 d1 d2 a1 a2, bd_some, x4_hand c1 c2 d1 d2 b1 b2, bd_some]
          by_cases q5 : cr ax ay bx by' cx cy * cr ax ay bx by' dx dy < 0
          · rw [if_n sg_mul (fun q => q q5)]
            by_cases q6 : cr cx cy dx dy ax ay * cr cx cy dx dy bx by' < 0
            · rw [if_n sg_mul (fun q => q q6), bI_t (show ct ax ay bx by' cx cy dx dy from Or.inr (Or.inr (Or.inr (Or.inr ⟨q5, q6⟩))))]
            · rw [if_p sg_mul q6, bI_f]
              exact fun q => q.elim q1 (fun q => q.elim q2 (fun q => q.elim q3 (fun q => q.elim q4 (fun q => q6 q.2))))
          · rw [if_p sg_mul q5, bI_f]
            exact fun q => q.elim q1 (fun q => q.elim q2 (fun q => q.elim q3 (fun q => q.elim q4 (fun q => q5 q.1))))
theorem x4_folds {M : mo_T} {a b c : Nat} {ax ay bx by' cx cy : Int} (ha : mp M a ax ay) (hb : mp M b bx by') (hc : mp M c cx cy) (F : Nat) : s_X4_folds F M (nI a) (nI b) (nI c) = some (bI (fo ax ay bx by' cx cy)) := by
  unfold s_X4_folds s_X4_cross
  simp only [mp_x ha, mp_y ha, mp_x hb, mp_y hb, mp_x hc, mp_y hc, bd_some]
  obtain ⟨-, -, -, a1, a2⟩ := ha
  obtain ⟨-, -, -, b1, b2⟩ := hb
  obtain ⟨-, -, -, c1, c2⟩ := hc
  have q1 := d_bd a1 b1
  have q2 := d_bd a2 b2
  have q3 := d_bd c1 b1
  have q4 := d_bd c2 b2
  rw [lI_sub, lI_sub, lI_sub, lI_sub, lI_mul, lI_mul, lI_mul, lI_mul, lI_sub, lI_add]
  by_cases h1 : (ax - bx) * (cy - by') = (ay - by') * (cx - bx)
  · rw [if_p (cp_eq (L_45 (p_bd q1 q4) (p_bd q2 q3))) (by omega)]
    by_cases h2 : (ax - bx) * (cx - bx) + (ay - by') * (cy - by') ≤ 0
    · rw [if_p (cp_le (L_44 (p_bd q1 q3) (p_bd q2 q4))) h2, bI_f (fun q => absurd q.2 (Int.not_lt.mpr h2))]
    · rw [if_n (cp_le (L_44 (p_bd q1 q3) (p_bd q2 q4))) h2, bI_t (show fo ax ay bx by' cx cy from ⟨h1, Int.not_le.mp h2⟩)]
  · rw [if_n (cp_eq (L_45 (p_bd q1 q4) (p_bd q2 q3))) (by omega), bI_f (fun q => h1 q.1)]
theorem x4_from (F : Nat) (M : mo_T) (k i : Nat) : s_X4_from F M (nI k) (nI i) = some (nI (24 * k + i)) := by
  unfold s_X4_from
  rw [show (24 : Int32) = nI 24 from rfl, pk_mul, nI_add]
theorem mv_k {M : mo_T} {k : Nat} {G : pg_T} (h : mv M k G) : rd_i 60 (mo_k M) (nI k) = some (nI (g_k G + 1)) := by rw [rd_ok h.1 (by decide), h.2.1]
theorem mv_c {M : mo_T} {k : Nat} {G : pg_T} (h : mv M k G) : rd_i 60 (mo_c M) (nI k) = some (nI (g_n G)) := by rw [rd_ok h.1 (by decide), h.2.2.1]
theorem nz_ok {n : Nat} (h0 : 0 < n) (h : n < 2 ^ 31) : nz_i (nI n) = some () := by unfold nz_i; rw [if_neg (nI_ne0 h0 h)]
theorem x4_to {M : mo_T} {k : Nat} {G : pg_T} (hG : G_ok G) (h : mv M k G) {i : Nat} (hi : i < g_n G) (F : Nat) : s_X4_to F M (nI k) (nI i) = some (nI (24 * k + wp (g_n G) i)) := by
  have h24 := hG.2.1
  unfold s_X4_to
  rw [mv_k h, bd_some]
  by_cases hk : g_k G = 0
  · have := hG.2.2.1 hk
    rw [hk, if_pos (show nI (0 + 1) = 1 from rfl), show (24 : Int32) = nI 24 from rfl, pk_mul, show (0 : Int32) = nI 0 from rfl, nI_add]
    have : wp (g_n G) i = 0 := by unfold wp; split <;> omega
    rw [this]
  · rw [if_neg (show ¬ nI (g_k G + 1) = 1 by rw [show (1 : Int32) = nI 1 from rfl, nI_eq (by have := hG.1; omega) (by omega)]; omega), mv_c h, bd_some, nz_ok (by omega) (by omega), bd_some, nI_1, pk_rem (by omega) (by omega) (by omega), wp_mod hi, show (24 : Int32) = nI 24 from rfl, pk_mul, nI_add]
theorem x4_sides {M : mo_T} {k : Nat} {G : pg_T} (hG : G_ok G) (h : mv M k G) (hn : g_k G = 1 → 1 ≤ g_n G) (F : Nat) : s_X4_sides F M (nI k) = some (nI (sd G)) := by
  unfold s_X4_sides sd
  rw [mv_k h, bd_some, mv_c h]
  by_cases hk : g_k G = 1
  · obtain ⟨m, hm⟩ : ∃ m, g_n G = m + 1 := ⟨g_n G - 1, by have := hn hk; omega⟩
    rw [hk, if_pos (show nI (1 + 1) = 2 from rfl), bd_some, if_pos rfl, hm, nI_pred]
    rfl
  · rw [if_neg (show ¬ nI (g_k G + 1) = 2 by rw [show (2 : Int32) = nI 2 from rfl, nI_eq (by have := hG.1; omega) (by omega)]; omega), bd_some, if_neg hk]
