theorem ex_step {P : Nat → Prop} {j n : Nat} (hj : j < n) (h : ¬ P j) : (∃ j', j + 1 ≤ j' ∧ j' < n ∧ P j') ↔ ∃ j', j ≤ j' ∧ j' < n ∧ P j' := by
  constructor
  · rintro ⟨j', h1, h2, h3⟩; exact ⟨j', by omega, h2, h3⟩
  · rintro ⟨j', h1, h2, h3⟩
    rcases (show j' = j ∨ j + 1 ≤ j' by omega) with q | q
    · subst q; exact absurd h3 h
    · exact ⟨j', q, h2, h3⟩
theorem x4_w191 {M : mo_T} {F : Nat} {p1 p2 x3 x4 x5 x6 : Int32} {kc : Int32 → Int32 → Int32 → Int32 → Option Int32} {p : Prop} : s_X4_isWrong_191 F M p1 p2 kc x3 x4 x5 x6 (bI p) = if bI p = 0 then kc x3 x4 x5 (x6 + 1) else some 1 := rfl
theorem x4_wl {M : mo_T} {k : Nat} {G : pg_T} (hG : G_ok G) (h : mv M k G) {i : Nat} (hi : i < g_n G) (F : Nat) : ∀ (d j N : Nat), j + d = g_n G → d < N → s_X4_isWrong_74 F M (nI k) (nI i) N (nI (24 * k + i)) (nI (24 * k + wp (g_n G) i)) (nI (g_n G)) (nI j) = some (bI (∃ j', j ≤ j' ∧ j' < g_n G ∧ (j' ≠ i ∧ Wq G i j'))) := by
  have h24 := hG.2.1
  intro d
  induction d with
  | zero =>
    intro j N hjd hN
    obtain ⟨N, rfl⟩ : ∃ m, N = m + 1 := ⟨N - 1, by omega⟩
    rw [s_X4_isWrong_74, if_pos (nI_le (by omega) (by omega)), bI_f]
    rintro ⟨j', h1, h2, -⟩
    omega
  | succ d ih =>
    intro j N hjd hN
    obtain ⟨N, rfl⟩ : ∃ m, N = m + 1 := ⟨N - 1, by omega⟩
    have hj : j < g_n G := by omega
    rw [s_X4_isWrong_74, if_neg (nI_ge hj (by omega))]
    by_cases e0 : j = i
    · rw [if_pos (by rw [e0]), bd_some, nI_1, ih (j + 1) N (by omega) (by omega)]
      exact congrArg some (bI_c (ex_step hj (fun q => q.1 e0)))
    · rw [if_neg (show ¬ nI j = nI i by rw [nI_eq (by omega) (by omega)]; exact e0), nz_ok (by omega) (by omega), bd_some]
      have fin : ∀ p : Prop, (p ↔ Wq G i j) → s_X4_isWrong_191 F M (nI k) (nI i) (fun y0 y1 y2 y3 => s_X4_isWrong_74 F M (nI k) (nI i) N y0 y1 y2 y3) (nI (24 * k + i)) (nI (24 * k + wp (g_n G) i)) (nI (g_n G)) (nI j) (bI p) = some (bI (∃ j', j ≤ j' ∧ j' < g_n G ∧ (j' ≠ i ∧ Wq G i j'))) := by
        intro p hp
        rw [x4_w191]
        by_cases hw : p
        · rw [if_n bI_0 (fun q => q hw), bI_t ⟨j, Nat.le_refl j, hj, e0, hp.mp hw⟩]
        · rw [if_p bI_0 hw, nI_1, ih (j + 1) N (by omega) (by omega)]
          exact congrArg some (bI_c (ex_step hj (fun q => hw (hp.mpr q.2))))
      have m1 : nI i + 1 - (nI i + 1) / nI (g_n G) * nI (g_n G) = nI (wp (g_n G) i) := by rw [nI_1, pk_rem (by omega) (by omega) (by omega), wp_mod hi]
      have m2 : nI j + 1 - (nI j + 1) / nI (g_n G) * nI (g_n G) = nI (wp (g_n G) j) := by rw [nI_1, pk_rem (by omega) (by omega) (by omega), wp_mod hj]
      have w1 := wp_lt hi
      have w2 := wp_lt hj
      have c1 : (nI (wp (g_n G) i) = nI j) ↔ wp (g_n G) i = j := nI_eq (by omega) (by omega)
      have c2 : (nI (wp (g_n G) j) = nI i) ↔ wp (g_n G) j = i := nI_eq (by omega) (by omega)
      have pi := mv_p hG h hi
      have pi1 := mv_p hG h w1
      have pj := mv_p hG h hj
      have pj1 := mv_p hG h w2
      rw [m1]
      by_cases e1 : wp (g_n G) i = j
      · have hW : Wq G i j ↔ fo (g_x G i) (g_y G i) (g_x G (wp (g_n G) i)) (g_y G (wp (g_n G) i)) (g_x G (wp (g_n G) j)) (g_y G (wp (g_n G) j)) := by
          unfold Wq; rw [if_pos e1, e1]
        rw [if_p c1 e1]
        unfold s_X4_isWrong_106
        rw [nz_ok (by omega) (by omega), bd_some, m2]
        have both : ∀ t : Int32, s_X4_isWrong_124 F M (nI k) (nI i) (fun y0 y1 y2 y3 => s_X4_isWrong_74 F M (nI k) (nI i) N y0 y1 y2 y3) (nI (24 * k + i)) (nI (24 * k + wp (g_n G) i)) (nI (g_n G)) (nI j) 1 t = some (bI (∃ j', j ≤ j' ∧ j' < g_n G ∧ (j' ≠ i ∧ Wq G i j'))) := by
          intro t
          unfold s_X4_isWrong_124
          rw [if_neg (by decide), x4_to hG h hj, bd_some, x4_folds pi pi1 pj1, bd_some]
          exact fin _ hW.symm
        split <;> exact both _
      · rw [if_n c1 e1]
        unfold s_X4_isWrong_106
        rw [nz_ok (by omega) (by omega), bd_some, m2]
        by_cases e2 : wp (g_n G) j = i
        · have hW : Wq G i j ↔ fo (g_x G j) (g_y G j) (g_x G i) (g_y G i) (g_x G (wp (g_n G) i)) (g_y G (wp (g_n G) i)) := by
            unfold Wq; rw [if_neg e1, if_pos e2]
          rw [if_p c2 e2]
          unfold s_X4_isWrong_124
          rw [if_pos rfl, if_neg (by decide), x4_from, bd_some, x4_folds pj pi pi1, bd_some]
          exact fin _ hW.symm
        · have hW : Wq G i j ↔ Ct G i G j := by
            unfold Wq; rw [if_neg e1, if_neg e2]
          rw [if_n c2 e2]
          unfold s_X4_isWrong_124
          rw [if_pos rfl, if_pos rfl, x4_from, bd_some, x4_to hG h hj, bd_some, x4_cut pi pi1 pj pj1, bd_some]
          exact fin _ hW.symm
theorem x4_isWrong {M : mo_T} {k : Nat} {G : pg_T} (hG : G_ok G) (h : mv M k G) (hk0 : g_k G ≠ 0) {i : Nat} (hi : i < g_n G) {F : Nat} (hF : 100 ≤ F) : s_X4_isWrong F M (nI k) (nI i) = some (bI (Wm G i)) := by
  have b1 := hG.2.2.2 i hi
  have b2 := hG.2.2.2 _ (wp_lt hi)
  have h24 := hG.2.1
  have h3 := hG.1
  have pi := mv_p hG h hi
  have pi1 := mv_p hG h (wp_lt hi)
  have e51 : ¬ ln G i → s_X4_isWrong_51 F M (nI k) (nI i) (nI (24 * k + i)) (nI (24 * k + wp (g_n G) i)) = some (bI (Wm G i)) := by
    intro hl
    unfold s_X4_isWrong_51
    rw [mv_k h, bd_some]
    by_cases hk : g_k G = 1
    · rw [if_pos (by rw [hk]; rfl), bI_f]
      rintro (q | ⟨q, -⟩)
      · exact hl q
      · omega
    · rw [if_neg (show ¬ nI (g_k G + 1) = 2 by rw [show (2 : Int32) = nI 2 from rfl, nI_eq (by omega) (by omega)]; omega), mv_c h, bd_some]
      have := x4_wl hG h hi F (g_n G) 0 F (by omega) (by omega)
      rw [nI_0] at this
      rw [this]
      congr 1
      refine bI_c ⟨?_, ?_⟩
      · rintro ⟨j, -, h2, h3, h4⟩; exact Or.inr ⟨by omega, j, h2, h3, h4⟩
      · rintro (q | ⟨-, j, h2, h3, h4⟩)
        · exact absurd q hl
        · exact ⟨j, by omega, h2, h3, h4⟩
  unfold s_X4_isWrong
  rw [x4_from, bd_some, x4_to hG h hi, bd_some, mp_x pi, bd_some, mp_x pi1, bd_some]
  by_cases h1 : g_x G i = g_x G (wp (g_n G) i)
  · rw [if_p (cn_eq (L_B b1.1) (L_B b2.1)) h1, mp_y pi, bd_some, mp_y pi1, bd_some]
    by_cases h2 : g_y G i = g_y G (wp (g_n G) i)
    · rw [if_p (cn_eq (L_B b1.2) (L_B b2.2)) h2, bI_t (show Wm G i from Or.inl ⟨h1, h2⟩)]
    · rw [if_n (cn_eq (L_B b1.2) (L_B b2.2)) h2, e51 (fun q => h2 q.2)]
  · rw [if_n (cn_eq (L_B b1.1) (L_B b2.1)) h1, e51 (fun q => h1 q.1)]
theorem x4_cl {M N0 : mo_T} {k : Nat} {G : pg_T} (hG : G_ok G) (h : mv M k G) (hk0 : g_k G ≠ 0) (hn : g_k G + 1 ≤ g_n G) {F : Nat} (hF : 100 ≤ F) : ∀ (d j N : Nat), j + d = sd G → d < N → s_X4_check_46 F N0 (nI k) N (nI j) M = some (fw (Wm G) d j, M) := by
  have h24 := hG.2.1
  have hsd := sd_le G
  intro d
  induction d with
  | zero =>
    intro j N hjd hN
    obtain ⟨N, rfl⟩ : ∃ m, N = m + 1 := ⟨N - 1, by omega⟩
    rw [s_X4_check_46, x4_sides hG h (by omega), bd_some, if_pos (nI_le (by omega) (by omega))]
    rfl
  | succ d ih =>
    intro j N hjd hN
    obtain ⟨N, rfl⟩ : ∃ m, N = m + 1 := ⟨N - 1, by omega⟩
    rw [s_X4_check_46, x4_sides hG h (by omega), bd_some, if_neg (nI_ge (by omega) (by omega)), x4_isWrong hG h hk0 (by omega) hF, bd_some]
    by_cases hw : Wm G j
    · rw [if_n bI_0 (fun q => q hw), fw_t hw]
    · rw [if_p bI_0 hw, bd_some, nI_1, ih (j + 1) N (by omega) (by omega), fw_f hw]
theorem mv_t {M : mo_T} {k : Nat} {G : pg_T} {v : Int32} (h : mv M k G) : mv (ms_t M v) k G := h
/-- a shape of the model that stands -/
def ms (M : mo_T) (k : Nat) (G : pg_T) : Prop := mv M k G ∧ (∃ c : Nat, c ≤ 60 ∧ mo_n M = nI c ∧ k < c) ∧ (g_k G = 0 → g_n G = 1)
theorem x4_isShape {M : mo_T} {k : Nat} {G : pg_T} (hG : G_ok G) (h : ms M k G) (F : Nat) : s_X4_isShape F M (nI k) = some 1 := by
  obtain ⟨h1, ⟨c, hc, hn, hk⟩, -⟩ := h
  have h3 := hG.1
  unfold s_X4_isShape
  rw [if_neg (nI_pos (by omega)), hn, if_neg (nI_ge hk (by omega)), mv_k h1, bd_some, if_neg (nI_ne0 (by omega) (by omega))]
theorem x4_check {M : mo_T} {k : Nat} {G : pg_T} (hG : G_ok G) (h : ms M k G) {F : Nat} (hF : 100 ≤ F) : s_X4_check F M (nI k) = some (vd G, ms_t M 0) := by
  have h24 := hG.2.1
  have h3 := hG.1
  unfold s_X4_check
  rw [x4_isShape (M := ms_t M 0) hG h, bd_some, if_neg (by decide), mv_k h.1, bd_some]
  unfold vd
  by_cases h2 : g_k G = 0
  · have := h.2.2 h2
    rw [if_pos (by rw [h2]; rfl), if_neg (by omega), if_pos h2]
  · rw [if_neg (show ¬ nI (g_k G + 1) = 1 by rw [show (1 : Int32) = nI 1 from rfl, nI_eq (by omega) (by omega)]; omega), mv_c h.1, bd_some, bd_some]
    by_cases h1 : g_n G < g_k G + 1
    · rw [if_neg (nI_ge h1 (by omega)), if_pos h1]
    · rw [if_pos (nI_le (by omega) (by omega)), if_neg h1, if_neg h2]
      have := x4_cl (N0 := M) hG (mv_t (v := 0) h.1) h2 (by omega) hF (sd G) 0 F (by omega) (by have := sd_le G; omega)
      rw [nI_0] at this
      exact this
theorem x4_isRight {M : mo_T} {k : Nat} {G : pg_T} (hG : G_ok G) (h : ms M k G) {F : Nat} (hF : 100 ≤ F) : s_X4_isRight F M (nI k) = some (bI (vd G = 1), ms_t M 0) := by
  unfold s_X4_isRight
  rw [x4_isShape hG h, bd_some, if_neg (by decide), x4_check hG h hF, bd_some]
  by_cases hv : vd G = 1
  · rw [if_pos hv, bI_t hv]
  · rw [if_neg hv, bI_f hv]
