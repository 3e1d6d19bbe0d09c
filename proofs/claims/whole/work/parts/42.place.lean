-- a shape and a place
def Le (s t : q_T) : Prop := s.1 * t.2 ≤ t.1 * s.2
theorem Le_rf (s : q_T) : Le s s := Nat.le_refl _
theorem Le_tr {a b c : q_T} (h : Le a b) (k : Le b c) (hb : 0 < b.2) : Le a c := by
  unfold Le at *
  have h1 : a.1 * b.2 * c.2 ≤ b.1 * a.2 * c.2 := Nat.mul_le_mul_right _ h
  have h2 : b.1 * c.2 * a.2 ≤ c.1 * b.2 * a.2 := Nat.mul_le_mul_right _ k
  have e1 : a.1 * b.2 * c.2 = a.1 * c.2 * b.2 := Nat.mul_right_comm _ _ _
  have e2 : b.1 * a.2 * c.2 = b.1 * c.2 * a.2 := Nat.mul_right_comm _ _ _
  have e3 : c.1 * b.2 * a.2 = c.1 * a.2 * b.2 := Nat.mul_right_comm _ _ _
  exact Nat.le_of_mul_le_mul_right (by omega) hb
theorem Le_sm {s t : q_T} (h : Sm s t) : Le s t ∧ Le t s := ⟨Nat.le_of_eq h.1, Nat.le_of_eq h.1.symm⟩
theorem fi_mn {C : Nat → q_T} {n : Nat} (hC : ∀ j, j < n → 0 < (C j).2) : ∀ (d j : Nat) (s : q_T), j + d ≤ n → 0 < s.2 → 0 < (fi (fun s j => mn s (C j)) d j s).2 ∧ Le (fi (fun s j => mn s (C j)) d j s) s ∧ (∀ i, j ≤ i → i < j + d → Le (fi (fun s j => mn s (C j)) d j s) (C i)) ∧ (fi (fun s j => mn s (C j)) d j s = s ∨ ∃ i, j ≤ i ∧ i < j + d ∧ fi (fun s j => mn s (C j)) d j s = C i) := by
  intro d
  induction d with
  | zero =>
    intro j s _ hs
    exact ⟨hs, Le_rf s, fun i h1 h2 => by omega, Or.inl rfl⟩
  | succ d ih =>
    intro j s hj hs
    have hc := hC j (by omega)
    have h1 : 0 < (mn s (C j)).2 := by unfold mn; split <;> assumption
    have h2 : Le (mn s (C j)) s := by
      unfold mn
      split
      · rename_i q; exact Nat.le_of_lt q
      · exact Le_rf s
    have h3 : Le (mn s (C j)) (C j) := by
      unfold mn
      split
      · exact Le_rf _
      · rename_i q; exact Nat.not_lt.mp q
    obtain ⟨k1, k2, k3, k4⟩ := ih (j + 1) (mn s (C j)) (by omega) h1
    rw [fi_s]
    refine ⟨k1, Le_tr k2 h2 h1, fun i i1 i2 => ?_, ?_⟩
    · rcases (show i = j ∨ j + 1 ≤ i by omega) with q | q
      · subst q; exact Le_tr k2 h3 h1
      · exact k3 i q (by omega)
    · rcases k4 with q | ⟨i, i1, i2, q⟩
      · rw [q]
        unfold mn
        split
        · exact Or.inr ⟨j, Nat.le_refl j, by omega, rfl⟩
        · exact Or.inl rfl
      · exact Or.inr ⟨i, by omega, by omega, q⟩
theorem mm_mn {t c : q_T} (h : 0 < t.2) : mm t c = mn t c := by
  unfold mm mn
  by_cases q : c.1 * t.2 < t.1 * c.2
  · rw [if_pos (Or.inr q), if_pos q]
  · rw [if_neg (fun z => z.elim (fun w => by omega) q), if_neg q]
theorem fi_mm {C : Nat → q_T} {n : Nat} (hC : ∀ j, j < n → 0 < (C j).2) : ∀ (d j : Nat) (t : q_T), j + d ≤ n → 0 < t.2 → fi (fun t j => mm t (C j)) d j t = fi (fun t j => mn t (C j)) d j t := by
  intro d
  induction d with
  | zero => intro j t _ _; rfl
  | succ d ih =>
    intro j t hj ht
    rw [fi_s, fi_s, mm_mn ht]
    exact ih (j + 1) _ (by omega) (by unfold mn; split; exact hC j (by omega); exact ht)
/-- the least of the sides' candidates, reduced -/
theorem g1_is {J : pg_T} (hJ : R_ok J) {x y : Int} (hx : B_ok x) (hy : B_ok y) : (∃ i, i < sd J ∧ g1 J x y (0, 0) = rdc (Cd J i x y)) ∧ ∀ i, i < sd J → Le (g1 J x y (0, 0)) (Cd J i x y) := by
  have hp := sd_pos hJ
  have hsd := sd_le J
  obtain ⟨d, hd⟩ : ∃ d, sd J = d + 1 := ⟨sd J - 1, by omega⟩
  have hC : ∀ j, j < sd J → 0 < (rdc (Cd J j x y)).2 := fun j hj => (rdc_ok (Cd_ok hJ.1 (by omega) hx hy)).2.1
  have e : g1 J x y (0, 0) = fi (fun t j => mn t (rdc (Cd J j x y))) d 1 (rdc (Cd J 0 x y)) := by
    unfold g1
    rw [hd, fi_s]
    have e0 : mm (0, 0) (rdc (Cd J 0 x y)) = rdc (Cd J 0 x y) := by unfold mm; rw [if_pos (Or.inl rfl)]
    show fi (fun t j => mm t (rdc (Cd J j x y))) d 1 (mm (0, 0) (rdc (Cd J 0 x y))) = _
    rw [e0]
    exact fi_mm (C := fun j => rdc (Cd J j x y)) (n := sd J) hC d 1 _ (by omega) (hC 0 (by omega))
  obtain ⟨k1, k2, k3, k4⟩ := fi_mn (C := fun j => rdc (Cd J j x y)) (n := sd J) hC d 1 (rdc (Cd J 0 x y)) (by omega) (hC 0 (by omega))
  rw [e]
  refine ⟨?_, fun i hi => ?_⟩
  · rcases k4 with q | ⟨i, i1, i2, q⟩
    · exact ⟨0, by omega, q⟩
    · exact ⟨i, by omega, q⟩
  · have hs := (Le_sm (rdc_sm (Cd_ok hJ.1 (j := i) (by omega) hx hy).2.1)).2
    rcases (show i = 0 ∨ 1 ≤ i by omega) with q | q
    · subst q; exact Le_tr k2 hs (hC 0 (by omega))
    · exact Le_tr (k3 i q (by omega)) hs (hC i (by omega))
/-- the side candidates decide, where the start is no less than one of them -/
theorem f1_g1 {J : pg_T} (hJ : R_ok J) {x y : Int} (hx : B_ok x) (hy : B_ok y) {s : q_T} (hs : 0 < s.2) (hle : ∃ i, i < sd J ∧ Le (Cd J i x y) s) : Sm (f1 J x y s) (g1 J x y (0, 0)) := by
  have hsd := sd_le J
  have hC : ∀ j, j < sd J → 0 < (Cd J j x y).2 := fun j hj => (Cd_ok hJ.1 (by omega) hx hy).2.1
  obtain ⟨⟨i0, hi0, ht⟩, hL⟩ := g1_is hJ hx hy
  obtain ⟨k1, k2, k3, k4⟩ := fi_mn (C := fun j => Cd J j x y) (n := sd J) hC (sd J) 0 s (by omega) hs
  have hf : f1 J x y s = fi (fun s j => mn s (Cd J j x y)) (sd J) 0 s := rfl
  rw [← hf] at k1 k2 k3 k4
  have hr := rdc_sm (hC i0 hi0)
  have ht2 : 0 < (g1 J x y (0, 0)).2 := by rw [ht]; exact hr.2.2.1
  have a1 : Le (f1 J x y s) (g1 J x y (0, 0)) := by rw [ht]; exact Le_tr (k3 i0 (by omega) (by omega)) (Le_sm hr).1 (hC i0 hi0)
  have a2 : Le (g1 J x y (0, 0)) (f1 J x y s) := by
    rcases k4 with q | ⟨i, i1, i2, q⟩
    · obtain ⟨i, hi, hh⟩ := hle
      rw [q]
      exact Le_tr (hL i hi) hh (hC i hi)
    · rw [q]; exact hL i (by omega)
  exact ⟨Nat.le_antisymm a1 a2, k1, ht2, by rw [ht]; exact hr.2.2.2⟩
/-- the shape of a place -/
def pt (x y : Int) : pg_T := (0, 1, fun _ => x, fun _ => y)
theorem pt_ok {x y : Int} (hx : B_ok x) (hy : B_ok y) : R_ok (pt x y) := ⟨⟨show (0 : Nat) < 3 by decide, show (1 : Nat) ≤ 24 by decide, fun _ => Nat.le_refl 1, fun _ _ => ⟨hx, hy⟩⟩, Nat.le_refl 1⟩
noncomputable def mT (G : pg_T) (x y : Int) : q_T := ci (g_k G = 2 ∧ St G x y ≠ 0) (0, 1) (g1 G x y (0, 0))
theorem on_cu {ax ay bx by' x y : Int} (h : on ax ay bx by' x y) : (cu ax ay bx by' x y).1 = 0 := by
  obtain ⟨h1, h2, h3⟩ := h
  have b1 := bt_iff.mp h2
  have b2 := bt_iff.mp h3
  have e1 : al ax ay bx by' x y = sq2 (x - ax) (y - ay) - ((ax - x) * (bx - x) + (ay - y) * (by' - y)) := by unfold al sq2; grind
  have e2 : sq2 (bx - ax) (by' - ay) - al ax ay bx by' x y = sq2 (x - bx) (y - by') - ((ax - x) * (bx - x) + (ay - y) * (by' - y)) := by unfold al sq2; grind
  have n1 := sq2_nn (x - ax) (y - ay)
  have n2 := sq2_nn (x - bx) (y - by')
  unfold cu
  split
  · show (sq2 (x - ax) (y - ay)).toNat = 0; omega
  · split
    · show (sq2 (x - bx) (y - by')).toNat = 0; omega
    · show (cr ax ay bx by' x y * cr ax ay bx by' x y).toNat = 0
      rw [h1]; rfl
theorem ct_pt {ax ay bx by' x y : Int} (h : ct ax ay bx by' x y x y) : (cu ax ay bx by' x y).1 = 0 := by
  rcases h with h | h | h | h | h
  · exact on_cu h
  · exact on_cu h
  · obtain ⟨-, h2, h3⟩ := h
    unfold bt at h2 h3
    have e1 : ax = x := by omega
    have e2 : ay = y := by omega
    subst e1; subst e2
    unfold cu
    have e : al ax ay bx by' ax ay = 0 := by unfold al; simp
    rw [if_pos (by omega)]
    show (sq2 (ax - ax) (ay - ay)).toNat = 0
    unfold sq2; simp
  · obtain ⟨-, h2, h3⟩ := h
    unfold bt at h2 h3
    have e1 : bx = x := by omega
    have e2 : by' = y := by omega
    subst e1; subst e2
    have e : al ax ay bx by' bx by' = sq2 (bx - ax) (by' - ay) := rfl
    unfold cu
    rw [e]
    have n1 := sq2_nn (bx - ax) (by' - ay)
    split
    · show (sq2 (bx - ax) (by' - ay)).toNat = 0; omega
    · rw [if_pos (Int.le_refl _)]
      show (sq2 (bx - bx) (by' - by')).toNat = 0
      unfold sq2; simp
  · have := sq_nn (cr ax ay bx by' x y)
    omega
theorem Cd_pt (x y u v : Int) : Cd (pt x y) 0 u v = ((sq2 (u - x) (v - y)).toNat, 1) := by
  show cu x y x y u v = _
  unfold cu
  rw [if_pos (show al x y x y u v ≤ 0 by unfold al; simp)]
/-- a corner is an end of a side -/
theorem end_le {G : pg_T} (hG : R_ok G) {i : Nat} (hi : i < g_n G) (x y : Int) : ∃ j, j < sd G ∧ Le (Cd G j x y) ((sq2 (x - g_x G i) (y - g_y G i)).toNat, 1) := by
  have hp := sd_pos hG
  by_cases q : i < sd G
  · refine ⟨i, q, ?_⟩
    unfold Le
    rw [Nat.mul_one]
    exact cu_a _ _ _ _ _ _
  · have hk : g_k G = 1 ∧ i = sd G := by unfold sd at q hp ⊢; split at q <;> rename_i e <;> (try rw [if_pos e]) <;> omega
    refine ⟨i - 1, by omega, ?_⟩
    have hw : wp (g_n G) (i - 1) = i := by unfold wp; rw [if_neg (by omega)]; omega
    unfold Le
    rw [Nat.mul_one]
    show (cu _ _ (g_x G (wp (g_n G) (i - 1))) (g_y G (wp (g_n G) (i - 1))) x y).1 ≤ _ * (cu _ _ (g_x G (wp (g_n G) (i - 1))) (g_y G (wp (g_n G) (i - 1))) x y).2
    rw [hw]
    exact cu_b _ _ _ _ _ _
theorem mC_mT {G : pg_T} (hG : R_ok G) {x y : Int} (hx : B_ok x) (hy : B_ok y) : Sm (mC G (pt x y)) (mT G x y) := by
  have hn := hG.2
  have hP := pt_ok hx hy
  obtain ⟨⟨i0, hi0, ht⟩, hL⟩ := g1_is hG hx hy
  have hC : ∀ j, j < sd G → 0 < (Cd G j x y).2 := fun j hj => (Cd_ok hG.1 (by have := sd_le G; omega) hx hy).2.1
  have hr := rdc_sm (hC i0 hi0)
  unfold mC mT
  by_cases q1 : g_k G = 2 ∧ St G x y ≠ 0
  · rw [ci_t (show Hv G (pt x y) from Or.inr (Or.inl q1)), ci_t q1]
    exact ⟨rfl, by decide, by decide, by decide⟩
  · rw [ci_f q1]
    by_cases q2 : Hv G (pt x y)
    · rw [ci_t q2]
      have hz : ∃ i, i < sd G ∧ (Cd G i x y).1 = 0 := by
        rcases q2 with ⟨i, -, hi, j, -, -, hc⟩ | q | q
        · exact ⟨i, hi, ct_pt hc⟩
        · exact absurd q q1
        · exact absurd q.1 (show ¬ (0 : Nat) = 2 by decide)
      obtain ⟨i, hi, hz⟩ := hz
      have hl := hL i hi
      unfold Le at hl
      rw [hz, Nat.zero_mul] at hl
      have h0 : (g1 G x y (0, 0)).1 = 0 := by
        rcases Nat.mul_eq_zero.mp (Nat.le_zero.mp hl) with w | w
        · exact w
        · have := hC i hi; omega
      have ht2 : 0 < (g1 G x y (0, 0)).2 := by rw [ht]; exact hr.2.2.1
      exact ⟨by show 0 * _ = _ * 1; rw [h0]; simp, by show (0 : Nat) < 1; decide, ht2, by rw [ht]; exact hr.2.2.2⟩
    · rw [ci_f q2]
      -- the least over the corners is one of their squares
      have hcor : ∃ i, i < g_n G ∧ fm G (pt x y) (s0 G (pt x y)) = ((sq2 (x - g_x G i) (y - g_y G i)).toNat, 1) := by
        have inv := fi_inv (f := fun s i => f1 (pt x y) (g_x G i) (g_y G i) s) (P := fun s => ∃ i, i < g_n G ∧ s = ((sq2 (x - g_x G i) (y - g_y G i)).toNat, 1)) (n := g_n G) (fun s i hi hs => by
          have e : f1 (pt x y) (g_x G i) (g_y G i) s = mn s (Cd (pt x y) 0 (g_x G i) (g_y G i)) := rfl
          show ∃ i', i' < g_n G ∧ f1 (pt x y) (g_x G i) (g_y G i) s = _
          rw [e, Cd_pt]
          unfold mn
          split
          · exact ⟨i, hi, by rw [sq2_sy]⟩
          · exact hs) (g_n G) 0 (s0 G (pt x y)) (by omega) ⟨0, by omega, rfl⟩
        exact inv
      obtain ⟨i, hi, hs⟩ := hcor
      have e : fm (pt x y) G (fm G (pt x y) (s0 G (pt x y))) = f1 G x y (fm G (pt x y) (s0 G (pt x y))) := rfl
      rw [e, hs]
      exact f1_g1 hG hx hy (by show (0 : Nat) < 1; decide) (end_le hG hi x y)
theorem x4_tl {M M0 : mo_T} {k : Nat} {G : pg_T} (hG : R_ok G) (h : mv M k G) {x y : Int} (hx : B_ok x) (hy : B_ok y) {F : Nat} (hF : 100 ≤ F) : ∀ (d j N : Nat) (t : q_T), j + d = sd G → d < N → Qt t → s_X4_toPlace_41 F M0 (iI x) (iI y) (nI k) N (nI j) (sq M t) = some (sq M (fi (fun t j => mm t (rdc (Cd G j x y))) d j t)) := by
  have h24 := hG.1.2.1
  have hsd := sd_le G
  have hn := hG.2
  intro d
  induction d with
  | zero =>
    intro j N t hjd hN ht
    obtain ⟨N, rfl⟩ : ∃ m, N = m + 1 := ⟨N - 1, by omega⟩
    rw [s_X4_toPlace_41, x4_sides (M := sq M t) hG.1 h (fun _ => by omega), bd_some, if_pos (nI_le (by omega) (by omega))]
    rfl
  | succ d ih =>
    intro j N t hjd hN ht
    obtain ⟨N, rfl⟩ : ∃ m, N = m + 1 := ⟨N - 1, by omega⟩
    have hj : j < g_n G := by omega
    rw [s_X4_toPlace_41, x4_sides (M := sq M t) hG.1 h (fun _ => by omega), bd_some, if_neg (nI_ge (by omega) (by omega)), x4_from, bd_some, x4_to (M := sq M t) hG.1 h hj, bd_some, iI_l (I_B hx), iI_l (I_B hy), x4_weighSide (mv_p hG.1 h hj) (mv_p hG.1 h (wp_lt hj)) hx hy ht hF, bd_some, bd_some, nI_1, ih (j + 1) N _ (by omega) (by omega) (mm_ok ht (rdc_ok (Cd_ok hG.1 hj hx hy)))]
    rfl
theorem x4_toPlace {M : mo_T} {k : Nat} {G : pg_T} (hG : R_ok G) (h : mv M k G) {x y : Int} (hx : B_ok x) (hy : B_ok y) {F : Nat} (hF : 100 ≤ F) : s_X4_toPlace F M (iI x) (iI y) (nI k) = some (sq M (mT G x y)) := by
  have h24 := hG.1.2.1
  have e := x4_tl (M0 := M) hG h hx hy hF (sd G) 0 F (0, 0) (by omega) (by have := sd_le G; omega) (Or.inl rfl)
  rw [nI_0] at e
  have e33 : ∀ N : mo_T, N = ms_l (ms_u M 0) 1 → s_X4_toPlace_33 F M (iI x) (iI y) (nI k) N = some (sq M (g1 G x y (0, 0))) := by
    intro N hN
    subst hN
    exact e
  unfold s_X4_toPlace mT
  rw [mv_k h, bd_some]
  by_cases hk : g_k G = 2
  · rw [if_p (nI_k3 hG.1) hk, iI_l (I_B hx), iI_l (I_B hy), x4_stands (M := ms_l (ms_u M 0) 1) hG.1 h hx hy hF, bd_some]
    by_cases hs : St G x y ≠ 0
    · rw [if_n St_le (fun z => z hs), ci_t ⟨hk, hs⟩]; rfl
    · rw [if_p St_le hs, ci_f (fun z => hs z.2)]
      exact e33 _ rfl
  · rw [if_n (nI_k3 hG.1) hk, ci_f (fun z => hk z.1)]
    exact e33 _ rfl
