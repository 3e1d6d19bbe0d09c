-- class and model measure the same
def Sm (s t : q_T) : Prop := s.1 * t.2 = t.1 * s.2 ∧ 0 < s.2 ∧ 0 < t.2 ∧ Nat.gcd t.1 t.2 = 1
theorem rdc_sm {c : q_T} (h : 0 < c.2) : Sm c (rdc c) := by
  have hg : 0 < Nat.gcd c.1 c.2 := Nat.gcd_pos_of_pos_right _ h
  obtain ⟨a, ha⟩ := Nat.gcd_dvd_left c.1 c.2
  obtain ⟨b, hb⟩ := Nat.gcd_dvd_right c.1 c.2
  have e1 : c.1 / Nat.gcd c.1 c.2 = a := by
    conv => lhs; rw [show c.1 / Nat.gcd c.1 c.2 = (Nat.gcd c.1 c.2 * a) / Nat.gcd c.1 c.2 by rw [← ha]]
    exact Nat.mul_div_cancel_left a hg
  have e2 : c.2 / Nat.gcd c.1 c.2 = b := by
    conv => lhs; rw [show c.2 / Nat.gcd c.1 c.2 = (Nat.gcd c.1 c.2 * b) / Nat.gcd c.1 c.2 by rw [← hb]]
    exact Nat.mul_div_cancel_left b hg
  have e3 : rdc c = (a, b) := by unfold rdc; rw [e1, e2]
  have hb0 : 0 < b := by
    rcases Nat.eq_zero_or_pos b with q | q
    · rw [q, Nat.mul_zero] at hb; omega
    · exact q
  rw [e3]
  refine ⟨?_, h, hb0, ?_⟩
  · show c.1 * b = a * c.2
    calc c.1 * b = (Nat.gcd c.1 c.2 * a) * b := by rw [← ha]
      _ = a * (Nat.gcd c.1 c.2 * b) := by rw [Nat.mul_comm (Nat.gcd c.1 c.2) a, Nat.mul_assoc]
      _ = a * c.2 := by rw [← hb]
  · show Nat.gcd a b = 1
    have e4 : Nat.gcd c.1 c.2 * Nat.gcd a b = Nat.gcd c.1 c.2 := by
      rw [← Nat.gcd_mul_left, ← ha, ← hb]
    exact Nat.eq_of_mul_eq_mul_left hg (by rw [e4, Nat.mul_one])
/-- comparing goes over to equal fractions -/
theorem lt_sm {s t c d : q_T} (h : s.1 * t.2 = t.1 * s.2) (k : c.1 * d.2 = d.1 * c.2) (hs : 0 < s.2) (ht : 0 < t.2) (hc : 0 < c.2) (hd : 0 < d.2) : c.1 * s.2 < s.1 * c.2 ↔ d.1 * t.2 < t.1 * d.2 := by
  have e1 : c.1 * s.2 * (d.2 * t.2) = d.1 * t.2 * (c.2 * s.2) := by
    calc c.1 * s.2 * (d.2 * t.2) = (c.1 * d.2) * (s.2 * t.2) := by rw [Nat.mul_mul_mul_comm]
      _ = (d.1 * c.2) * (s.2 * t.2) := by rw [k]
      _ = d.1 * t.2 * (c.2 * s.2) := by rw [Nat.mul_comm s.2 t.2, Nat.mul_mul_mul_comm]
  have e2 : s.1 * c.2 * (d.2 * t.2) = t.1 * d.2 * (c.2 * s.2) := by
    calc s.1 * c.2 * (d.2 * t.2) = (s.1 * t.2) * (c.2 * d.2) := by rw [Nat.mul_comm d.2 t.2, Nat.mul_mul_mul_comm]
      _ = (t.1 * s.2) * (c.2 * d.2) := by rw [h]
      _ = t.1 * d.2 * (c.2 * s.2) := by rw [Nat.mul_comm c.2 d.2, Nat.mul_mul_mul_comm, Nat.mul_comm s.2 c.2]
  have p1 : 0 < d.2 * t.2 := Nat.mul_pos hd ht
  have p2 : 0 < c.2 * s.2 := Nat.mul_pos hc hs
  rw [← Nat.mul_lt_mul_right p1, e1, e2, Nat.mul_lt_mul_right p2]
theorem Sm_step {s t c : q_T} (h : Sm s t) (hc : 0 < c.2) : Sm (mn s c) (mm t (rdc c)) := by
  have hr := rdc_sm hc
  obtain ⟨h1, h2, h3, h4⟩ := id h
  obtain ⟨r1, r2, r3, r4⟩ := id hr
  have hl := lt_sm h1 r1 h2 h3 r2 r3
  unfold mn mm
  by_cases q : c.1 * s.2 < s.1 * c.2
  · rw [if_pos q, if_pos (Or.inr (hl.mp q))]; exact hr
  · rw [if_neg q, if_neg (fun z => z.elim (fun w => by omega) (fun w => q (hl.mpr w)))]; exact h
theorem Sm_first {s c : q_T} (hs : 0 < s.2) (hc : 0 < c.2) (hle : c.1 * s.2 ≤ s.1 * c.2) : Sm (mn s c) (mm (0, 0) (rdc c)) := by
  have hr := rdc_sm hc
  unfold mn mm
  rw [if_pos (Or.inl rfl)]
  by_cases q : c.1 * s.2 < s.1 * c.2
  · rw [if_pos q]; exact hr
  · rw [if_neg q]
    obtain ⟨r1, r2, r3, r4⟩ := hr
    refine ⟨?_, hs, r3, r4⟩
    have e : s.1 * c.2 = c.1 * s.2 := by omega
    have : c.2 * (s.1 * (rdc c).2) = c.2 * ((rdc c).1 * s.2) := by
      calc c.2 * (s.1 * (rdc c).2) = (s.1 * c.2) * (rdc c).2 := by rw [← Nat.mul_assoc, Nat.mul_comm c.2 s.1]
        _ = (c.1 * s.2) * (rdc c).2 := by rw [e]
        _ = (c.1 * (rdc c).2) * s.2 := by rw [Nat.mul_right_comm]
        _ = ((rdc c).1 * c.2) * s.2 := by rw [r1]
        _ = c.2 * ((rdc c).1 * s.2) := by rw [Nat.mul_comm (rdc c).1 c.2, Nat.mul_assoc]
    exact Nat.eq_of_mul_eq_mul_left hc this
/-- a side is no farther than its ends -/
theorem cu_a (ax ay bx by' x y : Int) : (cu ax ay bx by' x y).1 ≤ (sq2 (x - ax) (y - ay)).toNat * (cu ax ay bx by' x y).2 := by
  have n1 := sq2_nn (x - ax) (y - ay)
  have n2 := sq2_nn (x - bx) (y - by')
  have n3 := sq2_nn (bx - ax) (by' - ay)
  have e : sq2 (x - bx) (y - by') = sq2 (x - ax) (y - ay) - 2 * al ax ay bx by' x y + sq2 (bx - ax) (by' - ay) := by unfold sq2 al; grind
  have e2 : cr ax ay bx by' x y * cr ax ay bx by' x y + al ax ay bx by' x y * al ax ay bx by' x y = sq2 (x - ax) (y - ay) * sq2 (bx - ax) (by' - ay) := by unfold cr sq2 al; grind
  unfold cu
  split
  · show _ ≤ _ * 1; omega
  · split
    · show (sq2 (x - bx) (y - by')).toNat ≤ _ * 1; omega
    · show (cr ax ay bx by' x y * cr ax ay bx by' x y).toNat ≤ (sq2 (x - ax) (y - ay)).toNat * (sq2 (bx - ax) (by' - ay)).toNat
      rw [← Int.toNat_mul n1 n3, ← e2]
      have := sq_nn (al ax ay bx by' x y)
      omega
theorem cu_b (ax ay bx by' x y : Int) : (cu ax ay bx by' x y).1 ≤ (sq2 (x - bx) (y - by')).toNat * (cu ax ay bx by' x y).2 := by
  have n1 := sq2_nn (x - ax) (y - ay)
  have n2 := sq2_nn (x - bx) (y - by')
  have n3 := sq2_nn (bx - ax) (by' - ay)
  have e : sq2 (x - bx) (y - by') = sq2 (x - ax) (y - ay) - 2 * al ax ay bx by' x y + sq2 (bx - ax) (by' - ay) := by unfold sq2 al; grind
  have e2 : cr ax ay bx by' x y * cr ax ay bx by' x y + (al ax ay bx by' x y - sq2 (bx - ax) (by' - ay)) * (al ax ay bx by' x y - sq2 (bx - ax) (by' - ay)) = sq2 (x - bx) (y - by') * sq2 (bx - ax) (by' - ay) := by unfold cr sq2 al; grind
  unfold cu
  split
  · show (sq2 (x - ax) (y - ay)).toNat ≤ _ * 1; omega
  · split
    · show _ ≤ _ * 1; omega
    · show (cr ax ay bx by' x y * cr ax ay bx by' x y).toNat ≤ (sq2 (x - bx) (y - by')).toNat * (sq2 (bx - ax) (by' - ay)).toNat
      rw [← Int.toNat_mul n2 n3, ← e2]
      have := sq_nn (al ax ay bx by' x y - sq2 (bx - ax) (by' - ay))
      omega
theorem f1_sm {J : pg_T} (hJ : G_ok J) {x y : Int} (hx : B_ok x) (hy : B_ok y) {s t : q_T} (h : Sm s t) : Sm (f1 J x y s) (g1 J x y t) := by
  have hsd := sd_le J
  unfold f1 g1
  refine fi_rel (f := fun s j => mn s (Cd J j x y)) (g := fun t j => mm t (rdc (Cd J j x y))) (R := Sm) (n := sd J) ?_ (sd J) 0 s t (by omega) h
  intro s t j hj h
  exact Sm_step h (Cd_ok hJ (by omega) hx hy).2.1
theorem fm_sm {G J : pg_T} (hG : G_ok G) (hJ : G_ok J) {s t : q_T} (h : Sm s t) : Sm (fm G J s) (gm G J t) := by
  unfold fm gm
  refine fi_rel (f := fun s i => f1 J (g_x G i) (g_y G i) s) (g := fun t i => g1 J (g_x G i) (g_y G i) t) (R := Sm) (n := g_n G) ?_ (g_n G) 0 s t (by omega) h
  intro s t i hi h
  exact f1_sm hJ (hG.2.2.2 i hi).1 (hG.2.2.2 i hi).2 h
theorem sd_pos {G : pg_T} (hG : R_ok G) : 1 ≤ sd G := by have := hG.2; unfold sd; split <;> omega
theorem f1_first {J : pg_T} (hJ : R_ok J) {x y : Int} (hx : B_ok x) (hy : B_ok y) {s : q_T} (hs : 0 < s.2) (hle : (Cd J 0 x y).1 * s.2 ≤ s.1 * (Cd J 0 x y).2) : Sm (f1 J x y s) (g1 J x y (0, 0)) := by
  have hp := sd_pos hJ
  have hsd := sd_le J
  obtain ⟨d, hd⟩ : ∃ d, sd J = d + 1 := ⟨sd J - 1, by omega⟩
  unfold f1 g1
  rw [hd, fi_s, fi_s]
  refine fi_rel (f := fun s j => mn s (Cd J j x y)) (g := fun t j => mm t (rdc (Cd J j x y))) (R := Sm) (n := sd J) ?_ d 1 _ _ (by omega) (Sm_first hs (Cd_ok hJ.1 (by omega) hx hy).2.1 hle)
  intro s t j hj h
  exact Sm_step h (Cd_ok hJ.1 (by omega) hx hy).2.1
theorem fm_first {G J : pg_T} (hG : R_ok G) (hJ : R_ok J) {s : q_T} (hs : 0 < s.2) (hle : (Cd J 0 (g_x G 0) (g_y G 0)).1 * s.2 ≤ s.1 * (Cd J 0 (g_x G 0) (g_y G 0)).2) : Sm (fm G J s) (gm G J (0, 0)) := by
  have hn := hG.2
  obtain ⟨d, hd⟩ : ∃ d, g_n G = d + 1 := ⟨g_n G - 1, by omega⟩
  have b0 := hG.1.2.2.2 0 (by omega)
  unfold fm gm
  rw [hd, fi_s, fi_s]
  refine fi_rel (f := fun s i => f1 J (g_x G i) (g_y G i) s) (g := fun t i => g1 J (g_x G i) (g_y G i) t) (R := Sm) (n := g_n G) ?_ d 1 _ _ (by omega) (f1_first hJ b0.1 b0.2 hs hle)
  intro s t i hi h
  exact f1_sm hJ.1 (hG.1.2.2.2 i hi).1 (hG.1.2.2.2 i hi).2 h
theorem sq2_sy (a b c d : Int) : sq2 (a - b) (c - d) = sq2 (b - a) (d - c) := by unfold sq2; grind
theorem mC_mM {G J : pg_T} (hG : R_ok G) (hJ : R_ok J) : Sm (mC G J) (mM G J) := by
  unfold mC mM
  by_cases q : Hv G J
  · rw [ci_t q, ci_t q]
    exact ⟨rfl, by decide, by decide, by decide⟩
  · rw [ci_f q, ci_f q]
    refine fm_sm hJ.1 hG.1 (fm_first hG hJ (by show (0 : Nat) < 1; decide) ?_)
    show _ * 1 ≤ (sq2 (g_x J 0 - g_x G 0) (g_y J 0 - g_y G 0)).toNat * _
    rw [Nat.mul_one, sq2_sy]
    exact cu_a _ _ _ _ _ _
theorem Sm_rdc {s t : q_T} (h : Sm s t) : rdc s = t := by
  obtain ⟨h1, h2, h3, h4⟩ := h
  obtain ⟨r1, r2, r3, r4⟩ := rdc_sm h2
  generalize rdc s = u at *
  have e : u.1 * t.2 = t.1 * u.2 := by
    have : s.2 * (u.1 * t.2) = s.2 * (t.1 * u.2) := by
      calc s.2 * (u.1 * t.2) = (u.1 * s.2) * t.2 := by rw [Nat.mul_comm u.1 s.2, Nat.mul_assoc]
        _ = (s.1 * u.2) * t.2 := by rw [r1]
        _ = (s.1 * t.2) * u.2 := by rw [Nat.mul_right_comm]
        _ = (t.1 * s.2) * u.2 := by rw [h1]
        _ = s.2 * (t.1 * u.2) := by rw [Nat.mul_comm t.1 s.2, Nat.mul_assoc]
    exact Nat.eq_of_mul_eq_mul_left h2 this
  have c1 : Nat.Coprime u.1 u.2 := r4
  have c2 : Nat.Coprime t.1 t.2 := h4
  have d1 : u.1 ∣ t.1 := c1.dvd_of_dvd_mul_right ⟨t.2, e.symm⟩
  have d2 : t.1 ∣ u.1 := c2.dvd_of_dvd_mul_right ⟨u.2, e⟩
  have a1 : u.1 = t.1 := Nat.dvd_antisymm d1 d2
  have d3 : u.2 ∣ t.2 := c1.symm.dvd_of_dvd_mul_left ⟨t.1, by rw [e, Nat.mul_comm]⟩
  have d4 : t.2 ∣ u.2 := c2.symm.dvd_of_dvd_mul_left ⟨u.1, by rw [← e, Nat.mul_comm]⟩
  have a2 : u.2 = t.2 := Nat.dvd_antisymm d3 d4
  exact Prod.ext a1 a2
theorem x0_reduce {s : q_T} (h : Qs s) {F : Nat} (hF : 100 ≤ F) : s_X0_reduce F (en s) = some (en (rdc s)) := by
  obtain ⟨h1, h2, h3⟩ := id h
  have hg : 0 < Nat.gcd s.1 s.2 := Nat.gcd_pos_of_pos_right _ h2
  have hgl : Nat.gcd s.1 s.2 ≤ s.2 := Nat.le_of_dvd h2 (Nat.gcd_dvd_right _ _)
  unfold s_X0_reduce
  show ((s_X0_greatestDivisor F (lN s.1) (lN s.2)).bind _) = _
  rw [x0_greatestDivisor (by omega) (by omega) hF, bd_some, lo1]
  by_cases q : Nat.gcd s.1 s.2 ≤ 1
  · rw [if_p (cl_le (by omega) (by decide)) q]
    have e : Nat.gcd s.1 s.2 = 1 := by omega
    have : rdc s = s := by unfold rdc; rw [e, Nat.div_one, Nat.div_one]
    rw [this]
  · rw [if_n (cl_le (by omega) (by decide)) q, nzl hg (by omega), bd_some, bd_some, bd_some, bd_some]
    show some (lN s.1 / lN _, lN s.2 / lN _) = _
    rw [pk_lDiv (by omega) hg (by omega), pk_lDiv (by omega) hg (by omega)]
    rfl
