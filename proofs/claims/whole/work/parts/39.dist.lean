-- the square of the distance of a place and a side, as a fraction; the least of such
abbrev q_T : Type := Nat × Nat
def al (ax ay bx by' x y : Int) : Int := (bx - ax) * (x - ax) + (by' - ay) * (y - ay)
def sq2 (x y : Int) : Int := x * x + y * y
noncomputable def cu (ax ay bx by' x y : Int) : q_T := if al ax ay bx by' x y ≤ 0 then ((sq2 (x - ax) (y - ay)).toNat, 1) else if sq2 (bx - ax) (by' - ay) ≤ al ax ay bx by' x y then ((sq2 (x - bx) (y - by')).toNat, 1) else ((cr ax ay bx by' x y * cr ax ay bx by' x y).toNat, (sq2 (bx - ax) (by' - ay)).toNat)
def mn (s c : q_T) : q_T := if c.1 * s.2 < s.1 * c.2 then c else s
def mm (t c : q_T) : q_T := if t.2 = 0 ∨ c.1 * t.2 < t.1 * c.2 then c else t
def rdc (c : q_T) : q_T := (c.1 / Nat.gcd c.1 c.2, c.2 / Nat.gcd c.1 c.2)
def en (s : q_T) : fr_T := (lN s.1, lN s.2)
def sq (M : mo_T) (t : q_T) : mo_T := ms_l (ms_u M (lN t.1)) (lN t.2)
theorem lI_N {z : Int} (h : 0 ≤ z) : lI z = lN z.toNat := by rw [lN_i9, Int.toNat_of_nonneg h]
theorem sq2_nn (x y : Int) : 0 ≤ sq2 x y := by unfold sq2; have := sq_nn x; have := sq_nn y; omega
theorem sq2_bd {x y : Int} (hx : -20000 ≤ x ∧ x ≤ 20000) (hy : -20000 ≤ y ∧ y ≤ 20000) : sq2 x y ≤ 800000000 := by
  have h1 := p_bd hx hx
  have h2 := p_bd hy hy
  unfold sq2
  omega
theorem al_bd {ax ay bx by' x y : Int} (h1 : B_ok ax) (h2 : B_ok ay) (h3 : B_ok bx) (h4 : B_ok by') (h5 : B_ok x) (h6 : B_ok y) : L_ok (al ax ay bx by' x y) := L_44 (p_bd (d_bd h3 h1) (d_bd h5 h1)) (p_bd (d_bd h4 h2) (d_bd h6 h2))
theorem cu_ok {ax ay bx by' x y : Int} (h1 : B_ok ax) (h2 : B_ok ay) (h3 : B_ok bx) (h4 : B_ok by') (h5 : B_ok x) (h6 : B_ok y) : Q_ok (cu ax ay bx by' x y).1 (cu ax ay bx by' x y).2 := by
  have k1 := sq2_bd (d_bd h5 h1) (d_bd h6 h2)
  have k2 := sq2_bd (d_bd h5 h3) (d_bd h6 h4)
  have k3 := sq2_bd (d_bd h3 h1) (d_bd h4 h2)
  have k4 := cr_bd h1 h2 h3 h4 h5 h6
  have k5 := mul_bd (a := cr ax ay bx by' x y) (b := cr ax ay bx by' x y) (A := 800000000) (B := 800000000) (by omega) (by omega) (by omega) (by omega)
  unfold cu Q_ok
  split
  · exact ⟨by show (sq2 (x - ax) (y - ay)).toNat ≤ _; omega, by show (0 : Nat) < 1; decide, by show (1 : Nat) ≤ 800000000; decide⟩
  · split
    · exact ⟨by show (sq2 (x - bx) (y - by')).toNat ≤ _; omega, by show (0 : Nat) < 1; decide, by show (1 : Nat) ≤ 800000000; decide⟩
    · rename_i q1 q2
      refine ⟨?_, ?_, ?_⟩
      · show (cr ax ay bx by' x y * cr ax ay bx by' x y).toNat ≤ _
        omega
      · show 0 < (sq2 (bx - ax) (by' - ay)).toNat
        omega
      · show (sq2 (bx - ax) (by' - ay)).toNat ≤ _
        omega
theorem x0_lessen {s c : q_T} (h : Q_ok s.1 s.2) (k : Q_ok c.1 c.2) (F : Nat) : s_X0_lessen F (en s) (lN c.1) (lN c.2) = some (en (mn s c)) := by
  unfold s_X0_lessen
  show ((s_X0_isAbove F (lN s.1) (lN s.2) (lN c.1) (lN c.2)).bind _) = _
  rw [x0_isAbove h k, bd_some]
  unfold mn
  by_cases q : c.1 * s.2 < s.1 * c.2
  · rw [if_n bI_0 (fun z => z q), if_pos q]; rfl
  · rw [if_p bI_0 q, if_neg q]
theorem mn_ok {s c : q_T} (h : Q_ok s.1 s.2) (k : Q_ok c.1 c.2) : Q_ok (mn s c).1 (mn s c).2 := by unfold mn; split <;> assumption
/-- the candidate of corner (x, y) and side j of J -/
noncomputable abbrev Cd (J : pg_T) (j : Nat) (x y : Int) : q_T := cu (g_x J j) (g_y J j) (g_x J (wp (g_n J) j)) (g_y J (wp (g_n J) j)) x y
theorem Cd_ok {J : pg_T} (hJ : G_ok J) {j : Nat} (hj : j < g_n J) {x y : Int} (hx : B_ok x) (hy : B_ok y) : Q_ok (Cd J j x y).1 (Cd J j x y).2 := cu_ok (hJ.2.2.2 j hj).1 (hJ.2.2.2 j hj).2 (hJ.2.2.2 _ (wp_lt hj)).1 (hJ.2.2.2 _ (wp_lt hj)).2 hx hy
theorem L_sq {x y : Int} (hx : -20000 ≤ x ∧ x ≤ 20000) (hy : -20000 ≤ y ∧ y ≤ 20000) : L_ok (sq2 x y) := ⟨by have := sq2_nn x y; omega, by have := sq2_bd hx hy; omega⟩
theorem x2_squareOf (F : Nat) (a b : Int) : s_X2_squareOf F (lI a) (lI b) = some (lI (sq2 a b)) := by
  unfold s_X2_squareOf sq2
  rw [lI_mul, lI_mul, lI_add]
theorem x2_lessenBySide {S : sh_T} {G : pg_T} (hG : G_ok G) (h : sv S G) {i : Nat} (hi : i < g_n G) {x y : Int} (hx : B_ok x) (hy : B_ok y) {s : q_T} (hs : Q_ok s.1 s.2) (F : Nat) : s_X2_lessenBySide F S (nI i) (iI x) (iI y) (en s) = some (en (mn s (Cd G i x y))) := by
  have b1 := hG.2.2.2 i hi
  have b2 := hG.2.2.2 _ (wp_lt hi)
  have hc := Cd_ok hG hi hx hy
  have hal := al_bd b1.1 b1.2 b2.1 b2.2 hx hy
  have hsq := L_sq (d_bd b2.1 b1.1) (d_bd b2.2 b1.2)
  unfold s_X2_lessenBySide
  rw [sv_x1 h hi, bd_some, sv_x h hi, bd_some, bd_some, sv_y1 h hi, bd_some, sv_y h hi, bd_some, bd_some, df b2.1 b1.1, df b2.2 b1.2, x2_squareOf, bd_some, bd_some, bd_some, df hx b1.1, df hy b1.2, lI_mul, lI_mul, lI_add, bd_some]
  have e : (g_x G (wp (g_n G) i) - g_x G i) * (x - g_x G i) + (g_y G (wp (g_n G) i) - g_y G i) * (y - g_y G i) = al (g_x G i) (g_y G i) (g_x G (wp (g_n G) i)) (g_y G (wp (g_n G) i)) x y := rfl
  rw [e]
  by_cases q1 : al (g_x G i) (g_y G i) (g_x G (wp (g_n G) i)) (g_y G (wp (g_n G) i)) x y ≤ 0
  · have ec : Cd G i x y = ((sq2 (x - g_x G i) (y - g_y G i)).toNat, 1) := if_pos q1
    rw [ec] at hc ⊢
    rw [if_n (cp_gt hal) (Int.not_lt.mpr q1), bd_some, bd_some, df hx b1.1, df hy b1.2, x2_squareOf, bd_some, lI_N (sq2_nn (x - g_x G i) _), lo1, x0_lessen (c := ((sq2 (x - g_x G i) (y - g_y G i)).toNat, 1)) hs hc, bd_some]
  · rw [if_p (cp_gt hal) (Int.not_le.mp q1)]
    by_cases q2 : sq2 (g_x G (wp (g_n G) i) - g_x G i) (g_y G (wp (g_n G) i) - g_y G i) ≤ al (g_x G i) (g_y G i) (g_x G (wp (g_n G) i)) (g_y G (wp (g_n G) i)) x y
    · have ec : Cd G i x y = ((sq2 (x - g_x G (wp (g_n G) i)) (y - g_y G (wp (g_n G) i))).toNat, 1) := by
        show cu _ _ _ _ _ _ = _
        unfold cu
        rw [if_neg q1, if_pos q2]
      rw [ec] at hc ⊢
      rw [if_n (cn_lt hal hsq) (Int.not_lt.mpr q2), bd_some, bd_some, df hx b2.1, df hy b2.2, x2_squareOf, bd_some, lI_N (sq2_nn (x - g_x G (wp (g_n G) i)) _), lo1, x0_lessen (c := ((sq2 (x - g_x G (wp (g_n G) i)) (y - g_y G (wp (g_n G) i))).toNat, 1)) hs hc, bd_some]
    · have ec : Cd G i x y = ((Tr G i x y * Tr G i x y).toNat, (sq2 (g_x G (wp (g_n G) i) - g_x G i) (g_y G (wp (g_n G) i) - g_y G i)).toNat) := by
        show cu _ _ _ _ _ _ = _
        unfold cu
        rw [if_neg q1, if_neg q2]
      rw [ec] at hc ⊢
      rw [if_p (cn_lt hal hsq) (Int.not_le.mp q2), x2_turn hG h hi hx hy, bd_some, lI_mul, lI_N (sq_nn _), lI_N (sq2_nn _ _), x0_lessen (c := ((Tr G i x y * Tr G i x y).toNat, (sq2 (g_x G (wp (g_n G) i) - g_x G i) (g_y G (wp (g_n G) i) - g_y G i)).toNat)) hs hc, bd_some]
theorem mp_sq {M : mo_T} {t : q_T} {a : Nat} {x y : Int} (h : mp M a x y) : mp (sq M t) a x y := h
theorem x4_weigh {M : mo_T} {t c : q_T} (ht : t.2 = 0 ∨ Q_ok t.1 t.2) (hc : Q_ok c.1 c.2) {F : Nat} (hF : 100 ≤ F) : s_X4_weigh F (sq M t) (lN c.1) (lN c.2) = some (sq M (mm t c)) := by
  unfold s_X4_weigh s_X4_weigh_26
  show (if lg_cmp (lN t.2) 0 = 0 then _ else ((s_X4_isLess F (lN c.1) (lN c.2) (lN t.1) (lN t.2)).bind _)) = _
  have hb : t.2 < 2 ^ 63 := by
    rcases ht with q | q
    · omega
    · have := q.2.2; omega
  unfold mm
  by_cases q : t.2 = 0
  · rw [if_p (cl_z hb) q, if_pos (Or.inl q)]; rfl
  · have ht : Q_ok t.1 t.2 := ht.elim (fun z => absurd z q) id
    rw [if_n (cl_z hb) q, x4_isLess hc ht hF, bd_some]
    by_cases q2 : c.1 * t.2 < t.1 * c.2
    · rw [if_n bI_0 (fun z => z q2), if_pos (Or.inr q2)]; rfl
    · rw [if_p bI_0 q2, if_neg (fun z => z.elim q q2)]
theorem rdc_1 (n : Nat) : rdc (n, 1) = (n, 1) := by unfold rdc; simp
theorem rdc_ok {c : q_T} (h : Q_ok c.1 c.2) : Q_ok (rdc c).1 (rdc c).2 := by
  obtain ⟨h1, h2, h3⟩ := h
  have hg : 0 < Nat.gcd c.1 c.2 := Nat.gcd_pos_of_pos_right _ h2
  refine ⟨Nat.le_trans (Nat.div_le_self _ _) h1, Nat.div_pos (Nat.le_of_dvd h2 (Nat.gcd_dvd_right _ _)) hg, Nat.le_trans (Nat.div_le_self _ _) h3⟩
theorem x4_weighSide {M : mo_T} {a b : Nat} {ax ay bx by' x y : Int} (ha : mp M a ax ay) (hb : mp M b bx by') (hx : B_ok x) (hy : B_ok y) {t : q_T} (ht : t.2 = 0 ∨ Q_ok t.1 t.2) {F : Nat} (hF : 100 ≤ F) : s_X4_weighSide F (sq M t) (lI x) (lI y) (nI a) (nI b) = some (sq M (mm t (rdc (cu ax ay bx by' x y)))) := by
  have ax' := mp_x (mp_sq (t := t) ha)
  have ay' := mp_y (mp_sq (t := t) ha)
  have bx' := mp_x (mp_sq (t := t) hb)
  have by'' := mp_y (mp_sq (t := t) hb)
  obtain ⟨-, -, -, a1, a2⟩ := ha
  obtain ⟨-, -, -, b1, b2⟩ := hb
  have hc := cu_ok a1 a2 b1 b2 hx hy
  have hal := al_bd a1 a2 b1 b2 hx hy
  have hsq := L_sq (d_bd b1 a1) (d_bd b2 a2)
  unfold s_X4_weighSide s_X4_cross
  simp only [ax', ay', bx', by'', bd_some, lI_sub, lI_mul, lI_add]
  have e : (x - ax) * (bx - ax) + (y - ay) * (by' - ay) = al ax ay bx by' x y := by unfold al; rw [Int.mul_comm (x - ax), Int.mul_comm (y - ay)]
  have e2 : (bx - ax) * (bx - ax) + (by' - ay) * (by' - ay) = sq2 (bx - ax) (by' - ay) := rfl
  have e3 : (x - ax) * (x - ax) + (y - ay) * (y - ay) = sq2 (x - ax) (y - ay) := rfl
  have e4 : (x - bx) * (x - bx) + (y - by') * (y - by') = sq2 (x - bx) (y - by') := rfl
  have e5 : (bx - ax) * (y - ay) - (by' - ay) * (x - ax) = cr ax ay bx by' x y := rfl
  rw [e, e2, e3, e4, e5]
  by_cases q1 : al ax ay bx by' x y ≤ 0
  · have ec : cu ax ay bx by' x y = ((sq2 (x - ax) (y - ay)).toNat, 1) := if_pos q1
    rw [ec] at hc ⊢
    rw [if_n (cp_gt hal) (Int.not_lt.mpr q1), lI_N (sq2_nn _ _), lo1, rdc_1, x4_weigh (c := ((sq2 (x - ax) (y - ay)).toNat, 1)) ht hc hF, bd_some]
  · rw [if_p (cp_gt hal) (Int.not_le.mp q1)]
    by_cases q2 : sq2 (bx - ax) (by' - ay) ≤ al ax ay bx by' x y
    · have ec : cu ax ay bx by' x y = ((sq2 (x - bx) (y - by')).toNat, 1) := by
        unfold cu
        rw [if_neg q1, if_pos q2]
      rw [ec] at hc ⊢
      rw [if_n (cn_lt hal hsq) (Int.not_lt.mpr q2), lI_N (sq2_nn (x - bx) _), lo1, rdc_1, x4_weigh (c := ((sq2 (x - bx) (y - by')).toNat, 1)) ht hc hF, bd_some]
    · have ec : cu ax ay bx by' x y = ((cr ax ay bx by' x y * cr ax ay bx by' x y).toNat, (sq2 (bx - ax) (by' - ay)).toNat) := by
        unfold cu
        rw [if_neg q1, if_neg q2]
      rw [ec] at hc ⊢
      obtain ⟨h1, h2, h3⟩ := id hc
      have hg : 0 < Nat.gcd (cr ax ay bx by' x y * cr ax ay bx by' x y).toNat (sq2 (bx - ax) (by' - ay)).toNat := Nat.gcd_pos_of_pos_right _ h2
      have hgl : Nat.gcd (cr ax ay bx by' x y * cr ax ay bx by' x y).toNat (sq2 (bx - ax) (by' - ay)).toNat ≤ (sq2 (bx - ax) (by' - ay)).toNat := Nat.le_of_dvd h2 (Nat.gcd_dvd_right _ _)
      have h1' : (cr ax ay bx by' x y * cr ax ay bx by' x y).toNat ≤ 640000000000000000 := h1
      have h3' : (sq2 (bx - ax) (by' - ay)).toNat ≤ 800000000 := h3
      rw [if_p (cn_lt hal hsq) (Int.not_le.mp q2), lI_N (sq_nn _), lI_N (sq2_nn _ _), x4_divisor (by omega) (by omega) hF, bd_some, nzl hg (by omega), bd_some, bd_some, pk_lDiv (by omega) hg (by omega), pk_lDiv (by omega) hg (by omega)]
      have := x4_weigh (M := M) (t := t) (c := rdc ((cr ax ay bx by' x y * cr ax ay bx by' x y).toNat, (sq2 (bx - ax) (by' - ay)).toNat)) ht (rdc_ok hc) hF
      unfold rdc at this
      rw [this, bd_some]
      rfl
