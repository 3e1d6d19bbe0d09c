-- geometry over the integers: when two sides have a place in common, told in two ways
def cr (ax ay bx by' x y : Int) : Int := (bx - ax) * (y - ay) - (by' - ay) * (x - ax)
def bt (p q v : Int) : Prop := (p ≤ v ∧ v ≤ q) ∨ (q ≤ v ∧ v ≤ p)
def ov (p q r s : Int) : Prop := min r s ≤ max p q ∧ min p q ≤ max r s
def on (ax ay bx by' x y : Int) : Prop := cr ax ay bx by' x y = 0 ∧ bt ax bx x ∧ bt ay by' y
def ct (ax ay bx by' cx cy dx dy : Int) : Prop := on ax ay bx by' cx cy ∨ on ax ay bx by' dx dy ∨ on cx cy dx dy ax ay ∨ on cx cy dx dy bx by' ∨ (cr ax ay bx by' cx cy * cr ax ay bx by' dx dy < 0 ∧ cr cx cy dx dy ax ay * cr cx cy dx dy bx by' < 0)
def tc (ax ay bx by' cx cy dx dy : Int) : Prop := ov ax bx cx dx ∧ ov ay by' cy dy ∧ cr ax ay bx by' cx cy * cr ax ay bx by' dx dy ≤ 0 ∧ cr cx cy dx dy ax ay * cr cx cy dx dy bx by' ≤ 0
theorem ig_lg (a b : Int) : a < b ∨ b ≤ a := by omega
theorem sq0 {a : Int} (h : a * a = 0) : a = 0 := (Int.mul_eq_zero.mp h).elim id id
theorem mul_np {a b : Int} (h : a * b ≤ 0) : (a ≤ 0 ∧ 0 ≤ b) ∨ (0 ≤ a ∧ b ≤ 0) := by
  rcases Int.lt_trichotomy a 0 with ha | ha | ha
  · left
    refine ⟨by omega, ?_⟩
    rcases ig_lg b 0 with hb | hb
    · have := Int.mul_pos_of_neg_of_neg ha hb; omega
    · exact hb
  · subst ha
    rcases ig_lg b 0 with hb | hb
    · exact Or.inr ⟨by omega, by omega⟩
    · exact Or.inl ⟨by omega, hb⟩
  · right
    refine ⟨by omega, ?_⟩
    rcases ig_lg 0 b with hb | hb
    · have := Int.mul_pos ha hb; omega
    · exact hb
theorem bt_iff {p q v : Int} : bt p q v ↔ (p - v) * (q - v) ≤ 0 := by
  constructor
  · intro h
    rcases h with h | h
    · have := Int.mul_nonneg (a := v - p) (b := q - v) (by omega) (by omega)
      have e : (v - p) * (q - v) = -((p - v) * (q - v)) := by grind
      omega
    · have := Int.mul_nonneg (a := p - v) (b := v - q) (by omega) (by omega)
      have e : (p - v) * (v - q) = -((p - v) * (q - v)) := by grind
      omega
  · intro h
    rcases mul_np h with h | h
    · exact Or.inl ⟨by omega, by omega⟩
    · exact Or.inr ⟨by omega, by omega⟩
theorem le0_of {q e : Int} (hq : q < 0) (h : 0 ≤ q * e) : e ≤ 0 := by
  rcases ig_lg 0 e with he | he
  · have := Int.mul_neg_of_neg_of_pos hq he; omega
  · exact he
theorem ge0_of {q e : Int} (hq : 0 < q) (h : 0 ≤ q * e) : 0 ≤ e := by
  rcases ig_lg e 0 with he | he
  · have := Int.mul_neg_of_pos_of_neg hq he; omega
  · exact he
theorem eq0_of {q e : Int} (hq : q ≠ 0) (h : q * e = 0) : e = 0 := by
  rcases Int.mul_eq_zero.mp h with h | h
  · exact absurd h hq
  · exact h
/-- u and v on two hands of a place, on one straight line: any w has them on two hands -/
theorem opp {ux uy vx vy wx wy : Int} (h : ux * vy = uy * vx) (hp : ux * vx ≤ 0) (hq : uy * vy ≤ 0) : (wx * uy - wy * ux) * (wx * vy - wy * vx) ≤ 0 := by
  have e : (wx * uy - wy * ux) * (wx * vy - wy * vx) = wx * wx * (uy * vy) - 2 * (wx * wy * (ux * vy)) + wy * wy * (ux * vx) := by grind
  have hr : (uy * vy) * (ux * vx) = (ux * vy) * (ux * vy) := by grind
  rcases ig_lg (uy * vy) 0 with h1 | h1
  · refine le0_of h1 ?_
    have e2 : uy * vy * ((wx * uy - wy * ux) * (wx * vy - wy * vx)) = (wx * (uy * vy) - wy * (ux * vy)) * (wx * (uy * vy) - wy * (ux * vy)) := by grind
    rw [e2]; exact sq_nn _
  · rcases ig_lg (ux * vx) 0 with h2 | h2
    · refine le0_of h2 ?_
      have e2 : ux * vx * ((wx * uy - wy * ux) * (wx * vy - wy * vx)) = (wy * (ux * vx) - wx * (ux * vy)) * (wy * (ux * vx) - wx * (ux * vy)) := by grind
      rw [e2]; exact sq_nn _
    · have z1 : uy * vy = 0 := by omega
      have z2 : ux * vx = 0 := by omega
      rw [z1, z2] at hr
      have z3 : ux * vy = 0 := by
        rcases Int.mul_eq_zero.mp (show (ux * vy) * (ux * vy) = 0 by omega) with h | h <;> exact h
      rw [e, z1, z2, z3]
      simp
/-- on one straight line through 0 with w, between 0 and w by its x: by its y too -/
theorem colb {ux uy wx wy : Int} (h : wx * uy = wy * ux) (hw : wx ≠ 0) (hb : 0 ≤ ux * (wx - ux)) : 0 ≤ uy * (wy - uy) := by
  have hw2 : 0 < wx * wx := by
    have h1 := sq_nn wx
    rcases ig_lg 0 (wx * wx) with h2 | h2
    · exact h2
    · exact absurd (sq0 (by omega)) hw
  refine ge0_of hw2 ?_
  have e : wx * wx * (uy * (wy - uy)) = wy * wy * (ux * (wx - ux)) := by grind
  rw [e]
  exact Int.mul_nonneg (sq_nn _) hb
/-- in one dimension: u and v on one hand of 0, and their box meets that of 0 and w -/
theorem ov1 {a b c d : Int} (hp : 0 < (a - c) * (b - c)) (ho : ov a b c d) : (d - c ≠ 0) ∧ (0 ≤ (a - c) * ((d - c) - (a - c)) ∨ 0 ≤ (b - c) * ((d - c) - (b - c))) := by
  unfold ov at ho
  rcases Int.lt_trichotomy (a - c) 0 with h1 | h1 | h1
  · have h2 : b - c < 0 := by
      rcases ig_lg (b - c) 0 with h | h
      · exact h
      · have := Int.mul_nonpos_of_nonpos_of_nonneg (a := a - c) (b := b - c) (by omega) h; omega
    refine ⟨by omega, ?_⟩
    rcases Int.le_total a b with hab | hab
    · right
      have := Int.mul_nonneg (a := -(b - c)) (b := -((d - c) - (b - c))) (by omega) (by omega)
      rw [Int.neg_mul_neg] at this; exact this
    · left
      have := Int.mul_nonneg (a := -(a - c)) (b := -((d - c) - (a - c))) (by omega) (by omega)
      rw [Int.neg_mul_neg] at this; exact this
  · rw [h1] at hp; omega
  · have h2 : 0 < b - c := by
      rcases ig_lg 0 (b - c) with h | h
      · exact h
      · have := Int.mul_nonpos_of_nonneg_of_nonpos (a := a - c) (b := b - c) (by omega) h; omega
    refine ⟨by omega, ?_⟩
    rcases Int.le_total a b with hab | hab
    · left; exact Int.mul_nonneg (by omega) (by omega)
    · right; exact Int.mul_nonneg (by omega) (by omega)
theorem on_of {ux uy cx cy dx dy : Int} (h : (dx - cx) * (uy - cy) = (dy - cy) * (ux - cx)) (hx : 0 ≤ (ux - cx) * ((dx - cx) - (ux - cx))) (hy : 0 ≤ (uy - cy) * ((dy - cy) - (uy - cy))) : on cx cy dx dy ux uy := by
  refine ⟨by unfold cr; omega, bt_iff.mpr ?_, bt_iff.mpr ?_⟩
  · have e : (cx - ux) * (dx - ux) = -((ux - cx) * ((dx - cx) - (ux - cx))) := by grind
    omega
  · have e : (cy - uy) * (dy - uy) = -((uy - cy) * ((dy - cy) - (uy - cy))) := by grind
    omega
theorem lineA {ax ay bx by' cx cy dx dy : Int} (h1 : cr ax ay bx by' cx cy = 0) (ox : ov ax bx cx dx) (oy : ov ay by' cy dy) (hE : cr cx cy dx dy ax ay * cr cx cy dx dy bx by' ≤ 0) : on ax ay bx by' cx cy ∨ on cx cy dx dy ax ay ∨ on cx cy dx dy bx by' := by
  have hc : (ax - cx) * (by' - cy) = (ay - cy) * (bx - cx) := by unfold cr at h1; grind
  unfold cr at hE
  have hr : ((ay - cy) * (by' - cy)) * ((ax - cx) * (bx - cx)) = ((ax - cx) * (by' - cy)) * ((ax - cx) * (by' - cy)) := by grind
  by_cases hp : (ax - cx) * (bx - cx) ≤ 0
  · by_cases hq : (ay - cy) * (by' - cy) ≤ 0
    · exact Or.inl ⟨h1, bt_iff.mpr hp, bt_iff.mpr hq⟩
    · -- by y
      have hq : 0 < (ay - cy) * (by' - cy) := by omega
      have e2 : (ay - cy) * (by' - cy) * (((dx - cx) * (ay - cy) - (dy - cy) * (ax - cx)) * ((dx - cx) * (by' - cy) - (dy - cy) * (bx - cx))) = ((dx - cx) * ((ay - cy) * (by' - cy)) - (dy - cy) * ((ax - cx) * (by' - cy))) * ((dx - cx) * ((ay - cy) * (by' - cy)) - (dy - cy) * ((ax - cx) * (by' - cy))) := by grind
      have k0 : 0 ≤ ((dx - cx) * (ay - cy) - (dy - cy) * (ax - cx)) * ((dx - cx) * (by' - cy) - (dy - cy) * (bx - cx)) := ge0_of hq (by rw [e2]; exact sq_nn _)
      have k1 : ((dx - cx) * ((ay - cy) * (by' - cy)) - (dy - cy) * ((ax - cx) * (by' - cy))) = 0 := by
        have : ((dx - cx) * (ay - cy) - (dy - cy) * (ax - cx)) * ((dx - cx) * (by' - cy) - (dy - cy) * (bx - cx)) = 0 := by omega
        rw [this, Int.mul_zero] at e2
        exact sq0 e2.symm
      have hay : ay - cy ≠ 0 := fun h => by rw [h] at hq; omega
      have hby : by' - cy ≠ 0 := fun h => by rw [h] at hq; omega
      have w1 : (dx - cx) * (ay - cy) - (dy - cy) * (ax - cx) = 0 := eq0_of hby (by grind)
      have w2 : (dx - cx) * (by' - cy) - (dy - cy) * (bx - cx) = 0 := eq0_of hay (by grind)
      obtain ⟨hd, hh⟩ := ov1 hq oy
      rcases hh with hh | hh
      · exact Or.inr (Or.inl (on_of (by omega) (colb (ux := ay - cy) (uy := ax - cx) (wx := dy - cy) (wy := dx - cx) (by omega) hd hh) hh))
      · exact Or.inr (Or.inr (on_of (by omega) (colb (ux := by' - cy) (uy := bx - cx) (wx := dy - cy) (wy := dx - cx) (by omega) hd hh) hh))
  · have hp : 0 < (ax - cx) * (bx - cx) := by omega
    have e2 : (ax - cx) * (bx - cx) * (((dx - cx) * (ay - cy) - (dy - cy) * (ax - cx)) * ((dx - cx) * (by' - cy) - (dy - cy) * (bx - cx))) = ((dy - cy) * ((ax - cx) * (bx - cx)) - (dx - cx) * ((ax - cx) * (by' - cy))) * ((dy - cy) * ((ax - cx) * (bx - cx)) - (dx - cx) * ((ax - cx) * (by' - cy))) := by grind
    have k0 : 0 ≤ ((dx - cx) * (ay - cy) - (dy - cy) * (ax - cx)) * ((dx - cx) * (by' - cy) - (dy - cy) * (bx - cx)) := ge0_of hp (by rw [e2]; exact sq_nn _)
    have k1 : ((dy - cy) * ((ax - cx) * (bx - cx)) - (dx - cx) * ((ax - cx) * (by' - cy))) = 0 := by
      have : ((dx - cx) * (ay - cy) - (dy - cy) * (ax - cx)) * ((dx - cx) * (by' - cy) - (dy - cy) * (bx - cx)) = 0 := by omega
      rw [this, Int.mul_zero] at e2
      exact sq0 e2.symm
    have hax : ax - cx ≠ 0 := fun h => by rw [h] at hp; omega
    have hbx : bx - cx ≠ 0 := fun h => by rw [h] at hp; omega
    have w1 : (dx - cx) * (ay - cy) - (dy - cy) * (ax - cx) = 0 := eq0_of hbx (by grind)
    have w2 : (dx - cx) * (by' - cy) - (dy - cy) * (bx - cx) = 0 := eq0_of hax (by grind)
    obtain ⟨hd, hh⟩ := ov1 hp ox
    rcases hh with hh | hh
    · exact Or.inr (Or.inl (on_of (by omega) hh (colb (ux := ax - cx) (uy := ay - cy) (wx := dx - cx) (wy := dy - cy) (by omega) hd hh)))
    · exact Or.inr (Or.inr (on_of (by omega) hh (colb (ux := bx - cx) (uy := by' - cy) (wx := dx - cx) (wy := dy - cy) (by omega) hd hh)))
theorem cr_swap (cx cy dx dy x y : Int) : cr dx dy cx cy x y = - cr cx cy dx dy x y := by unfold cr; grind
theorem on_swap {ax ay bx by' x y : Int} : on bx by' ax ay x y ↔ on ax ay bx by' x y := by
  unfold on bt
  rw [cr_swap]
  constructor
  · rintro ⟨h, h1, h2⟩; exact ⟨by omega, h1.symm, h2.symm⟩
  · rintro ⟨h, h1, h2⟩; exact ⟨by omega, h1.symm, h2.symm⟩
theorem ov_sw {p q r s : Int} (h : ov p q r s) : ov p q s r := by unfold ov at h ⊢; omega
theorem ov_sy {p q r s : Int} (h : ov p q r s) : ov r s p q := ⟨h.2, h.1⟩
theorem on_tc {ax ay bx by' cx cy dx dy : Int} (h : on ax ay bx by' cx cy) : tc ax ay bx by' cx cy dx dy := by
  obtain ⟨h1, h2, h3⟩ := h
  have hc : (ax - cx) * (by' - cy) = (ay - cy) * (bx - cx) := by unfold cr at h1; grind
  refine ⟨?_, ?_, by rw [h1]; omega, ?_⟩
  · unfold bt at h2; unfold ov; omega
  · unfold bt at h3; unfold ov; omega
  · unfold cr
    exact opp hc (bt_iff.mp h2) (bt_iff.mp h3)
theorem tc_sy {ax ay bx by' cx cy dx dy : Int} (h : tc ax ay bx by' cx cy dx dy) : tc cx cy dx dy ax ay bx by' := ⟨ov_sy h.1, ov_sy h.2.1, h.2.2.2, h.2.2.1⟩
theorem tc_sw {ax ay bx by' cx cy dx dy : Int} (h : tc ax ay bx by' cx cy dx dy) : tc ax ay bx by' dx dy cx cy := by
  refine ⟨ov_sw h.1, ov_sw h.2.1, by rw [Int.mul_comm]; exact h.2.2.1, ?_⟩
  rw [cr_swap, cr_swap cx cy dx dy bx by', Int.neg_mul_neg]
  exact h.2.2.2
theorem ct_sy {ax ay bx by' cx cy dx dy : Int} (h : ct ax ay bx by' cx cy dx dy) : ct cx cy dx dy ax ay bx by' := by
  rcases h with h | h | h | h | h
  · exact Or.inr (Or.inr (Or.inl h))
  · exact Or.inr (Or.inr (Or.inr (Or.inl h)))
  · exact Or.inl h
  · exact Or.inr (Or.inl h)
  · exact Or.inr (Or.inr (Or.inr (Or.inr ⟨h.2, h.1⟩)))
theorem pr_neg {a b : Int} (h : a * b ≤ 0) (ha : a ≠ 0) (hb : b ≠ 0) : a * b < 0 := by
  have : a * b ≠ 0 := fun q => (Int.mul_eq_zero.mp q).elim ha hb
  omega
theorem sgl {a b c d o1 o2 o3 o4 : Int} (hid : d * o1 - c * o2 = a * o4 - b * o3) (hK : o1 - o2 = o4 - o3) (p1 : 0 < o1) (p2 : o2 < 0) (p3 : o3 < 0) (p4 : 0 < o4) : ov a b c d := by
  constructor
  · rcases ig_lg (max a b) (min c d) with h | h
    · exfalso
      obtain ⟨m, hm⟩ : ∃ m, m = min c d := ⟨_, rfl⟩
      have k1 := Int.mul_nonneg (a := m - 1 - a) (b := o4) (by omega) (by omega)
      have k2 := Int.mul_nonneg (a := m - 1 - b) (b := -o3) (by omega) (by omega)
      have k3 := Int.mul_nonneg (a := c - m) (b := -o2) (by omega) (by omega)
      have k4 := Int.mul_nonneg (a := d - m) (b := o1) (by omega) (by omega)
      have e1 : (m - 1 - a) * o4 = m * o4 - o4 - a * o4 := by grind
      have e2 : (m - 1 - b) * -o3 = -(m * o3) + o3 + b * o3 := by grind
      have e3 : (c - m) * -o2 = -(c * o2) + m * o2 := by grind
      have e4 : (d - m) * o1 = d * o1 - m * o1 := by grind
      have e5 : m * o1 - m * o2 = m * o4 - m * o3 := by rw [← Int.mul_sub, ← Int.mul_sub, hK]
      omega
    · exact h
  · rcases ig_lg (max c d) (min a b) with h | h
    · exfalso
      obtain ⟨m, hm⟩ : ∃ m, m = min a b := ⟨_, rfl⟩
      have k1 := Int.mul_nonneg (a := a - m) (b := o4) (by omega) (by omega)
      have k2 := Int.mul_nonneg (a := b - m) (b := -o3) (by omega) (by omega)
      have k3 := Int.mul_nonneg (a := m - 1 - c) (b := -o2) (by omega) (by omega)
      have k4 := Int.mul_nonneg (a := m - 1 - d) (b := o1) (by omega) (by omega)
      have e1 : (a - m) * o4 = a * o4 - m * o4 := by grind
      have e2 : (b - m) * -o3 = -(b * o3) + m * o3 := by grind
      have e3 : (m - 1 - c) * -o2 = -(m * o2) + o2 + c * o2 := by grind
      have e4 : (m - 1 - d) * o1 = m * o1 - o1 - d * o1 := by grind
      have e5 : m * o1 - m * o2 = m * o4 - m * o3 := by rw [← Int.mul_sub, ← Int.mul_sub, hK]
      omega
    · exact h
theorem mul_ng {a b : Int} (h : a * b < 0) : (a < 0 ∧ 0 < b) ∨ (0 < a ∧ b < 0) := by
  have h1 : a ≠ 0 := fun q => by rw [q] at h; omega
  have h2 : b ≠ 0 := fun q => by rw [q] at h; omega
  rcases mul_np (show a * b ≤ 0 by omega) with q | q
  · exact Or.inl ⟨by omega, by omega⟩
  · exact Or.inr ⟨by omega, by omega⟩
theorem cr_id (ax ay bx by' cx cy dx dy : Int) : cr ax ay bx by' cx cy - cr ax ay bx by' dx dy = cr cx cy dx dy bx by' - cr cx cy dx dy ax ay := by unfold cr; grind
theorem cr_ix (ax ay bx by' cx cy dx dy : Int) : dx * cr ax ay bx by' cx cy - cx * cr ax ay bx by' dx dy = ax * cr cx cy dx dy bx by' - bx * cr cx cy dx dy ax ay := by unfold cr; grind
theorem cr_iy (ax ay bx by' cx cy dx dy : Int) : dy * cr ax ay bx by' cx cy - cy * cr ax ay bx by' dx dy = ay * cr cx cy dx dy bx by' - by' * cr cx cy dx dy ax ay := by unfold cr; grind
/-- the two ways say the same -/
theorem ct_tc {ax ay bx by' cx cy dx dy : Int} : ct ax ay bx by' cx cy dx dy ↔ tc ax ay bx by' cx cy dx dy := by
  constructor
  · intro h
    rcases h with h | h | h | h | ⟨h1, h2⟩
    · exact on_tc h
    · exact tc_sw (on_tc h)
    · exact tc_sy (on_tc h)
    · exact tc_sy (tc_sw (on_tc h))
    · have hK := cr_id ax ay bx by' cx cy dx dy
      have hX := cr_ix ax ay bx by' cx cy dx dy
      have hY := cr_iy ax ay bx by' cx cy dx dy
      refine ⟨?_, ?_, by omega, by omega⟩
      · rcases mul_ng h1 with q1 | q1 <;> rcases mul_ng h2 with q2 | q2
        · omega
        · exact ov_sw (sgl (o1 := cr ax ay bx by' dx dy) (o2 := cr ax ay bx by' cx cy) (o3 := - cr cx cy dx dy ax ay) (o4 := - cr cx cy dx dy bx by') (by rw [Int.mul_neg, Int.mul_neg]; omega) (by omega) (by omega) (by omega) (by omega) (by omega))
        · exact sgl hX hK (by omega) (by omega) (by omega) (by omega)
        · omega
      · rcases mul_ng h1 with q1 | q1 <;> rcases mul_ng h2 with q2 | q2
        · omega
        · exact ov_sw (sgl (o1 := cr ax ay bx by' dx dy) (o2 := cr ax ay bx by' cx cy) (o3 := - cr cx cy dx dy ax ay) (o4 := - cr cx cy dx dy bx by') (by rw [Int.mul_neg, Int.mul_neg]; omega) (by omega) (by omega) (by omega) (by omega) (by omega))
        · exact sgl hY hK (by omega) (by omega) (by omega) (by omega)
        · omega
  · intro h
    obtain ⟨ox, oy, h1, h2⟩ := h
    by_cases z1 : cr ax ay bx by' cx cy = 0
    · rcases lineA z1 ox oy h2 with q | q | q
      · exact Or.inl q
      · exact Or.inr (Or.inr (Or.inl q))
      · exact Or.inr (Or.inr (Or.inr (Or.inl q)))
    · by_cases z2 : cr ax ay bx by' dx dy = 0
      · rcases lineA (cx := dx) (cy := dy) (dx := cx) (dy := cy) z2 (ov_sw ox) (ov_sw oy) (by rw [cr_swap, cr_swap cx cy dx dy bx by', Int.neg_mul_neg]; exact h2) with q | q | q
        · exact Or.inr (Or.inl q)
        · exact Or.inr (Or.inr (Or.inl (on_swap.mp q)))
        · exact Or.inr (Or.inr (Or.inr (Or.inl (on_swap.mp q))))
      · by_cases z3 : cr cx cy dx dy ax ay = 0
        · rcases lineA (ax := cx) (ay := cy) (bx := dx) (by' := dy) (cx := ax) (cy := ay) (dx := bx) (dy := by') z3 (ov_sy ox) (ov_sy oy) h1 with q | q | q
          · exact Or.inr (Or.inr (Or.inl q))
          · exact Or.inl q
          · exact Or.inr (Or.inl q)
        · by_cases z4 : cr cx cy dx dy bx by' = 0
          · rcases lineA (ax := cx) (ay := cy) (bx := dx) (by' := dy) (cx := bx) (cy := by') (dx := ax) (dy := ay) z4 (ov_sw (ov_sy ox)) (ov_sw (ov_sy oy)) (by rw [cr_swap, cr_swap ax ay bx by' dx dy, Int.neg_mul_neg]; exact h1) with q | q | q
            · exact Or.inr (Or.inr (Or.inr (Or.inl q)))
            · exact Or.inl (on_swap.mp q)
            · exact Or.inr (Or.inl (on_swap.mp q))
          · exact Or.inr (Or.inr (Or.inr (Or.inr ⟨pr_neg h1 z1 z2, pr_neg h2 z3 z4⟩)))
