-- class and model, side by side
def Rk (hh : Nat → Option sh_T) (M : mo_T) (k : Nat) : Prop := (hh k = none ∧ mo_k M k = 0) ∨ ∃ S G, hh k = some S ∧ Sg S G ∧ mv M k G ∧ (g_k G = 0 → g_n G = 1)
def Rb (X : pp_T) (M : mo_T) : Prop := ∃ m : Nat, m ≤ 60 ∧ pp_m X = nI m ∧ mo_m M = nI m ∧ ∀ j, j < m → pp_b X j = mo_f M j
def Rc (X : pp_T) (hh : Nat → Option sh_T) (M : mo_T) (c : Nat) : Prop := c ≤ 60 ∧ pp_n X = nI c ∧ mo_n M = nI c ∧ (∀ k, c ≤ k → hh k = none) ∧ ∀ k, k < c → Rk hh M k
def Ro (X : pp_T) (M : mo_T) : Prop := ∃ o : Nat, o ≤ 400 ∧ pp_o X = nI o ∧ mo_o M = nI o
def Rl (X : pp_T) (hh : Nat → Option sh_T) (M : mo_T) : Prop := (∃ c, Rc X hh M c) ∧ Ro X M ∧ pp_s X = mo_n M - mo_g M ∧ Rb X M
theorem Rl_t {X : pp_T} {hh : Nat → Option sh_T} {M : mo_T} (h : Rl X hh M) (v : Int32) : Rl X hh (ms_t M v) := h
theorem Rl_0 : Rl pp_0 (fun _ => none) mo_0 := ⟨⟨0, by omega, rfl, rfl, fun _ _ => rfl, fun k hk => absurd hk (by omega)⟩, ⟨0, by omega, rfl, rfl⟩, rfl, ⟨0, by omega, rfl, rfl, fun j hj => absurd hj (by omega)⟩⟩
theorem ix {p : Int32} {c : Nat} (hc : c ≤ 60) : (∃ k, k < c ∧ p = nI k) ∨ p < 0 ∨ (¬ p < 0 ∧ nI c ≤ p ∧ ¬ p < nI c) := by
  by_cases h : p < 0
  · exact Or.inr (Or.inl h)
  · obtain ⟨j, hj, rfl⟩ := nI_of h
    by_cases q : j < c
    · exact Or.inl ⟨j, q, rfl⟩
    · exact Or.inr (Or.inr ⟨h, nI_le (by omega) hj, nI_nlt (by omega) hj⟩)
theorem rd_qk {hh : Nat → Option sh_T} {k : Nat} (h : k < 60) : rd_q 60 hh (nI k) = some (hh k) := by
  have h1 : (nI k).toNatClampNeg = k := nI_clamp (by omega)
  unfold rd_q
  rw [if_neg, h1]
  rw [h1]
  intro q
  rcases q with q | q
  · exact nI_pos (by omega) q
  · omega
/-- a shape by its number -/
theorem lk {X : pp_T} {hh : Nat → Option sh_T} {M : mo_T} (h : Rl X hh M) (p : Int32) : ((∀ F, s_X3_standing F X hh p = some none) ∧ ∀ F, s_X4_isShape F M p = some 0) ∨ ∃ k S G, p = nI k ∧ k < 60 ∧ hh k = some S ∧ Sg S G ∧ ms M k G ∧ ∀ F, s_X3_standing F X hh p = some (some S) := by
  obtain ⟨⟨c, hc, hn, hm, -, hk⟩, -⟩ := h
  rcases ix (p := p) hc with ⟨k, k1, rfl⟩ | q | ⟨q1, q2, q3⟩
  · have st : ∀ F, s_X3_standing F X hh (nI k) = some (hh k) := by
      intro F
      unfold s_X3_standing
      rw [if_neg (nI_pos (by omega)), hn, if_pos (nI_lt k1 (by omega)), rd_qk (by omega)]
    rcases hk k k1 with ⟨e1, e2⟩ | ⟨S, G, e1, e2, e3, e4⟩
    · refine Or.inl ⟨fun F => by rw [st, e1], fun F => ?_⟩
      unfold s_X4_isShape
      rw [if_neg (nI_pos (by omega)), hm, if_neg (nI_ge k1 (by omega)), rd_ok (by omega) (by omega), bd_some, e2, if_pos rfl]
    · exact Or.inr ⟨k, S, G, rfl, by omega, e1, e2, ⟨e3, ⟨c, hc, hm, k1⟩, e4⟩, fun F => by rw [st, e1]⟩
  · refine Or.inl ⟨fun F => ?_, fun F => ?_⟩
    · unfold s_X3_standing
      rw [if_pos q]
    · unfold s_X4_isShape
      rw [if_pos q]
  · refine Or.inl ⟨fun F => ?_, fun F => ?_⟩
    · unfold s_X3_standing
      rw [if_neg q1, hn, if_neg q3]
    · unfold s_X4_isShape
      rw [if_neg q1, hm, if_pos q2]
theorem vd_R {G : pg_T} (h : G_ok G) (hv : vd G = 1) : R_ok G := by
  refine ⟨h, ?_⟩
  unfold vd at hv
  by_cases q : g_n G < g_k G + 1
  · rw [if_pos q] at hv
    exact absurd hv (by decide)
  · omega
/-- a right shape by its number -/
theorem rt {X : pp_T} {hh : Nat → Option sh_T} {M : mo_T} (h : Rl X hh M) (p : Int32) {F : Nat} (hF : 100 ≤ F) : (s_X3_right F X hh p = some none ∧ s_X4_isRight F (ms_t M 0) p = some (0, ms_t M 0)) ∨ ∃ k S G, p = nI k ∧ k < 60 ∧ hh k = some S ∧ Sg S G ∧ ms M k G ∧ R_ok G ∧ s_X3_right F X hh p = some (some S) ∧ s_X4_isRight F (ms_t M 0) p = some (1, ms_t M 0) := by
  rcases lk (Rl_t h 0) p with ⟨h1, h2⟩ | ⟨k, S, G, rfl, h2, h3, h4, h5, h6⟩
  · refine Or.inl ⟨?_, ?_⟩
    · unfold s_X3_right
      rw [h1, bd_some]; rfl
    · unfold s_X4_isRight
      rw [h2, bd_some, if_pos rfl]
  · have e1 : s_X3_right F X hh (nI k) = some (if sh_v S = 1 then some S else none) := by
      unfold s_X3_right
      rw [h6, bd_some]; rfl
    have e2 := x4_isRight h4.1 h5 hF
    rw [h4.2.2.2.2] at e1
    by_cases hv : vd G = 1
    · refine Or.inr ⟨k, S, G, rfl, h2, h3, h4, h5, vd_R h4.1 hv, by rw [e1, if_pos hv], ?_⟩
      rw [e2, bI_t hv]
    · refine Or.inl ⟨by rw [e1, if_neg hv], ?_⟩
      rw [e2, bI_f hv]
theorem pl {p q : Int32} : (∃ x y, p = iI x ∧ q = iI y ∧ B_ok x ∧ B_ok y ∧ (∀ F, s_X3_isPlace F p q = some 1) ∧ ∀ F, s_X4_isPlace F p q = some 1) ∨ ((∀ F, s_X3_isPlace F p q = some 0) ∧ ∀ F, s_X4_isPlace F p q = some 0) := by
  have e : ∀ F, s_X4_isPlace F p q = s_X3_isPlace F p q := fun F => rfl
  have l1 : ∀ z : Int32, (z < -10000) ↔ z.toInt < -10000 := fun z => by rw [Int32.lt_iff_toInt_lt]; rfl
  have l2 : ∀ z : Int32, (10000 < z) ↔ 10000 < z.toInt := fun z => by rw [Int32.lt_iff_toInt_lt]; rfl
  by_cases a : p < -10000
  · have : ∀ F, s_X3_isPlace F p q = some 0 := fun F => by unfold s_X3_isPlace; rw [if_pos a]
    exact Or.inr ⟨this, this⟩
  by_cases b : 10000 < p
  · have : ∀ F, s_X3_isPlace F p q = some 0 := fun F => by unfold s_X3_isPlace; rw [if_neg a, if_pos b]
    exact Or.inr ⟨this, this⟩
  by_cases c : q < -10000
  · have : ∀ F, s_X3_isPlace F p q = some 0 := fun F => by unfold s_X3_isPlace; rw [if_neg a, if_neg b, if_pos c]
    exact Or.inr ⟨this, this⟩
  by_cases d : 10000 < q
  · have : ∀ F, s_X3_isPlace F p q = some 0 := fun F => by unfold s_X3_isPlace; rw [if_neg a, if_neg b, if_neg c, if_pos d]
    exact Or.inr ⟨this, this⟩
  have : ∀ F, s_X3_isPlace F p q = some 1 := fun F => by unfold s_X3_isPlace; rw [if_neg a, if_neg b, if_neg c, if_neg d]
  rw [l1] at a c
  rw [l2] at b d
  exact Or.inl ⟨p.toInt, q.toInt, (Int32.ofInt_toInt p).symm, (Int32.ofInt_toInt q).symm, ⟨by omega, by omega⟩, ⟨by omega, by omega⟩, this, this⟩
-- the reading calls
theorem n10 : ¬ (1 : Int32) = 0 := by decide
theorem mC_ok {G J : pg_T} (hG : R_ok G) (hJ : R_ok J) : Qs (mC G J) := by
  unfold mC
  by_cases q : Hv G J
  · rw [ci_t q]; exact ⟨Nat.zero_le _, Nat.one_pos, by show (1 : Nat) ≤ 800000000; decide⟩
  · rw [ci_f q]; exact fm_ok hJ.1 hG.1 (fm_ok hG.1 hJ.1 (s0_ok hG hJ))
theorem o_check {X : pp_T} {hh : Nat → Option sh_T} {M : mo_T} (h : Rl X hh M) (p : Int32) {F : Nat} (hF : 100 ≤ F) : ∃ r, s_X3_check F X hh p = some r ∧ s_X4_check F M p = some (r, ms_t M 0) := by
  rcases lk (Rl_t h 0) p with ⟨h1, h2⟩ | ⟨k, S, G, rfl, h2, h3, h4, h5, h6⟩
  · refine ⟨-1, ?_, ?_⟩
    · unfold s_X3_check
      rw [h1, bd_some]; rfl
    · unfold s_X4_check
      rw [h2, bd_some, if_pos rfl]
  · refine ⟨vd G, ?_, x4_check (M := M) h4.1 h5 hF⟩
    unfold s_X3_check
    rw [h6, bd_some]
    show some (sh_v S) = _
    rw [h4.2.2.2.2]
theorem o_inside {X : pp_T} {hh : Nat → Option sh_T} {M : mo_T} (h : Rl X hh M) (p q a : Int32) {F : Nat} (hF : 100 ≤ F) : ∃ r, s_X3_inside F X hh p q a = some r ∧ s_X4_inside F M p q a = some (r, ms_t M 0) := by
  rcases rt h a hF with ⟨h1, h2⟩ | ⟨k, S, G, rfl, h2, h3, h4, h5, hR, h6, h7⟩
  · refine ⟨-1, ?_, ?_⟩
    · unfold s_X3_inside
      rw [h1, bd_some]; rfl
    · unfold s_X4_inside
      rcases pl (p := p) (q := q) with ⟨x, y, -, -, -, -, -, e⟩ | ⟨-, e⟩
      · rw [e, bd_some, if_neg n10, h2, bd_some, if_pos rfl]
      · rw [e, bd_some, if_pos rfl]
  · unfold s_X3_inside s_X4_inside
    rw [h6, bd_some, h7, bd_some]
    show ∃ r, (if sh_k S = 2 then _ else _) = some r ∧ _
    rw [h4.2.1.1]
    rcases pl (p := p) (q := q) with ⟨x, y, rfl, rfl, hx, hy, e1, e2⟩ | ⟨e1, e2⟩
    · rw [e1, bd_some, e2, bd_some, if_neg n10, if_neg n10, if_neg n10]
      show ∃ r, _ ∧ Option.bind (rd_i 60 (mo_k (ms_t M 0)) (nI k)) _ = _
      rw [mv_k (M := ms_t M 0) h5.1, bd_some]
      by_cases hk : g_k G = 2
      · rw [if_pos hk, if_p (nI_k3 h4.1) hk, x2_whereIs h4.1 h4.2.1 hx hy hF, bd_some, iI_l (I_B hx), iI_l (I_B hy)]
        show ∃ r, _ ∧ Option.bind (s_X4_stands F (ms_t M 0) (lI x) (lI y) (nI k)) _ = _
        rw [x4_stands (M := ms_t M 0) h4.1 h5.1 hx hy hF, bd_some]
        exact ⟨_, rfl, rfl⟩
      · rw [if_neg hk, if_n (nI_k3 h4.1) hk]
        exact ⟨_, rfl, rfl⟩
    · rw [e1, bd_some, e2, bd_some, if_pos rfl, if_pos rfl]
      by_cases hk : g_k G = 2
      · rw [if_pos hk]
        exact ⟨_, rfl, rfl⟩
      · rw [if_neg hk]
        exact ⟨_, rfl, rfl⟩
theorem o_meets {X : pp_T} {hh : Nat → Option sh_T} {M : mo_T} (h : Rl X hh M) (a b : Int32) {F : Nat} (hF : 100 ≤ F) : ∃ r, s_X3_meets F X hh a b = some r ∧ s_X4_meets F M a b = some (r, ms_t M 0) := by
  unfold s_X3_meets s_X4_meets
  rcases rt h a hF with ⟨h1, h2⟩ | ⟨k, S, G, rfl, h2, h3, h4, h5, hR, h6, h7⟩
  · rw [h1, bd_some, h2, bd_some, if_pos rfl]
    refine ⟨-1, ?_, rfl⟩
    show Option.bind (s_X3_right F X hh b) _ = _
    rcases rt h b hF with ⟨k1, k2⟩ | ⟨k', S', G', rfl, k2, k3, k4, k5, kR, k6, k7⟩
    · rw [k1, bd_some]; rfl
    · rw [k6, bd_some]; rfl
  · rw [h6, bd_some, h7, bd_some, if_neg n10]
    show ∃ r, Option.bind (s_X3_right F X hh b) _ = _ ∧ _
    rcases rt h b hF with ⟨k1, k2⟩ | ⟨k', S', G', rfl, k2, k3, k4, k5, kR, k6, k7⟩
    · rw [k1, bd_some, k2, bd_some, if_pos rfl]
      exact ⟨_, rfl, rfl⟩
    · rw [k6, bd_some, k7, bd_some, if_neg n10]
      show ∃ r, Option.bind (s_X2_touches F S S') _ = _ ∧ _
      rw [x2_touches hR kR h4.2.1 k4.2.1 hF, bd_some, x4_have (M := ms_t M 0) hR kR h5.1 k5.1 hF, bd_some]
      by_cases q : bI (Hv G G') = 0
      · rw [if_pos q, if_pos q]; exact ⟨_, rfl, rfl⟩
      · rw [if_neg q, if_neg q]; exact ⟨_, rfl, rfl⟩
theorem o_shapes {X : pp_T} {hh : Nat → Option sh_T} {M : mo_T} (h : Rl X hh M) (F : Nat) : ∃ r, s_X3_shapes F X hh = some r ∧ s_X4_shapes F M = some (r, ms_t M 0) := by
  refine ⟨_, rfl, ?_⟩
  unfold s_X4_shapes
  rw [h.2.2.1]
theorem o_square {X : pp_T} {hh : Nat → Option sh_T} {M : mo_T} (h : Rl X hh M) (a b c : Int32) {F : Nat} (hF : 100 ≤ F) : ∃ r X' M', s_X3_square F X hh a b c = some (r, X') ∧ s_X4_square F M a b c = some (r, M') ∧ Rl X' hh M' := by
  unfold s_X3_square s_X4_square
  rcases rt h a hF with ⟨h1, h2⟩ | ⟨k, S, G, rfl, h2, h3, h4, h5, hR, h6, h7⟩
  · rw [h1, bd_some, h2, bd_some, if_pos rfl]
    refine ⟨-1, X, ms_t M 0, ?_, rfl, h⟩
    show Option.bind (s_X3_right F X hh b) _ = _
    rcases rt h b hF with ⟨k1, k2⟩ | ⟨k', S', G', rfl, k2, k3, k4, k5, kR, k6, k7⟩
    · rw [k1, bd_some]; rfl
    · rw [k6, bd_some]; rfl
  · rw [h6, bd_some, h7, bd_some, if_neg n10]
    show ∃ r X' M', Option.bind (s_X3_right F X hh b) _ = _ ∧ _
    rcases rt h b hF with ⟨k1, k2⟩ | ⟨k', S', G', rfl, k2, k3, k4, k5, kR, k6, k7⟩
    · rw [k1, bd_some, k2, bd_some, if_pos rfl]
      exact ⟨_, _, _, rfl, rfl, h⟩
    · rw [k6, bd_some, k7, bd_some, if_neg n10]
      show ∃ r X' M', Option.bind (s_X2_measureTo F S S' _) _ = _ ∧ _
      have hS := mC_mM hR kR
      have e1 : s_X0_reduce F (en (mC G G')) = some (en (mM G G')) := by rw [x0_reduce (mC_ok hR kR) hF, Sm_rdc hS]
      rw [x2_measureTo hR kR h4.2.1 k4.2.1 hF, bd_some, x4_least (M := ms_t M 0) hR kR h5.1 k5.1 hF, bd_some]
      show ∃ r X' M', Option.bind (s_X0_reduce F (en (mC G G'))) _ = _ ∧ _
      rw [e1, bd_some]
      by_cases q : c = 0
      · rw [if_pos q, if_pos q]; exact ⟨_, _, _, rfl, rfl, h⟩
      · rw [if_neg q, if_neg q]; exact ⟨_, _, _, rfl, rfl, h⟩
theorem o_found {X : pp_T} {hh : Nat → Option sh_T} {M : mo_T} (h : Rl X hh M) (p : Int32) (F : Nat) : (∃ r, s_X3_found F X hh p = some r ∧ s_X4_found F M p = some (r, ms_t M 0)) ∨ ((p < 0 ∨ ¬ p < 0 ∧ ¬ p < pp_m X) ∧ s_X4_found F M p = some (0, ms_t M 1)) := by
  obtain ⟨-, -, -, m, hm, e1, e2, e3⟩ := h
  rcases ix (p := p) hm with ⟨k, k1, rfl⟩ | q | ⟨q1, q2, q3⟩
  · refine Or.inl ⟨pp_b X k, ?_, ?_⟩
    · unfold s_X3_found
      rw [if_neg (nI_pos (by omega)), e1, if_pos (nI_lt k1 (by omega)), rd_ok (by omega) (by omega), bd_some]
    · unfold s_X4_found
      rw [if_neg (nI_pos (by omega)), e2, if_neg (nI_ge k1 (by omega))]
      unfold s_X4_found_18
      rw [if_pos rfl, rd_ok (by omega) (by omega), bd_some, e3 k k1]
  · refine Or.inr ⟨Or.inl q, ?_⟩
    unfold s_X4_found
    rw [if_pos q]
    unfold s_X4_found_18
    rw [if_neg (by decide)]
  · refine Or.inr ⟨Or.inr ⟨q1, by rw [e1]; exact q3⟩, ?_⟩
    unfold s_X4_found
    rw [if_neg q1, e2, if_pos q2]
    unfold s_X4_found_18
    rw [if_neg (by decide)]
