-- the writing calls
theorem l60 : (60 : Int32) = nI 60 := rfl
theorem l400 : (400 : Int32) = nI 400 := rfl
theorem l24 : (24 : Int32) = nI 24 := rfl
theorem ne60 {c : Nat} (h : c < 60) : ¬ nI c = (60 : Int32) := by rw [l60, nI_eq (by omega) (by omega)]; omega
theorem ne400 {c : Nat} (h : c < 400) : ¬ nI c = (400 : Int32) := by rw [l400, nI_eq (by omega) (by omega)]; omega
theorem ne24 {c : Nat} (h : c < 24) : ¬ nI c = (24 : Int32) := by rw [l24, nI_eq (by omega) (by omega)]; omega
theorem lt400 {c : Nat} (h : c < 400) : nI c < (400 : Int32) := by rw [l400]; exact nI_lt h (by decide)
theorem mv_tr {M M' : mo_T} {k : Nat} {G : pg_T} (hG : G_ok G) (h : mv M k G) (e1 : mo_k M' k = mo_k M k) (e2 : mo_c M' k = mo_c M k) (e3 : ∀ j, j < 24 → mo_x M' (24 * k + j) = mo_x M (24 * k + j) ∧ mo_y M' (24 * k + j) = mo_y M (24 * k + j)) : mv M' k G := by
  obtain ⟨h1, h2, h3, h4⟩ := h
  have := hG.2.1
  refine ⟨h1, e1.trans h2, e2.trans h3, fun j hj => ?_⟩
  rw [(e3 j (by omega)).1, (e3 j (by omega)).2]
  exact h4 j hj
theorem n24 (k n : Nat) : 24 * nI k + nI n = nI (24 * k + n) := Option.some.inj (x4_from 0 mo_0 k n)
theorem x4_lay {M : mo_T} {k n : Nat} (hk : k < 60) (hn : n < 24) (hc : mo_c M k = nI n) {x y : Int} (hx : B_ok x) (hy : B_ok y) (F : Nat) : s_X4_lay F M (nI k) (iI x) (iI y) = some (ms_o (ms_y (ms_x (ms_c M (upd (mo_c M) k (nI (n + 1)))) (vp_updL (mo_x M) (24 * k + n) (lI x))) (vp_updL (mo_y M) (24 * k + n) (lI y))) (mo_o M + 1)) := by
  unfold s_X4_lay
  rw [rd_ok hk (by omega), bd_some, bd_some, hc, n24, wr_okk (by omega) (by omega), bd_some, bd_some, bd_some, wr_okk hk (by omega), bd_some, bd_some, nI_1, nI_clamp (by omega), nI_clamp (by omega), iI_l (I_B hx), iI_l (I_B hy)]
theorem mv_ga {M : mo_T} {k : Nat} {G : pg_T} (h : mv M k G) {x y : Int} (o : Int32) : mv (ms_o (ms_y (ms_x (ms_c M (upd (mo_c M) k (nI (g_n G + 1)))) (vp_updL (mo_x M) (24 * k + g_n G) (lI x))) (vp_updL (mo_y M) (24 * k + g_n G) (lI y))) o) k (ga G x y) := by
  obtain ⟨h1, h2, h3, h4⟩ := h
  refine ⟨h1, h2, up_s _ _ _, fun j hj => ?_⟩
  have hj' : j < g_n G + 1 := hj
  show vp_updL (mo_x M) (24 * k + g_n G) (lI x) (24 * k + j) = lI (g_x (ga G x y) j) ∧ vp_updL (mo_y M) (24 * k + g_n G) (lI y) (24 * k + j) = lI (g_y (ga G x y) j)
  rcases (show j < g_n G ∨ j = g_n G by omega) with q | q
  · rw [ul_n _ _ (by omega), ul_n _ _ (by omega), ga_x q, ga_y q]
    exact h4 j q
  · rw [q, ul_s, ul_s, ga_xn, ga_yn]
    exact ⟨rfl, rfl⟩
/-- the model's state behind begin -/
def mb (M : mo_T) (c k : Nat) : mo_T := ms_n (ms_c (ms_k (ms_t M 0) (upd (mo_k M) c (nI (k + 1)))) (upd (mo_c M) c 0)) (nI (c + 1))
theorem x4_begin {M : mo_T} {c k : Nat} (hc : c < 60) (hn : mo_n M = nI c) (v : Int32) (hv : v = nI (k + 1)) (F : Nat) : s_X4_begin F (ms_t M 0) v = some (nI c, mb M c k) := by
  subst hv
  unfold s_X4_begin
  show (if mo_n M = 60 then _ else Option.bind (wr_in 60 (mo_n M)) _) = _
  rw [hn, if_neg (ne60 hc), wr_okk hc (by omega), bd_some, bd_some, bd_some]
  rw [nI_1, nI_pred, nI_clamp (by omega)]
  rfl
theorem x4_beginF {M : mo_T} (hn : mo_n M = nI 60) (v : Int32) (F : Nat) : s_X4_begin F (ms_t M 0) v = some (-2, ms_t M 0) := by
  unfold s_X4_begin
  rw [if_pos (show mo_n (ms_t M 0) = 60 from hn)]
theorem mb_0 {M : mo_T} {c k : Nat} (hc : c < 60) : mv (mb M c k) c (g0 k) := ⟨hc, up_s _ _ _, up_s _ _ _, fun j hj => absurd hj (by show ¬ j < 0; omega)⟩
/-- a new shape stands -/
theorem Rc_new {X X' : pp_T} {hh : Nat → Option sh_T} {M M' : mo_T} {c : Nat} (h : Rc X hh M c) (hc : c < 60) {S : sh_T} {G : pg_T} (hS : Sg S G) (hM : mv M' c G) (hz : g_k G = 0 → g_n G = 1) (e1 : pp_n X' = nI (c + 1)) (e2 : mo_n M' = nI (c + 1)) (e3 : ∀ k, k < c → mo_k M' k = mo_k M k ∧ mo_c M' k = mo_c M k ∧ ∀ j, j < 24 → mo_x M' (24 * k + j) = mo_x M (24 * k + j) ∧ mo_y M' (24 * k + j) = mo_y M (24 * k + j)) : Rc X' (va_up hh c (some S)) M' (c + 1) := by
  obtain ⟨h1, h2, h3, h4, h5⟩ := h
  refine ⟨by omega, e1, e2, fun k hk => ?_, fun k hk => ?_⟩
  · rw [uv_n _ _ (by omega)]; exact h4 k (by omega)
  · rcases (show k = c ∨ k < c by omega) with q | q
    · subst q
      exact Or.inr ⟨S, G, uv_s _ _ _, hS, hM, hz⟩
    · obtain ⟨f1, f2, f3⟩ := e3 k q
      unfold Rk
      rw [uv_n _ _ (by omega)]
      rcases h5 k q with ⟨g1, g2⟩ | ⟨S', G', g1, g2, g3, g4⟩
      · exact Or.inl ⟨g1, f1.trans g2⟩
      · exact Or.inr ⟨S', G', g1, g2, mv_tr g2.1 g3 f1 f2 f3, g4⟩
/-- a shape that stands is another, or went -/
theorem Rc_set {X X' : pp_T} {hh : Nat → Option sh_T} {M M' : mo_T} {c k0 : Nat} (h : Rc X hh M c) (hk0 : k0 < c) {v : Option sh_T} (hv : (v = none ∧ mo_k M' k0 = 0) ∨ ∃ S G, v = some S ∧ Sg S G ∧ mv M' k0 G ∧ (g_k G = 0 → g_n G = 1)) (e1 : pp_n X' = pp_n X) (e2 : mo_n M' = mo_n M) (e3 : ∀ k, k < c → k ≠ k0 → mo_k M' k = mo_k M k ∧ mo_c M' k = mo_c M k ∧ ∀ j, j < 24 → mo_x M' (24 * k + j) = mo_x M (24 * k + j) ∧ mo_y M' (24 * k + j) = mo_y M (24 * k + j)) : Rc X' (va_up hh k0 v) M' c := by
  obtain ⟨h1, h2, h3, h4, h5⟩ := h
  refine ⟨h1, e1.trans h2, e2.trans h3, fun k hk => ?_, fun k hk => ?_⟩
  · rw [uv_n _ _ (by omega)]; exact h4 k hk
  · unfold Rk
    by_cases q : k = k0
    · subst q
      rw [uv_s]
      rcases hv with ⟨g1, g2⟩ | ⟨S, G, g1, g2, g3, g4⟩
      · exact Or.inl ⟨g1, g2⟩
      · exact Or.inr ⟨S, G, g1, g2, g3, g4⟩
    · obtain ⟨f1, f2, f3⟩ := e3 k hk q
      rw [uv_n _ _ q]
      rcases h5 k hk with ⟨g1, g2⟩ | ⟨S', G', g1, g2, g3, g4⟩
      · exact Or.inl ⟨g1, f1.trans g2⟩
      · exact Or.inr ⟨S', G', g1, g2, mv_tr g2.1 g3 f1 f2 f3, g4⟩
theorem s_new {a b : Int32} {c : Nat} (h : a = nI c - b) : a + 1 = nI (c + 1) - b := by rw [h, ← nI_1]; grind
theorem s_del {a b n : Int32} (h : a = n - b) : a - 1 = n - (b + 1) := by rw [h]; grind
theorem x3_makeF {X : pp_T} (hn : pp_n X = nI 60) (hh : Nat → Option sh_T) (k F : Nat) : s_X3_make F X hh k = some (-2) := by
  unfold s_X3_make
  rw [hn, if_neg (by decide)]
theorem Rl_mk {X : pp_T} {hh : Nat → Option sh_T} {M : mo_T} {c k : Nat} (h : Rl X hh M) (hR : Rc X hh M c) (hc : c < 60) (hk : k < 3) (hk0 : k ≠ 0) : Rl (pt_s (pt_n X (pp_n X + 1)) (pp_s X + 1)) (va_up hh c (some (sh_0 k))) (mb M c k) := by
  obtain ⟨-, h2, h3, h4⟩ := h
  refine ⟨⟨c + 1, Rc_new hR hc (Sg_0 hk) (mb_0 hc) (fun q => absurd q hk0) ?_ rfl (fun j hj => ⟨up_n _ _ (by omega), up_n _ _ (by omega), fun _ _ => ⟨rfl, rfl⟩⟩)⟩, h2, ?_, h4⟩
  · show pp_n X + 1 = _
    rw [hR.2.1, nI_1]
  · show pp_s X + 1 = nI (c + 1) - mo_g M
    exact s_new (by rw [h3, hR.2.2.1])
theorem o_line {X : pp_T} {hh : Nat → Option sh_T} {M : mo_T} (h : Rl X hh M) (F : Nat) : (s_X3_line F X hh = some (-2) ∧ s_X4_line F M = some (-2, ms_t M 0)) ∨ ∃ i M', i < 60 ∧ pp_n X = nI i ∧ s_X4_line F M = some (pp_n X, M') ∧ Rl (pt_s (pt_n X (pp_n X + 1)) (pp_s X + 1)) (va_up hh i (some (sh_0 1))) M' := by
  obtain ⟨c, hR⟩ := h.1
  by_cases hc : c < 60
  · refine Or.inr ⟨c, mb M c 1, hc, hR.2.1, ?_, Rl_mk h hR hc (by decide) (by decide)⟩
    unfold s_X4_line
    rw [x4_begin hc hR.2.2.1 2 rfl, bd_some, hR.2.1]
  · have e : c = 60 := by have := hR.1; omega
    subst e
    refine Or.inl ⟨?_, ?_⟩
    · unfold s_X3_line
      rw [x3_makeF hR.2.1, bd_some]
    · unfold s_X4_line
      rw [x4_beginF hR.2.2.1, bd_some]
theorem o_polygon {X : pp_T} {hh : Nat → Option sh_T} {M : mo_T} (h : Rl X hh M) (F : Nat) : (s_X3_polygon F X hh = some (-2) ∧ s_X4_polygon F M = some (-2, ms_t M 0)) ∨ ∃ i M', i < 60 ∧ pp_n X = nI i ∧ s_X4_polygon F M = some (pp_n X, M') ∧ Rl (pt_s (pt_n X (pp_n X + 1)) (pp_s X + 1)) (va_up hh i (some (sh_0 2))) M' := by
  obtain ⟨c, hR⟩ := h.1
  by_cases hc : c < 60
  · refine Or.inr ⟨c, mb M c 2, hc, hR.2.1, ?_, Rl_mk h hR hc (by decide) (by decide)⟩
    unfold s_X4_polygon
    rw [x4_begin hc hR.2.2.1 3 rfl, bd_some, hR.2.1]
  · have e : c = 60 := by have := hR.1; omega
    subst e
    refine Or.inl ⟨?_, ?_⟩
    · unfold s_X3_polygon
      rw [x3_makeF hR.2.1, bd_some]
    · unfold s_X4_polygon
      rw [x4_beginF hR.2.2.1, bd_some]
theorem o_point {X : pp_T} {hh : Nat → Option sh_T} {M : mo_T} (h : Rl X hh M) (p q : Int32) {F : Nat} (hF : 100 ≤ F) : (∃ r, s_X3_point F X hh p q = some r ∧ s_X4_point F M p q = some (r, ms_t M 0)) ∨ ∃ i T M', i < 60 ∧ pp_n X = nI i ∧ s_X3_isPlace 0 p q = some 1 ∧ pp_o X < 400 ∧ s_X2_add F (sh_0 0) p q = some T ∧ s_X4_point F M p q = some (pp_n X, M') ∧ Rl (pt_o (pt_s (pt_n X (pp_n X + 1)) (pp_s X + 1)) (pp_o X + 1)) (va_up hh i (some T)) M' := by
  obtain ⟨c, hR⟩ := h.1
  have hc := hR.1
  obtain ⟨o, ho, eo1, eo2⟩ := h.2.1
  rcases pl (p := p) (q := q) with ⟨x, y, rfl, rfl, hx, hy, e1, e2⟩ | ⟨e1, e2⟩
  · by_cases co : o < 400
    · by_cases cc : c < 60
      · obtain ⟨T, t1, t2⟩ := x2_add (Sg_0 (k := 0) (by decide)) (show g_n (g0 0) < em (g_k (g0 0)) by decide) hx hy hF
        have hlt : pp_o X < 400 := by rw [eo1]; exact lt400 co
        have L := x4_lay (M := mb M c 0) (k := c) (n := 0) cc (by decide) (up_s _ _ _) hx hy F
        refine Or.inr ⟨c, T, ?_, cc, hR.2.1, e1 0, hlt, t1, ?_, ?_⟩
        · exact ms_o (ms_y (ms_x (ms_c (mb M c 0) (upd (mo_c (mb M c 0)) c (nI (0 + 1)))) (vp_updL (mo_x (mb M c 0)) (24 * c + 0) (lI x))) (vp_updL (mo_y (mb M c 0)) (24 * c + 0) (lI y))) (mo_o (mb M c 0) + 1)
        · unfold s_X4_point
          rw [e2, bd_some, if_neg n10, hR.2.2.1, if_neg (ne60 cc), eo2, if_neg (ne400 co), x4_begin cc hR.2.2.1 1 rfl, bd_some, bd_some, L, bd_some, hR.2.1]
        · obtain ⟨-, -, h3, h4⟩ := h
          refine ⟨⟨c + 1, Rc_new hR cc t2 (mv_ga (mb_0 cc) _) (fun _ => rfl) ?_ rfl (fun k hk => ⟨up_n _ _ (by omega), ?_, fun j hj => ⟨?_, ?_⟩⟩)⟩, ⟨o + 1, by omega, ?_, ?_⟩, ?_, h4⟩
          · show pp_n X + 1 = _
            rw [hR.2.1, nI_1]
          · show upd (upd (mo_c M) c 0) c _ k = mo_c M k
            rw [up_n _ _ (by omega), up_n _ _ (by omega)]
          · exact ul_n _ _ (by omega)
          · exact ul_n _ _ (by omega)
          · show pp_o X + 1 = _
            rw [eo1, nI_1]
          · show mo_o M + 1 = _
            rw [eo2, nI_1]
          · show pp_s X + 1 = nI (c + 1) - mo_g M
            exact s_new (by rw [h3, hR.2.2.1])
      · have e : c = 60 := by omega
        subst e
        refine Or.inl ⟨-2, ?_, ?_⟩
        · unfold s_X3_point
          rw [e1, bd_some, if_neg n10, eo1, if_pos (lt400 co), x3_makeF hR.2.1, bd_some]
          unfold s_X3_standing
          rw [if_pos (by decide), bd_some]; rfl
        · unfold s_X4_point
          rw [e2, bd_some, if_neg n10, if_pos (show mo_n M = 60 from hR.2.2.1)]
    · have e : o = 400 := by omega
      subst e
      refine Or.inl ⟨-2, ?_, ?_⟩
      · unfold s_X3_point
        rw [e1, bd_some, if_neg n10, eo1, if_neg (by decide)]
      · unfold s_X4_point
        rw [e2, bd_some, if_neg n10]
        by_cases z : mo_n M = 60
        · rw [if_pos z]
        · rw [if_neg z, if_pos (show mo_o M = 400 from eo2)]
  · refine Or.inl ⟨-1, ?_, ?_⟩
    · unfold s_X3_point
      rw [e1, bd_some, if_pos rfl]
    · unfold s_X4_point
      rw [e2, bd_some, if_pos rfl]
theorem o_corner {X : pp_T} {hh : Nat → Option sh_T} {M : mo_T} (h : Rl X hh M) (a p q : Int32) {F : Nat} (hF : 100 ≤ F) : (∃ r, s_X3_corner F X hh a p q = some r ∧ s_X4_corner F M a p q = some (r, ms_t M 0)) ∨ ∃ S T M', sh_k S < 3 ∧ s_X3_standing 0 X hh a = some (some S) ∧ ¬ sh_k S = 0 ∧ s_X3_isPlace 0 p q = some 1 ∧ ¬ 400 ≤ pp_o X ∧ sh_z S < en_m (sh_k S) ∧ s_X2_add F S p q = some T ∧ s_X4_corner F M a p q = some (sh_z T, M') ∧ Rl (pt_o X (pp_o X + 1)) (va_up hh a.toNatClampNeg (some T)) M' := by
  obtain ⟨o, ho, eo1, eo2⟩ := h.2.1
  rcases lk (Rl_t h 0) a with ⟨h1, h2⟩ | ⟨k, S, G, rfl, h2, h3, h4, h5, h6⟩
  · refine Or.inl ⟨-1, ?_, ?_⟩
    · unfold s_X3_corner
      rw [h1, bd_some]; rfl
    · unfold s_X4_corner
      rw [h2, bd_some, if_pos rfl]
  · have hk3 := h4.1.1
    have h24 := h4.1.2.1
    have sk := h4.2.1.1
    have sz := h4.2.1.2.1
    have hsh := x4_isShape (M := ms_t M 0) h4.1 h5 F
    have c3 : ∀ o', (if sh_k S = 0 then some (-1) else Option.bind (s_X3_isPlace F p q) fun v_25 => if v_25 = 0 then some (-1) else if 400 ≤ pp_o X then some (-2) else if sh_z S < en_m (sh_k S) then none else some (-2)) = o' → s_X3_corner F X hh (nI k) p q = o' := by
      intro o' e
      unfold s_X3_corner
      rw [h6, bd_some]
      exact e
    have c4 : ∀ o', (if nI (g_k G + 1) = 1 then some (-1, ms_t M 0) else Option.bind (s_X4_isPlace F p q) fun v_25 => if v_25 = 0 then some (-1, ms_t M 0) else if nI (g_n G) = 24 then some (-2, ms_t M 0) else if mo_o M = 400 then some (-2, ms_t M 0) else Option.bind (s_X4_lay F (ms_t M 0) (nI k) p q) fun v_61 => Option.bind (rd_i 60 (mo_c v_61) (nI k)) fun v_69 => some (v_69, v_61)) = o' → s_X4_corner F M (nI k) p q = o' := by
      intro o' e
      unfold s_X4_corner
      rw [hsh, bd_some, if_neg n10, mv_k (M := M) h5.1, bd_some, mv_c (M := M) h5.1]
      exact e
    have k1 : (nI (g_k G + 1) = 1) ↔ g_k G = 0 := by
      rw [show (1 : Int32) = nI 1 from rfl, nI_eq (by omega) (by omega)]; omega
    rw [sk] at c3
    by_cases q0 : g_k G = 0
    · exact Or.inl ⟨-1, c3 _ (if_pos q0), c4 _ (if_p k1 q0 _ _)⟩
    rw [if_neg q0] at c3
    rw [if_n k1 q0] at c4
    rcases pl (p := p) (q := q) with ⟨x, y, rfl, rfl, hx, hy, e1, e2⟩ | ⟨e1, e2⟩
    · rw [e1, bd_some, if_neg n10, sz, em_m hk3] at c3
      rw [e2, bd_some, if_neg n10] at c4
      have em24 := em_p hk3 q0
      rw [em24, eo1] at c3
      rw [eo2] at c4
      by_cases co : o < 400
      · have o1 : ¬ (400 : Int32) ≤ nI o := nI_ge co (by decide)
        have o2 := ne400 co
        rw [if_neg o1] at c3
        rw [if_neg o2] at c4
        by_cases cn : g_n G < 24
        · obtain ⟨T, t1, t2⟩ := x2_add h4 (by rw [em24]; exact cn) hx hy hF
          have L := x4_lay (M := ms_t M 0) (k := k) (n := g_n G) h2 cn h5.1.2.2.1 hx hy F
          have n2 := ne24 cn
          refine Or.inr ⟨S, T, ?_, by rw [sk]; exact hk3, h6 0, by rw [sk]; exact q0, e1 0, by rw [eo1]; exact o1, by rw [sz, sk, em_m hk3, em24]; exact nI_lt cn (by decide), t1, ?_, ?_⟩
          · exact ms_o (ms_y (ms_x (ms_c (ms_t M 0) (upd (mo_c (ms_t M 0)) k (nI (g_n G + 1)))) (vp_updL (mo_x (ms_t M 0)) (24 * k + g_n G) (lI x))) (vp_updL (mo_y (ms_t M 0)) (24 * k + g_n G) (lI y))) (mo_o (ms_t M 0) + 1)
          · apply c4
            rw [if_neg n2, L, bd_some, rd_ok h2 (by omega), bd_some, t2.2.1.2.1]
            show some (upd _ k _ k, _) = _
            rw [up_s]
            rfl
          · obtain ⟨⟨c, hR⟩, -, hs, hb⟩ := h
            have kc : k < c := by
              obtain ⟨-, ⟨c', z0, z1, z2⟩, -⟩ := h5
              have z1 : mo_n M = nI c' := z1
              have := hR.1
              rw [hR.2.2.1] at z1
              have := (nI_eq (by omega) (by omega)).mp z1
              omega
            rw [nI_clamp (by omega)]
            refine ⟨⟨c, Rc_set hR kc (Or.inr ⟨T, ga G x y, rfl, t2, mv_ga (M := ms_t M 0) h5.1 _, fun z => absurd z q0⟩) rfl rfl (fun k' hk' ne => ⟨rfl, up_n _ _ ne, fun j hj => ⟨ul_n _ _ ?_, ul_n _ _ ?_⟩⟩)⟩, ⟨o + 1, by omega, ?_, ?_⟩, hs, hb⟩
            · omega
            · omega
            · show pp_o X + 1 = _
              rw [eo1, nI_1]
            · show mo_o M + 1 = _
              rw [eo2, nI_1]
        · have e : g_n G = 24 := by omega
          refine Or.inl ⟨-2, c3 _ (if_neg (nI_nlt (by omega) (by omega))), c4 _ ?_⟩
          rw [e]; exact if_pos rfl
      · have e : o = 400 := by omega
        subst e
        refine Or.inl ⟨-2, c3 _ (if_pos (by decide)), c4 _ ?_⟩
        by_cases z : nI (g_n G) = 24
        · rw [if_pos z]
        · rw [if_neg z, if_pos (show nI 400 = 400 from rfl)]
    · rw [e1, bd_some, if_pos rfl] at c3
      rw [e2, bd_some, if_pos rfl] at c4
      exact Or.inl ⟨-1, c3 _ rfl, c4 _ rfl⟩
theorem o_remove {X : pp_T} {hh : Nat → Option sh_T} {M : mo_T} (h : Rl X hh M) (a : Int32) (F : Nat) : (s_X3_remove F X hh a = some (-1) ∧ s_X4_remove F M a = some (-1, ms_t M 0)) ∨ ∃ S M', s_X3_standing 0 X hh a = some (some S) ∧ s_X4_remove F M a = some (1, M') ∧ Rl (pt_s X (pp_s X - 1)) (va_up hh a.toNatClampNeg none) M' := by
  rcases lk (Rl_t h 0) a with ⟨h1, h2⟩ | ⟨k, S, G, rfl, h2, h3, h4, h5, h6⟩
  · refine Or.inl ⟨?_, ?_⟩
    · unfold s_X3_remove
      rw [h1, bd_some]; rfl
    · unfold s_X4_remove
      rw [h2, bd_some, if_pos rfl]
  · have hsh := x4_isShape (M := ms_t M 0) h4.1 h5 F
    refine Or.inr ⟨S, ms_t (ms_g (ms_k M (upd (mo_k M) k 0)) (mo_g M + 1)) 0, h6 0, ?_, ?_⟩
    · unfold s_X4_remove
      rw [hsh, bd_some, if_neg n10, wr_okk h2 (by omega), bd_some, bd_some, nI_clamp (by omega)]
    · obtain ⟨⟨c, hR⟩, ho, hs, hb⟩ := h
      have kc : k < c := by
        obtain ⟨-, ⟨c', z0, z1, z2⟩, -⟩ := h5
        have z1 : mo_n M = nI c' := z1
        have := hR.1
        rw [hR.2.2.1] at z1
        have := (nI_eq (by omega) (by omega)).mp z1
        omega
      rw [nI_clamp (by omega)]
      refine ⟨⟨c, Rc_set hR kc (Or.inl ⟨rfl, up_s _ _ _⟩) rfl rfl (fun k' hk' ne => ⟨up_n _ _ ne, rfl, fun j hj => ⟨rfl, rfl⟩⟩)⟩, ho, ?_, hb⟩
      show pp_s X - 1 = mo_n M - (mo_g M + 1)
      exact s_del hs
