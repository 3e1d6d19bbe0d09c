-- the least of all candidates, class and model
def fi {σ : Type} (f : σ → Nat → σ) : Nat → Nat → σ → σ
  | 0, _, s => s
  | d + 1, j, s => fi f d (j + 1) (f s j)
theorem fi_s {σ : Type} (f : σ → Nat → σ) (d j : Nat) (s : σ) : fi f (d + 1) j s = fi f d (j + 1) (f s j) := rfl
theorem fi_inv {σ : Type} {f : σ → Nat → σ} {P : σ → Prop} {n : Nat} (h : ∀ s j, j < n → P s → P (f s j)) : ∀ (d j : Nat) (s : σ), j + d ≤ n → P s → P (fi f d j s) := by
  intro d
  induction d with
  | zero => intro j s _ hs; exact hs
  | succ d ih => intro j s hj hs; exact ih (j + 1) _ (by omega) (h s j (by omega) hs)
theorem fi_rel {σ τ : Type} {f : σ → Nat → σ} {g : τ → Nat → τ} {R : σ → τ → Prop} {n : Nat} (h : ∀ s t j, j < n → R s t → R (f s j) (g t j)) : ∀ (d j : Nat) (s : σ) (t : τ), j + d ≤ n → R s t → R (fi f d j s) (fi g d j t) := by
  intro d
  induction d with
  | zero => intro j s t _ hs; exact hs
  | succ d ih => intro j s t hj hs; exact ih (j + 1) _ _ (by omega) (h s t j (by omega) hs)
noncomputable def f1 (J : pg_T) (x y : Int) (s : q_T) : q_T := fi (fun s j => mn s (Cd J j x y)) (sd J) 0 s
noncomputable def fm (G J : pg_T) (s : q_T) : q_T := fi (fun s i => f1 J (g_x G i) (g_y G i) s) (g_n G) 0 s
noncomputable def g1 (J : pg_T) (x y : Int) (t : q_T) : q_T := fi (fun t j => mm t (rdc (Cd J j x y))) (sd J) 0 t
noncomputable def gm (G J : pg_T) (t : q_T) : q_T := fi (fun t i => g1 J (g_x G i) (g_y G i) t) (g_n G) 0 t
def Qs (s : q_T) : Prop := Q_ok s.1 s.2
def Qt (t : q_T) : Prop := t.2 = 0 ∨ Q_ok t.1 t.2
theorem mm_ok {t c : q_T} (ht : Qt t) (hc : Q_ok c.1 c.2) : Qt (mm t c) := by
  unfold mm
  split
  · exact Or.inr hc
  · exact ht
theorem f1_ok {J : pg_T} (hJ : G_ok J) {x y : Int} (hx : B_ok x) (hy : B_ok y) {s : q_T} (hs : Qs s) : Qs (f1 J x y s) := fi_inv (P := Qs) (n := sd J) (fun s j hj h => mn_ok h (Cd_ok hJ (by have := sd_le J; omega) hx hy)) (sd J) 0 s (by omega) hs
theorem g1_ok {J : pg_T} (hJ : G_ok J) {x y : Int} (hx : B_ok x) (hy : B_ok y) {t : q_T} (ht : Qt t) : Qt (g1 J x y t) := fi_inv (P := Qt) (n := sd J) (fun s j hj h => mm_ok h (rdc_ok (Cd_ok hJ (by have := sd_le J; omega) hx hy))) (sd J) 0 t (by omega) ht
theorem fm_ok {G J : pg_T} (hG : G_ok G) (hJ : G_ok J) {s : q_T} (hs : Qs s) : Qs (fm G J s) := fi_inv (P := Qs) (n := g_n G) (fun s i hi h => f1_ok hJ (hG.2.2.2 i hi).1 (hG.2.2.2 i hi).2 h) (g_n G) 0 s (by omega) hs
theorem gm_ok9 {G J : pg_T} (hG : G_ok G) (hJ : G_ok J) {t : q_T} (ht : Qt t) : Qt (gm G J t) := fi_inv (P := Qt) (n := g_n G) (fun s i hi h => g1_ok hJ (hG.2.2.2 i hi).1 (hG.2.2.2 i hi).2 h) (g_n G) 0 t (by omega) ht
theorem x2_li {S T : sh_T} {G J : pg_T} (hG : G_ok G) (hJ : G_ok J) (h : sv S G) (k : sv T J) (hn : 1 ≤ g_n J) {i : Nat} (hi : i < g_n G) (F : Nat) (Q : fr_T) (kc : Int32 → fr_T → Option fr_T) : ∀ (d j N : Nat) (s : q_T), j + d = sd J → d < N → Qs s → s_X2_lessenByCorners_13 F S T Q kc N (nI i) (nI j) (en s) = kc (nI (i + 1)) (en (fi (fun s j => mn s (Cd J j (g_x G i) (g_y G i))) d j s)) := by
  have h24 := hG.2.1
  have j24 := hJ.2.1
  have hsd := sd_le J
  have b := hG.2.2.2 i hi
  intro d
  induction d with
  | zero =>
    intro j N s hjd hN hs
    obtain ⟨N, rfl⟩ : ∃ m, N = m + 1 := ⟨N - 1, by omega⟩
    rw [s_X2_lessenByCorners_13, x2_sideCount k (fun _ => hn), bd_some, if_pos (nI_le (by omega) (by omega)), bd_some, nI_1]
    rfl
  | succ d ih =>
    intro j N s hjd hN hs
    obtain ⟨N, rfl⟩ : ∃ m, N = m + 1 := ⟨N - 1, by omega⟩
    rw [s_X2_lessenByCorners_13, x2_sideCount k (fun _ => hn), bd_some, if_neg (nI_ge (by omega) (by omega)), sv_x h hi, bd_some, sv_y h hi, bd_some, x2_lessenBySide hJ k (by omega) b.1 b.2 hs, bd_some, bd_some, nI_1, ih (j + 1) N _ (by omega) (by omega) (mn_ok hs (Cd_ok hJ (by omega) b.1 b.2))]
    rfl
theorem x2_lo {S T : sh_T} {G J : pg_T} (hG : G_ok G) (hJ : G_ok J) (h : sv S G) (k : sv T J) (hn : 1 ≤ g_n J) {F : Nat} (hF : 100 ≤ F) (Q : fr_T) : ∀ (d i N : Nat) (s : q_T), i + d = g_n G → d < N → Qs s → s_X2_lessenByCorners_2 F S T Q N (nI i) (en s) = some (en (fi (fun s i => f1 J (g_x G i) (g_y G i) s) d i s)) := by
  have h24 := hG.2.1
  have j24 := hJ.2.1
  have hsd := sd_le J
  intro d
  induction d with
  | zero =>
    intro i N s hjd hN hs
    obtain ⟨N, rfl⟩ : ∃ m, N = m + 1 := ⟨N - 1, by omega⟩
    rw [s_X2_lessenByCorners_2, h.2.1, if_pos (nI_le (by omega) (by omega))]
    rfl
  | succ d ih =>
    intro i N s hjd hN hs
    obtain ⟨N, rfl⟩ : ∃ m, N = m + 1 := ⟨N - 1, by omega⟩
    have hi : i < g_n G := by omega
    have e := x2_li hG hJ h k hn hi F Q (fun y0 y1 => s_X2_lessenByCorners_2 F S T Q N y0 y1) (sd J) 0 F s (by omega) (by omega) hs
    rw [nI_0] at e
    rw [s_X2_lessenByCorners_2, h.2.1, if_neg (nI_ge hi (by omega)), e]
    exact ih (i + 1) N _ (by omega) (by omega) (f1_ok hJ (hG.2.2.2 i hi).1 (hG.2.2.2 i hi).2 hs)
theorem x2_lessenByCorners {S T : sh_T} {G J : pg_T} (hG : G_ok G) (hJ : G_ok J) (h : sv S G) (k : sv T J) (hn : 1 ≤ g_n J) {F : Nat} (hF : 100 ≤ F) {s : q_T} (hs : Qs s) : s_X2_lessenByCorners F S T (en s) = some (en (fm G J s)) := by
  have h24 := hG.2.1
  have := x2_lo hG hJ h k hn hF (en s) (g_n G) 0 F s (by omega) (by omega) hs
  rw [nI_0] at this
  exact this
noncomputable def s0 (G J : pg_T) : q_T := ((sq2 (g_x J 0 - g_x G 0) (g_y J 0 - g_y G 0)).toNat, 1)
theorem s0_ok {G J : pg_T} (hG : R_ok G) (hJ : R_ok J) : Qs (s0 G J) := by
  have n1 := hG.2
  have n2 := hJ.2
  have b0 := hG.1.2.2.2 0 (by omega)
  have c0 := hJ.1.2.2.2 0 (by omega)
  have := sq2_bd (d_bd c0.1 b0.1) (d_bd c0.2 b0.2)
  exact ⟨by show (sq2 _ _).toNat ≤ _; omega, by show (0 : Nat) < 1; decide, by show (1 : Nat) ≤ 800000000; decide⟩
/-- what the class measures -/
noncomputable def mC (G J : pg_T) : q_T := ci (Hv G J) (0, 1) (fm J G (fm G J (s0 G J)))
theorem x2_measureTo {S T : sh_T} {G J : pg_T} (hG : R_ok G) (hJ : R_ok J) (h : sv S G) (k : sv T J) {F : Nat} (hF : 100 ≤ F) (Q : fr_T) : s_X2_measureTo F S T Q = some (en (mC G J)) := by
  have n1 := hG.2
  have n2 := hJ.2
  have b0 := hG.1.2.2.2 0 (by omega)
  have c0 := hJ.1.2.2.2 0 (by omega)
  have x0 := sv_x k (i := 0) (by omega)
  have y0 := sv_y k (i := 0) (by omega)
  have u0 := sv_x h (i := 0) (by omega)
  have w0 := sv_y h (i := 0) (by omega)
  rw [nI_0] at x0 y0 u0 w0
  unfold s_X2_measureTo mC
  rw [x2_touches hG hJ h k hF, bd_some]
  by_cases q : Hv G J
  · rw [if_n bI_0 (fun z => z q), ci_t q]; rfl
  · rw [if_p bI_0 q, ci_f q, x0, bd_some, u0, bd_some, y0, bd_some, w0, bd_some, df c0.1 b0.1, df c0.2 b0.2, x2_squareOf, bd_some, lI_N (sq2_nn _ _), lo1]
    show ((s_X2_lessenByCorners F S T (en (s0 G J))).bind _) = _
    rw [x2_lessenByCorners hG.1 hJ.1 h k (by omega) hF (s0_ok hG hJ), bd_some, x2_lessenByCorners hJ.1 hG.1 k h (by omega) hF (fm_ok hG.1 hJ.1 (s0_ok hG hJ)), bd_some]
theorem x4_wi {M M0 : mo_T} {a b : Nat} {G J : pg_T} (hG : G_ok G) (hJ : G_ok J) (h : mv M a G) (k : mv M b J) (hn : 1 ≤ g_n J) {i : Nat} (hi : i < g_n G) {F : Nat} (hF : 100 ≤ F) (kc : Int32 → mo_T → Option mo_T) : ∀ (d j N : Nat) (t : q_T), j + d = sd J → d < N → Qt t → s_X4_weighCorners_15 F M0 (nI a) (nI b) kc N (nI i) (nI j) (sq M t) = kc (nI (i + 1)) (sq M (fi (fun t j => mm t (rdc (Cd J j (g_x G i) (g_y G i)))) d j t)) := by
  have h24 := hG.2.1
  have j24 := hJ.2.1
  have hsd := sd_le J
  have bb := hG.2.2.2 i hi
  intro d
  induction d with
  | zero =>
    intro j N t hjd hN ht
    obtain ⟨N, rfl⟩ : ∃ m, N = m + 1 := ⟨N - 1, by omega⟩
    rw [s_X4_weighCorners_15, x4_sides (M := sq M t) hJ k (fun _ => hn), bd_some, if_pos (nI_le (by omega) (by omega)), bd_some, nI_1]
    rfl
  | succ d ih =>
    intro j N t hjd hN ht
    obtain ⟨N, rfl⟩ : ∃ m, N = m + 1 := ⟨N - 1, by omega⟩
    have hj : j < g_n J := by omega
    have pi := mv_p hG h hi
    rw [s_X4_weighCorners_15, x4_sides (M := sq M t) hJ k (fun _ => hn), bd_some, if_neg (nI_ge (by omega) (by omega)), x4_from, bd_some, mp_x (mp_sq (t := t) pi), bd_some, bd_some, mp_y (mp_sq (t := t) pi), bd_some, x4_from, bd_some, x4_to (M := sq M t) hJ k hj, bd_some, x4_weighSide (mv_p hJ k hj) (mv_p hJ k (wp_lt hj)) bb.1 bb.2 ht hF, bd_some, bd_some, nI_1, ih (j + 1) N _ (by omega) (by omega) (mm_ok ht (rdc_ok (Cd_ok hJ hj bb.1 bb.2)))]
    rfl
theorem x4_wo {M M0 : mo_T} {a b : Nat} {G J : pg_T} (hG : G_ok G) (hJ : G_ok J) (h : mv M a G) (k : mv M b J) (hn : 1 ≤ g_n J) {F : Nat} (hF : 100 ≤ F) : ∀ (d i N : Nat) (t : q_T), i + d = g_n G → d < N → Qt t → s_X4_weighCorners_2 F M0 (nI a) (nI b) N (nI i) (sq M t) = some (sq M (fi (fun t i => g1 J (g_x G i) (g_y G i) t) d i t)) := by
  have h24 := hG.2.1
  have j24 := hJ.2.1
  have hsd := sd_le J
  intro d
  induction d with
  | zero =>
    intro i N t hjd hN ht
    obtain ⟨N, rfl⟩ : ∃ m, N = m + 1 := ⟨N - 1, by omega⟩
    rw [s_X4_weighCorners_2, mv_c (M := sq M t) h, bd_some, if_pos (nI_le (by omega) (by omega))]
    rfl
  | succ d ih =>
    intro i N t hjd hN ht
    obtain ⟨N, rfl⟩ : ∃ m, N = m + 1 := ⟨N - 1, by omega⟩
    have hi : i < g_n G := by omega
    have e := x4_wi (M0 := M0) hG hJ h k hn hi hF (fun y0 y1 => s_X4_weighCorners_2 F M0 (nI a) (nI b) N y0 y1) (sd J) 0 F t (by omega) (by omega) ht
    rw [nI_0] at e
    rw [s_X4_weighCorners_2, mv_c (M := sq M t) h, bd_some, if_neg (nI_ge hi (by omega)), e]
    exact ih (i + 1) N _ (by omega) (by omega) (g1_ok hJ (hG.2.2.2 i hi).1 (hG.2.2.2 i hi).2 ht)
theorem x4_weighCorners {M : mo_T} {a b : Nat} {G J : pg_T} (hG : G_ok G) (hJ : G_ok J) (h : mv M a G) (k : mv M b J) (hn : 1 ≤ g_n J) {F : Nat} (hF : 100 ≤ F) {t : q_T} (ht : Qt t) : s_X4_weighCorners F (sq M t) (nI a) (nI b) = some (sq M (gm G J t)) := by
  have h24 := hG.2.1
  have := x4_wo (M0 := sq M t) hG hJ h k hn hF (g_n G) 0 F t (by omega) (by omega) ht
  rw [nI_0] at this
  exact this
/-- what the model measures -/
noncomputable def mM (G J : pg_T) : q_T := ci (Hv G J) (0, 1) (gm J G (gm G J (0, 0)))
theorem x4_least {M : mo_T} {a b : Nat} {G J : pg_T} (hG : R_ok G) (hJ : R_ok J) (h : mv M a G) (k : mv M b J) {F : Nat} (hF : 100 ≤ F) : s_X4_least F M (nI a) (nI b) = some (sq M (mM G J)) := by
  have n1 := hG.2
  have n2 := hJ.2
  unfold s_X4_least mM
  rw [x4_have (M := ms_l (ms_u M 0) 1) hG hJ h k hF, bd_some]
  by_cases q : Hv G J
  · rw [if_n bI_0 (fun z => z q), ci_t q]; rfl
  · rw [if_p bI_0 q, ci_f q]
    show ((s_X4_weighCorners F (sq M (0, 0)) (nI a) (nI b)).bind _) = _
    rw [x4_weighCorners hG.1 hJ.1 h k (by omega) hF (Or.inl rfl), bd_some, x4_weighCorners hJ.1 hG.1 k h (by omega) hF (gm_ok9 hG.1 hJ.1 (Or.inl rfl)), bd_some]
