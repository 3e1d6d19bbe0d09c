-- whether two right shapes have a place in common
def Hs (G J : pg_T) : Prop := (g_k G = 2 ∧ St G (g_x J 0) (g_y J 0) ≠ 0) ∨ (g_k J = 2 ∧ St J (g_x G 0) (g_y G 0) ≠ 0)
def Hv (G J : pg_T) : Prop := (∃ i, 0 ≤ i ∧ i < sd G ∧ ∃ j, 0 ≤ j ∧ j < sd J ∧ Ct G i J j) ∨ Hs G J
/-- what a shape must have to be right -/
def R_ok (G : pg_T) : Prop := G_ok G ∧ g_k G + 1 ≤ g_n G
theorem stn_012 {G : pg_T} {x y : Int} : ∀ (d i : Nat) (p : Prop), stn G x y d i p = 0 ∨ stn G x y d i p = 1 ∨ stn G x y d i p = 2 := by
  intro d
  induction d with
  | zero =>
    intro i p
    show bI p = 0 ∨ bI p = 1 ∨ bI p = 2
    by_cases h : p
    · exact Or.inr (Or.inl (bI_t h))
    · exact Or.inl (bI_f h)
  | succ d ih =>
    intro i p
    by_cases h : On G i x y
    · exact Or.inr (Or.inr (stn_t h))
    · rw [stn_f h]; exact ih _ _
theorem St_pos {G : pg_T} {x y : Int} : (0 < St G x y) ↔ St G x y ≠ 0 := by
  have h := stn_012 (G := G) (x := x) (y := y) (g_n G) 0 False
  have e : St G x y = stn G x y (g_n G) 0 False := rfl
  rw [e]
  rcases h with h | h | h <;> rw [h] <;> decide
theorem St_le {G : pg_T} {x y : Int} : (St G x y ≤ 0) ↔ ¬ St G x y ≠ 0 := by
  have h := stn_012 (G := G) (x := x) (y := y) (g_n G) 0 False
  have e : St G x y = stn G x y (g_n G) 0 False := rfl
  rw [e]
  rcases h with h | h | h <;> rw [h] <;> decide
theorem x2_holds {S : sh_T} {G : pg_T} (hG : G_ok G) (h : sv S G) {x y : Int} (hx : B_ok x) (hy : B_ok y) {F : Nat} (hF : 100 ≤ F) : s_X2_holds F S (iI x) (iI y) = some (bI (g_k G = 2 ∧ St G x y ≠ 0)) := by
  unfold s_X2_holds
  rw [h.1]
  by_cases hk : g_k G = 2
  · rw [if_pos hk, x2_whereIs hG h hx hy hF, bd_some]
    by_cases hs : St G x y = 0
    · rw [if_pos hs, bI_f (fun q => q.2 hs)]
    · rw [if_neg hs, bI_t ⟨hk, hs⟩]
  · rw [if_neg hk, bI_f (fun q => hk q.1)]
noncomputable def ci {α : Type} (p : Prop) (a b : α) : α := @ite α p (Classical.propDecidable p) a b
theorem ci_t {α : Type} {p : Prop} (h : p) (a b : α) : ci p a b = a := if_pos h
theorem ci_f {α : Type} {p : Prop} (h : ¬ p) (a b : α) : ci p a b = b := if_neg h
theorem ci_c {α : Type} {p q : Prop} (h : p ↔ q) (a b : α) : ci p a b = ci q a b := by rw [propext h]
theorem x2_ti {S T : sh_T} {G J : pg_T} (hG : G_ok G) (hJ : G_ok J) (h : sv S G) (k : sv T J) (hn : 1 ≤ g_n J) {i : Nat} (hi : i < g_n G) (F : Nat) (kc : Int32 → Option Int32) : ∀ (d j N : Nat), j + d = sd J → d < N → s_X2_touches_12 F S T kc N (nI i) (nI j) = ci (∃ j', j ≤ j' ∧ j' < sd J ∧ Ct G i J j') (some 1) (kc (nI (i + 1))) := by
  have h24 := hG.2.1
  have j24 := hJ.2.1
  have hsd := sd_le J
  intro d
  induction d with
  | zero =>
    intro j N hjd hN
    obtain ⟨N, rfl⟩ : ∃ m, N = m + 1 := ⟨N - 1, by omega⟩
    rw [s_X2_touches_12, x2_sideCount k (fun _ => hn), bd_some, if_pos (nI_le (by omega) (by omega)), bd_some, nI_1, ci_f]
    rintro ⟨j', h1, h2, -⟩
    omega
  | succ d ih =>
    intro j N hjd hN
    obtain ⟨N, rfl⟩ : ∃ m, N = m + 1 := ⟨N - 1, by omega⟩
    rw [s_X2_touches_12, x2_sideCount k (fun _ => hn), bd_some, if_neg (nI_ge (by omega) (by omega)), x2_sideTouches hG hJ h k hi (by omega), bd_some]
    by_cases hc : Ct G i J j
    · rw [if_n bI_0 (fun q => q hc), ci_t ⟨j, Nat.le_refl j, by omega, hc⟩]
    · rw [if_p bI_0 hc, bd_some, nI_1, ih (j + 1) N (by omega) (by omega), ci_c (ex_step (by omega) hc)]
theorem x2_to {S T : sh_T} {G J : pg_T} (hG : R_ok G) (hJ : R_ok J) (h : sv S G) (k : sv T J) {F : Nat} (hF : 100 ≤ F) : ∀ (d i N : Nat), i + d = sd G → d < N → s_X2_touches_2 F S T N (nI i) = some (bI ((∃ i', i ≤ i' ∧ i' < sd G ∧ ∃ j, 0 ≤ j ∧ j < sd J ∧ Ct G i' J j) ∨ Hs G J)) := by
  have h24 := hG.1.2.1
  have j24 := hJ.1.2.1
  have n1 := hG.2
  have n2 := hJ.2
  have hsd := sd_le J
  have hsg := sd_le G
  have b0 := hG.1.2.2.2 0 (by omega)
  have c0 := hJ.1.2.2.2 0 (by omega)
  intro d
  induction d with
  | zero =>
    intro i N hid hN
    obtain ⟨N, rfl⟩ : ∃ m, N = m + 1 := ⟨N - 1, by omega⟩
    have x0 := sv_x k (i := 0) (by omega)
    have y0 := sv_y k (i := 0) (by omega)
    have u0 := sv_x h (i := 0) (by omega)
    have w0 := sv_y h (i := 0) (by omega)
    rw [nI_0] at x0 y0 u0 w0
    rw [s_X2_touches_2, x2_sideCount h (fun _ => by omega), bd_some, if_pos (nI_le (by omega) (by omega)), x0, bd_some, y0, bd_some, x2_holds hG.1 h c0.1 c0.2 hF, bd_some]
    have hno : ¬ ∃ i', i ≤ i' ∧ i' < sd G ∧ ∃ j, 0 ≤ j ∧ j < sd J ∧ Ct G i' J j := by rintro ⟨i', h1, h2, -⟩; omega
    by_cases q1 : g_k G = 2 ∧ St G (g_x J 0) (g_y J 0) ≠ 0
    · rw [if_n bI_0 (fun q => q q1), bI_t (Or.inr (show Hs G J from Or.inl q1))]
    · rw [if_p bI_0 q1, u0, bd_some, w0, bd_some, x2_holds hJ.1 k b0.1 b0.2 hF, bd_some]
      by_cases q2 : g_k J = 2 ∧ St J (g_x G 0) (g_y G 0) ≠ 0
      · rw [if_n bI_0 (fun q => q q2), bI_t (Or.inr (show Hs G J from Or.inr q2))]
      · rw [if_p bI_0 q2, bI_f (fun q => q.elim hno (fun q => q.elim q1 q2))]
  | succ d ih =>
    intro i N hid hN
    obtain ⟨N, rfl⟩ : ∃ m, N = m + 1 := ⟨N - 1, by omega⟩
    have e := x2_ti hG.1 hJ.1 h k (by omega) (i := i) (by omega) F (fun y0 => s_X2_touches_2 F S T N y0) (sd J) 0 F (by omega) (by omega)
    rw [nI_0] at e
    rw [s_X2_touches_2, x2_sideCount h (fun _ => by omega), bd_some, if_neg (nI_ge (by omega) (by omega)), e]
    by_cases hc : ∃ j, 0 ≤ j ∧ j < sd J ∧ Ct G i J j
    · rw [ci_t hc, bI_t (Or.inl ⟨i, Nat.le_refl i, by omega, hc⟩)]
    · rw [ci_f hc, ih (i + 1) N (by omega) (by omega)]
      exact congrArg some (bI_c (or_congr (ex_step (P := fun i' => ∃ j, 0 ≤ j ∧ j < sd J ∧ Ct G i' J j) (by omega) hc) Iff.rfl))
theorem x2_touches {S T : sh_T} {G J : pg_T} (hG : R_ok G) (hJ : R_ok J) (h : sv S G) (k : sv T J) {F : Nat} (hF : 100 ≤ F) : s_X2_touches F S T = some (bI (Hv G J)) := by
  have h24 := hG.1.2.1
  have := x2_to hG hJ h k hF (sd G) 0 F (by omega) (by have := sd_le G; omega)
  rw [nI_0] at this
  exact this
theorem x4_hi {M : mo_T} {a b : Nat} {G J : pg_T} (hG : G_ok G) (hJ : G_ok J) (h : mv M a G) (k : mv M b J) (hn : 1 ≤ g_n J) {i : Nat} (hi : i < g_n G) (F : Nat) (kc : Int32 → Option Int32) : ∀ (d j N : Nat), j + d = sd J → d < N → s_X4_have_14 F M (nI a) (nI b) kc N (nI i) (nI j) = ci (∃ j', j ≤ j' ∧ j' < sd J ∧ Ct G i J j') (some 1) (kc (nI (i + 1))) := by
  have h24 := hG.2.1
  have j24 := hJ.2.1
  have hsd := sd_le J
  intro d
  induction d with
  | zero =>
    intro j N hjd hN
    obtain ⟨N, rfl⟩ : ∃ m, N = m + 1 := ⟨N - 1, by omega⟩
    rw [s_X4_have_14, x4_sides hJ k (fun _ => hn), bd_some, if_pos (nI_le (by omega) (by omega)), bd_some, nI_1, ci_f]
    rintro ⟨j', h1, h2, -⟩
    omega
  | succ d ih =>
    intro j N hjd hN
    obtain ⟨N, rfl⟩ : ∃ m, N = m + 1 := ⟨N - 1, by omega⟩
    have hj : j < g_n J := by omega
    rw [s_X4_have_14, x4_sides hJ k (fun _ => hn), bd_some, if_neg (nI_ge (by omega) (by omega)), x4_from, bd_some, x4_to hG h hi, bd_some, x4_from, bd_some, x4_to hJ k hj, bd_some, x4_cut (mv_p hG h hi) (mv_p hG h (wp_lt hi)) (mv_p hJ k hj) (mv_p hJ k (wp_lt hj)), bd_some]
    by_cases hc : Ct G i J j
    · rw [if_n bI_0 (fun q => q hc), ci_t ⟨j, Nat.le_refl j, by omega, hc⟩]
    · rw [if_p bI_0 hc, bd_some, nI_1, ih (j + 1) N (by omega) (by omega), ci_c (ex_step (by omega) hc)]
theorem nI_k3 {G : pg_T} (hG : G_ok G) : (nI (g_k G + 1) = 3) ↔ g_k G = 2 := by
  have := hG.1
  rw [show (3 : Int32) = nI 3 from rfl, nI_eq (by omega) (by omega)]
  omega
theorem x4_ho {M : mo_T} {a b : Nat} {G J : pg_T} (hG : R_ok G) (hJ : R_ok J) (h : mv M a G) (k : mv M b J) {F : Nat} (hF : 100 ≤ F) : ∀ (d i N : Nat), i + d = sd G → d < N → s_X4_have_2 F M (nI a) (nI b) N (nI i) = some (bI ((∃ i', i ≤ i' ∧ i' < sd G ∧ ∃ j, 0 ≤ j ∧ j < sd J ∧ Ct G i' J j) ∨ Hs G J)) := by
  have h24 := hG.1.2.1
  have j24 := hJ.1.2.1
  have n1 := hG.2
  have n2 := hJ.2
  have hsd := sd_le J
  have hsg := sd_le G
  have b0 := hG.1.2.2.2 0 (by omega)
  have c0 := hJ.1.2.2.2 0 (by omega)
  have pa := mv_p hG.1 h (i := 0) (by omega)
  have pb := mv_p hJ.1 k (i := 0) (by omega)
  intro d
  induction d with
  | zero =>
    intro i N hid hN
    obtain ⟨N, rfl⟩ : ∃ m, N = m + 1 := ⟨N - 1, by omega⟩
    have hno : ¬ ∃ i', i ≤ i' ∧ i' < sd G ∧ ∃ j, 0 ≤ j ∧ j < sd J ∧ Ct G i' J j := by rintro ⟨i', h1, h2, -⟩; omega
    have f0 : ∀ z : Nat, s_X4_from F M (nI z) 0 = some (nI (24 * z + 0)) := fun z => by have := x4_from F M z 0; rw [nI_0] at this; exact this
    have e111 : ¬ (g_k G = 2 ∧ St G (g_x J 0) (g_y J 0) ≠ 0) → s_X4_have_111 F M (nI a) (nI b) = some (bI ((∃ i', i ≤ i' ∧ i' < sd G ∧ ∃ j, 0 ≤ j ∧ j < sd J ∧ Ct G i' J j) ∨ Hs G J)) := by
      intro q1
      unfold s_X4_have_111
      rw [mv_k k, bd_some]
      by_cases hk : g_k J = 2
      · rw [if_p (nI_k3 hJ.1) hk, f0, bd_some, mp_x pa, bd_some, bd_some, mp_y pa, bd_some, x4_stands hJ.1 k b0.1 b0.2 hF, bd_some]
        by_cases hs : St J (g_x G 0) (g_y G 0) ≠ 0
        · rw [if_n St_le (fun q => q hs), bI_t (Or.inr (show Hs G J from Or.inr ⟨hk, hs⟩))]
        · rw [if_p St_le hs, bI_f (fun q => q.elim hno (fun q => q.elim q1 (fun q => hs q.2)))]
      · rw [if_n (nI_k3 hJ.1) hk, bI_f (fun q => q.elim hno (fun q => q.elim q1 (fun q => hk q.1)))]
    rw [s_X4_have_2, x4_sides hG.1 h (fun _ => by omega), bd_some, if_pos (nI_le (by omega) (by omega)), mv_k h, bd_some]
    by_cases hk : g_k G = 2
    · rw [if_p (nI_k3 hG.1) hk, f0, bd_some, mp_x pb, bd_some, bd_some, mp_y pb, bd_some, x4_stands hG.1 h c0.1 c0.2 hF, bd_some]
      by_cases hs : St G (g_x J 0) (g_y J 0) ≠ 0
      · rw [if_p St_pos hs, bI_t (Or.inr (show Hs G J from Or.inl ⟨hk, hs⟩))]
      · rw [if_n St_pos hs, e111 (fun q => hs q.2)]
    · rw [if_n (nI_k3 hG.1) hk, e111 (fun q => hk q.1)]
  | succ d ih =>
    intro i N hid hN
    obtain ⟨N, rfl⟩ : ∃ m, N = m + 1 := ⟨N - 1, by omega⟩
    have e := x4_hi hG.1 hJ.1 h k (by omega) (i := i) (by omega) F (fun y0 => s_X4_have_2 F M (nI a) (nI b) N y0) (sd J) 0 F (by omega) (by omega)
    rw [nI_0] at e
    rw [s_X4_have_2, x4_sides hG.1 h (fun _ => by omega), bd_some, if_neg (nI_ge (by omega) (by omega)), e]
    by_cases hc : ∃ j, 0 ≤ j ∧ j < sd J ∧ Ct G i J j
    · rw [ci_t hc, bI_t (Or.inl ⟨i, Nat.le_refl i, by omega, hc⟩)]
    · rw [ci_f hc, ih (i + 1) N (by omega) (by omega)]
      exact congrArg some (bI_c (or_congr (ex_step (P := fun i' => ∃ j, 0 ≤ j ∧ j < sd J ∧ Ct G i' J j) (by omega) hc) Iff.rfl))
theorem x4_have {M : mo_T} {a b : Nat} {G J : pg_T} (hG : R_ok G) (hJ : R_ok J) (h : mv M a G) (k : mv M b J) {F : Nat} (hF : 100 ≤ F) : s_X4_have F M (nI a) (nI b) = some (bI (Hv G J)) := by
  have h24 := hG.1.2.1
  have := x4_ho hG hJ h k hF (sd G) 0 F (by omega) (by have := sd_le G; omega)
  rw [nI_0] at this
  exact this
