-- near: the class's row, sorted
def lq (s t : q_T) : Prop := s.1 * t.2 < t.1 * s.2
def bf (K : Nat → q_T) (a b : Nat) : Prop := lq (K a) (K b) ∨ (¬ lq (K b) (K a) ∧ a < b)
def Srt (K : Nat → q_T) (r : Nat → Nat) (n : Nat) : Prop := ∀ s t, s < t → t < n → bf K (r s) (r t)
def Enu (P : Nat → Prop) (r : Nat → Nat) (n i : Nat) : Prop := n ≤ i ∧ (∀ t, t < n → r t < i ∧ P (r t)) ∧ ∀ a, a < i → P a → ∃ t, t < n ∧ r t = a
def ins (r : Nat → Nat) (a i : Nat) : Nat → Nat := fun t => if t < a then r t else if t = a then i else r (t - 1)
theorem ins_l {r : Nat → Nat} {a i t : Nat} (h : t < a) : ins r a i t = r t := if_pos h
theorem ins_a {r : Nat → Nat} {a i : Nat} : ins r a i a = i := by unfold ins; rw [if_neg (Nat.lt_irrefl a), if_pos rfl]
theorem ins_g {r : Nat → Nat} {a i t : Nat} (h : a < t) : ins r a i t = r (t - 1) := by unfold ins; rw [if_neg (by omega), if_neg (by omega)]
theorem nlq {s t : q_T} : ¬ lq s t ↔ Le t s := Nat.not_lt
theorem bf_le {K : Nat → q_T} {a b : Nat} (h : bf K a b) : Le (K a) (K b) := by
  rcases h with h | h
  · exact Nat.le_of_lt h
  · exact nlq.mp h.1
theorem Srt_ins {K : Nat → q_T} {r : Nat → Nat} {n a i : Nat} (hp : ∀ t, t < n → 0 < (K (r t)).2) (h : Srt K r n) (ha : a ≤ n) (hi : ∀ t, t < n → r t < i) (h1 : ∀ t, a ≤ t → t < n → lq (K i) (K (r t))) (h2 : a = 0 ∨ ¬ lq (K i) (K (r (a - 1)))) : Srt K (ins r a i) (n + 1) := by
  intro s t hst ht
  rcases (show t < a ∨ t = a ∨ a < t by omega) with q | q | q
  · rw [ins_l (by omega), ins_l q]
    exact h s t hst (by omega)
  · subst q
    rw [ins_l hst, ins_a]
    refine Or.inr ⟨?_, hi s (by omega)⟩
    have w := nlq.mp (h2.resolve_left (by omega))
    refine nlq.mpr ?_
    rcases (show s = t - 1 ∨ s < t - 1 by omega) with e | e
    · rw [e]; exact w
    · exact Le_tr (bf_le (h s (t - 1) e (by omega))) w (hp _ (by omega))
  · rw [ins_g q]
    rcases (show s < a ∨ s = a ∨ a < s by omega) with e | e | e
    · rw [ins_l e]; exact h s (t - 1) (by omega) (by omega)
    · subst e; rw [ins_a]; exact Or.inl (h1 _ (by omega) (by omega))
    · rw [ins_g e]; exact h (s - 1) (t - 1) (by omega) (by omega)
theorem Enu_ins {P : Nat → Prop} {r : Nat → Nat} {n a i : Nat} (h : Enu P r n i) (ha : a ≤ n) (hP : P i) : Enu P (ins r a i) (n + 1) (i + 1) := by
  obtain ⟨h1, h2, h3⟩ := h
  refine ⟨by omega, fun t ht => ?_, fun b hb hPb => ?_⟩
  · rcases (show t < a ∨ t = a ∨ a < t by omega) with q | q | q
    · rw [ins_l q]; have := h2 t (by omega); exact ⟨by omega, this.2⟩
    · subst q; rw [ins_a]; exact ⟨by omega, hP⟩
    · rw [ins_g q]; have := h2 (t - 1) (by omega); exact ⟨by omega, this.2⟩
  · rcases (show b < i ∨ b = i by omega) with q | q
    · obtain ⟨t, ht, e⟩ := h3 b q hPb
      by_cases w : t < a
      · exact ⟨t, by omega, by rw [ins_l w]; exact e⟩
      · exact ⟨t + 1, by omega, by rw [ins_g (by omega)]; exact e⟩
    · exact ⟨a, by omega, by rw [ins_a, q]⟩
theorem Enu_no {P : Nat → Prop} {r : Nat → Nat} {n i : Nat} (h : Enu P r n i) (hP : ¬ P i) : Enu P r n (i + 1) := by
  obtain ⟨h1, h2, h3⟩ := h
  refine ⟨by omega, fun t ht => ⟨by have := (h2 t ht).1; omega, (h2 t ht).2⟩, fun b hb hPb => ?_⟩
  rcases (show b < i ∨ b = i by omega) with q | q
  · exact h3 b q hPb
  · subst q; exact absurd hPb hP
/-- the gaps that the class keeps -/
def Kp (P : Nat → Prop) (K : Nat → q_T) (i : Nat) (Y : pp_T) : Prop := ∀ a, a < i → P a → pp_p Y a = lN (K a).1 ∧ pp_q Y a = lN (K a).2
theorem x3_isFarther {P : Nat → Prop} {K : Nat → q_T} {i : Nat} {Y : pp_T} (hK : Kp P K i Y) (hi : i ≤ 60) {a b : Nat} (ha : a < i) (hb : b < i) (pa : P a) (pb : P b) (qa : Qs (K a)) (qb : Qs (K b)) (F : Nat) (hh : Nat → Option sh_T) : s_X3_isFarther F Y hh (nI a) (nI b) = some (bI (lq (K b) (K a))) := by
  unfold s_X3_isFarther
  rw [rl_ok (by omega) (by omega), bd_some, rl_ok (by omega) (by omega), bd_some, rl_ok (by omega) (by omega), bd_some, rl_ok (by omega) (by omega), bd_some, (hK a ha pa).1, (hK a ha pa).2, (hK b hb pb).1, (hK b hb pb).2, x0_isAbove qa qb, bd_some, bI_bz, bd_some]
  rfl
theorem x3_ins {P : Nat → Prop} {K : Nat → q_T} {i n : Nat} {r : Nat → Nat} {X Y0 : pp_T} {hh : Nat → Option sh_T} (hi : i < 60) (hK : Kp P K (i + 1) Y0) (hE : Enu P r n i) (hP : P i) (hQ : ∀ a, a < i + 1 → P a → Qs (K a)) (F : Nat) (p2 : Int32) : ∀ (a N : Nat) (A : Nat → Int32), a ≤ n → a < N → (∀ t, t < a → A t = nI (r t)) → (∀ t, a < t → t ≤ n → A t = nI (r (t - 1))) → (∀ t, a ≤ t → t < n → lq (K i) (K (r t))) → ∃ A' a', a' ≤ n ∧ s_X3_insertByGap_2 F X hh (nI i) p2 N (nI a) (pt_r Y0 A) = some (pt_r Y0 A') ∧ (∀ t, t < n + 1 → A' t = nI (ins r a' i t)) ∧ (∀ t, a' ≤ t → t < n → lq (K i) (K (r t))) ∧ (a' = 0 ∨ ¬ lq (K i) (K (r (a' - 1)))) := by
  have hn := hE.1
  have fin : ∀ (a : Nat) (A : Nat → Int32), a ≤ n → (∀ t, t < a → A t = nI (r t)) → (∀ t, a < t → t ≤ n → A t = nI (r (t - 1))) → s_X3_insertByGap_42 F X hh (nI i) p2 (nI a) (pt_r Y0 A) = some (pt_r Y0 (upd A a (nI i))) ∧ ∀ t, t < n + 1 → upd A a (nI i) t = nI (ins r a i t) := by
    intro a A ha h1 h2
    refine ⟨?_, fun t ht => ?_⟩
    · unfold s_X3_insertByGap_42
      rw [wr_okk (by omega) (by omega), bd_some, nI_clamp (by omega)]
    · rcases (show t < a ∨ t = a ∨ a < t by omega) with q | q | q
      · rw [ins_l q, up_n _ _ (by omega), h1 t q]
      · subst q; rw [ins_a, up_s]
      · rw [ins_g q, up_n _ _ (by omega), h2 t q (by omega)]
  intro a
  induction a with
  | zero =>
    intro N A ha hN h1 h2 h3
    obtain ⟨N, rfl⟩ : ∃ m, N = m + 1 := ⟨N - 1, by omega⟩
    obtain ⟨f1, f2⟩ := fin 0 A ha h1 h2
    refine ⟨_, 0, ha, ?_, f2, h3, Or.inl rfl⟩
    rw [s_X3_insertByGap_2, if_pos (show nI 0 ≤ 0 by decide), f1]
  | succ a ih =>
    intro N A ha hN h1 h2 h3
    obtain ⟨N, rfl⟩ : ∃ m, N = m + 1 := ⟨N - 1, by omega⟩
    have ra := hE.2.1 a (by omega)
    have ea : A a = nI (r a) := h1 a (by omega)
    rw [s_X3_insertByGap_2, if_neg (nI_nle (by omega) (by omega)), nI_pred]
    show ∃ A' a', _ ∧ Option.bind (rd_i 60 A (nI a)) _ = _ ∧ _
    rw [rd_ok (by omega) (by omega), bd_some, ea, x3_isFarther (Y := pt_r Y0 A) hK (by omega) (show r a < i + 1 by omega) (show i < i + 1 by omega) ra.2 hP (hQ _ (by omega) ra.2) (hQ _ (by omega) hP), bd_some]
    by_cases w : lq (K i) (K (r a))
    · rw [if_n bI_0 (fun z => z w)]
      show ∃ A' a', _ ∧ Option.bind (some (nI (r a))) _ = _ ∧ _
      rw [bd_some, wr_okk (by omega) (by omega), bd_some, bd_some]
      have e : nI (a + 1) + (-1) = nI a := by rw [← nI_1, Int32.add_assoc]; show nI a + 0 = nI a; rw [Int32.add_zero]
      rw [e, nI_clamp (by omega)]
      show ∃ A' a', _ ∧ s_X3_insertByGap_2 F X hh (nI i) p2 N (nI a) (pt_r Y0 (upd A (a + 1) (nI (r a)))) = _ ∧ _
      refine ih N (upd A (a + 1) (nI (r a))) (by omega) (by omega) (fun t ht => ?_) (fun t t1 t2 => ?_) (fun t t1 t2 => ?_)
      · rw [up_n _ _ (by omega), h1 t (by omega)]
      · rcases (show t = a + 1 ∨ a + 1 < t by omega) with q | q
        · rw [q, up_s]; rfl
        · rw [up_n _ _ (by omega), h2 t q t2]
      · rcases (show t = a ∨ a + 1 ≤ t by omega) with q | q
        · rw [q]; exact w
        · exact h3 t q t2
    · rw [if_p bI_0 w]
      obtain ⟨f1, f2⟩ := fin (a + 1) A ha h1 h2
      exact ⟨_, a + 1, ha, f1, f2, h3, Or.inr w⟩
/-- what near keeps of the class -/
def Ke (X Y : pp_T) : Prop := pp_n Y = pp_n X ∧ pp_s Y = pp_s X ∧ pp_o Y = pp_o X ∧ pp_b Y = pp_b X ∧ pp_m Y = pp_m X
def Km (M Z : mo_T) : Prop := mo_k Z = mo_k M ∧ mo_c Z = mo_c M ∧ mo_x Z = mo_x M ∧ mo_y Z = mo_y M ∧ mo_n Z = mo_n M ∧ mo_o Z = mo_o M ∧ mo_g Z = mo_g M ∧ mo_f Z = mo_f M ∧ mo_m Z = mo_m M
theorem Rl_ke {X Y : pp_T} {hh : Nat → Option sh_T} {M Z : mo_T} (h : Rl X hh M) (e : Ke X Y) (k : Km M Z) : Rl Y hh Z := by
  obtain ⟨e1, e2, e3, e4, e5⟩ := e
  obtain ⟨k1, k2, k3, k4, k5, k6, k7, k8, k9⟩ := k
  unfold Rl Rc Ro Rb Rk mv at *
  rw [e1, e2, e3, e4, e5, k1, k2, k3, k4, k5, k6, k7, k8, k9]
  exact h
/-- the shapes by their numbers, named -/
def Nr (hh : Nat → Option sh_T) (M : mo_T) (c : Nat) (Gf : Nat → pg_T) (P : Nat → Prop) : Prop := ∀ k, k < c → (hh k = none ∧ mo_k M k = 0 ∧ ¬ P k) ∨ ∃ S, hh k = some S ∧ Sg S (Gf k) ∧ mv M k (Gf k) ∧ (g_k (Gf k) = 0 → g_n (Gf k) = 1) ∧ (P k ↔ vd (Gf k) = 1)
theorem nr {X : pp_T} {hh : Nat → Option sh_T} {M : mo_T} {c : Nat} (h : Rc X hh M c) : ∃ Gf P, Nr hh M c Gf P := by
  have : ∀ k, ∃ G : pg_T, k < c → (hh k = none ∧ mo_k M k = 0) ∨ ∃ S, hh k = some S ∧ Sg S G ∧ mv M k G ∧ (g_k G = 0 → g_n G = 1) := by
    intro k
    by_cases hk : k < c
    · rcases h.2.2.2.2 k hk with e | ⟨S, G, e1, e2, e3, e4⟩
      · exact ⟨g0 0, fun _ => Or.inl e⟩
      · exact ⟨G, fun _ => Or.inr ⟨S, e1, e2, e3, e4⟩⟩
    · exact ⟨g0 0, fun q => absurd q hk⟩
  obtain ⟨Gf, hf⟩ := Classical.axiomOfChoice this
  refine ⟨Gf, fun k => (∃ S, hh k = some S) ∧ vd (Gf k) = 1, fun k hk => ?_⟩
  rcases hf k hk with ⟨e1, e2⟩ | ⟨S, e1, e2, e3, e4⟩
  · refine Or.inl ⟨e1, e2, fun q => ?_⟩
    obtain ⟨⟨S, w⟩, -⟩ := q
    rw [e1] at w
    cases w
  · exact Or.inr ⟨S, e1, e2, e3, e4, fun q => q.2, fun q => ⟨⟨S, e1⟩, q⟩⟩
theorem rtC {Y : pp_T} {hh : Nat → Option sh_T} {M : mo_T} {c : Nat} {Gf : Nat → pg_T} {P : Nat → Prop} (h : Nr hh M c Gf P) (hc : c ≤ 60) (hn : pp_n Y = nI c) {k : Nat} (hk : k < c) (F : Nat) : (¬ P k ∧ s_X3_right F Y hh (nI k) = some none) ∨ (P k ∧ R_ok (Gf k) ∧ ∃ S, sv S (Gf k) ∧ s_X3_right F Y hh (nI k) = some (some S)) := by
  have st : s_X3_standing F Y hh (nI k) = some (hh k) := by
    unfold s_X3_standing
    rw [if_neg (nI_pos (by omega)), hn, if_pos (nI_lt hk (by omega)), rd_qk (by omega)]
  unfold s_X3_right
  rw [st, bd_some]
  rcases h k hk with ⟨e1, -, e2⟩ | ⟨S, e1, e2, e3, e4, e5⟩
  · rw [e1]; exact Or.inl ⟨e2, rfl⟩
  · rw [e1]
    show (¬ P k ∧ some (if sh_v S = 1 then some S else none) = some none) ∨ (P k ∧ R_ok (Gf k) ∧ ∃ S', sv S' (Gf k) ∧ some (if sh_v S = 1 then some S else none) = some (some S'))
    rw [e2.2.2.2.2]
    by_cases q : vd (Gf k) = 1
    · rw [if_pos q]; exact Or.inr ⟨e5.mpr q, vd_R e2.1 q, S, e2.2.1, rfl⟩
    · rw [if_neg q]; exact Or.inl ⟨fun z => q (e5.mp z), rfl⟩
theorem x3_sl {X : pp_T} {hh : Nat → Option sh_T} {M : mo_T} {c : Nat} {Gf : Nat → pg_T} {P : Nat → Prop} (h : Nr hh M c Gf P) (hc : c ≤ 60) {x y : Int} (hx : B_ok x) (hy : B_ok y) {PL : sh_T} (hPL : sv PL (pt x y)) (p1 p2 : Int32) {F : Nat} (hF : 100 ≤ F) (hQ : ∀ a, a < c → P a → Qs (mC (Gf a) (pt x y))) (hn : pp_n X = nI c) : ∀ (d i n N : Nat) (r : Nat → Nat) (Y : pp_T), i + d = c → d < N → Ke X Y → Kp P (fun a => mC (Gf a) (pt x y)) i Y → Enu P r n i → Srt (fun a => mC (Gf a) (pt x y)) r n → (∀ t, t < n → pp_r Y t = nI (r t)) → ∃ n' r' Y', s_X3_sortByGapTo_23 F X hh p1 p2 PL N (nI n) (nI i) Y = some (nI n', Y') ∧ Ke X Y' ∧ Enu P r' n' c ∧ Srt (fun a => mC (Gf a) (pt x y)) r' n' ∧ ∀ t, t < n' → pp_r Y' t = nI (r' t) := by
  intro d
  induction d with
  | zero =>
    intro i n N r Y hid hN hY hK hE hS hr
    obtain ⟨N, rfl⟩ : ∃ m, N = m + 1 := ⟨N - 1, by omega⟩
    have hi : i = c := by omega
    subst hi
    refine ⟨n, r, Y, ?_, hY, hE, hS, hr⟩
    rw [s_X3_sortByGapTo_23, hY.1, hn, if_pos (nI_le (by omega) (by omega))]
  | succ d ih =>
    intro i n N r Y hid hN hY hK hE hS hr
    obtain ⟨N, rfl⟩ : ∃ m, N = m + 1 := ⟨N - 1, by omega⟩
    have hi : i < c := by omega
    rw [s_X3_sortByGapTo_23, hY.1, hn, if_neg (nI_ge hi (by omega))]
    rcases rtC (Y := Y) h hc (hY.1.trans hn) hi F with ⟨k1, k2⟩ | ⟨k1, kR, S, k2, k3⟩
    · rw [k2, bd_some]
      show ∃ n' r' Y', s_X3_sortByGapTo_23 F X hh p1 p2 PL N (nI n) (nI i + 1) Y = _ ∧ _
      rw [nI_1]
      exact ih (i + 1) n N r Y (by omega) (by omega) hY (fun a ha pa => by
        rcases (show a < i ∨ a = i by omega) with q | q
        · exact hK a q pa
        · subst q; exact absurd pa k1) (Enu_no hE k1) hS hr
    · rw [k3, bd_some]
      show ∃ n' r' Y', Option.bind (s_X2_measureTo F S PL _) _ = _ ∧ _
      rw [x2_measureTo kR (pt_ok hx hy) k2 hPL hF, bd_some, wr_okk (by omega) (by omega), bd_some, bd_some, nI_clamp (by omega)]
      have hn' := hE.1
      obtain ⟨A', a', w1, w2, w3, w4, w5⟩ := x3_ins (P := P) (K := fun a => mC (Gf a) (pt x y)) (i := i) (n := n) (r := r) (X := pt_q (pt_p (pt_l (pt_u Y (fr_u (en (mC (Gf i) (pt x y))))) (fr_l (en (mC (Gf i) (pt x y))))) (vp_updL (pp_p Y) i (fr_u (en (mC (Gf i) (pt x y)))))) (vp_updL (pp_q Y) i (fr_l (en (mC (Gf i) (pt x y)))))) (Y0 := pt_q (pt_p (pt_l (pt_u Y (fr_u (en (mC (Gf i) (pt x y))))) (fr_l (en (mC (Gf i) (pt x y))))) (vp_updL (pp_p Y) i (fr_u (en (mC (Gf i) (pt x y)))))) (vp_updL (pp_q Y) i (fr_l (en (mC (Gf i) (pt x y)))))) (hh := hh) (by omega) (fun a ha pa => by
          show vp_updL (pp_p Y) i _ a = _ ∧ vp_updL (pp_q Y) i _ a = _
          rcases (show a < i ∨ a = i by omega) with q | q
          · rw [ul_n _ _ (by omega), ul_n _ _ (by omega)]; exact hK a q pa
          · subst q; rw [ul_s, ul_s]; exact ⟨rfl, rfl⟩) hE k1 (fun a ha pa => hQ a (by omega) pa) F (nI n) n F (pp_r Y) (Nat.le_refl n) (by omega) hr (fun t t1 t2 => by omega) (fun t t1 t2 => by omega)
      have w2' : s_X3_insertByGap F (pt_q (pt_p (pt_l (pt_u Y (fr_u (en (mC (Gf i) (pt x y))))) (fr_l (en (mC (Gf i) (pt x y))))) (vp_updL (pp_p Y) i (fr_u (en (mC (Gf i) (pt x y)))))) (vp_updL (pp_q Y) i (fr_l (en (mC (Gf i) (pt x y)))))) hh (nI i) (nI n) = some _ := w2
      rw [w2', bd_some, bd_some, bd_some, nI_1, nI_1]
      refine ih (i + 1) (n + 1) N (ins r a' i) _ (by omega) (by omega) hY (fun a ha pa => ?_) (Enu_ins hE w1 k1) (Srt_ins (fun t ht => (hQ _ (by have := (hE.2.1 t ht).1; omega) (hE.2.1 t ht).2).2.1) hS w1 (fun t ht => (hE.2.1 t ht).1) w4 w5) w3
      show vp_updL (pp_p Y) i _ a = _ ∧ vp_updL (pp_q Y) i _ a = _
      rcases (show a < i ∨ a = i by omega) with q | q
      · rw [ul_n _ _ (by omega), ul_n _ _ (by omega)]; exact hK a q pa
      · subst q; rw [ul_s, ul_s]; exact ⟨rfl, rfl⟩
