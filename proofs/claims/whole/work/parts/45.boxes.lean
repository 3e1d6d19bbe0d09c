-- area
def Ar (G : pg_T) (d i : Nat) (s : Int) : Int := fi (fun s i => s + (g_x G i * g_y G (wp (g_n G) i) - g_x G (wp (g_n G) i) * g_y G i)) d i s
theorem x2_ar {S : sh_T} {G : pg_T} (hG : G_ok G) (h : sv S G) (F : Nat) : ∀ (d i N : Nat) (s : Int), i + d = g_n G → d < N → s_X2_twiceEnclosed_4 F S N (lI s) (nI i) = some (lI (Ar G d i s)) := by
  have h24 := hG.2.1
  intro d
  induction d with
  | zero =>
    intro i N s hid hN
    obtain ⟨N, rfl⟩ : ∃ m, N = m + 1 := ⟨N - 1, by omega⟩
    rw [s_X2_twiceEnclosed_4, h.2.1, if_pos (nI_le (by omega) (by omega))]
    rfl
  | succ d ih =>
    intro i N s hid hN
    obtain ⟨N, rfl⟩ : ∃ m, N = m + 1 := ⟨N - 1, by omega⟩
    have hi : i < g_n G := by omega
    have b1 := hG.2.2.2 i hi
    have b2 := hG.2.2.2 _ (wp_lt hi)
    rw [s_X2_twiceEnclosed_4, h.2.1, if_neg (nI_ge hi (by omega)), sv_x h hi, bd_some, sv_y1 h hi, bd_some, sv_x1 h hi, bd_some, sv_y h hi, bd_some, bd_some, bd_some, nI_1, iI_l (I_B b1.1), iI_l (I_B b2.2), iI_l (I_B b2.1), iI_l (I_B b1.2), lI_mul, lI_mul, lI_sub, lI_add, ih (i + 1) N _ (by omega) (by omega)]
    rfl
theorem x2_twiceEnclosed {S : sh_T} {G : pg_T} (hG : G_ok G) (h : sv S G) {F : Nat} (hF : 100 ≤ F) : s_X2_twiceEnclosed F S = some (lI (Ar G (g_n G) 0 0)) := by
  have := x2_ar hG h F (g_n G) 0 F 0 (by omega) (by have := hG.2.1; omega)
  rw [nI_0] at this
  exact this
theorem x4_ar {M N0 : mo_T} {k : Nat} {G : pg_T} (hG : G_ok G) (h : mv M k G) (F : Nat) : ∀ (d i N : Nat) (s : Int), i + d = g_n G → d < N → s_X4_area_30 F N0 (nI k) N (lI s) (nI i) M = some (lI (Ar G d i s), M) := by
  have h24 := hG.2.1
  intro d
  induction d with
  | zero =>
    intro i N s hid hN
    obtain ⟨N, rfl⟩ : ∃ m, N = m + 1 := ⟨N - 1, by omega⟩
    rw [s_X4_area_30, mv_c h, bd_some, if_pos (nI_le (by omega) (by omega))]
    rfl
  | succ d ih =>
    intro i N s hid hN
    obtain ⟨N, rfl⟩ : ∃ m, N = m + 1 := ⟨N - 1, by omega⟩
    have hi : i < g_n G := by omega
    have pi := mv_p hG h hi
    have pi1 := mv_p hG h (wp_lt hi)
    rw [s_X4_area_30, mv_c h, bd_some, if_neg (nI_ge hi (by omega)), x4_from, bd_some, mp_x pi, bd_some, bd_some, mp_y pi, bd_some, x4_to hG h hi, bd_some, mp_x pi1, bd_some, bd_some, mp_y pi1, bd_some]
    unfold s_X4_cross
    rw [bd_some, bd_some, bd_some, nI_1, lI_mul, lI_mul, lI_sub, lI_add, ih (i + 1) N _ (by omega) (by omega), Int.mul_comm (g_y G i) (g_x G (wp (g_n G) i))]
    rfl
theorem o_area {X : pp_T} {hh : Nat → Option sh_T} {M : mo_T} (h : Rl X hh M) (p : Int32) {F : Nat} (hF : 100 ≤ F) : ∃ r, s_X3_area F X hh p = some r ∧ s_X4_area F M p = some (r, ms_t M 0) := by
  unfold s_X3_area s_X4_area
  rcases rt h p hF with ⟨h1, h2⟩ | ⟨k, S, G, rfl, h2, h3, h4, h5, hR, h6, h7⟩
  · rw [h1, bd_some, h2, bd_some, if_pos rfl]
    exact ⟨_, rfl, rfl⟩
  · rw [h6, bd_some, h7, bd_some, if_neg n10]
    show ∃ r, (if sh_k S = 2 then _ else _) = some r ∧ Option.bind (rd_i 60 (mo_k (ms_t M 0)) (nI k)) _ = _
    rw [h4.2.1.1, mv_k (M := ms_t M 0) h5.1, bd_some]
    by_cases hk : g_k G = 2
    · have := x4_ar (N0 := M) (M := ms_t M 0) h4.1 h5.1 F (g_n G) 0 F 0 (by omega) (by have := h4.1.2.1; omega)
      rw [nI_0] at this
      rw [if_pos hk, if_p (nI_k3 h4.1) hk, x2_twiceEnclosed h4.1 h4.2.1 hF, bd_some]
      exact ⟨_, rfl, this⟩
    · rw [if_neg hk, if_n (nI_k3 h4.1) hk]
      exact ⟨_, rfl, rfl⟩
-- the box
theorem I_32 {a : Int} (h : B_ok a) (p : Int32) : (p < iI a ↔ p.toInt < a) ∧ (iI a < p ↔ a < p.toInt) := by
  rw [Int32.lt_iff_toInt_lt, Int32.lt_iff_toInt_lt, iI_toInt (I_B h)]
  exact ⟨Iff.rfl, Iff.rfl⟩
def Bm (G : pg_T) (p q u v : Int) : Prop := (∃ j, j < g_n G ∧ g_x G j ≤ u) ∧ (∃ j, j < g_n G ∧ p ≤ g_x G j) ∧ (∃ j, j < g_n G ∧ g_y G j ≤ v) ∧ ∃ j, j < g_n G ∧ q ≤ g_y G j
theorem lo_b {n : Nat} {f : Nat → Int} {a z : Int} (hn : 0 < n) (hf : f 0 ≤ 10000) (h : ∀ z, a ≤ z ↔ (∃ j, j < n ∧ f j ≤ z) ∨ 10000 ≤ z) : ¬ z < a ↔ ∃ j, j < n ∧ f j ≤ z := by
  rw [Int.not_lt, h z]
  constructor
  · rintro (q | q)
    · exact q
    · exact ⟨0, hn, by omega⟩
  · exact Or.inl
theorem hi_b {n : Nat} {f : Nat → Int} {a z : Int} (hn : 0 < n) (hf : -10000 ≤ f 0) (h : ∀ z, z ≤ a ↔ (∃ j, j < n ∧ z ≤ f j) ∨ z ≤ -10000) : ¬ a < z ↔ ∃ j, j < n ∧ z ≤ f j := by
  rw [Int.not_lt, h z]
  constructor
  · rintro (q | q)
    · exact q
    · exact ⟨0, hn, by omega⟩
  · exact Or.inl
theorem x2_boxMeets {S : sh_T} {G : pg_T} (h : Sg S G) (hn : 0 < g_n G) (p q u v : Int32) (F : Nat) : s_X2_boxMeets F S p q u v = some (bI (Bm G p.toInt q.toInt u.toInt v.toInt)) := by
  obtain ⟨hG, hs, hsn, ⟨a, b, c, d, ⟨ba, bb, bc, bd⟩, ⟨ea, eb, ec, ed⟩, la, lb, lc, ld⟩, hv⟩ := h
  have b0 := hG.2.2.2 0 hn
  have k1 := lo_b (z := u.toInt) hn b0.1.2 la
  have k2 := hi_b (z := p.toInt) hn b0.1.1 lc
  have k3 := lo_b (z := v.toInt) hn b0.2.2 lb
  have k4 := hi_b (z := q.toInt) hn b0.2.1 ld
  unfold s_X2_boxMeets
  rw [ea, eb, ec, ed]
  by_cases c1 : u.toInt < a
  · rw [if_p (I_32 ba u).1 c1, bI_f (fun z => k1.mpr z.1 c1)]
  rw [if_n (I_32 ba u).1 c1]
  by_cases c2 : c < p.toInt
  · rw [if_p (I_32 bc p).2 c2, bI_f (fun z => k2.mpr z.2.1 c2)]
  rw [if_n (I_32 bc p).2 c2]
  by_cases c3 : v.toInt < b
  · rw [if_p (I_32 bb v).1 c3, bI_f (fun z => k3.mpr z.2.2.1 c3)]
  rw [if_n (I_32 bb v).1 c3]
  by_cases c4 : d < q.toInt
  · rw [if_p (I_32 bd q).2 c4, bI_f (fun z => k4.mpr z.2.2.2 c4)]
  rw [if_n (I_32 bd q).2 c4, bI_t ⟨k1.mp c1, k2.mp c2, k3.mp c3, k4.mp c4⟩]
theorem ct_ge {a : Int} (h : B_ok a) (p : Int32) : (0 ≤ lg_cmp (lI a) p.toInt64) ↔ p.toInt ≤ a := by rw [lg_cmp_ge, Int64.le_iff_toInt_le, Int32.toInt_toInt64, lI_toInt (L_B h)]
theorem ct_le {a : Int} (h : B_ok a) (p : Int32) : (lg_cmp (lI a) p.toInt64 ≤ 0) ↔ a ≤ p.toInt := by rw [lg_cmp_le, Int64.le_iff_toInt_le, Int32.toInt_toInt64, lI_toInt (L_B h)]
theorem x4_109 {M : mo_T} {a : Nat} {x y : Int} (hp : mp M a x y) (F : Nat) (p1 p2 p3 p4 p5 : Int32) (kc : Int32 → Int32 → Int32 → Int32 → Int32 → Option Int32) (x6 x7 t0 : Int32) (D : Prop) (j : Nat) : s_X4_isIn_109 F M p1 p2 p3 p4 p5 kc x6 x7 (bI D) (nI j) (nI a) t0 = kc x6 x7 t0 (bI (D ∧ p5.toInt < y)) (nI (j + 1)) := by
  unfold s_X4_isIn_109
  by_cases hD : D
  · rw [if_n bI_0 (fun q => q hD), mp_y hp, bd_some]
    by_cases c : y ≤ p5.toInt
    · rw [if_p (ct_le hp.2.2.2.2 p5) c, bd_some, nI_1, bI_f (fun q => by have := q.2; omega)]
    · rw [if_n (ct_le hp.2.2.2.2 p5) c, bd_some, nI_1, bI_t ⟨hD, by omega⟩]
  · rw [if_p bI_0 hD, bd_some, nI_1, bI_f (fun q => hD q.1)]
theorem x4_84 {M : mo_T} {a : Nat} {x y : Int} (hp : mp M a x y) (F : Nat) (p1 p2 p3 p4 p5 : Int32) (kc : Int32 → Int32 → Int32 → Int32 → Int32 → Option Int32) (x6 t0 : Int32) (C D : Prop) (j : Nat) : s_X4_isIn_84 F M p1 p2 p3 p4 p5 kc x6 (bI C) (bI D) (nI j) (nI a) t0 = kc x6 t0 (bI (C ∧ y < p3.toInt)) (bI (D ∧ p5.toInt < y)) (nI (j + 1)) := by
  unfold s_X4_isIn_84
  by_cases hD : C
  · rw [if_n bI_0 (fun q => q hD), mp_y hp, bd_some]
    by_cases c : p3.toInt ≤ y
    · rw [if_p (ct_ge hp.2.2.2.2 p3) c, x4_109 hp, bI_f (p := C ∧ y < p3.toInt) (fun q => by have := q.2; omega)]
    · rw [if_n (ct_ge hp.2.2.2.2 p3) c, x4_109 hp, bI_t (p := C ∧ y < p3.toInt) ⟨hD, by omega⟩]
  · rw [if_p bI_0 hD, x4_109 hp, bI_f (p := C ∧ y < p3.toInt) (fun q => hD q.1)]
theorem x4_58 {M : mo_T} {a : Nat} {x y : Int} (hp : mp M a x y) (F : Nat) (p1 p2 p3 p4 p5 : Int32) (kc : Int32 → Int32 → Int32 → Int32 → Int32 → Option Int32) (t0 : Int32) (B C D : Prop) (j : Nat) : s_X4_isIn_58 F M p1 p2 p3 p4 p5 kc (bI B) (bI C) (bI D) (nI j) (nI a) t0 = kc t0 (bI (B ∧ p4.toInt < x)) (bI (C ∧ y < p3.toInt)) (bI (D ∧ p5.toInt < y)) (nI (j + 1)) := by
  unfold s_X4_isIn_58
  by_cases hD : B
  · rw [if_n bI_0 (fun q => q hD), mp_x hp, bd_some]
    by_cases c : x ≤ p4.toInt
    · rw [if_p (ct_le hp.2.2.2.1 p4) c, x4_84 hp, bI_f (p := B ∧ p4.toInt < x) (fun q => by have := q.2; omega)]
    · rw [if_n (ct_le hp.2.2.2.1 p4) c, x4_84 hp, bI_t (p := B ∧ p4.toInt < x) ⟨hD, by omega⟩]
  · rw [if_p bI_0 hD, x4_84 hp, bI_f (p := B ∧ p4.toInt < x) (fun q => hD q.1)]
theorem al_st {P : Nat → Prop} {A : Prop} {j n : Nat} (hj : j < n) : (((A ∧ P j) ∧ ∀ i, j + 1 ≤ i → i < n → P i) ↔ (A ∧ ∀ i, j ≤ i → i < n → P i)) := by
  constructor
  · rintro ⟨⟨a, b⟩, c⟩
    refine ⟨a, fun i h1 h2 => ?_⟩
    rcases (show i = j ∨ j + 1 ≤ i by omega) with q | q
    · rw [q]; exact b
    · exact c i q h2
  · rintro ⟨a, b⟩
    exact ⟨⟨a, b j (Nat.le_refl j) hj⟩, fun i h1 h2 => b i (by omega) h2⟩
theorem al_0 {P : Nat → Prop} {A : Prop} {n : Nat} : (A ∧ ∀ i, n ≤ i → i < n → P i) ↔ A := ⟨fun h => h.1, fun h => ⟨h, fun i h1 h2 => by omega⟩⟩
theorem x4_il {M : mo_T} {k : Nat} {G : pg_T} (hG : G_ok G) (h : mv M k G) (p q u v : Int32) (F : Nat) : ∀ (d j N : Nat) (A B C D : Prop), j + d = g_n G → d < N → s_X4_isIn_15 F M (nI k) p q u v N (bI A) (bI B) (bI C) (bI D) (nI j) = some (bI (¬ (A ∧ ∀ i, j ≤ i → i < g_n G → g_x G i < p.toInt) ∧ ¬ (B ∧ ∀ i, j ≤ i → i < g_n G → u.toInt < g_x G i) ∧ ¬ (C ∧ ∀ i, j ≤ i → i < g_n G → g_y G i < q.toInt) ∧ ¬ (D ∧ ∀ i, j ≤ i → i < g_n G → v.toInt < g_y G i))) := by
  have h24 := hG.2.1
  intro d
  induction d with
  | zero =>
    intro j N A B C D hjd hN
    obtain ⟨N, rfl⟩ : ∃ m, N = m + 1 := ⟨N - 1, by omega⟩
    have hj : j = g_n G := by omega
    subst hj
    rw [s_X4_isIn_15, mv_c h, bd_some, if_pos (nI_le (by omega) (by omega))]
    simp only [al_0]
    by_cases a : A
    · rw [if_n bI_0 (fun z => z a), bI_f (fun z => z.1 a)]
    rw [if_p bI_0 a]
    by_cases b : B
    · rw [if_n bI_0 (fun z => z b), bI_f (fun z => z.2.1 b)]
    rw [if_p bI_0 b]
    by_cases c : C
    · rw [if_n bI_0 (fun z => z c), bI_f (fun z => z.2.2.1 c)]
    rw [if_p bI_0 c]
    by_cases e : D
    · rw [if_n bI_0 (fun z => z e), bI_f (fun z => z.2.2.2 e)]
    rw [if_p bI_0 e, bI_t ⟨a, b, c, e⟩]
  | succ d ih =>
    intro j N A B C D hjd hN
    obtain ⟨N, rfl⟩ : ∃ m, N = m + 1 := ⟨N - 1, by omega⟩
    have hj : j < g_n G := by omega
    have pj := mv_p hG h hj
    have fin : s_X4_isIn_58 F M (nI k) p q u v (fun y0 y1 y2 y3 y4 => s_X4_isIn_15 F M (nI k) p q u v N y0 y1 y2 y3 y4) (bI B) (bI C) (bI D) (nI j) (nI (24 * k + j)) (bI (A ∧ g_x G j < p.toInt)) = some (bI (¬ (A ∧ ∀ i, j ≤ i → i < g_n G → g_x G i < p.toInt) ∧ ¬ (B ∧ ∀ i, j ≤ i → i < g_n G → u.toInt < g_x G i) ∧ ¬ (C ∧ ∀ i, j ≤ i → i < g_n G → g_y G i < q.toInt) ∧ ¬ (D ∧ ∀ i, j ≤ i → i < g_n G → v.toInt < g_y G i))) := by
      rw [x4_58 pj, ih (j + 1) N _ _ _ _ (by omega) (by omega), al_st (P := fun i => g_x G i < p.toInt) hj, al_st (P := fun i => u.toInt < g_x G i) hj, al_st (P := fun i => g_y G i < q.toInt) hj, al_st (P := fun i => v.toInt < g_y G i) hj]
    rw [s_X4_isIn_15, mv_c h, bd_some, if_neg (nI_ge hj (by omega)), x4_from, bd_some]
    by_cases hA : A
    · rw [if_n bI_0 (fun z => z hA), mp_x pj, bd_some]
      by_cases c : p.toInt ≤ g_x G j
      · rw [if_p (ct_ge pj.2.2.2.1 p) c]
        rw [bI_f (p := A ∧ g_x G j < p.toInt) (fun z => by have := z.2; omega)] at fin
        exact fin
      · rw [if_n (ct_ge pj.2.2.2.1 p) c]
        rw [bI_t (p := A ∧ g_x G j < p.toInt) ⟨hA, by omega⟩] at fin
        exact fin
    · rw [if_p bI_0 hA]
      rw [bI_f (p := A ∧ g_x G j < p.toInt) (fun z => hA z.1)] at fin
      exact fin
theorem x4_isIn {M : mo_T} {k : Nat} {G : pg_T} (hG : G_ok G) (h : mv M k G) (p q u v : Int32) {F : Nat} (hF : 100 ≤ F) : s_X4_isIn F M (nI k) p q u v = some (bI (Bm G p.toInt q.toInt u.toInt v.toInt)) := by
  have := x4_il hG h p q u v F (g_n G) 0 F True True True True (by omega) (by have := hG.2.1; omega)
  rw [bI_t trivial, nI_0] at this
  unfold s_X4_isIn
  rw [this]
  have nn : ∀ P : Nat → Prop, (¬ (True ∧ ∀ i, 0 ≤ i → i < g_n G → ¬ P i)) ↔ ∃ i, i < g_n G ∧ P i := by
    intro P
    constructor
    · intro z
      refine Classical.byContradiction (fun w => z ⟨trivial, fun i _ hi hp => w ⟨i, hi, hp⟩⟩)
    · rintro ⟨i, hi, hp⟩ ⟨-, z⟩
      exact z i (by omega) hi hp
  have n1 := nn (fun i => p.toInt ≤ g_x G i)
  have n2 := nn (fun i => g_x G i ≤ u.toInt)
  have n3 := nn (fun i => q.toInt ≤ g_y G i)
  have n4 := nn (fun i => g_y G i ≤ v.toInt)
  simp only [Int.not_le] at n1 n2 n3 n4
  rw [n1, n2, n3, n4]
  refine congrArg some (bI_c ?_)
  unfold Bm
  constructor
  · rintro ⟨a, b, c, d⟩; exact ⟨b, a, d, c⟩
  · rintro ⟨a, b, c, d⟩; exact ⟨b, a, d, c⟩
theorem R_pos {G : pg_T} (h : R_ok G) : 0 < g_n G := by have := h.2; omega
theorem bx_l {X : pp_T} {hh : Nat → Option sh_T} {M : mo_T} (p q u v : Int32) (h1 : ¬ u < p) (h2 : ¬ v < q) {F : Nat} (hF : 100 ≤ F) : ∀ (d i c m N : Nat) (Y : pp_T) (Z : mo_T), i + d = c → d < N → c ≤ 60 → Rl Y hh Z → pp_n Y = nI c → mo_n Z = nI c → pp_m Y = nI m → mo_m Z = nI m → m ≤ i → ∃ r Y' Z', s_X3_boxed_21 F X hh p q u v N (nI i) Y = some (r, Y') ∧ s_X4_boxed_13 F M p q u v N (nI i) (ms_t Z 0) = some (r, Z') ∧ Rl Y' hh Z' := by
  intro d
  induction d with
  | zero =>
    intro i c m N Y Z hid hN hc hR e1 e2 e3 e4 hm
    obtain ⟨N, rfl⟩ : ∃ m, N = m + 1 := ⟨N - 1, by omega⟩
    refine ⟨nI m, Y, ms_t Z 0, ?_, ?_, hR⟩
    · rw [s_X3_boxed_21, e1, if_pos (nI_le (by omega) (by omega)), e3]
    · rw [s_X4_boxed_13]
      show (if mo_n Z ≤ nI i then some (mo_m Z, _) else _) = _
      rw [e2, if_pos (nI_le (by omega) (by omega)), e4]
  | succ d ih =>
    intro i c m N Y Z hid hN hc hR e1 e2 e3 e4 hm
    obtain ⟨N, rfl⟩ : ∃ m, N = m + 1 := ⟨N - 1, by omega⟩
    have a1 : ∀ o : Option (Int32 × pp_T), s_X3_boxed_21 F X hh p q u v (N + 1) (nI i) Y = o ↔ (Option.bind (s_X3_right F Y hh (nI i)) fun v_33 => mt_o v_33 (s_X3_boxed_21 F X hh p q u v N (nI i + 1) Y) (fun S_33 => (s_X2_boxMeets F S_33 p q u v).bind fun v_50 => if v_50 = 0 then s_X3_boxed_21 F X hh p q u v N (nI i + 1) Y else (wr_in 60 (pp_m Y)).bind fun _ => s_X3_boxed_21 F X hh p q u v N (nI i + 1) (pt_m (pt_b Y (upd (pp_b Y) (pp_m Y).toNatClampNeg (nI i))) (pp_m Y + 1)))) = o := by
      intro o
      rw [s_X3_boxed_21, e1, if_neg (nI_ge (by omega) (by omega))]
      exact Iff.rfl
    have a2 : ∀ o : Option (Int32 × mo_T), s_X4_boxed_13 F M p q u v (N + 1) (nI i) (ms_t Z 0) = o ↔ (Option.bind (s_X4_isRight F (ms_t Z 0) (nI i)) fun v_36 => if v_36.1 = 0 then s_X4_boxed_13 F M p q u v N (nI i + 1) v_36.2 else (s_X4_isIn F v_36.2 (nI i) p q u v).bind fun v_50 => if v_50 = 0 then s_X4_boxed_13 F M p q u v N (nI i + 1) v_36.2 else (wr_in 60 (mo_m v_36.2)).bind fun _ => s_X4_boxed_13 F M p q u v N (nI i + 1) (ms_m (ms_f v_36.2 (upd (mo_f v_36.2) (mo_m v_36.2).toNatClampNeg (nI i))) (mo_m v_36.2 + 1))) = o := by
      intro o
      rw [s_X4_boxed_13]
      show (if mo_n Z ≤ nI i then _ else _) = o ↔ _
      rw [e2, if_neg (nI_ge (by omega) (by omega)), if_neg h1, if_neg h2]
      exact Iff.rfl
    simp only [a1, a2]
    rcases rt hR (nI i) hF with ⟨k1, k2⟩ | ⟨k, S, G, ek, k2, k3, k4, k5, kR, k6, k7⟩
    · rw [k1, bd_some, k2, bd_some, if_pos rfl, nI_1]
      exact ih (i + 1) c m N Y Z (by omega) (by omega) hc hR e1 e2 e3 e4 (by omega)
    · rw [k6, bd_some, k7, bd_some, if_neg n10]
      have ek' : i = k := (nI_eq (by omega) (by omega)).mp ek
      subst ek'
      show ∃ r Y' Z', Option.bind (s_X2_boxMeets F S p q u v) _ = _ ∧ Option.bind (s_X4_isIn F (ms_t Z 0) (nI i) p q u v) _ = _ ∧ _
      rw [x2_boxMeets k4 (R_pos kR), bd_some, x4_isIn (M := ms_t Z 0) k4.1 k5.1 p q u v hF, bd_some]
      by_cases w : bI (Bm G p.toInt q.toInt u.toInt v.toInt) = 0
      · rw [if_pos w, if_pos w, nI_1]
        exact ih (i + 1) c m N Y Z (by omega) (by omega) hc hR e1 e2 e3 e4 (by omega)
      · rw [if_neg w, if_neg w]
        show ∃ r Y' Z', Option.bind (wr_in 60 (pp_m Y)) _ = _ ∧ Option.bind (wr_in 60 (mo_m Z)) _ = _ ∧ _
        rw [e3, e4, wr_okk (by omega) (by omega), bd_some, bd_some, nI_1, nI_1]
        have cl : (nI m).toNatClampNeg = m := nI_clamp (by omega)
        obtain ⟨b1, b2, b3, m', b4, b5, b6, b7⟩ := hR
        have em' : m' = m := (nI_eq (by omega) (by omega)).mp (b5.symm.trans e3)
        subst em'
        refine ih (i + 1) c (m' + 1) N (pt_m (pt_b Y (upd (pp_b Y) (nI m').toNatClampNeg (nI i))) (nI (m' + 1))) (ms_m (ms_f Z (upd (mo_f Z) (nI m').toNatClampNeg (nI i))) (nI (m' + 1))) (by omega) (by omega) hc ⟨b1, b2, b3, m' + 1, by omega, rfl, rfl, fun j hj => ?_⟩ e1 e2 rfl rfl (by omega)
        show upd (pp_b Y) (nI m').toNatClampNeg (nI i) j = upd (mo_f Z) (nI m').toNatClampNeg (nI i) j
        rw [cl]
        rcases (show j = m' ∨ j < m' by omega) with z | z
        · rw [z, up_s, up_s]
        · rw [up_n _ _ (by omega), up_n _ _ (by omega), b7 j z]
theorem o_boxed {X : pp_T} {hh : Nat → Option sh_T} {M : mo_T} (h : Rl X hh M) (p q u v : Int32) {F : Nat} (hF : 100 ≤ F) : ∃ r X' M', s_X3_boxed F X hh p q u v = some (r, X') ∧ s_X4_boxed F M p q u v = some (r, M') ∧ Rl X' hh M' := by
  obtain ⟨⟨c, hc, en, em', ek⟩, b2, b3, b4⟩ := h
  have hR : Rl (pt_m X 0) hh (ms_m M 0) := ⟨⟨c, hc, en, em', ek⟩, b2, b3, 0, by omega, rfl, rfl, fun j hj => absurd hj (by omega)⟩
  have emp : u < p ∨ v < q → s_X4_boxed F M p q u v = some (0, ms_t (ms_m M 0) 0) := by
    intro e
    unfold s_X4_boxed
    obtain ⟨F', rfl⟩ : ∃ m, F = m + 1 := ⟨F - 1, by omega⟩
    rw [s_X4_boxed_13]
    by_cases z : mo_n (ms_t (ms_m M 0) 0) ≤ 0
    · rw [if_pos z]
    · rw [if_neg z]
      by_cases w : u < p
      · rw [if_pos w]
      · rw [if_neg w, if_pos (e.resolve_left w)]
  unfold s_X3_boxed
  by_cases h1 : u < p
  · rw [if_pos h1, emp (Or.inl h1)]
    exact ⟨_, _, _, rfl, rfl, hR⟩
  · rw [if_neg h1]
    by_cases h2 : v < q
    · rw [if_neg (Int32.not_le.mpr h2), emp (Or.inr h2)]
      exact ⟨_, _, _, rfl, rfl, hR⟩
    · rw [if_pos (Int32.not_lt.mp h2)]
      have := bx_l (X := X) (M := M) p q u v h1 h2 hF c 0 c 0 F (pt_m X 0) (ms_m M 0) (by omega) (by omega) hc hR en em' rfl rfl (by omega)
      rw [nI_0] at this
      exact this
