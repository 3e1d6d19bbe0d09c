-- a place against a polygon
abbrev On (G : pg_T) (i : Nat) (x y : Int) : Prop := on (g_x G i) (g_y G i) (g_x G (wp (g_n G) i)) (g_y G (wp (g_n G) i)) x y
def Cx (G : pg_T) (i : Nat) (x y : Int) : Prop := (g_y G i ≤ y ∧ y < g_y G (wp (g_n G) i) ∧ 0 < Tr G i x y) ∨ (g_y G (wp (g_n G) i) ≤ y ∧ y < g_y G i ∧ Tr G i x y < 0)
noncomputable def stn (G : pg_T) (x y : Int) : Nat → Nat → Prop → Int32
  | 0, _, p => bI p
  | d + 1, i, p => @ite Int32 (On G i x y) (Classical.propDecidable _) 2 (stn G x y d (i + 1) (¬ (p ↔ Cx G i x y)))
noncomputable def St (G : pg_T) (x y : Int) : Int32 := stn G x y (g_n G) 0 False
theorem stn_t {G : pg_T} {x y : Int} {d i : Nat} {p : Prop} (h : On G i x y) : stn G x y (d + 1) i p = 2 := if_pos h
theorem stn_f {G : pg_T} {x y : Int} {d i : Nat} {p : Prop} (h : ¬ On G i x y) : stn G x y (d + 1) i p = stn G x y d (i + 1) (¬ (p ↔ Cx G i x y)) := if_neg h
theorem stn_c {G : pg_T} {x y : Int} {d i : Nat} {p q : Prop} (h : p ↔ q) : stn G x y d i p = stn G x y d i q := by rw [propext h]
theorem ov_bt {a b v : Int} : ov a b v v ↔ bt a b v := by unfold ov bt; omega
theorem x2_167 {S : sh_T} {F : Nat} {p1 p2 : Int32} {kc : Int32 → Int32 → Option Int32} {p : Prop} {i : Nat} : s_X2_whereIs_167 F S p1 p2 kc (bI p) (nI i) = kc (bI (¬ p)) (nI (i + 1)) := by
  unfold s_X2_whereIs_167
  by_cases h : p
  · rw [if_n bI_0 (fun q => q h), bd_some, nI_1, bI_f (fun q => q h)]
  · rw [if_p bI_0 h, bd_some, nI_1, bI_t h]
theorem x2_81 {S : sh_T} {G : pg_T} (hG : G_ok G) (h : sv S G) {i : Nat} (hi : i < g_n G) {x y : Int} (hx : B_ok x) (hy : B_ok y) (F : Nat) (kc : Int32 → Int32 → Option Int32) (p : Prop) : s_X2_whereIs_81 F S (iI x) (iI y) kc (bI p) (nI i) (lI (Tr G i x y)) = kc (bI (¬ (p ↔ Cx G i x y))) (nI (i + 1)) := by
  have b1 := hG.2.2.2 i hi
  have b2 := hG.2.2.2 _ (wp_lt hi)
  have hT := L_8 (Tr_bd hG hi hx hy)
  have c1 : (iI y < iI (g_y G i)) ↔ y < g_y G i := iI_lt (I_B hy) (I_B b1.2)
  have c2 : (iI (g_y G (wp (g_n G) i)) ≤ iI y) ↔ g_y G (wp (g_n G) i) ≤ y := iI_le (I_B b2.2) (I_B hy)
  have c3 : (iI y < iI (g_y G (wp (g_n G) i))) ↔ y < g_y G (wp (g_n G) i) := iI_lt (I_B hy) (I_B b2.2)
  have c4 : (iI (g_y G i) ≤ iI y) ↔ g_y G i ≤ y := iI_le (I_B b1.2) (I_B hy)
  have keep : ¬ Cx G i x y → kc (bI p) (nI i + 1) = kc (bI (¬ (p ↔ Cx G i x y))) (nI (i + 1)) := by
    intro hc
    rw [nI_1, bI_c (show p ↔ ¬ (p ↔ Cx G i x y) by
      constructor
      · intro hp q; exact hc (q.mp hp)
      · intro q
        exact Classical.byContradiction (fun hp => q ⟨fun a => absurd a hp, fun a => absurd a hc⟩))]
  have flip : Cx G i x y → kc (bI (¬ p)) (nI (i + 1)) = kc (bI (¬ (p ↔ Cx G i x y))) (nI (i + 1)) := by
    intro hc
    rw [bI_c (show ¬ p ↔ ¬ (p ↔ Cx G i x y) by
      constructor
      · intro hp q; exact hp (q.mpr hc)
      · intro q hp; exact q ⟨fun _ => hc, fun _ => hp⟩)]
  have e155 : ∀ (t : Int32), (t = 0 → ¬ (g_y G (wp (g_n G) i) ≤ y ∧ y < g_y G i)) → (¬ t = 0 → (g_y G (wp (g_n G) i) ≤ y ∧ y < g_y G i)) → ¬ (g_y G i ≤ y ∧ y < g_y G (wp (g_n G) i) ∧ 0 < Tr G i x y) → s_X2_whereIs_155 F S (iI x) (iI y) kc (bI p) (nI i) (lI (Tr G i x y)) t = kc (bI (¬ (p ↔ Cx G i x y))) (nI (i + 1)) := by
    intro t t0 t1 hr
    unfold s_X2_whereIs_155
    by_cases ht : t = 0
    · rw [if_pos ht, bd_some]
      exact keep (fun q => q.elim hr (fun q => t0 ht ⟨q.1, q.2.1⟩))
    · rw [if_neg ht]
      by_cases hz : 0 ≤ Tr G i x y
      · rw [if_p (cp_ge hT) hz, bd_some]
        exact keep (fun q => q.elim hr (fun q => absurd q.2.2 (Int.not_lt.mpr hz)))
      · rw [if_n (cp_ge hT) hz, x2_167]
        exact flip (Or.inr ⟨(t1 ht).1, (t1 ht).2, Int.not_le.mp hz⟩)
  have e110 : ∀ (t : Int32), (t = 0 → ¬ (g_y G i ≤ y ∧ y < g_y G (wp (g_n G) i))) → (¬ t = 0 → (g_y G i ≤ y ∧ y < g_y G (wp (g_n G) i))) → s_X2_whereIs_110 F S (iI x) (iI y) kc (bI p) (nI i) (lI (Tr G i x y)) t = kc (bI (¬ (p ↔ Cx G i x y))) (nI (i + 1)) := by
    intro t t0 t1
    have e141 : ∀ (t' : Int32), (t' = 0 → ¬ (g_y G (wp (g_n G) i) ≤ y ∧ y < g_y G i)) → (¬ t' = 0 → (g_y G (wp (g_n G) i) ≤ y ∧ y < g_y G i)) → s_X2_whereIs_141 F S (iI x) (iI y) kc (bI p) (nI i) (lI (Tr G i x y)) t t' = kc (bI (¬ (p ↔ Cx G i x y))) (nI (i + 1)) := by
      intro t' u0 u1
      unfold s_X2_whereIs_141
      by_cases ht : t = 0
      · rw [if_pos ht]
        exact e155 t' u0 u1 (fun q => t0 ht ⟨q.1, q.2.1⟩)
      · rw [if_neg ht]
        by_cases hz : 0 < Tr G i x y
        · rw [if_p (cp_gt hT) hz, x2_167]
          exact flip (Or.inl ⟨(t1 ht).1, (t1 ht).2, hz⟩)
        · rw [if_n (cp_gt hT) hz]
          exact e155 t' u0 u1 (fun q => hz q.2.2)
    unfold s_X2_whereIs_110
    rw [sv_y1 h hi, bd_some]
    by_cases q1 : y < g_y G (wp (g_n G) i)
    · rw [if_p c3 q1]
      exact e141 0 (fun _ q => by omega) (fun q => absurd rfl q)
    · rw [if_n c3 q1, sv_y h hi, bd_some]
      by_cases q2 : g_y G i ≤ y
      · rw [if_p c4 q2]
        exact e141 0 (fun _ q => by omega) (fun q => absurd rfl q)
      · rw [if_n c4 q2]
        exact e141 1 (fun q => absurd q (by decide)) (fun _ => ⟨by omega, by omega⟩)
  unfold s_X2_whereIs_81
  rw [sv_y h hi, bd_some]
  by_cases q1 : y < g_y G i
  · rw [if_p c1 q1]
    exact e110 0 (fun _ q => by omega) (fun q => absurd rfl q)
  · rw [if_n c1 q1, sv_y1 h hi, bd_some]
    by_cases q2 : g_y G (wp (g_n G) i) ≤ y
    · rw [if_p c2 q2]
      exact e110 0 (fun _ q => by omega) (fun q => absurd rfl q)
    · rw [if_n c2 q2]
      exact e110 1 (fun q => absurd q (by decide)) (fun _ => ⟨by omega, by omega⟩)
theorem x2_wh {S : sh_T} {G : pg_T} (hG : G_ok G) (h : sv S G) {x y : Int} (hx : B_ok x) (hy : B_ok y) (F : Nat) : ∀ (d i N : Nat) (p : Prop), i + d = g_n G → d < N → s_X2_whereIs_5 F S (iI x) (iI y) N (bI p) (nI i) = some (stn G x y d i p) := by
  have h24 := hG.2.1
  intro d
  induction d with
  | zero =>
    intro i N p hid hN
    obtain ⟨N, rfl⟩ : ∃ m, N = m + 1 := ⟨N - 1, by omega⟩
    rw [s_X2_whereIs_5, h.2.1, if_pos (nI_le (by omega) (by omega))]
    show _ = some (bI p)
    by_cases hp : p
    · rw [if_n bI_0 (fun q => q hp), bI_t hp]
    · rw [if_p bI_0 hp, bI_f hp]
  | succ d ih =>
    intro i N p hid hN
    obtain ⟨N, rfl⟩ : ∃ m, N = m + 1 := ⟨N - 1, by omega⟩
    have hi : i < g_n G := by omega
    have b1 := hG.2.2.2 i hi
    have b2 := hG.2.2.2 _ (wp_lt hi)
    have hT := L_8 (Tr_bd hG hi hx hy)
    have go : ¬ On G i x y → s_X2_whereIs_81 F S (iI x) (iI y) (fun y0 y1 => s_X2_whereIs_5 F S (iI x) (iI y) N y0 y1) (bI p) (nI i) (lI (Tr G i x y)) = some (stn G x y (d + 1) i p) := by
      intro ho
      rw [x2_81 hG h hi hx hy, stn_f ho]
      exact ih (i + 1) N _ (by omega) (by omega)
    rw [s_X2_whereIs_5, h.2.1, if_neg (nI_ge hi (by omega)), x2_turn hG h hi hx hy, bd_some]
    by_cases q0 : Tr G i x y = 0
    · rw [if_p (cp_eq hT) q0, sv_x h hi, bd_some, sv_x1 h hi, bd_some, x2_overlap b1.1 b2.1 hx hx, bd_some]
      by_cases q1 : ov (g_x G i) (g_x G (wp (g_n G) i)) x x
      · rw [if_n bI_0 (fun q => q q1), sv_y h hi, bd_some, sv_y1 h hi, bd_some, x2_overlap b1.2 b2.2 hy hy, bd_some]
        by_cases q2 : ov (g_y G i) (g_y G (wp (g_n G) i)) y y
        · rw [if_n bI_0 (fun q => q q2), stn_t ⟨q0, ov_bt.mp q1, ov_bt.mp q2⟩]
        · rw [if_p bI_0 q2]
          exact go (fun q => q2 (ov_bt.mpr q.2.2))
      · rw [if_p bI_0 q1]
        exact go (fun q => q1 (ov_bt.mpr q.2.1))
    · rw [if_n (cp_eq hT) q0]
      exact go (fun q => q0 q.1)
theorem x2_whereIs {S : sh_T} {G : pg_T} (hG : G_ok G) (h : sv S G) {x y : Int} (hx : B_ok x) (hy : B_ok y) {F : Nat} (hF : 100 ≤ F) : s_X2_whereIs F S (iI x) (iI y) = some (St G x y) := by
  have h24 := hG.2.1
  have := x2_wh hG h hx hy F (g_n G) 0 F False (by omega) (by omega)
  rw [nI_0, bI_f id] at this
  exact this
theorem sg_le {z : Int} : (iI (sg z) ≤ 0) ↔ z ≤ 0 := by
  rw [i0, iI_le (sg_I z) ⟨by omega, by omega⟩]
  unfold sg; split <;> (try split) <;> omega
theorem x4_157 {M : mo_T} {a b : Nat} {ax ay bx by' x y : Int} (ha : mp M a ax ay) (hb : mp M b bx by') (hx : B_ok x) (hy : B_ok y) (F : Nat) (p3 : Int32) (kc : Int32 → Int32 → Option Int32) (p : Prop) (i : Nat) : s_X4_stands_157 F M (lI x) (lI y) p3 kc (bI p) (nI i) (nI a) (nI b) = kc (bI (¬ (p ↔ 0 < cr ax ay bx by' x y))) (nI (i + 1)) := by
  unfold s_X4_stands_157
  rw [mp_x ha, bd_some, mp_y ha, bd_some, mp_x hb, bd_some, mp_y hb, bd_some]
  obtain ⟨-, -, -, a1, a2⟩ := ha
  obtain ⟨-, -, -, b1, b2⟩ := hb
  rw [x4_hand a1 a2 b1 b2 hx hy, bd_some]
  by_cases hc : cr ax ay bx by' x y ≤ 0
  · rw [if_p sg_le hc, bd_some, nI_1, bI_c (show p ↔ ¬ (p ↔ 0 < cr ax ay bx by' x y) by
      constructor
      · intro hp q; exact absurd (q.mp hp) (Int.not_lt.mpr hc)
      · intro q
        exact Classical.byContradiction (fun hp => q ⟨fun a => absurd a hp, fun a => absurd a (Int.not_lt.mpr hc)⟩))]
  · rw [if_n sg_le hc]
    have hc : 0 < cr ax ay bx by' x y := Int.not_le.mp hc
    have e : bI (¬ (p ↔ 0 < cr ax ay bx by' x y)) = bI (¬ p) := bI_c ⟨fun q hp => q ⟨fun _ => hc, fun _ => hp⟩, fun hp q => hp (q.mpr hc)⟩
    rw [e]
    by_cases h : p
    · rw [if_n bI_0 (fun q => q h), bd_some, nI_1, bI_f (fun q => q h)]
    · rw [if_p bI_0 h, bd_some, nI_1, bI_t h]
theorem x4_st {M : mo_T} {k : Nat} {G : pg_T} (hG : G_ok G) (h : mv M k G) {x y : Int} (hx : B_ok x) (hy : B_ok y) (F : Nat) : ∀ (d i N : Nat) (p : Prop), i + d = g_n G → d < N → s_X4_stands_6 F M (lI x) (lI y) (nI k) N (bI p) (nI i) = some (stn G x y d i p) := by
  have h24 := hG.2.1
  have hk60 := h.1
  intro d
  induction d with
  | zero =>
    intro i N p hid hN
    obtain ⟨N, rfl⟩ : ∃ m, N = m + 1 := ⟨N - 1, by omega⟩
    rw [s_X4_stands_6, mv_c h, bd_some, if_pos (nI_le (by omega) (by omega))]
    show _ = some (bI p)
    by_cases hp : p
    · rw [if_n bI_0 (fun q => q hp), bI_t hp]
    · rw [if_p bI_0 hp, bI_f hp]
  | succ d ih =>
    intro i N p hid hN
    obtain ⟨N, rfl⟩ : ∃ m, N = m + 1 := ⟨N - 1, by omega⟩
    have hi : i < g_n G := by omega
    have w1 := wp_lt hi
    have b1 := hG.2.2.2 i hi
    have b2 := hG.2.2.2 _ w1
    have pi := mv_p hG h hi
    have pi1 := mv_p hG h w1
    rw [s_X4_stands_6, mv_c h, bd_some, if_neg (nI_ge hi (by omega)), x4_from, bd_some, x4_to hG h hi, bd_some, mp_x pi, bd_some, mp_y pi, bd_some, mp_x pi1, bd_some, mp_y pi1, bd_some, x4_isOn b1.1 b1.2 b2.1 b2.2 hx hy, bd_some]
    by_cases ho : On G i x y
    · rw [if_n bI_0 (fun q => q ho), stn_t ho]
    · rw [if_p bI_0 ho, bd_some, stn_f ho]
      have e110 : ∀ (ta tb : Int32), (ta = tb ↔ (y < g_y G i ↔ y < g_y G (wp (g_n G) i))) → s_X4_stands_110 F M (lI x) (lI y) (nI k) (fun y0 y1 => s_X4_stands_6 F M (lI x) (lI y) (nI k) N y0 y1) (bI p) (nI i) (nI (24 * k + i)) (nI (24 * k + wp (g_n G) i)) tb ta = some (stn G x y d (i + 1) (¬ (p ↔ Cx G i x y))) := by
        intro ta tb ht
        unfold s_X4_stands_110
        by_cases hs : (y < g_y G i ↔ y < g_y G (wp (g_n G) i))
        · rw [if_p ht hs, bd_some, nI_1]
          have hc : ¬ Cx G i x y := by
            rintro (q | q)
            · have := hs.mpr q.2.1; omega
            · have := hs.mp q.2.1; omega
          rw [stn_c (show (¬ (p ↔ Cx G i x y)) ↔ p by
            constructor
            · intro q
              exact Classical.byContradiction (fun hp => q ⟨fun a => absurd a hp, fun a => absurd a hc⟩)
            · intro hp q; exact hc (q.mp hp))]
          exact ih (i + 1) N p (by omega) (by omega)
        · rw [if_n ht hs, mp_y pi, bd_some, mp_y pi1, bd_some]
          by_cases hab : g_y G (wp (g_n G) i) ≤ g_y G i
          · rw [if_p (cn_ge (L_B b1.2) (L_B b2.2)) hab]
            unfold s_X4_stands_141
            have hne : ¬ nI (24 * k + wp (g_n G) i) = nI (24 * k + i) := by
              rw [nI_eq (by omega) (by omega)]
              intro q
              have q2 : wp (g_n G) i = i := by omega
              rw [q2] at hs
              exact hs Iff.rfl
            rw [if_neg hne, x4_157 pi1 pi hx hy]
            rw [stn_c (show (¬ (p ↔ Cx G i x y)) ↔ ¬ (p ↔ 0 < cr (g_x G (wp (g_n G) i)) (g_y G (wp (g_n G) i)) (g_x G i) (g_y G i) x y) by
              have e : Cx G i x y ↔ 0 < cr (g_x G (wp (g_n G) i)) (g_y G (wp (g_n G) i)) (g_x G i) (g_y G i) x y := by
                rw [cr_swap]
                unfold Cx
                constructor
                · rintro (q | q)
                  · exfalso; omega
                  · have q3 : cr (g_x G i) (g_y G i) (g_x G (wp (g_n G) i)) (g_y G (wp (g_n G) i)) x y < 0 := q.2.2
                    omega
                · intro q
                  right
                  refine ⟨?_, ?_, by have : 0 < - Tr G i x y := q; omega⟩ <;> omega
              rw [e])]
            exact ih (i + 1) N _ (by omega) (by omega)
          · rw [if_n (cn_ge (L_B b1.2) (L_B b2.2)) hab]
            unfold s_X4_stands_141
            rw [if_pos rfl, x4_157 pi pi1 hx hy]
            rw [stn_c (show (¬ (p ↔ Cx G i x y)) ↔ ¬ (p ↔ 0 < cr (g_x G i) (g_y G i) (g_x G (wp (g_n G) i)) (g_y G (wp (g_n G) i)) x y) by
              have e : Cx G i x y ↔ 0 < cr (g_x G i) (g_y G i) (g_x G (wp (g_n G) i)) (g_y G (wp (g_n G) i)) x y := by
                unfold Cx
                constructor
                · rintro (q | q)
                  · exact q.2.2
                  · exfalso; omega
                · intro q
                  left
                  refine ⟨?_, ?_, q⟩ <;> omega
              rw [e])]
            exact ih (i + 1) N _ (by omega) (by omega)
      have e93 : ∀ (ta : Int32), (ta = 0 ∧ ¬ y < g_y G i) ∨ (ta = 1 ∧ y < g_y G i) → s_X4_stands_93 F M (lI x) (lI y) (nI k) (fun y0 y1 => s_X4_stands_6 F M (lI x) (lI y) (nI k) N y0 y1) (bI p) (nI i) (nI (24 * k + i)) (nI (24 * k + wp (g_n G) i)) ta = some (stn G x y d (i + 1) (¬ (p ↔ Cx G i x y))) := by
        intro ta hta
        unfold s_X4_stands_93
        rw [mp_y pi1, bd_some]
        by_cases q : g_y G (wp (g_n G) i) ≤ y
        · rw [if_p (cn_le (L_B b2.2) (L_B hy)) q]
          refine e110 ta 0 ?_
          rcases hta with ⟨rfl, q1⟩ | ⟨rfl, q1⟩
          · exact ⟨fun _ => ⟨fun a => absurd a q1, fun a => by omega⟩, fun _ => rfl⟩
          · exact ⟨fun a => absurd a (by decide), fun a => absurd (a.mp q1) (by omega)⟩
        · rw [if_n (cn_le (L_B b2.2) (L_B hy)) q]
          refine e110 ta 1 ?_
          rcases hta with ⟨rfl, q1⟩ | ⟨rfl, q1⟩
          · exact ⟨fun a => absurd a (by decide), fun a => absurd (a.mpr (by omega)) q1⟩
          · exact ⟨fun _ => ⟨fun _ => by omega, fun _ => q1⟩, fun _ => rfl⟩
      by_cases q : g_y G i ≤ y
      · rw [if_p (cn_le (L_B b1.2) (L_B hy)) q]
        exact e93 0 (Or.inl ⟨rfl, by omega⟩)
      · rw [if_n (cn_le (L_B b1.2) (L_B hy)) q]
        exact e93 1 (Or.inr ⟨rfl, by omega⟩)
theorem x4_stands {M : mo_T} {k : Nat} {G : pg_T} (hG : G_ok G) (h : mv M k G) {x y : Int} (hx : B_ok x) (hy : B_ok y) {F : Nat} (hF : 100 ≤ F) : s_X4_stands F M (lI x) (lI y) (nI k) = some (St G x y) := by
  have h24 := hG.2.1
  have := x4_st hG h hx hy F (g_n G) 0 F False (by omega) (by omega)
  rw [nI_0, bI_f id] at this
  exact this
