-- near: the model's choice
theorem rtM {hh : Nat → Option sh_T} {Z : mo_T} {c : Nat} {Gf : Nat → pg_T} {P : Nat → Prop} (h : Nr hh Z c Gf P) (hc : c ≤ 60) (hn : mo_n Z = nI c) {k : Nat} (hk : k < c) {F : Nat} (hF : 100 ≤ F) : (¬ P k ∧ s_X4_isRight F (ms_t Z 0) (nI k) = some (0, ms_t Z 0)) ∨ (P k ∧ R_ok (Gf k) ∧ mv Z k (Gf k) ∧ s_X4_isRight F (ms_t Z 0) (nI k) = some (1, ms_t Z 0)) := by
  rcases h k hk with ⟨e1, e2, e3⟩ | ⟨S, e1, e2, e3, e4, e5⟩
  · refine Or.inl ⟨e3, ?_⟩
    unfold s_X4_isRight
    have : s_X4_isShape F (ms_t Z 0) (nI k) = some 0 := by
      unfold s_X4_isShape
      show (if nI k < 0 then some 0 else if mo_n Z ≤ nI k then some 0 else Option.bind (rd_i 60 (mo_k Z) (nI k)) _) = _
      rw [if_neg (nI_pos (by omega)), hn, if_neg (nI_ge hk (by omega)), rd_ok (by omega) (by omega), bd_some, e2, if_pos rfl]
    rw [this, bd_some, if_pos rfl]
  · have e := x4_isRight (M := ms_t Z 0) e2.1 (⟨e3, ⟨c, hc, hn, hk⟩, e4⟩ : ms Z k (Gf k)) hF
    by_cases q : vd (Gf k) = 1
    · refine Or.inr ⟨e5.mpr q, vd_R e2.1 q, e3, ?_⟩
      rw [e, bI_t q]
    · refine Or.inl ⟨fun z => q (e5.mp z), ?_⟩
      rw [e, bI_f q]
def Kq (P : Nat → Prop) (K : Nat → q_T) (i : Nat) (Z : mo_T) : Prop := ∀ a, a < i → P a → mo_p Z a = lN (K a).1 ∧ mo_q Z a = lN (K a).2
def Tk (Q : Nat → Prop) (i : Nat) (Z : mo_T) : Prop := ∀ a, a < i → mo_b Z a = bI (Q a)
theorem Nr_km {hh : Nat → Option sh_T} {M Z : mo_T} {c : Nat} {Gf : Nat → pg_T} {P : Nat → Prop} (h : Nr hh M c Gf P) (k : Km M Z) : Nr hh Z c Gf P := by
  obtain ⟨k1, k2, k3, k4, k5, k6, k7, k8, k9⟩ := k
  unfold Nr mv at *
  rw [k1, k2, k3, k4]
  exact h
theorem vn1 : vp_nar .boolean 1 = 1 := by decide +kernel
theorem vn0 : vp_nar .boolean 0 = 0 := by decide +kernel
theorem x4_n22 {hh : Nat → Option sh_T} {M M0 : mo_T} {c : Nat} {Gf : Nat → pg_T} {P : Nat → Prop} (h : Nr hh M0 c Gf P) (hc : c ≤ 60) (hn : mo_n M0 = nI c) {x y : Int} (hx : B_ok x) (hy : B_ok y) (p3 : Int32) {F : Nat} (hF : 100 ≤ F) : ∀ (d i N : Nat) (Z : mo_T), i + d = c → d < N → Km M0 Z → Kq P (fun a => mT (Gf a) x y) i Z → Tk (fun a => ¬ P a) i Z → ∃ Z', Km M0 Z' ∧ Kq P (fun a => mT (Gf a) x y) c Z' ∧ Tk (fun a => ¬ P a) c Z' ∧ s_X4_near_22 F M (iI x) (iI y) p3 N (nI i) (ms_t Z 0) = s_X4_near_107 F M (iI x) (iI y) p3 F (-1) 0 (ms_t Z' 0) := by
  intro d
  induction d with
  | zero =>
    intro i N Z hid hN hZ hK hT
    obtain ⟨N, rfl⟩ : ∃ m, N = m + 1 := ⟨N - 1, by omega⟩
    have hi : i = c := by omega
    subst hi
    refine ⟨Z, hZ, hK, hT, ?_⟩
    rw [s_X4_near_22]
    show (if mo_n Z ≤ nI i then _ else _) = _
    rw [hZ.2.2.2.2.1, hn, if_pos (nI_le (by omega) (by omega))]
  | succ d ih =>
    intro i N Z hid hN hZ hK hT
    obtain ⟨N, rfl⟩ : ∃ m, N = m + 1 := ⟨N - 1, by omega⟩
    have hi : i < c := by omega
    have hNr := Nr_km h hZ
    have hnZ : mo_n Z = nI c := hZ.2.2.2.2.1.trans hn
    have st : ∀ o, (Option.bind (s_X4_isRight F (ms_t Z 0) (nI i)) fun v_40 => if v_40.1 = 0 then s_X4_near_51 F M (iI x) (iI y) p3 (fun y0 y1 => s_X4_near_22 F M (iI x) (iI y) p3 N y0 y1) (nI i) 1 (nI i) v_40.2 else s_X4_near_51 F M (iI x) (iI y) p3 (fun y0 y1 => s_X4_near_22 F M (iI x) (iI y) p3 N y0 y1) (nI i) 0 (nI i) v_40.2) = o → s_X4_near_22 F M (iI x) (iI y) p3 (N + 1) (nI i) (ms_t Z 0) = o := by
      intro o e
      rw [s_X4_near_22]
      show (if mo_n Z ≤ nI i then _ else _) = _
      rw [hnZ, if_neg (nI_ge hi (by omega))]
      exact e
    have up_T : ∀ q : Prop, (q ↔ ¬ P i) → ∀ a, a < i + 1 → upd (mo_b Z) i (bI q) a = bI (¬ P a) := by
      intro q hq a ha
      rcases (show a < i ∨ a = i by omega) with z | z
      · rw [up_n _ _ (by omega)]; exact hT a z
      · rw [z, up_s]; exact bI_c hq
    rcases rtM hNr hc hnZ hi hF with ⟨k1, k2⟩ | ⟨k1, kR, k2, k3⟩
    · obtain ⟨Z', w1, w2, w3, w4⟩ := ih (i + 1) N (ms_b Z (upd (mo_b Z) i (bI True))) (by omega) (by omega) hZ (fun a ha pa => by
        rcases (show a < i ∨ a = i by omega) with z | z
        · exact hK a z pa
        · subst z; exact absurd pa k1) (up_T True ⟨fun _ => k1, fun _ => trivial⟩)
      refine ⟨Z', w1, w2, w3, st _ ?_⟩
      rw [k2, bd_some, if_pos rfl]
      unfold s_X4_near_51
      rw [wr_okk (by omega) (by omega), bd_some, nI_clamp (by omega), vn1, rd_ok (by omega) (by omega), bd_some, up_s, if_neg n10, bd_some, nI_1]
      rw [bI_t trivial] at w4
      exact w4
    · obtain ⟨Z', w1, w2, w3, w4⟩ := ih (i + 1) N (ms_q (ms_p (sq (ms_b Z (upd (mo_b Z) i (bI False))) (mT (Gf i) x y)) (vp_updL (mo_p Z) i (lN (mT (Gf i) x y).1))) (vp_updL (mo_q Z) i (lN (mT (Gf i) x y).2))) (by omega) (by omega) hZ (fun a ha pa => by
        show vp_updL (mo_p Z) i _ a = _ ∧ vp_updL (mo_q Z) i _ a = _
        rcases (show a < i ∨ a = i by omega) with z | z
        · rw [ul_n _ _ (by omega), ul_n _ _ (by omega)]; exact hK a z pa
        · subst z; rw [ul_s, ul_s]; exact ⟨rfl, rfl⟩) (up_T False ⟨fun z => z.elim, fun z => z k1⟩)
      refine ⟨Z', w1, w2, w3, st _ ?_⟩
      rw [k3, bd_some, if_neg n10]
      unfold s_X4_near_51
      rw [wr_okk (by omega) (by omega), bd_some, nI_clamp (by omega), vn0, rd_ok (by omega) (by omega), bd_some, up_s, if_pos rfl, x4_toPlace (M := ms_b (ms_t Z 0) (upd (mo_b Z) i 0)) kR k2 hx hy hF, bd_some, bd_some, bd_some, bd_some, nI_1]
      rw [bI_f (fun z => z)] at w4
      exact w4
theorem lq_le {s t u : q_T} (h : lq s t) (k : Le t u) (hu : 0 < u.2) : lq s u := by
  unfold lq Le at *
  have h1 : s.1 * t.2 * u.2 < t.1 * s.2 * u.2 := Nat.mul_lt_mul_of_pos_right h hu
  have h2 : t.1 * u.2 * s.2 ≤ u.1 * t.2 * s.2 := Nat.mul_le_mul_right _ k
  have e1 : s.1 * t.2 * u.2 = s.1 * u.2 * t.2 := Nat.mul_right_comm _ _ _
  have e2 : t.1 * s.2 * u.2 = t.1 * u.2 * s.2 := Nat.mul_right_comm _ _ _
  have e3 : u.1 * t.2 * s.2 = u.1 * s.2 * t.2 := Nat.mul_right_comm _ _ _
  exact Nat.lt_of_mul_lt_mul_right (a := t.2) (by omega)
/-- the first of the least -/
def bs (U : Nat → Prop) (K : Nat → q_T) (j b : Nat) : Prop := b < j ∧ U b ∧ ∀ a, a < j → U a → ¬ lq (K a) (K b) ∧ (a < b → lq (K b) (K a))
theorem x4_n119 {U P : Nat → Prop} {K : Nat → q_T} {c : Nat} (hc : c ≤ 60) {Z : mo_T} (hn : mo_n Z = nI c) (hU : ∀ a, a < c → U a → P a) (hK : Kq P K c Z) (hT : Tk (fun a => ¬ U a) c Z) (hQ : ∀ a, a < c → P a → Qs (K a)) {F : Nat} (hF : 100 ≤ F) (M : mo_T) (p1 p2 p3 x5 : Int32) (kc : Int32 → Int32 → mo_T → Option (Int32 × mo_T)) : ∀ (d j N : Nat) (x4 : Int32), j + d = c → d < N → ((x4 = -1 ∧ ∀ a, a < j → ¬ U a) ∨ ∃ b, x4 = nI b ∧ bs U K j b) → ((∀ a, a < c → ¬ U a) ∧ s_X4_near_119 F M p1 p2 p3 kc N x4 x5 (nI j) Z = some (-1, Z)) ∨ ∃ b, bs U K c b ∧ s_X4_near_119 F M p1 p2 p3 kc N x4 x5 (nI j) Z = kc (nI b) (x5 + 1) (ms_b Z (upd (mo_b Z) b 1)) := by
  intro d
  induction d with
  | zero =>
    intro j N x4 hjd hN hx
    obtain ⟨N, rfl⟩ : ∃ m, N = m + 1 := ⟨N - 1, by omega⟩
    have hj : j = c := by omega
    subst hj
    rw [s_X4_near_119, hn, if_pos (nI_le (by omega) (by omega))]
    rcases hx with ⟨rfl, h2⟩ | ⟨b, rfl, h2⟩
    · refine Or.inl ⟨h2, ?_⟩
      rw [if_neg (by decide)]
    · refine Or.inr ⟨b, h2, ?_⟩
      have := h2.1
      rw [if_pos (nI_pos' (by omega)), wr_okk (by omega) (by omega), bd_some, bd_some, nI_clamp (by omega)]
  | succ d ih =>
    intro j N x4 hjd hN hx
    obtain ⟨N, rfl⟩ : ∃ m, N = m + 1 := ⟨N - 1, by omega⟩
    have hj : j < c := by omega
    have step : ∀ w, ((w = -1 ∧ ∀ a, a < j + 1 → ¬ U a) ∨ ∃ b, w = nI b ∧ bs U K (j + 1) b) → s_X4_near_119 F M p1 p2 p3 kc (N + 1) x4 x5 (nI j) Z = s_X4_near_119 F M p1 p2 p3 kc N w x5 (nI j + 1) Z → ((∀ a, a < c → ¬ U a) ∧ s_X4_near_119 F M p1 p2 p3 kc (N + 1) x4 x5 (nI j) Z = some (-1, Z)) ∨ ∃ b, bs U K c b ∧ s_X4_near_119 F M p1 p2 p3 kc (N + 1) x4 x5 (nI j) Z = kc (nI b) (x5 + 1) (ms_b Z (upd (mo_b Z) b 1)) := by
      intro w h1 h2
      rw [h2, nI_1]
      exact ih (j + 1) N w (by omega) (by omega) h1
    have rb : rd_i 60 (mo_b Z) (nI j) = some (bI (¬ U j)) := by rw [rd_ok (by omega) (by omega), hT j hj]
    by_cases u : U j
    · have pj := hU j hj u
      have qj := hQ j hj pj
      rcases hx with ⟨rfl, h2⟩ | ⟨b, rfl, h2⟩
      · refine step (nI j) (Or.inr ⟨j, rfl, by omega, u, fun a ha ua => ?_⟩) ?_
        · rcases (show a < j ∨ a = j by omega) with z | z
          · exact absurd ua (h2 a z)
          · subst z; exact ⟨Nat.lt_irrefl _, fun w => absurd w (by omega)⟩
        · rw [s_X4_near_119, hn, if_neg (nI_ge hj (by omega)), rb, bd_some, if_p bI_0 (fun z => z u), if_pos (by decide), bd_some]
      · obtain ⟨b1, b2, b3⟩ := h2
        have pb := hU b (by omega) b2
        have qb := hQ b (by omega) pb
        have ex : s_X4_near_119 F M p1 p2 p3 kc (N + 1) (nI b) x5 (nI j) Z = if bI (lq (K j) (K b)) = 0 then s_X4_near_119 F M p1 p2 p3 kc N (nI b) x5 (nI j + 1) Z else s_X4_near_119 F M p1 p2 p3 kc N (nI j) x5 (nI j + 1) Z := by
          rw [s_X4_near_119, hn, if_neg (nI_ge hj (by omega)), rb, bd_some, if_p bI_0 (fun z => z u), if_neg (nI_pos (by omega)), rl_ok (by omega) (by omega), bd_some, rl_ok (by omega) (by omega), bd_some, rl_ok (by omega) (by omega), bd_some, rl_ok (by omega) (by omega), bd_some, (hK j hj pj).1, (hK j hj pj).2, (hK b (by omega) pb).1, (hK b (by omega) pb).2, x4_isLess qj qb hF, bd_some]
          rfl
        by_cases w : lq (K j) (K b)
        · refine step (nI j) (Or.inr ⟨j, rfl, by omega, u, fun a ha ua => ?_⟩) (by rw [ex, if_n bI_0 (fun z => z w)])
          rcases (show a < j ∨ a = j by omega) with z | z
          · have l1 := b3 a z ua
            have l2 := lq_le w (nlq.mp l1.1) (hQ a (by omega) (hU a (by omega) ua)).2.1
            exact ⟨nlq.mpr (Nat.le_of_lt l2), fun _ => l2⟩
          · subst z; exact ⟨Nat.lt_irrefl _, fun w => absurd w (by omega)⟩
        · refine step (nI b) (Or.inr ⟨b, rfl, by omega, b2, fun a ha ua => ?_⟩) (by rw [ex, if_p bI_0 w])
          rcases (show a < j ∨ a = j by omega) with z | z
          · exact b3 a z ua
          · subst z; exact ⟨w, fun q => absurd q (by omega)⟩
    · refine step x4 ?_ ?_
      · rcases hx with ⟨h1, h2⟩ | ⟨b, h1, b1, b2, b3⟩
        · refine Or.inl ⟨h1, fun a ha => ?_⟩
          rcases (show a < j ∨ a = j by omega) with z | z
          · exact h2 a z
          · subst z; exact u
        · refine Or.inr ⟨b, h1, by omega, b2, fun a ha ua => ?_⟩
          rcases (show a < j ∨ a = j by omega) with z | z
          · exact b3 a z ua
          · subst z; exact absurd ua u
      · rw [s_X4_near_119, hn, if_neg (nI_ge hj (by omega)), rb, bd_some, if_n bI_0 (fun z => z u), bd_some]
theorem x4_n107 {P : Nat → Prop} {KC K : Nat → q_T} {c n : Nat} {r : Nat → Nat} (hc : c ≤ 60) {M0 : mo_T} (hn : mo_n M0 = nI c) (hE : Enu P r n c) (hS : Srt KC r n) (hQ : ∀ a, a < c → P a → Qs (K a)) (hSm : ∀ a, a < c → P a → Sm (KC a) (K a)) {F : Nat} (hF : 100 ≤ F) (M : mo_T) (p1 p2 : Int32) {kk : Nat} (hkk : kk < 2 ^ 31) : ∀ (d i N : Nat) (x4 : Int32) (Z : mo_T), i + d = n → i ≤ kk → d + 1 < N → Km M0 Z → Kq P K c Z → Tk (fun a => ¬ (P a ∧ ∀ t, t < i → r t ≠ a)) c Z → ∃ Z', Km M0 Z' ∧ s_X4_near_107 F M p1 p2 (nI kk) N x4 (nI i) Z = some (if kk < n then nI (r kk) else -1, Z') := by
  have hnc := hE.1
  have lqs : ∀ a b, a < c → b < c → P a → P b → (lq (KC a) (KC b) ↔ lq (K a) (K b)) := fun a b ha hb pa pb => lt_sm (hSm b hb pb).1 (hSm a ha pa).1 (hSm b hb pb).2.1 (hSm b hb pb).2.2.1 (hSm a ha pa).2.1 (hSm a ha pa).2.2.1
  intro d
  induction d with
  | zero =>
    intro i N x4 Z hid hik hN hZ hK hT
    obtain ⟨N, rfl⟩ : ∃ m, N = m + 1 := ⟨N - 1, by omega⟩
    have hi : i = n := by omega
    subst hi
    rw [s_X4_near_107, if_neg (nI_nlt hik hkk), if_neg (show ¬ kk < i by omega)]
    have := x4_n119 (U := fun a => P a ∧ ∀ t, t < i → r t ≠ a) (P := P) hc (hZ.2.2.2.2.1.trans hn) (fun a _ h => h.1) hK hT hQ hF M p1 p2 (nI kk) (nI i) (fun y0 y1 y2 => s_X4_near_107 F M p1 p2 (nI kk) N y0 y1 y2) c 0 F (-1) (by omega) (by omega) (Or.inl ⟨rfl, fun a ha => by omega⟩)
    rw [nI_0] at this
    rcases this with ⟨-, w⟩ | ⟨b, ⟨b1, ⟨b2, b3⟩, -⟩, -⟩
    · exact ⟨Z, hZ, w⟩
    · obtain ⟨t, t1, t2⟩ := hE.2.2 b b1 b2
      exact absurd t2 (b3 t t1)
  | succ d ih =>
    intro i N x4 Z hid hik hN hZ hK hT
    obtain ⟨N, rfl⟩ : ∃ m, N = m + 1 := ⟨N - 1, by omega⟩
    rw [s_X4_near_107, if_neg (nI_nlt hik hkk)]
    have := x4_n119 (U := fun a => P a ∧ ∀ t, t < i → r t ≠ a) (P := P) hc (hZ.2.2.2.2.1.trans hn) (fun a _ h => h.1) hK hT hQ hF M p1 p2 (nI kk) (nI i) (fun y0 y1 y2 => s_X4_near_107 F M p1 p2 (nI kk) N y0 y1 y2) c 0 F (-1) (by omega) (by omega) (Or.inl ⟨rfl, fun a ha => by omega⟩)
    rw [nI_0] at this
    have ri := hE.2.1 i (by omega)
    have inj : ∀ t, t < i → r t ≠ r i := by
      intro t ht e
      have := hS t i ht (by omega)
      rw [e] at this
      rcases this with q | ⟨-, q⟩
      · exact Nat.lt_irrefl _ q
      · exact Nat.lt_irrefl _ q
    rcases this with ⟨w, -⟩ | ⟨b, ⟨b1, ⟨b2, b3⟩, b4⟩, w⟩
    · exact absurd ⟨ri.2, inj⟩ (w (r i) ri.1)
    · have eb : b = r i := by
        obtain ⟨t, t1, t2⟩ := hE.2.2 b b1 b2
        rcases (show t < i ∨ t = i ∨ i < t by omega) with q | q | q
        · exact absurd t2 (b3 t q)
        · rw [← t2, q]
        · exfalso
          have l := b4 (r i) ri.1 ⟨ri.2, inj⟩
          have m := hS i t q t1
          rw [t2] at m
          rcases m with m | ⟨m1, m2⟩
          · exact l.1 ((lqs _ _ ri.1 b1 ri.2 b2).mp m)
          · exact m1 ((lqs _ _ b1 ri.1 b2 ri.2).mpr (l.2 m2))
      subst eb
      rw [w]
      show ∃ Z', Km M0 Z' ∧ s_X4_near_107 F M p1 p2 (nI kk) N (nI (r i)) (nI i + 1) (ms_b Z (upd (mo_b Z) (r i) 1)) = _
      rw [nI_1]
      by_cases q : kk = i
      · subst q
        obtain ⟨N, rfl⟩ : ∃ m, N = m + 1 := ⟨N - 1, by omega⟩
        rw [s_X4_near_107, if_pos (nI_lt (by omega) (by omega)), if_pos (show kk < n by omega)]
        exact ⟨ms_b Z (upd (mo_b Z) (r kk) 1), hZ, rfl⟩
      · refine ih (i + 1) N (nI (r i)) (ms_b Z (upd (mo_b Z) (r i) 1)) (by omega) (by omega) (by omega) hZ hK (fun a ha => ?_)
        show upd (mo_b Z) (r i) 1 a = _
        by_cases z : a = r i
        · rw [z, up_s, bI_t]
          exact fun m => m.2 i (by omega) rfl
        · rw [up_n _ _ z, hT a ha]
          refine bI_c (not_congr ⟨fun m => ⟨m.1, fun t ht => ?_⟩, fun m => ⟨m.1, fun t ht => m.2 t (by omega)⟩⟩)
          rcases (show t < i ∨ t = i by omega) with v | v
          · exact m.2 t v
          · rw [v]; exact fun v => z v.symm
theorem mT_ok {G : pg_T} (hG : R_ok G) {x y : Int} (hx : B_ok x) (hy : B_ok y) : Qs (mT G x y) := by
  have hS := mC_mT hG hx hy
  have h2 := hS.2.2.1
  have hg := g1_ok hG.1 hx hy (t := (0, 0)) (Or.inl rfl)
  unfold mT at *
  by_cases q : g_k G = 2 ∧ St G x y ≠ 0
  · rw [ci_t q]; exact ⟨Nat.zero_le _, Nat.one_pos, by show (1 : Nat) ≤ 800000000; decide⟩
  · rw [ci_f q] at h2 ⊢
    rcases hg with w | w
    · omega
    · exact w
theorem sv_pt {T : sh_T} {x y : Int} (h : sv T (ga (g0 0) x y)) : sv T (pt x y) := by
  obtain ⟨h1, h2, h3, h4, h5, h6⟩ := h
  refine ⟨h1, h2, h3, h4, fun j hj => ?_, fun _ => h6 (show 0 < 1 by decide)⟩
  have hj0 : j = 0 := by have : j < 1 := hj; omega
  subst hj0
  exact h5 0 (show 0 < 1 by decide)
theorem o_near {X : pp_T} {hh : Nat → Option sh_T} {M : mo_T} (h : Rl X hh M) (p q k : Int32) {F : Nat} (hF : 100 ≤ F) : ∃ r X' M', s_X3_near F X hh p q k = some (r, X') ∧ s_X4_near F M p q k = some (r, M') ∧ Rl X' hh M' := by
  unfold s_X3_near s_X4_near
  rcases pl (p := p) (q := q) with ⟨x, y, rfl, rfl, hx, hy, e1, e2⟩ | ⟨e1, e2⟩
  · rw [e1, bd_some, e2, bd_some, if_neg n10, if_neg n10]
    obtain ⟨c, hR⟩ := h.1
    have hc := hR.1
    obtain ⟨Gf, P, hNr⟩ := nr hR
    have hRt : ∀ a, a < c → P a → R_ok (Gf a) := by
      intro a ha pa
      rcases hNr a ha with ⟨-, -, z⟩ | ⟨S, -, z1, -, -, z2⟩
      · exact absurd pa z
      · exact vd_R z1.1 (z2.mp pa)
    have hQ1 : ∀ a, a < c → P a → Qs (mC (Gf a) (pt x y)) := fun a ha pa => mC_ok (hRt a ha pa) (pt_ok hx hy)
    have hQ2 : ∀ a, a < c → P a → Qs (mT (Gf a) x y) := fun a ha pa => mT_ok (hRt a ha pa) hx hy
    have hSm : ∀ a, a < c → P a → Sm (mC (Gf a) (pt x y)) (mT (Gf a) x y) := fun a ha pa => mC_mT (hRt a ha pa) hx hy
    obtain ⟨T, t1, t2⟩ := x2_add (Sg_0 (k := 0) (by decide)) (show g_n (g0 0) < em (g_k (g0 0)) by decide) hx hy hF
    obtain ⟨n, r, Y, y1, y2, y3, y4, y5⟩ := x3_sl (X := X) hNr hc hx hy (sv_pt t2.2.1) (iI x) (iI y) hF hQ1 hR.2.1 c 0 0 F (fun _ => 0) X (by omega) (by omega) ⟨rfl, rfl, rfl, rfl, rfl⟩ (fun a ha => by omega) ⟨by omega, fun t ht => by omega, fun a ha => by omega⟩ (fun s t _ ht => by omega) (fun t ht => by omega)
    rw [nI_0] at y1
    have y1' : s_X3_sortByGapTo F X hh (iI x) (iI y) = some (nI n, Y) := by
      unfold s_X3_sortByGapTo
      rw [t1, bd_some]
      exact y1
    have hn := y3.1
    rw [y1', bd_some, bd_some]
    show ∃ r X' M', (if k < 0 then some (-1, Y) else if k < nI n then Option.bind (rd_i 60 (pp_r Y) k) _ else some (-1, Y)) = _ ∧ _
    by_cases k0 : k < 0
    · rw [if_pos k0, if_neg (Int32.not_le.mpr k0)]
      exact ⟨_, _, _, rfl, rfl, Rl_ke h y2 ⟨rfl, rfl, rfl, rfl, rfl, rfl, rfl, rfl, rfl⟩⟩
    · rw [if_neg k0, if_pos (Int32.not_lt.mp k0)]
      obtain ⟨kk, hkk, rfl⟩ := nI_of k0
      obtain ⟨Z, z1, z2, z3, z4⟩ := x4_n22 (M := M) (M0 := M) hNr hc hR.2.2.1 hx hy (nI kk) hF c 0 F M (by omega) (by omega) ⟨rfl, rfl, rfl, rfl, rfl, rfl, rfl, rfl, rfl⟩ (fun a ha => by omega) (fun a ha => by omega)
      obtain ⟨Z', w1, w2⟩ := x4_n107 (M0 := M) hc hR.2.2.1 y3 y4 hQ2 hSm hF M (iI x) (iI y) hkk n 0 F (-1) (ms_t Z 0) (by omega) (by omega) (by omega) z1 z2 (fun a ha => by
        show mo_b Z a = _
        rw [z3 a ha]
        exact bI_c (not_congr ⟨fun m => ⟨m, fun t ht => by omega⟩, fun m => m.1⟩))
      rw [nI_0] at z4 w2
      rw [z4, w2]
      by_cases q : kk < n
      · rw [if_pos (nI_lt q (by omega)), if_pos q, rd_ok (by omega) (by omega), bd_some, y5 kk q]
        exact ⟨_, _, _, rfl, rfl, Rl_ke h y2 w1⟩
      · rw [if_neg (nI_nlt (by omega) hkk), if_neg q]
        exact ⟨_, _, _, rfl, rfl, Rl_ke h y2 w1⟩
  · rw [e1, bd_some, e2, bd_some, if_pos rfl, if_pos rfl]
    exact ⟨_, _, _, rfl, rfl, h⟩
