-- adding a corner
def ga (G : pg_T) (x y : Int) : pg_T := (g_k G, g_n G + 1, fun j => if j = g_n G then x else g_x G j, fun j => if j = g_n G then y else g_y G j)
theorem up_s (f : Nat → Int32) (k : Nat) (x : Int32) : upd f k x k = x := if_pos rfl
theorem up_n (f : Nat → Int32) {k : Nat} (x : Int32) {j : Nat} (h : j ≠ k) : upd f k x j = f j := if_neg h
theorem ul_s (f : Nat → Int64) (k : Nat) (x : Int64) : vp_updL f k x k = x := if_pos rfl
theorem ul_n (f : Nat → Int64) {k : Nat} (x : Int64) {j : Nat} (h : j ≠ k) : vp_updL f k x j = f j := if_neg h
theorem uv_s {α : Type} (f : Nat → α) (k : Nat) (x : α) : va_up f k x k = x := if_pos rfl
theorem uv_n {α : Type} (f : Nat → α) {k : Nat} (x : α) {j : Nat} (h : j ≠ k) : va_up f k x j = f j := if_neg h
def em (k : Nat) : Nat := ([1, 24, 24] : List Nat).getD k 0
theorem em_m {k : Nat} (h : k < 3) : en_m k = nI (em k) := by
  rcases (show k = 0 ∨ k = 1 ∨ k = 2 by omega) with rfl | rfl | rfl <;> rfl
theorem em_n {k : Nat} (h : k < 3) : en_n k = em k + 1 := by
  rcases (show k = 0 ∨ k = 1 ∨ k = 2 by omega) with rfl | rfl | rfl <;> rfl
theorem em_24 {k : Nat} (h : k < 3) : em k ≤ 24 := by
  rcases (show k = 0 ∨ k = 1 ∨ k = 2 by omega) with rfl | rfl | rfl <;> decide
theorem em_0 : em 0 = 1 := rfl
theorem em_p {k : Nat} (h : k < 3) (h0 : k ≠ 0) : em k = 24 := by
  rcases (show k = 0 ∨ k = 1 ∨ k = 2 by omega) with rfl | rfl | rfl
  · exact absurd rfl h0
  · rfl
  · rfl
/-- the class's box -/
def Bx (S : sh_T) (G : pg_T) : Prop := ∃ a b c d : Int, (B_ok a ∧ B_ok b ∧ B_ok c ∧ B_ok d) ∧ (sh_a S = iI a ∧ sh_b S = iI b ∧ sh_c S = iI c ∧ sh_d S = iI d) ∧ (∀ z, a ≤ z ↔ (∃ j, j < g_n G ∧ g_x G j ≤ z) ∨ 10000 ≤ z) ∧ (∀ z, b ≤ z ↔ (∃ j, j < g_n G ∧ g_y G j ≤ z) ∨ 10000 ≤ z) ∧ (∀ z, z ≤ c ↔ (∃ j, j < g_n G ∧ z ≤ g_x G j) ∨ z ≤ -10000) ∧ (∀ z, z ≤ d ↔ (∃ j, j < g_n G ∧ z ≤ g_y G j) ∨ z ≤ -10000)
/-- the class's object S is the shape G, in all that it holds -/
def Sg (S : sh_T) (G : pg_T) : Prop := G_ok G ∧ sv S G ∧ sh_n S = en_n (g_k G) ∧ Bx S G ∧ sh_v S = vd G
def g0 (k : Nat) : pg_T := (k, 0, fun _ => 0, fun _ => 0)
theorem Sg_0 {k : Nat} (h : k < 3) : Sg (sh_0 k) (g0 k) := by
  refine ⟨⟨h, by show (0 : Nat) ≤ 24; omega, fun _ => by show (0 : Nat) ≤ 1; omega, fun j hj => absurd hj (by show ¬ j < 0; omega)⟩, ⟨rfl, rfl, ?_, ?_, fun j hj => absurd hj (by show ¬ j < 0; omega), fun hj => absurd hj (by show ¬ 0 < 0; omega)⟩, rfl, ?_, ?_⟩
  · show 0 < en_n k
    rw [em_n h]; omega
  · show en_n k ≤ 25
    rw [em_n h]; have := em_24 h; omega
  · refine ⟨10000, 10000, -10000, -10000, ⟨by unfold B_ok; omega, by unfold B_ok; omega, by unfold B_ok; omega, by unfold B_ok; omega⟩, ⟨rfl, rfl, rfl, rfl⟩, ?_, ?_, ?_, ?_⟩ <;> intro z <;> constructor <;> intro q
    · exact Or.inr q
    · rcases q with ⟨j, hj, -⟩ | q
      · exact absurd hj (by show ¬ j < 0; omega)
      · exact q
    · exact Or.inr q
    · rcases q with ⟨j, hj, -⟩ | q
      · exact absurd hj (by show ¬ j < 0; omega)
      · exact q
    · exact Or.inr q
    · rcases q with ⟨j, hj, -⟩ | q
      · exact absurd hj (by show ¬ j < 0; omega)
      · exact q
    · exact Or.inr q
    · rcases q with ⟨j, hj, -⟩ | q
      · exact absurd hj (by show ¬ j < 0; omega)
      · exact q
  · show (0 : Int32) = vd (g0 k)
    unfold vd
    rw [if_pos (show g_n (g0 k) < g_k (g0 k) + 1 from Nat.succ_pos k)]
theorem ga_x {G : pg_T} {x y : Int} {j : Nat} (h : j < g_n G) : g_x (ga G x y) j = g_x G j := if_neg (by omega)
theorem ga_y {G : pg_T} {x y : Int} {j : Nat} (h : j < g_n G) : g_y (ga G x y) j = g_y G j := if_neg (by omega)
theorem ga_xn {G : pg_T} {x y : Int} : g_x (ga G x y) (g_n G) = x := if_pos rfl
theorem ga_yn {G : pg_T} {x y : Int} : g_y (ga G x y) (g_n G) = y := if_pos rfl
theorem ga_n {G : pg_T} {x y : Int} : g_n (ga G x y) = g_n G + 1 := rfl
theorem ga_k {G : pg_T} {x y : Int} : g_k (ga G x y) = g_k G := rfl
theorem ga_ok {G : pg_T} (h : G_ok G) (hn : g_n G < em (g_k G)) {x y : Int} (hx : B_ok x) (hy : B_ok y) : G_ok (ga G x y) := by
  have h24 := em_24 h.1
  refine ⟨h.1, by rw [ga_n]; omega, fun q => ?_, fun j hj => ?_⟩
  · rw [ga_k] at q
    rw [q, em_0] at hn
    rw [ga_n]; omega
  · rw [ga_n] at hj
    rcases (show j < g_n G ∨ j = g_n G by omega) with q | q
    · rw [ga_x q, ga_y q]; exact h.2.2.2 j q
    · rw [q, ga_xn, ga_yn]; exact ⟨hx, hy⟩
theorem ex_ga {n : Nat} {f g : Nat → Int} {P : Int → Prop} {x : Int} (h1 : ∀ j, j < n → g j = f j) (h2 : g n = x) : (∃ j, j < n + 1 ∧ P (g j)) ↔ (∃ j, j < n ∧ P (f j)) ∨ P x := by
  constructor
  · rintro ⟨j, hj, hp⟩
    rcases (show j < n ∨ j = n by omega) with q | q
    · exact Or.inl ⟨j, q, by rw [← h1 j q]; exact hp⟩
    · subst q; rw [h2] at hp; exact Or.inr hp
  · rintro (⟨j, hj, hp⟩ | hp)
    · exact ⟨j, by omega, by rw [h1 j hj]; exact hp⟩
    · exact ⟨n, by omega, by rw [h2]; exact hp⟩
theorem lo_ga {n : Nat} {f g : Nat → Int} {x a : Int} (h1 : ∀ j, j < n → g j = f j) (h2 : g n = x) (h : ∀ z, a ≤ z ↔ (∃ j, j < n ∧ f j ≤ z) ∨ 10000 ≤ z) (z : Int) : min a x ≤ z ↔ (∃ j, j < n + 1 ∧ g j ≤ z) ∨ 10000 ≤ z := by
  rw [ex_ga (P := fun v => v ≤ z) h1 h2]
  have := h z
  constructor
  · intro q
    by_cases w : a ≤ z
    · rcases this.mp w with e | e
      · exact Or.inl (Or.inl e)
      · exact Or.inr e
    · exact Or.inl (Or.inr (by omega))
  · rintro ((e | e) | e)
    · have := this.mpr (Or.inl e); omega
    · omega
    · have := this.mpr (Or.inr e); omega
theorem hi_ga {n : Nat} {f g : Nat → Int} {x a : Int} (h1 : ∀ j, j < n → g j = f j) (h2 : g n = x) (h : ∀ z, z ≤ a ↔ (∃ j, j < n ∧ z ≤ f j) ∨ z ≤ -10000) (z : Int) : z ≤ max a x ↔ (∃ j, j < n + 1 ∧ z ≤ g j) ∨ z ≤ -10000 := by
  rw [ex_ga (P := fun v => z ≤ v) h1 h2]
  have := h z
  constructor
  · intro q
    by_cases w : z ≤ a
    · rcases this.mp w with e | e
      · exact Or.inl (Or.inl e)
      · exact Or.inr e
    · exact Or.inl (Or.inr (by omega))
  · rintro ((e | e) | e)
    · have := this.mpr (Or.inl e); omega
    · omega
    · have := this.mpr (Or.inr e); omega
theorem x2_add {S : sh_T} {G : pg_T} (h : Sg S G) (hn : g_n G < em (g_k G)) {x y : Int} (hx : B_ok x) (hy : B_ok y) {F : Nat} (hF : 100 ≤ F) : ∃ T, s_X2_add F S (iI x) (iI y) = some T ∧ Sg T (ga G x y) := by
  obtain ⟨hG, hs, hsn, ⟨a, b, c, d, ⟨ba, bb, bc, bd⟩, ⟨ea, eb, ec, ed⟩, la, lb, lc, ld⟩, hv⟩ := h
  have h24 := em_24 hG.1
  have e1 := em_n hG.1
  have hn' : g_n G < sh_n S := hs.2.2.1
  have hn1 : g_n G + 1 < sh_n S := by rw [hsn]; omega
  have h25 := hs.2.2.2.1
  have cl : (nI (g_n G)).toNatClampNeg = g_n G := nI_clamp (by omega)
  have cl1 : (nI (g_n G + 1)).toNatClampNeg = g_n G + 1 := nI_clamp (by omega)
  have hG' := ga_ok hG hn hx hy
  have hX : ∀ (f : Nat → Int32) (g : Nat → Int) (v : Int), (∀ j, j < g_n G → f j = iI (g j)) → (∀ j, j < g_n G + 1 → upd (upd f (g_n G) (iI v)) (g_n G + 1) (upd f (g_n G) (iI v) 0) j = iI (if j = g_n G then v else g j)) ∧ upd (upd f (g_n G) (iI v)) (g_n G + 1) (upd f (g_n G) (iI v) 0) (g_n G + 1) = iI (if 0 = g_n G then v else g 0) := by
    intro f g v hf
    have k0 : ∀ j, j < g_n G + 1 → upd f (g_n G) (iI v) j = iI (if j = g_n G then v else g j) := by
      intro j hj
      by_cases q : j = g_n G
      · rw [if_pos q, q, up_s]
      · rw [if_neg q, up_n f _ q, hf j (by omega)]
    refine ⟨fun j hj => ?_, ?_⟩
    · rw [up_n _ _ (by omega), k0 j hj]
    · rw [up_s, k0 0 (by omega)]
  obtain ⟨x1, x2⟩ := hX (sh_x S) (g_x G) x (fun j hj => (hs.2.2.2.2.1 j hj).1)
  obtain ⟨y1, y2⟩ := hX (sh_y S) (g_y G) y (fun j hj => (hs.2.2.2.2.1 j hj).2)
  have hsv : ∀ v : Int32, sv (g_k G, nI (g_n G + 1), v, sh_n S, upd (upd (sh_x S) (g_n G) (iI x)) (g_n G + 1) (upd (sh_x S) (g_n G) (iI x) 0), upd (upd (sh_y S) (g_n G) (iI y)) (g_n G + 1) (upd (sh_y S) (g_n G) (iI y) 0), iI (min a x), iI (min b y), iI (max c x), iI (max d y)) (ga G x y) := fun v => ⟨rfl, rfl, hn1, h25, fun j hj => ⟨x1 j hj, y1 j hj⟩, fun _ => ⟨x2, y2⟩⟩
  refine ⟨(g_k G, nI (g_n G + 1), vd (ga G x y), sh_n S, upd (upd (sh_x S) (g_n G) (iI x)) (g_n G + 1) (upd (sh_x S) (g_n G) (iI x) 0), upd (upd (sh_y S) (g_n G) (iI y)) (g_n G + 1) (upd (sh_y S) (g_n G) (iI y) 0), iI (min a x), iI (min b y), iI (max c x), iI (max d y)), ?_, hG', hsv _, hsn, ⟨min a x, min b y, max c x, max d y, ⟨B_min ba hx, B_min bb hy, B_max bc hx, B_max bd hy⟩, ⟨rfl, rfl, rfl, rfl⟩, lo_ga (fun j hj => ga_x hj) ga_xn la, lo_ga (fun j hj => ga_y hj) ga_yn lb, hi_ga (fun j hj => ga_x hj) ga_xn lc, hi_ga (fun j hj => ga_y hj) ga_yn ld⟩, rfl⟩
  have r0 : ∀ f : Nat → Int32, rd_i (sh_n S) f 0 = some (f 0) := fun f => by rw [← nI_0]; exact rd_ok (by omega) (by omega)
  unfold s_X2_add
  rw [hs.1, hs.2.1, em_m hG.1, if_pos (nI_lt hn (by omega)), wr_okk hn' (by omega), bd_some, bd_some, bd_some, nI_1, cl, r0, bd_some, wr_okk hn1 (by omega), bd_some, r0, bd_some, bd_some, ea, eb, ec, ed, mi_I ba hx, mi_I bb hy, ma_I bc hx, ma_I bd hy, bd_some, bd_some, bd_some, bd_some, cl1]
  have j := x2_judge hG' (hsv (sh_v S)) hF
  show Option.bind (s_X2_judge F (sh_k S, nI (g_n G + 1), sh_v S, sh_n S, _, _, _, _, _, _)) _ = _
  rw [hs.1, j, bd_some]
  show some (sh_k S, _, _, _, _, _, _, _, _, _) = _
  rw [hs.1]
