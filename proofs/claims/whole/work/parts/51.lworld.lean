-- the law's world: the class's cells, the model's, the law's own row, the shapes
abbrev la_T : Type := Nat × Nat × Nat × Nat × Nat × Nat × Nat × Nat × Nat × Nat × Nat × Nat × Nat × Nat × Nat × Nat × Nat
abbrev la_x (B : la_T) : Nat := B.1
abbrev la_m (B : la_T) : Nat := B.2.2.2.2.2.2.2.1
abbrev la_o (B : la_T) : Nat := B.2.2.2.2.2.2.2.2.2.2.2.2.2.2.2.2
abbrev lx_w (cI cJ cS : ClassId) (B : la_T) (adr : ad_T) (hh : Nat → Option sh_T) (X : pp_T) : va_W := pp_w cI cJ cS (B.1) (B.2.1) (B.2.2.1) (B.2.2.2.1) (B.2.2.2.2.1) (B.2.2.2.2.2.1) (B.2.2.2.2.2.2.1) adr hh X
abbrev lm_w (cI cJ cZ : ClassId) (B : la_T) (M : mo_T) : va_W := mo_w cI cJ cZ (B.2.2.2.2.2.2.2.1) (B.2.2.2.2.2.2.2.2.1) (B.2.2.2.2.2.2.2.2.2.1) (B.2.2.2.2.2.2.2.2.2.2.1) (B.2.2.2.2.2.2.2.2.2.2.2.1) (B.2.2.2.2.2.2.2.2.2.2.2.2.1) (B.2.2.2.2.2.2.2.2.2.2.2.2.2.1) (B.2.2.2.2.2.2.2.2.2.2.2.2.2.2.1) (B.2.2.2.2.2.2.2.2.2.2.2.2.2.2.2.1) M
abbrev lo_w (cJ : ClassId) (B : la_T) (f : Nat → Int64) : va_W := ou_w cJ (la_o B) f
def la_X (B : la_T) : List Nat := [B.1, B.2.1, B.2.2.1, B.2.2.2.1, B.2.2.2.2.1, B.2.2.2.2.2.1, B.2.2.2.2.2.2.1]
def la_M (B : la_T) : List Nat := [B.2.2.2.2.2.2.2.1, B.2.2.2.2.2.2.2.2.1, B.2.2.2.2.2.2.2.2.2.1, B.2.2.2.2.2.2.2.2.2.2.1, B.2.2.2.2.2.2.2.2.2.2.2.1, B.2.2.2.2.2.2.2.2.2.2.2.2.1, B.2.2.2.2.2.2.2.2.2.2.2.2.2.1, B.2.2.2.2.2.2.2.2.2.2.2.2.2.2.1, B.2.2.2.2.2.2.2.2.2.2.2.2.2.2.2.1]
def la_S (a : Nat × Nat × Nat) : List Nat := [a.1, a.2.1, a.2.2]
theorem w_me {w : va_W} {k : Nat} {q : Nat × va_E} (h : w[k]? = some q) : q.1 ∈ w.map Prod.fst := List.mem_map.mpr ⟨q, List.mem_of_getElem? h, rfl⟩
theorem w_ex {w : va_W} {q : Nat} (h : q ∈ w.map Prod.fst) : ∃ (k : Nat) (e : va_E), w[k]? = some (q, e) := by
  obtain ⟨⟨a, e⟩, h1, rfl⟩ := List.mem_map.mp h
  obtain ⟨k, hk⟩ := List.mem_iff_getElem?.mp h1
  exact ⟨k, e, hk⟩
theorem A_me {w : va_W} {sz q : Nat} : va_A w sz q ↔ q ∈ w.map Prod.fst ∨ sz ≤ q := by
  unfold va_A
  constructor
  · rintro (⟨k, e, h⟩ | h)
    · exact Or.inl (w_me h)
    · exact Or.inr h
  · rintro (h | h)
    · exact Or.inl (w_ex h)
    · exact Or.inr h
theorem D_of {A : Nat → Prop} {w : va_W} (hn : (w.map Prod.fst).Nodup) (hA : ∀ q ∈ w.map Prod.fst, A q) : va_D A w := by
  refine ⟨fun i j p q hi hj e => ?_, fun k q hk => hA _ (w_me hk)⟩
  have h1 : (w.map Prod.fst)[i]? = some p.1 := by rw [List.getElem?_map, hi]; rfl
  have h2 : (w.map Prod.fst)[j]? = some p.1 := by rw [List.getElem?_map, hj, e]; rfl
  have hlt : i < (w.map Prod.fst).length := (List.getElem?_eq_some_iff.mp h1).1
  exact (List.getElem?_inj hlt hn).mp (h1.trans h2.symm)
theorem D_nd {A : Nat → Prop} {w : va_W} (h : va_D A w) : (w.map Prod.fst).Nodup := by
  refine List.pairwise_iff_getElem.mpr (fun i j hi hj hij e => ?_)
  have hi' : i < w.length := by simpa using hi
  have hj' : j < w.length := by simpa using hj
  have := h.1 i j w[i] w[j] (List.getElem?_eq_getElem hi') (List.getElem?_eq_getElem hj') (by simpa using e)
  omega
theorem P_lt {D : va_G} {w : va_W} {H : Heap} (hP : va_P D vwCl w H) {q : Nat} (hq : q ∈ w.map Prod.fst) : q < H.size := by
  obtain ⟨k, e, hk⟩ := w_ex hq
  exact (hP k _ hk).lt
theorem P_ke {D : va_G} {w : va_W} {H H1 : Heap} (hP : va_P D vwCl w H) (h : ∀ q ∈ w.map Prod.fst, q < H.size → H1[q]? = H[q]?) : va_P D vwCl w H1 := hP.kept (fun k q hk => h q.1 (w_me hk) (hP k q hk).lt)
def LD (A : Nat → Prop) (B : la_T) : Prop := (la_X B).Nodup ∧ (la_M B).Nodup ∧ (∀ q ∈ la_X B, q ∉ la_M B ∧ q ≠ la_o B ∧ A q) ∧ (∀ q ∈ la_M B, q ≠ la_o B ∧ A q) ∧ A (la_o B)
def LPo (A : Nat → Prop) (B : la_T) (adr : ad_T) (hh : Nat → Option sh_T) : Prop := ∀ k, hh k ≠ none → (la_S (adr k)).Nodup ∧ ∀ q ∈ la_S (adr k), A q ∧ q ∉ la_X B ∧ q ∉ la_M B ∧ q ≠ la_o B ∧ ∀ k', k' ≠ k → hh k' ≠ none → q ∉ la_S (adr k')
def LW (D : va_G) (cI cJ cZ cS : ClassId) (ad : Nat → Nat) (A : Nat → Prop) (B : la_T) (adr : ad_T) (hh : Nat → Option sh_T) (X : pp_T) (M : mo_T) (f : Nat → Int64) (H : Heap) : Prop := va_P D vwCl (lx_w cI cJ cS B adr hh X) H ∧ va_P D vwCl (lm_w cI cJ cZ B M) H ∧ va_P D vwCl (lo_w cJ B f) H ∧ pl_P D cI ad adr hh H ∧ LD A B ∧ LPo A B adr hh
section LWS
variable {D : va_G} {cI cJ cZ cS : ClassId} {ad : Nat → Nat} {A : Nat → Prop} {B : la_T} {adr : ad_T} {hh : Nat → Option sh_T} {X X' : pp_T} {M M' : mo_T} {f f' : Nat → Int64} {H H1 : Heap}
theorem mXo (q : Nat) : q ∈ (lx_w cI cJ cS B adr hh X).map Prod.fst ↔ q ∈ la_X B := Iff.rfl
theorem mMo (q : Nat) : q ∈ (lm_w cI cJ cZ B M).map Prod.fst ↔ q ∈ la_M B := Iff.rfl
theorem mOo (q : Nat) : q ∈ (lo_w cJ B f).map Prod.fst ↔ q = la_o B := List.mem_singleton
theorem mSo (a : Nat × Nat × Nat) (S : sh_T) (q : Nat) : q ∈ (sh_wa cI ad a S).map Prod.fst ↔ q ∈ la_S a := Iff.rfl
theorem LW.dX (h : LW D cI cJ cZ cS ad A B adr hh X M f H) : va_D A (lx_w cI cJ cS B adr hh X) := D_of h.2.2.2.2.1.1 (fun q hq => (h.2.2.2.2.1.2.2.1 q hq).2.2)
theorem LW.dM (h : LW D cI cJ cZ cS ad A B adr hh X M f H) : va_D A (lm_w cI cJ cZ B M) := D_of h.2.2.2.2.1.2.1 (fun q hq => (h.2.2.2.2.1.2.2.2.1 q hq).2)
/-- the cells that stay: all but some of the class's -/
theorem LW.keep (h : LW D cI cJ cZ cS ad A B adr hh X M f H) (hk : ∀ q, q < H.size → q ∉ la_X B → H1[q]? = H[q]?) : va_P D vwCl (lm_w cI cJ cZ B M) H1 ∧ va_P D vwCl (lo_w cJ B f) H1 ∧ pl_P D cI ad adr hh H1 := by
  obtain ⟨h1, h2, h3, h4, h5, h6⟩ := h
  refine ⟨P_ke h2 (fun q hq hl => hk q hl (fun z => (h5.2.2.1 q z).1 hq)), P_ke h3 (fun q hq hl => hk q hl (fun z => (h5.2.2.1 q z).2.1 ((mOo (cJ := cJ) (f := f) q).mp hq))), fun k S hS => ⟨P_ke (h4 k S hS).1 (fun q hq hl => hk q hl ((h6 k (by rw [hS]; exact fun z => nomatch z)).2 q hq).2.1), (h4 k S hS).2⟩⟩
theorem hk_X (hk : ∀ q : Nat, q < H.size → ¬ va_A (lx_w cI cJ cS B adr hh X) H.size q → H1[q]? = H[q]?) : ∀ q, q < H.size → q ∉ la_X B → H1[q]? = H[q]? := fun q h1 h2 => hk q h1 (fun z => (A_me.mp z).elim h2 (fun w => by omega))
/-- the class has another state -/
theorem LW.x (h : LW D cI cJ cZ cS ad A B adr hh X M f H) (hk : ∀ q : Nat, q < H.size → ¬ va_A (lx_w cI cJ cS B adr hh X) H.size q → H1[q]? = H[q]?) (hP : va_P D vwCl (lx_w cI cJ cS B adr hh X') H1) : LW D cI cJ cZ cS ad A B adr hh X' M f H1 := by
  obtain ⟨k1, k2, k3⟩ := h.keep (hk_X hk)
  exact ⟨hP, k1, k2, k3, h.2.2.2.2⟩
/-- the model has another state -/
theorem LW.m (h : LW D cI cJ cZ cS ad A B adr hh X M f H) (hk : ∀ q : Nat, q < H.size → ¬ va_A (lm_w cI cJ cZ B M) H.size q → H1[q]? = H[q]?) (hP : va_P D vwCl (lm_w cI cJ cZ B M') H1) : LW D cI cJ cZ cS ad A B adr hh X M' f H1 := by
  obtain ⟨h1, h2, h3, h4, h5, h6⟩ := h
  have hk' : ∀ q, q < H.size → q ∉ la_M B → H1[q]? = H[q]? := fun q z1 z2 => hk q z1 (fun z => (A_me.mp z).elim z2 (fun w => by omega))
  exact ⟨P_ke h1 (fun q hq hl => hk' q hl (h5.2.2.1 q hq).1), hP, P_ke h3 (fun q hq hl => hk' q hl (fun z => (h5.2.2.2.1 q z).1 ((mOo (cJ := cJ) (f := f) q).mp hq))), fun k S hS => ⟨P_ke (h4 k S hS).1 (fun q hq hl => hk' q hl ((h6 k (by rw [hS]; exact fun z => nomatch z)).2 q hq).2.2.1), (h4 k S hS).2⟩, h5, h6⟩
/-- the law's own row has another number -/
theorem LW.o (h : LW D cI cJ cZ cS ad A B adr hh X M f H) (hk : ∀ q : Nat, q < H.size → ¬ q = la_o B → H1[q]? = H[q]?) (hP : va_P D vwCl (lo_w cJ B f') H1) : LW D cI cJ cZ cS ad A B adr hh X M f' H1 := by
  obtain ⟨h1, h2, h3, h4, h5, h6⟩ := h
  exact ⟨P_ke h1 (fun q hq hl => hk q hl (h5.2.2.1 q hq).2.1), P_ke h2 (fun q hq hl => hk q hl (h5.2.2.2.1 q hq).1), hP, fun k S hS => ⟨P_ke (h4 k S hS).1 (fun q hq hl => hk q hl ((h6 k (by rw [hS]; exact fun z => nomatch z)).2 q hq).2.2.2.1), (h4 k S hS).2⟩, h5, h6⟩
/-- nothing is changed -/
theorem LW.g (h : LW D cI cJ cZ cS ad A B adr hh X M f H) (hk : ∀ q : Nat, q < H.size → H1[q]? = H[q]?) : LW D cI cJ cZ cS ad A B adr hh X M f H1 := by
  obtain ⟨h1, h2, h3, h4, h5, h6⟩ := h
  exact ⟨P_ke h1 (fun q _ hl => hk q hl), P_ke h2 (fun q _ hl => hk q hl), P_ke h3 (fun q _ hl => hk q hl), fun k S hS => ⟨P_ke (h4 k S hS).1 (fun q _ hl => hk q hl), (h4 k S hS).2⟩, h5, h6⟩
/-- a shape more -/
theorem LW.new (h : LW D cI cJ cZ cS ad A B adr hh X M f H) {i : Nat} {u : Nat × Nat × Nat} {S : sh_T} (hi : hh i = none) (hS3 : sh_k S < 3) (hA : ∀ q, H.size ≤ q → A q) (hk : ∀ q : Nat, q < H.size → ¬ va_A (lx_w cI cJ cS B adr hh X) H.size q → H1[q]? = H[q]?) (hP : va_P D vwCl (lx_w cI cJ cS B (va_up adr i u) (va_up hh i (some S)) X' ++ sh_wa cI ad u S) H1) (hD : va_D (va_A (lx_w cI cJ cS B adr hh X) H.size) (lx_w cI cJ cS B (va_up adr i u) (va_up hh i (some S)) X' ++ sh_wa cI ad u S)) : LW D cI cJ cZ cS ad A B (va_up adr i u) (va_up hh i (some S)) X' M f H1 := by
  obtain ⟨k1, k2, k3⟩ := h.keep (hk_X hk)
  obtain ⟨h1, h2, h3, h4, h5, h6⟩ := h
  have nd : (la_X B ++ la_S u).Nodup := D_nd hD
  have nd3 := List.nodup_append.mp nd
  have hu : ∀ q ∈ la_S u, q ∉ la_X B ∧ H.size ≤ q := by
    intro q hq
    have w1 : q ∉ la_X B := fun z => nd3.2.2 q z q hq rfl
    have hm : q ∈ (lx_w cI cJ cS B (va_up adr i u) (va_up hh i (some S)) X' ++ sh_wa cI ad u S).map Prod.fst := by
      rw [List.map_append]; exact List.mem_append_right _ hq
    obtain ⟨k, e, hke⟩ := w_ex hm
    rcases A_me.mp (hD.2 k _ hke) with z | z
    · exact absurd z w1
    · exact ⟨w1, z⟩
  have lt : ∀ k, k ≠ i → va_up hh i (some S) k ≠ none → hh k ≠ none ∧ ∀ q ∈ la_S (adr k), q < H.size := by
    intro k hki hn
    rw [uv_n _ _ hki] at hn
    refine ⟨hn, fun q hq => ?_⟩
    cases hc : hh k with
    | none => exact absurd hc hn
    | some T => exact P_lt (h4 k T hc).1 hq
  refine ⟨gx_Psub hP [0, 1, 2, 3, 4, 5, 6] rfl, k1, k2, fun k T hT => ?_, h5, fun k hn => ?_⟩
  · by_cases e : k = i
    · subst e
      rw [uv_s] at hT
      cases hT
      rw [uv_s]
      exact ⟨gx_Psub hP [7, 8, 9] rfl, hS3⟩
    · rw [uv_n _ _ e] at hT ⊢
      exact k3 k T hT
  · by_cases e : k = i
    · subst e
      rw [uv_s]
      refine ⟨nd3.2.1, fun q hq => ?_⟩
      obtain ⟨w1, w2⟩ := hu q hq
      refine ⟨hA q w2, w1, fun z => ?_, fun z => ?_, fun k' hk' hn' z => ?_⟩
      · have := P_lt h2 ((mMo (cI := cI) (cJ := cJ) (cZ := cZ) (M := M) q).mpr z); omega
      · have := P_lt h3 ((mOo (cJ := cJ) (f := f) q).mpr z); omega
      · rw [uv_n _ _ hk'] at z
        have := (lt k' hk' hn').2 q z
        omega
    · obtain ⟨w1, w2⟩ := lt k e hn
      rw [uv_n _ _ e]
      obtain ⟨v1, v2⟩ := h6 k w1
      refine ⟨v1, fun q hq => ?_⟩
      obtain ⟨z1, z2, z3, z4, z5⟩ := v2 q hq
      refine ⟨z1, z2, z3, z4, fun k' hk' hn' => ?_⟩
      by_cases e' : k' = i
      · subst e'
        rw [uv_s]
        intro y
        have := (hu q y).2
        have := w2 q hq
        omega
      · rw [uv_n _ _ e']
        exact z5 k' hk' (lt k' e' hn').1
theorem up_nn {i : Nat} {T : sh_T} {S : sh_T} (hi : hh i = some S) (k : Nat) : va_up hh i (some T) k ≠ none → hh k ≠ none := by
  by_cases e : k = i
  · subst e; rw [hi]; exact fun _ z => nomatch z
  · rw [uv_n _ _ e]; exact id
/-- a shape has a corner more -/
theorem LW.set (h : LW D cI cJ cZ cS ad A B adr hh X M f H) {i : Nat} {S T : sh_T} (hi : hh i = some S) (hT3 : sh_k T < 3) (hk : ∀ q : Nat, q < H.size → ¬ va_A (lx_w cI cJ cS B adr hh X ++ sh_wa cI ad (adr i) S) H.size q → H1[q]? = H[q]?) (hP : va_P D vwCl (lx_w cI cJ cS B adr (va_up hh i (some T)) X' ++ sh_wa cI ad (adr i) T) H1) : LW D cI cJ cZ cS ad A B adr (va_up hh i (some T)) X' M f H1 := by
  obtain ⟨h1, h2, h3, h4, h5, h6⟩ := h
  have ni : hh i ≠ none := by rw [hi]; exact fun z => nomatch z
  have hk' : ∀ q, q < H.size → q ∉ la_X B → q ∉ la_S (adr i) → H1[q]? = H[q]? := fun q z1 z2 z3 => hk q z1 (fun z => (A_me.mp z).elim (fun w => by
    rw [List.map_append] at w
    exact (List.mem_append.mp w).elim z2 z3) (fun w => by omega))
  refine ⟨gx_Psub hP [0, 1, 2, 3, 4, 5, 6] rfl, P_ke h2 (fun q hq hl => hk' q hl (fun z => (h5.2.2.1 q z).1 hq) (fun z => ((h6 i ni).2 q z).2.2.1 hq)), P_ke h3 (fun q hq hl => hk' q hl (fun z => (h5.2.2.1 q z).2.1 ((mOo (cJ := cJ) (f := f) q).mp hq)) (fun z => ((h6 i ni).2 q z).2.2.2.1 ((mOo (cJ := cJ) (f := f) q).mp hq))), fun k V hV => ?_, h5, fun k hn => ?_⟩
  · by_cases e : k = i
    · subst e
      rw [uv_s] at hV
      cases hV
      exact ⟨gx_Psub hP [7, 8, 9] rfl, hT3⟩
    · rw [uv_n _ _ e] at hV
      have nk : hh k ≠ none := by rw [hV]; exact fun z => nomatch z
      exact ⟨P_ke (h4 k V hV).1 (fun q hq hl => hk' q hl ((h6 k nk).2 q hq).2.1 (((h6 k nk).2 q hq).2.2.2.2 i (fun z => e z.symm) ni)), (h4 k V hV).2⟩
  · obtain ⟨v1, v2⟩ := h6 k (up_nn hi k hn)
    refine ⟨v1, fun q hq => ?_⟩
    obtain ⟨z1, z2, z3, z4, z5⟩ := v2 q hq
    exact ⟨z1, z2, z3, z4, fun k' hk' hn' => z5 k' hk' (up_nn hi k' hn')⟩
/-- a shape went -/
theorem LW.del (h : LW D cI cJ cZ cS ad A B adr hh X M f H) {i : Nat} (hk : ∀ q : Nat, q < H.size → ¬ va_A (lx_w cI cJ cS B adr hh X) H.size q → H1[q]? = H[q]?) (hP : va_P D vwCl (lx_w cI cJ cS B adr (va_up hh i none) X') H1) : LW D cI cJ cZ cS ad A B adr (va_up hh i none) X' M f H1 := by
  obtain ⟨k1, k2, k3⟩ := h.keep (hk_X hk)
  obtain ⟨h1, h2, h3, h4, h5, h6⟩ := h
  have nn : ∀ k, va_up hh i none k ≠ none → k ≠ i ∧ hh k ≠ none := by
    intro k hn
    by_cases e : k = i
    · subst e; rw [uv_s] at hn; exact absurd rfl hn
    · rw [uv_n _ _ e] at hn; exact ⟨e, hn⟩
  refine ⟨hP, k1, k2, fun k V hV => ?_, h5, fun k hn => ?_⟩
  · obtain ⟨e, -⟩ := nn k (by rw [hV]; exact fun z => nomatch z)
    rw [uv_n _ _ e] at hV
    exact k3 k V hV
  · obtain ⟨e, w⟩ := nn k hn
    obtain ⟨v1, v2⟩ := h6 k w
    refine ⟨v1, fun q hq => ?_⟩
    obtain ⟨z1, z2, z3, z4, z5⟩ := v2 q hq
    exact ⟨z1, z2, z3, z4, fun k' hk' hn' => z5 k' hk' (nn k' hn').2⟩
/-- the pool is apart from the class's own cells -/
theorem LW.sep (h : LW D cI cJ cZ cS ad A B adr hh X M f H) : ∀ (k : Nat) (S : sh_T), hh k = some S → ∀ (i : Nat) (q : Nat × va_E), (sh_wa cI ad (adr k) S)[i]? = some q → ∀ (j : Nat) (e : va_E), ¬ (lx_w cI cJ cS B adr hh X)[j]? = some (q.1, e) := by
  intro k S hS i q hq j e hj
  exact ((h.2.2.2.2.2 k (by rw [hS]; exact fun z => nomatch z)).2 q.1 (w_me hq)).2.1 (w_me hj)
/-- the class's own cells and those of one shape -/
theorem LW.dS (h : LW D cI cJ cZ cS ad A B adr hh X M f H) {i : Nat} {S : sh_T} (hi : hh i = some S) : va_D A (lx_w cI cJ cS B adr hh X ++ sh_wa cI ad (adr i) S) := by
  obtain ⟨v1, v2⟩ := h.2.2.2.2.2 i (by rw [hi]; exact fun z => nomatch z)
  refine D_of ?_ ?_
  · rw [List.map_append]
    exact List.nodup_append.mpr ⟨h.2.2.2.2.1.1, v1, fun a ha b hb e => (v2 b hb).2.1 (e ▸ ha)⟩
  · intro q hq
    rw [List.map_append] at hq
    rcases List.mem_append.mp hq with z | z
    · exact (h.2.2.2.2.1.2.2.1 q z).2.2
    · exact (v2 q z).1
end LWS
