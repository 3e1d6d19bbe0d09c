-- the state of the system in words of our own: a shape (kind, size, verdict, length of its rows, xs, ys, lowX, lowY, highX, highY), a fraction, the model's object
abbrev sh_T : Type := Nat × Int32 × Int32 × Nat × (Nat → Int32) × (Nat → Int32) × Int32 × Int32 × Int32 × Int32
abbrev sh_k (S : sh_T) : Nat := S.1
abbrev sh_z (S : sh_T) : Int32 := S.2.1
abbrev sh_v (S : sh_T) : Int32 := S.2.2.1
abbrev sh_n (S : sh_T) : Nat := S.2.2.2.1
abbrev sh_x (S : sh_T) : Nat → Int32 := S.2.2.2.2.1
abbrev sh_y (S : sh_T) : Nat → Int32 := S.2.2.2.2.2.1
abbrev sh_a (S : sh_T) : Int32 := S.2.2.2.2.2.2.1
abbrev sh_b (S : sh_T) : Int32 := S.2.2.2.2.2.2.2.1
abbrev sh_c (S : sh_T) : Int32 := S.2.2.2.2.2.2.2.2.1
abbrev sh_d (S : sh_T) : Int32 := S.2.2.2.2.2.2.2.2.2
abbrev sh_w (cI : ClassId) (ad : Nat → Nat) (h0 hx hy : Nat) (S : sh_T) : va_W := [(h0, .inr (2, [.ref (ad (sh_k S)), .int (sh_z S), .int (sh_v S), .ref hx, .ref hy, .int (sh_a S), .int (sh_b S), .int (sh_c S), .int (sh_d S)])), (hx, .inl (cI, sh_n S, .inl (sh_x S))), (hy, .inl (cI, sh_n S, .inl (sh_y S)))]
abbrev fr_T : Type := Int64 × Int64
abbrev fr_w (f0 : Nat) (Q : fr_T) : va_W := [(f0, .inr (1, [.long Q.1, .long Q.2]))]
abbrev fr_u (Q : fr_T) : Int64 := Q.1
abbrev fr_l (Q : fr_T) : Int64 := Q.2
abbrev fs_u (Q : fr_T) (v : Int64) : fr_T := (v, fr_l Q)
abbrev fs_l (Q : fr_T) (v : Int64) : fr_T := (fr_u Q, v)
abbrev ss_k (S : sh_T) (v : Nat) : sh_T := (v, sh_z S, sh_v S, sh_n S, sh_x S, sh_y S, sh_a S, sh_b S, sh_c S, sh_d S)
abbrev ss_z (S : sh_T) (v : Int32) : sh_T := (sh_k S, v, sh_v S, sh_n S, sh_x S, sh_y S, sh_a S, sh_b S, sh_c S, sh_d S)
abbrev ss_v (S : sh_T) (v : Int32) : sh_T := (sh_k S, sh_z S, v, sh_n S, sh_x S, sh_y S, sh_a S, sh_b S, sh_c S, sh_d S)
abbrev ss_n (S : sh_T) (v : Nat) : sh_T := (sh_k S, sh_z S, sh_v S, v, sh_x S, sh_y S, sh_a S, sh_b S, sh_c S, sh_d S)
abbrev ss_x (S : sh_T) (v : Nat → Int32) : sh_T := (sh_k S, sh_z S, sh_v S, sh_n S, v, sh_y S, sh_a S, sh_b S, sh_c S, sh_d S)
abbrev ss_y (S : sh_T) (v : Nat → Int32) : sh_T := (sh_k S, sh_z S, sh_v S, sh_n S, sh_x S, v, sh_a S, sh_b S, sh_c S, sh_d S)
abbrev ss_a (S : sh_T) (v : Int32) : sh_T := (sh_k S, sh_z S, sh_v S, sh_n S, sh_x S, sh_y S, v, sh_b S, sh_c S, sh_d S)
abbrev ss_b (S : sh_T) (v : Int32) : sh_T := (sh_k S, sh_z S, sh_v S, sh_n S, sh_x S, sh_y S, sh_a S, v, sh_c S, sh_d S)
abbrev ss_c (S : sh_T) (v : Int32) : sh_T := (sh_k S, sh_z S, sh_v S, sh_n S, sh_x S, sh_y S, sh_a S, sh_b S, v, sh_d S)
abbrev ss_d (S : sh_T) (v : Int32) : sh_T := (sh_k S, sh_z S, sh_v S, sh_n S, sh_x S, sh_y S, sh_a S, sh_b S, sh_c S, v)
abbrev mo_T : Type := (Nat → Int32) × (Nat → Int32) × (Nat → Int64) × (Nat → Int64) × Int32 × Int32 × Int32 × (Nat → Int32) × Int32 × Int64 × Int64 × Int32 × (Nat → Int64) × (Nat → Int64) × (Nat → Int32)
abbrev mo_k (M : mo_T) : Nat → Int32 := M.1
abbrev mo_c (M : mo_T) : Nat → Int32 := M.2.1
abbrev mo_x (M : mo_T) : Nat → Int64 := M.2.2.1
abbrev mo_y (M : mo_T) : Nat → Int64 := M.2.2.2.1
abbrev mo_n (M : mo_T) : Int32 := M.2.2.2.2.1
abbrev mo_o (M : mo_T) : Int32 := M.2.2.2.2.2.1
abbrev mo_g (M : mo_T) : Int32 := M.2.2.2.2.2.2.1
abbrev mo_f (M : mo_T) : Nat → Int32 := M.2.2.2.2.2.2.2.1
abbrev mo_m (M : mo_T) : Int32 := M.2.2.2.2.2.2.2.2.1
abbrev mo_u (M : mo_T) : Int64 := M.2.2.2.2.2.2.2.2.2.1
abbrev mo_l (M : mo_T) : Int64 := M.2.2.2.2.2.2.2.2.2.2.1
abbrev mo_t (M : mo_T) : Int32 := M.2.2.2.2.2.2.2.2.2.2.2.1
abbrev mo_p (M : mo_T) : Nat → Int64 := M.2.2.2.2.2.2.2.2.2.2.2.2.1
abbrev mo_q (M : mo_T) : Nat → Int64 := M.2.2.2.2.2.2.2.2.2.2.2.2.2.1
abbrev mo_b (M : mo_T) : Nat → Int32 := M.2.2.2.2.2.2.2.2.2.2.2.2.2.2
abbrev mo_w (cI cJ cZ : ClassId) (m0 mk mc mx my mf mp mq mb : Nat) (M : mo_T) : va_W := [(m0, .inr (4, [.ref mk, .ref mc, .ref mx, .ref my, .int (mo_n M), .int (mo_o M), .int (mo_g M), .ref mf, .int (mo_m M), .long (mo_u M), .long (mo_l M), .int (mo_t M), .ref mp, .ref mq, .ref mb])), (mk, .inl (cI, 60, .inl (mo_k M))), (mc, .inl (cI, 60, .inl (mo_c M))), (mx, .inl (cJ, 1500, .inr (.inl (mo_x M)))), (my, .inl (cJ, 1500, .inr (.inl (mo_y M)))), (mf, .inl (cI, 60, .inl (mo_f M))), (mp, .inl (cJ, 60, .inr (.inl (mo_p M)))), (mq, .inl (cJ, 60, .inr (.inl (mo_q M)))), (mb, .inl (cZ, 60, .inl (mo_b M)))]
abbrev ms_k (M : mo_T) (v : Nat → Int32) : mo_T := (v, mo_c M, mo_x M, mo_y M, mo_n M, mo_o M, mo_g M, mo_f M, mo_m M, mo_u M, mo_l M, mo_t M, mo_p M, mo_q M, mo_b M)
abbrev ms_c (M : mo_T) (v : Nat → Int32) : mo_T := (mo_k M, v, mo_x M, mo_y M, mo_n M, mo_o M, mo_g M, mo_f M, mo_m M, mo_u M, mo_l M, mo_t M, mo_p M, mo_q M, mo_b M)
abbrev ms_x (M : mo_T) (v : Nat → Int64) : mo_T := (mo_k M, mo_c M, v, mo_y M, mo_n M, mo_o M, mo_g M, mo_f M, mo_m M, mo_u M, mo_l M, mo_t M, mo_p M, mo_q M, mo_b M)
abbrev ms_y (M : mo_T) (v : Nat → Int64) : mo_T := (mo_k M, mo_c M, mo_x M, v, mo_n M, mo_o M, mo_g M, mo_f M, mo_m M, mo_u M, mo_l M, mo_t M, mo_p M, mo_q M, mo_b M)
abbrev ms_n (M : mo_T) (v : Int32) : mo_T := (mo_k M, mo_c M, mo_x M, mo_y M, v, mo_o M, mo_g M, mo_f M, mo_m M, mo_u M, mo_l M, mo_t M, mo_p M, mo_q M, mo_b M)
abbrev ms_o (M : mo_T) (v : Int32) : mo_T := (mo_k M, mo_c M, mo_x M, mo_y M, mo_n M, v, mo_g M, mo_f M, mo_m M, mo_u M, mo_l M, mo_t M, mo_p M, mo_q M, mo_b M)
abbrev ms_g (M : mo_T) (v : Int32) : mo_T := (mo_k M, mo_c M, mo_x M, mo_y M, mo_n M, mo_o M, v, mo_f M, mo_m M, mo_u M, mo_l M, mo_t M, mo_p M, mo_q M, mo_b M)
abbrev ms_f (M : mo_T) (v : Nat → Int32) : mo_T := (mo_k M, mo_c M, mo_x M, mo_y M, mo_n M, mo_o M, mo_g M, v, mo_m M, mo_u M, mo_l M, mo_t M, mo_p M, mo_q M, mo_b M)
abbrev ms_m (M : mo_T) (v : Int32) : mo_T := (mo_k M, mo_c M, mo_x M, mo_y M, mo_n M, mo_o M, mo_g M, mo_f M, v, mo_u M, mo_l M, mo_t M, mo_p M, mo_q M, mo_b M)
abbrev ms_u (M : mo_T) (v : Int64) : mo_T := (mo_k M, mo_c M, mo_x M, mo_y M, mo_n M, mo_o M, mo_g M, mo_f M, mo_m M, v, mo_l M, mo_t M, mo_p M, mo_q M, mo_b M)
abbrev ms_l (M : mo_T) (v : Int64) : mo_T := (mo_k M, mo_c M, mo_x M, mo_y M, mo_n M, mo_o M, mo_g M, mo_f M, mo_m M, mo_u M, v, mo_t M, mo_p M, mo_q M, mo_b M)
abbrev ms_t (M : mo_T) (v : Int32) : mo_T := (mo_k M, mo_c M, mo_x M, mo_y M, mo_n M, mo_o M, mo_g M, mo_f M, mo_m M, mo_u M, mo_l M, v, mo_p M, mo_q M, mo_b M)
abbrev ms_p (M : mo_T) (v : Nat → Int64) : mo_T := (mo_k M, mo_c M, mo_x M, mo_y M, mo_n M, mo_o M, mo_g M, mo_f M, mo_m M, mo_u M, mo_l M, mo_t M, v, mo_q M, mo_b M)
abbrev ms_q (M : mo_T) (v : Nat → Int64) : mo_T := (mo_k M, mo_c M, mo_x M, mo_y M, mo_n M, mo_o M, mo_g M, mo_f M, mo_m M, mo_u M, mo_l M, mo_t M, mo_p M, v, mo_b M)
abbrev ms_b (M : mo_T) (v : Nat → Int32) : mo_T := (mo_k M, mo_c M, mo_x M, mo_y M, mo_n M, mo_o M, mo_g M, mo_f M, mo_m M, mo_u M, mo_l M, mo_t M, mo_p M, mo_q M, v)
abbrev en_l (k : Nat) : Int32 := ([1, 2, 3] : List Int32).getD k 0
abbrev en_m (k : Nat) : Int32 := ([1, 24, 24] : List Int32).getD k 0
-- pure words of the walks
def rd_i (n : Nat) (f : Nat → Int32) (i : Int32) : Option Int32 := if i < 0 ∨ n ≤ i.toNatClampNeg then none else some (f i.toNatClampNeg)
def rd_l (n : Nat) (f : Nat → Int64) (i : Int32) : Option Int64 := if i < 0 ∨ n ≤ i.toNatClampNeg then none else some (f i.toNatClampNeg)
def wr_in (n : Nat) (i : Int32) : Option Unit := if i < 0 ∨ n ≤ i.toNatClampNeg then none else some ()
def nz_i (y : Int32) : Option Unit := if y = 0 then none else some ()
def nz_l (y : Int64) : Option Unit := if y = 0 then none else some ()
def bz_i (v : Int32) : Option Unit := if v = 0 ∨ v = 1 then some () else none
abbrev ma_i (x y : Int32) : Int32 := if x < y then y else x
abbrev mi_i (x y : Int32) : Int32 := if y < x then y else x
theorem rd_i_in {n : Nat} {f : Nat → Int32} {i v : Int32} (h : rd_i n f i = some v) : vp_in i n ∧ f i.toNatClampNeg = v := by
  unfold rd_i at h
  split at h
  · cases h
  · rename_i hc
    exact ⟨hc, Option.some.inj h⟩
theorem rd_l_in {n : Nat} {f : Nat → Int64} {i : Int32} {v : Int64} (h : rd_l n f i = some v) : vp_in i n ∧ f i.toNatClampNeg = v := by
  unfold rd_l at h
  split at h
  · cases h
  · rename_i hc
    exact ⟨hc, Option.some.inj h⟩
theorem wr_ok {n : Nat} {i : Int32} {u : Unit} (h : wr_in n i = some u) : vp_in i n := by
  unfold wr_in at h
  split at h
  · cases h
  · rename_i hc
    exact hc
theorem nz_i_ne {y : Int32} {u : Unit} (h : nz_i y = some u) : ¬ y = 0 := by
  unfold nz_i at h
  split at h
  · cases h
  · rename_i hc
    exact hc
theorem nz_l_ne {y : Int64} {u : Unit} (h : nz_l y = some u) : ¬ y = 0 := by
  unfold nz_l at h
  split at h
  · cases h
  · rename_i hc
    exact hc
theorem bz_nar {v : Int32} {u : Unit} (h : bz_i v = some u) : narrow .boolean (.int v) = .int v := by
  unfold bz_i at h
  split at h
  · rename_i hc
    rcases hc with rfl | rfl <;> rfl
  · cases h
theorem op_bd {α β : Type} {o : Option α} {k : α → Option β} {r : β} (h : o.bind k = some r) : ∃ v, o = some v ∧ k v = some r := by
  cases o with
  | none => cases h
  | some v => exact ⟨v, rfl, h⟩
theorem it_t {α : Type} {c : Prop} [Decidable c] {a b r : α} (h : c) (e : (if c then a else b) = r) : a = r := by
  rw [if_pos h] at e
  exact e
theorem it_f {α : Type} {c : Prop} [Decidable c] {a b r : α} (h : ¬ c) (e : (if c then a else b) = r) : b = r := by
  rw [if_neg h] at e
  exact e
-- what the tables say, and the three kinds
abbrev gl_K (D : va_G) (cI cJ cZ cS : ClassId) (U : State) : Prop := va_K D vwCl [(cI, .int), (cJ, .long), (cZ, .boolean), (cS, .object "PlacePoints$Shape")] U
abbrev gl_E (ad : Nat → Nat) (A : Nat → Prop) (U : State) (H : Heap) : Prop := va_En "PlacePoints$Kind" "LPlacePoints$Kind;" ["POINT", "LINE", "POLYGON"] [("PlacePoints$Kind", "least", "I", [1, 2, 3]), ("PlacePoints$Kind", "most", "I", [1, 24, 24])] ad A U H
/-- the start of a method that only reads -/
def gl_P (D : va_G) (cI cJ cZ cS : ClassId) (ad : Nat → Nat) (av : List Value) (B : Heap → Prop) : Array Value → State → Prop := va_Pc av (fun U => gl_K D cI cJ cZ cS U ∧ gl_E ad (fun _ => False) U U.heap ∧ B U.heap)
theorem gl_blind {D : va_G} {cI cJ cZ cS : ClassId} {ad : Nat → Nat} {av : List Value} {B : Heap → Prop} : FrameBlind (gl_P D cI cJ cZ cS ad av B) := by
  intro a U g mk q
  obtain ⟨q0, qK, qE, qB⟩ := q
  exact ⟨q0, va_K.moved (u := U) (U := U.calling g mk a) (Vm.Alike.refl U.vm) qK, va_En.moved (u := U) (U := U.calling g mk a) (Vm.Alike.refl U.vm) qE, qB⟩
theorem gl_ok {D : va_G} {cI cJ cZ cS : ClassId} {ad : Nat → Nat} {av : List Value} {B : Heap → Prop} {s : State} {H : Heap} (hK : gl_K D cI cJ cZ cS s) (hE : gl_E ad (fun _ => False) s H) (hB : B H) : ∀ U : State, U.heap = H → s.WarmedH U.vm → gl_P D cI cJ cZ cS ad av B av.toArray U := fun U hU hW => ⟨rfl, va_K.moved hW.alike hK, by rw [hU]; exact va_En.moved hW.alike hE, by rw [hU]; exact hB⟩
theorem gl_Ek {ad : Nat → Nat} {A : Nat → Prop} {s : State} {H : Heap} {locs : List Loc} (hE : gl_E ad A s s.heap) (hS : va_S A s.heap H locs) : gl_E ad (fun _ => False) s H := va_En.narrow (va_En.kept hE hS.2.1) (fun _ h => h.elim)
/-- the start of a method that writes the cells w, and reads the cells ro beside them -/
def gm_P (D : va_G) (cI cJ cZ cS : ClassId) (ad : Nat → Nat) (sz : Nat) (w ro : va_W) (av : List Value) : Array Value → State → Prop := va_Pc av (fun U => U.heap.size = sz ∧ gl_K D cI cJ cZ cS U ∧ gl_E ad (va_A w sz) U U.heap ∧ va_P D vwCl w U.heap ∧ va_D (fun _ => True) w ∧ va_P D vwCl ro U.heap ∧ ∀ (k : Nat) (q : Nat × va_E), ro[k]? = some q → ∀ (j : Nat) (e : va_E), ¬ w[j]? = some (q.1, e))
theorem gm_blind {D : va_G} {cI cJ cZ cS : ClassId} {ad : Nat → Nat} {sz : Nat} {w ro : va_W} {av : List Value} : FrameBlind (gm_P D cI cJ cZ cS ad sz w ro av) := by
  intro a U g mk q
  obtain ⟨q0, qs, qK, qE, qr⟩ := q
  exact ⟨q0, qs, va_K.moved (u := U) (U := U.calling g mk a) (Vm.Alike.refl U.vm) qK, va_En.moved (u := U) (U := U.calling g mk a) (Vm.Alike.refl U.vm) qE, qr⟩
theorem gx_rn0 {D : va_G} {w ro : va_W} {s : State} (hR : va_P D vwCl ro s.heap) (h : ∀ (k : Nat) (q : Nat × va_E), ro[k]? = some q → ∀ (j : Nat) (e : va_E), ¬ w[j]? = some (q.1, e)) : ∀ (k : Nat) (q : Nat × va_E), ro[k]? = some q → ¬ va_A w s.heap.size q.1 := by
  intro k q hq ha
  rcases ha with ⟨j, e, hj⟩ | hge
  · exact h k q hq j e hj
  · have := (hR k q hq).lt
    omega
theorem gx_ro {D : va_G} {ro : va_W} {A : Nat → Prop} {s : State} {H : Heap} {locs : List Loc} (hR : va_P D vwCl ro s.heap) (hRn : ∀ (k : Nat) (q : Nat × va_E), ro[k]? = some q → ¬ A q.1) (hS : va_S A s.heap H locs) : va_P D vwCl ro H := hR.kept (fun k q hk => hS.2.1 q.1 (hR k q hk).lt (hRn k q hk))
theorem gx_rn {A : Nat → Prop} {w ro ro' : va_W} (hRn : ∀ (k : Nat) (q : Nat × va_E), ro[k]? = some q → ¬ A q.1) (hD : va_D A w) (is : List Nat) (hs : is.map (fun i => ro[i]?) = ro'.map some) : ∀ (k : Nat) (q : Nat × va_E), ro'[k]? = some q → ∀ (j : Nat) (e : va_E), ¬ w[j]? = some (q.1, e) := by
  intro k q hk j e hj
  have h1 : (ro'.map some)[k]? = some (some q) := by rw [List.getElem?_map, hk]; rfl
  rw [← hs, List.getElem?_map] at h1
  cases hi : is[k]? with
  | none => rw [hi] at h1; cases h1
  | some i =>
    rw [hi] at h1
    exact hRn i q (Option.some.inj h1) (hD.2 j (q.1, e) hj)
theorem va_nil0 {D : va_G} {H : Heap} : va_P D vwCl [] H := fun k q h => by cases h
theorem gx_nil {w : va_W} : ∀ (k : Nat) (q : Nat × va_E), ([] : va_W)[k]? = some q → ∀ (j : Nat) (e : va_E), ¬ w[j]? = some (q.1, e) := fun k q h => by cases h
theorem gm_ok {D : va_G} {cI cJ cZ cS : ClassId} {ad : Nat → Nat} {w ro : va_W} {av : List Value} {s : State} {H : Heap} {A : Nat → Prop} {locs : List Loc} (hK : gl_K D cI cJ cZ cS s) (hE : gl_E ad A s s.heap) (hS : va_S A s.heap H locs) (hF : ∀ q, va_A w H.size q → A q) (hP : va_P D vwCl w H) (hD : va_D A w) (hR : va_P D vwCl ro H) (hRn : ∀ (k : Nat) (q : Nat × va_E), ro[k]? = some q → ∀ (j : Nat) (e : va_E), ¬ w[j]? = some (q.1, e)) : ∀ U : State, U.heap = H → s.WarmedH U.vm → gm_P D cI cJ cZ cS ad H.size w ro av av.toArray U := fun U hU hW => ⟨rfl, by rw [hU], va_K.moved hW.alike hK, by rw [hU]; exact va_En.moved hW.alike (va_En.narrow (va_En.kept hE hS.2.1) hF), by rw [hU]; exact hP, hD.weaken (fun _ _ _ _ => trivial), by rw [hU]; exact hR, hRn⟩
section GX
variable {p : Program} {l : Launch} {e : Env} {R : Room} {s : State} {m : MethodId} {args : Array Value} {below : List Frame} {meth : Method} {c : Code} {H : Heap} {locs : List Loc} {cells slots : Nat} {Q : State → Prop}
variable {cc : ByteArray} {pc : Nat} {ls : Array Slot} {rest st0 : List Value} {D : va_G} {cl : List vw_C} {A : Nat → Prop} {a : Nat} {tys : List (ClassId × FieldType)} {ws : va_W} {H0 : Heap}
theorem gx_ni {x y : Int32} (h : x = y) (k : W p l e R s m args below meth c H locs cells slots Q (F0 m pc ls (.int y :: rest))) : W p l e R s m args below meth c H locs cells slots Q (F0 m pc ls (.int x :: rest)) := by subst h; exact k
theorem gx_nj {x y : Int64} (h : x = y) (k : W p l e R s m args below meth c H locs cells slots Q (F0 m pc ls (.long y :: rest))) : W p l e R s m args below meth c H locs cells slots Q (F0 m pc ls (.long x :: rest)) := by subst h; exact k
theorem gx_iald (hexec : p.tables.exec = Jvm.exec) (hb : c.code = cc) (hK : va_K D cl tys s) (hP : va_P D cl ws H) (q0 t0 : Nat) {cA : ClassId} {n : Nat} {f : Nat → Int32} (ha : ws[q0]? = some (a, .inl (cA, n, .inl f))) (ht : tys[t0]? = some (cA, .int)) {i v : Int32} (hv : rd_i n f i = some v) (hdg : decode cc pc = .ok (.iaload, 1))
    (kk : W p l e R s m args below meth c H locs cells slots Q (F0 m (pc + 1) ls (.int v :: rest))) : W p l e R s m args below meth c H locs cells slots Q (F0 m pc ls (.int i :: .ref a :: rest)) := by
  obtain ⟨hi, rfl⟩ := rd_i_in hv
  exact va_iald hexec hb hK hP q0 t0 ha ht hi hdg kk
theorem gx_zald (hexec : p.tables.exec = Jvm.exec) (hb : c.code = cc) (hK : va_K D cl tys s) (hP : va_P D cl ws H) (q0 t0 : Nat) {cA : ClassId} {n : Nat} {f : Nat → Int32} (ha : ws[q0]? = some (a, .inl (cA, n, .inl f))) (ht : tys[t0]? = some (cA, .boolean)) {i v : Int32} (hv : rd_i n f i = some v) (hdg : decode cc pc = .ok (.baload, 1))
    (kk : W p l e R s m args below meth c H locs cells slots Q (F0 m (pc + 1) ls (.int v :: rest))) : W p l e R s m args below meth c H locs cells slots Q (F0 m pc ls (.int i :: .ref a :: rest)) := by
  obtain ⟨hi, rfl⟩ := rd_i_in hv
  exact va_zald hexec hb hK hP q0 t0 ha ht hi hdg kk
theorem gx_lald (hexec : p.tables.exec = Jvm.exec) (hb : c.code = cc) (hK : va_K D cl tys s) (hP : va_P D cl ws H) (q0 t0 : Nat) {cA : ClassId} {n : Nat} {f : Nat → Int64} (ha : ws[q0]? = some (a, .inl (cA, n, .inr (.inl f)))) (ht : tys[t0]? = some (cA, .long)) {i : Int32} {v : Int64} (hv : rd_l n f i = some v) (hdg : decode cc pc = .ok (.laload, 1))
    (kk : W p l e R s m args below meth c H locs cells slots Q (F0 m (pc + 1) ls (.long v :: rest))) : W p l e R s m args below meth c H locs cells slots Q (F0 m pc ls (.int i :: .ref a :: rest)) := by
  obtain ⟨hi, rfl⟩ := rd_l_in hv
  exact va_lald hexec hb hK hP q0 t0 ha ht hi hdg kk
theorem gx_cSi {v : Int32} {aa : Array Value} (hr : CallRun p l e R s m args below meth c H locs cells slots 0 0 (F0 m pc ls st0) rest (vp_Si (fun x => x = v) aa) (fun _ => False)) (kk : W p l e R s m args below meth c H locs cells slots Q (F0 m (pc + 3) ls (.int v :: rest))) : W p l e R s m args below meth c H locs cells slots Q (F0 m pc ls st0) := vp_callSi hr (fun r h => by subst h; exact kk)
theorem gx_cSl {v : Int64} {aa : Array Value} (hr : CallRun p l e R s m args below meth c H locs cells slots 0 0 (F0 m pc ls st0) rest (vp_Sl (fun x => x = v) aa) (fun _ => False)) (kk : W p l e R s m args below meth c H locs cells slots Q (F0 m (pc + 3) ls (.long v :: rest))) : W p l e R s m args below meth c H locs cells slots Q (F0 m pc ls st0) := vp_callSl hr (fun r h => by subst h; exact kk)
theorem gx_en {ad : Nat → Nat} {H9 : Heap} (hE : gl_E ad A s H9) {i j : Nat} (hi : i < 3) (hj : j < 3) : (some (ad i) = some (ad j)) ↔ i = j := ⟨fun h => hE.2 i j hi hj (Option.some.inj h), fun h => by rw [h]⟩
theorem gx_acmp_eq {ad : Nat → Nat} {H9 : Heap} {i j : Nat} {off : Int} {tgt : Nat} (hE : gl_E ad A s H9) (hi : i < 3) (hj : j < 3) (hexec : p.tables.exec = Jvm.exec) (hb : c.code = cc) (hdg : decode cc pc = .ok (.if_acmp .eq off, 3)) (ht : (pc : Int) + off = (tgt : Int))
    (kt : i = j → W p l e R s m args below meth c H locs cells slots Q (F0 m tgt ls rest)) (kf : ¬ i = j → W p l e R s m args below meth c H locs cells slots Q (F0 m (pc + 3) ls rest)) : W p l e R s m args below meth c H locs cells slots Q (F0 m pc ls (.ref (ad j) :: .ref (ad i) :: rest)) :=
  lv_acmp_eq (rx := some (ad i)) (ry := some (ad j)) hexec hb hdg ht (fun h => kt ((gx_en hE hi hj).mp h)) (fun h => kf (fun q => h ((gx_en hE hi hj).mpr q)))
theorem gx_acmp_ne {ad : Nat → Nat} {H9 : Heap} {i j : Nat} {off : Int} {tgt : Nat} (hE : gl_E ad A s H9) (hi : i < 3) (hj : j < 3) (hexec : p.tables.exec = Jvm.exec) (hb : c.code = cc) (hdg : decode cc pc = .ok (.if_acmp .ne off, 3)) (ht : (pc : Int) + off = (tgt : Int))
    (kt : ¬ i = j → W p l e R s m args below meth c H locs cells slots Q (F0 m tgt ls rest)) (kf : i = j → W p l e R s m args below meth c H locs cells slots Q (F0 m (pc + 3) ls rest)) : W p l e R s m args below meth c H locs cells slots Q (F0 m pc ls (.ref (ad j) :: .ref (ad i) :: rest)) :=
  lv_acmp_ne (rx := some (ad i)) (ry := some (ad j)) hexec hb hdg ht (fun h => kt (fun q => h ((gx_en hE hi hj).mpr q))) (fun h => kf ((gx_en hE hi hj).mp h))
theorem gx_cMi {S : Type} {v : Int32 × S} {aa : Array Value} {A0 A1 : Nat → Prop} {mc ms : Nat} {wf : S → va_W} (hr : va_Run p l e R s m args below meth c H locs cells slots mc ms (F0 m pc ls st0) rest (va_Qi (fun x u => x = v.1 ∧ u = v.2) (fun u t => va_P D vwCl (wf u) t.heap ∧ va_D A1 (wf u)) A1 aa) A1) (hS : va_S A0 H0 H locs) (hA : ∀ q, A1 q → A0 q)
    (kk : ∀ (H1 : Heap) (locs1 : List Loc), va_P D vwCl (wf v.2) H1 → va_D A0 (wf v.2) → va_S A0 H0 H1 locs1 → W p l e R s m args below meth c H1 locs1 (cells + mc) (slots + ms) Q (F0 m (pc + 3) ls (.int v.1 :: rest))) : W p l e R s m args below meth c H locs cells slots Q (F0 m pc ls st0) :=
  va_calli hr hS (fun q _ h => hA q h) hA (fun r u t H1 locs1 ht hvm hw hB hz1 hk1 hS1 => by
    obtain ⟨rfl, rfl⟩ := hw
    rw [ht] at hB
    exact kk H1 locs1 hB.1 (hB.2.weaken (fun _ _ _ h => hA _ h)) hS1)
theorem gx_cMl {S : Type} {v : Int64 × S} {aa : Array Value} {A0 A1 : Nat → Prop} {mc ms : Nat} {wf : S → va_W} (hr : va_Run p l e R s m args below meth c H locs cells slots mc ms (F0 m pc ls st0) rest (va_Ql (fun x u => x = v.1 ∧ u = v.2) (fun u t => va_P D vwCl (wf u) t.heap ∧ va_D A1 (wf u)) A1 aa) A1) (hS : va_S A0 H0 H locs) (hA : ∀ q, A1 q → A0 q)
    (kk : ∀ (H1 : Heap) (locs1 : List Loc), va_P D vwCl (wf v.2) H1 → va_D A0 (wf v.2) → va_S A0 H0 H1 locs1 → W p l e R s m args below meth c H1 locs1 (cells + mc) (slots + ms) Q (F0 m (pc + 3) ls (.long v.1 :: rest))) : W p l e R s m args below meth c H locs cells slots Q (F0 m pc ls st0) :=
  va_calll hr hS (fun q _ h => hA q h) hA (fun r u t H1 locs1 ht hvm hw hB hz1 hk1 hS1 => by
    obtain ⟨rfl, rfl⟩ := hw
    rw [ht] at hB
    exact kk H1 locs1 hB.1 (hB.2.weaken (fun _ _ _ h => hA _ h)) hS1)
theorem gx_cMv {S : Type} {v : S} {aa : Array Value} {A0 A1 : Nat → Prop} {mc ms : Nat} {wf : S → va_W} (hr : va_Run p l e R s m args below meth c H locs cells slots mc ms (F0 m pc ls st0) rest (va_Qv (fun u => u = v) (fun u t => va_P D vwCl (wf u) t.heap ∧ va_D A1 (wf u)) A1 aa) A1) (hS : va_S A0 H0 H locs) (hA : ∀ q, A1 q → A0 q)
    (kk : ∀ (H1 : Heap) (locs1 : List Loc), va_P D vwCl (wf v) H1 → va_D A0 (wf v) → va_S A0 H0 H1 locs1 → W p l e R s m args below meth c H1 locs1 (cells + mc) (slots + ms) Q (F0 m (pc + 3) ls rest)) : W p l e R s m args below meth c H locs cells slots Q (F0 m pc ls st0) :=
  va_callv hr hS (fun q _ h => hA q h) hA (fun u t H1 locs1 ht hvm hw hB hz1 hk1 hS1 => by
    obtain rfl := hw
    rw [ht] at hB
    exact kk H1 locs1 hB.1 (hB.2.weaken (fun _ _ _ h => hA _ h)) hS1)
end GX
