-- the class: made, standing, corners used, boxed numbers, boxed count, gap, gap uppers, gap lowers, sorted numbers, the shapes by their numbers (where a shape lies: adr, a ghost)
abbrev pp_T : Type := Int32 × Int32 × Int32 × (Nat → Int32) × Int32 × Int64 × Int64 × (Nat → Int64) × (Nat → Int64) × (Nat → Int32)
abbrev pp_n (X : pp_T) : Int32 := X.1
abbrev pp_s (X : pp_T) : Int32 := X.2.1
abbrev pp_o (X : pp_T) : Int32 := X.2.2.1
abbrev pp_b (X : pp_T) : Nat → Int32 := X.2.2.2.1
abbrev pp_m (X : pp_T) : Int32 := X.2.2.2.2.1
abbrev pp_u (X : pp_T) : Int64 := X.2.2.2.2.2.1
abbrev pp_l (X : pp_T) : Int64 := X.2.2.2.2.2.2.1
abbrev pp_p (X : pp_T) : Nat → Int64 := X.2.2.2.2.2.2.2.1
abbrev pp_q (X : pp_T) : Nat → Int64 := X.2.2.2.2.2.2.2.2.1
abbrev pp_r (X : pp_T) : Nat → Int32 := X.2.2.2.2.2.2.2.2.2
abbrev pt_n (X : pp_T) (v : Int32) : pp_T := (v, pp_s X, pp_o X, pp_b X, pp_m X, pp_u X, pp_l X, pp_p X, pp_q X, pp_r X)
abbrev pt_s (X : pp_T) (v : Int32) : pp_T := (pp_n X, v, pp_o X, pp_b X, pp_m X, pp_u X, pp_l X, pp_p X, pp_q X, pp_r X)
abbrev pt_o (X : pp_T) (v : Int32) : pp_T := (pp_n X, pp_s X, v, pp_b X, pp_m X, pp_u X, pp_l X, pp_p X, pp_q X, pp_r X)
abbrev pt_b (X : pp_T) (v : Nat → Int32) : pp_T := (pp_n X, pp_s X, pp_o X, v, pp_m X, pp_u X, pp_l X, pp_p X, pp_q X, pp_r X)
abbrev pt_m (X : pp_T) (v : Int32) : pp_T := (pp_n X, pp_s X, pp_o X, pp_b X, v, pp_u X, pp_l X, pp_p X, pp_q X, pp_r X)
abbrev pt_u (X : pp_T) (v : Int64) : pp_T := (pp_n X, pp_s X, pp_o X, pp_b X, pp_m X, v, pp_l X, pp_p X, pp_q X, pp_r X)
abbrev pt_l (X : pp_T) (v : Int64) : pp_T := (pp_n X, pp_s X, pp_o X, pp_b X, pp_m X, pp_u X, v, pp_p X, pp_q X, pp_r X)
abbrev pt_p (X : pp_T) (v : Nat → Int64) : pp_T := (pp_n X, pp_s X, pp_o X, pp_b X, pp_m X, pp_u X, pp_l X, v, pp_q X, pp_r X)
abbrev pt_q (X : pp_T) (v : Nat → Int64) : pp_T := (pp_n X, pp_s X, pp_o X, pp_b X, pp_m X, pp_u X, pp_l X, pp_p X, v, pp_r X)
abbrev pt_r (X : pp_T) (v : Nat → Int32) : pp_T := (pp_n X, pp_s X, pp_o X, pp_b X, pp_m X, pp_u X, pp_l X, pp_p X, pp_q X, v)
abbrev ad_T : Type := Nat → Nat × Nat × Nat
abbrev pp_f (adr : ad_T) (hh : Nat → Option sh_T) : Nat → Option Nat := fun k => (hh k).map (fun _ => (adr k).1)
abbrev pp_w (cI cJ cS : ClassId) (x0 xm xb f0 xp xq xr : Nat) (adr : ad_T) (hh : Nat → Option sh_T) (X : pp_T) : va_W := [(x0, .inr (3, [.ref xm, .int (pp_n X), .int (pp_s X), .int (pp_o X), .ref xb, .int (pp_m X), .ref f0, .ref xp, .ref xq, .ref xr])), (xm, .inl (cS, 60, .inr (.inr (.inr (.inr (pp_f adr hh)))))), (xb, .inl (cI, 60, .inl (pp_b X))), (f0, .inr (1, [.long (pp_u X), .long (pp_l X)])), (xp, .inl (cJ, 60, .inr (.inl (pp_p X)))), (xq, .inl (cJ, 60, .inr (.inl (pp_q X)))), (xr, .inl (cI, 60, .inl (pp_r X)))]
abbrev sh_wa (cI : ClassId) (ad : Nat → Nat) (a : Nat × Nat × Nat) (S : sh_T) : va_W := sh_w cI ad a.1 a.2.1 a.2.2 S
/-- the pool: every shape that stands lies where adr says -/
def pl_P (D : va_G) (cI : ClassId) (ad : Nat → Nat) (adr : ad_T) (h : Nat → Option sh_T) (H : Heap) : Prop := ∀ (k : Nat) (S : sh_T), h k = some S → va_P D vwCl (sh_wa cI ad (adr k) S) H ∧ sh_k S < 3
def rd_q (n : Nat) (h : Nat → Option sh_T) (i : Int32) : Option (Option sh_T) := if i < 0 ∨ n ≤ i.toNatClampNeg then none else some (h i.toNatClampNeg)
theorem rd_q_in {n : Nat} {h : Nat → Option sh_T} {i : Int32} {v : Option sh_T} (e : rd_q n h i = some v) : vp_in i n ∧ h i.toNatClampNeg = v := by
  unfold rd_q at e
  split at e
  · cases e
  · rename_i hc
    exact ⟨hc, Option.some.inj e⟩
def mt_o {α β : Type} (o : Option α) (a : β) (f : α → β) : β := match o with
  | none => a
  | some x => f x
theorem mt_n {α β : Type} {a r : β} {f : α → β} (h : mt_o none a f = r) : a = r := h
theorem mt_s {α β : Type} {x : α} {a r : β} {f : α → β} (h : mt_o (some x) a f = r) : f x = r := h
section GXQ
variable {p : Program} {l : Launch} {e : Env} {R : Room} {s : State} {m : MethodId} {args : Array Value} {below : List Frame} {meth : Method} {c : Code} {H : Heap} {locs : List Loc} {cells slots : Nat} {Q : State → Prop}
variable {cc : ByteArray} {pc : Nat} {ls : Array Slot} {rest st0 : List Value} {D : va_G} {cl : List vw_C} {A : Nat → Prop} {a : Nat} {tys : List (ClassId × FieldType)} {ws : va_W} {H0 : Heap}
theorem gx_cSq {v : Option Nat} {aa : Array Value} (hr : CallRun p l e R s m args below meth c H locs cells slots 0 0 (F0 m pc ls st0) rest (va_Sq (fun x => x = v) aa) (fun _ => False)) (kk : W p l e R s m args below meth c H locs cells slots Q (F0 m (pc + 3) ls (va_rf v :: rest))) : W p l e R s m args below meth c H locs cells slots Q (F0 m pc ls st0) := va_csq hr (fun r h => by subst h; exact kk)
theorem gx_Psub {w w' : va_W} (h : va_P D vwCl w H) (is : List Nat) (hs : is.map (fun i => w[i]?) = w'.map some) : va_P D vwCl w' H := by
  intro k q hk
  have h1 : (w'.map some)[k]? = some (some q) := by rw [List.getElem?_map, hk]; rfl
  rw [← hs, List.getElem?_map] at h1
  cases hi : is[k]? with
  | none => rw [hi] at h1; cases h1
  | some i =>
    rw [hi] at h1
    exact h i q (Option.some.inj h1)
/-- behind a call that had a part of the caller's cells -/
theorem gx_cPv {S : Type} {v : S} {aa : Array Value} {A0 : Nat → Prop} {mc ms : Nat} {wf : S → va_W} {wc wr w' : va_W} (hr : va_Run p l e R s m args below meth c H locs cells slots mc ms (F0 m pc ls st0) rest (va_Qv (fun u => u = v) (fun u t => va_P D vwCl (wf u) t.heap ∧ va_D (va_A wc H.size) (wf u)) (va_A wc H.size) aa) (va_A wc H.size)) (hP : va_P D vwCl ws H) (hD : va_D A0 ws) (hS : va_S A0 H0 H locs) (hA : ∀ q, va_A wc H.size q → A0 q) (isC isR : List Nat) (hC : isC.map (fun i => ws[i]?) = wc.map some) (hR : isR.map (fun i => ws[i]?) = wr.map some) (hn : va_nd isR = true) (hdis : ∀ i ∈ isR, i ∉ isC) (is : List Nat) (hi : va_nd is = true) (hw' : is.map (fun i => (wr ++ wf v)[i]?) = w'.map some)
    (kk : ∀ (H1 : Heap) (locs1 : List Loc), va_P D vwCl w' H1 → va_D A0 w' → va_S A0 H0 H1 locs1 → W p l e R s m args below meth c H1 locs1 (cells + mc) (slots + ms) Q (F0 m (pc + 3) ls rest)) : W p l e R s m args below meth c H locs cells slots Q (F0 m pc ls st0) :=
  va_callv hr hS (fun q _ h => hA q h) hA (fun u t H1 locs1 ht hvm hw hB hz1 hk1 hS1 => by
    obtain rfl := hw
    rw [ht] at hB
    obtain ⟨hP1, hD1⟩ := va_join (wr := wr) (w1 := wf u) hP hD isC isR hC hR hn hdis hk1 hA hB.1 hB.2
    exact kk H1 locs1 (gx_Psub hP1 is hw') (hD1.sub is hi hw') hS1)
end GXQ
/-- the start of a method of the class that writes its own cells and reads the pool -/
def gp_P (D : va_G) (cI cJ cZ cS : ClassId) (ad : Nat → Nat) (adr : ad_T) (hh : Nat → Option sh_T) (sz : Nat) (w : va_W) (av : List Value) : Array Value → State → Prop := va_Pc av (fun U => U.heap.size = sz ∧ gl_K D cI cJ cZ cS U ∧ gl_E ad (va_A w sz) U U.heap ∧ va_P D vwCl w U.heap ∧ va_D (fun _ => True) w ∧ pl_P D cI ad adr hh U.heap ∧ ∀ (k : Nat) (S : sh_T), hh k = some S → ∀ (i : Nat) (q : Nat × va_E), (sh_wa cI ad (adr k) S)[i]? = some q → ∀ (j : Nat) (e : va_E), ¬ w[j]? = some (q.1, e))
theorem gp_blind {D : va_G} {cI cJ cZ cS : ClassId} {ad : Nat → Nat} {adr : ad_T} {hh : Nat → Option sh_T} {sz : Nat} {w : va_W} {av : List Value} : FrameBlind (gp_P D cI cJ cZ cS ad adr hh sz w av) := by
  intro a U g mk q
  obtain ⟨q0, qs, qK, qE, qr⟩ := q
  exact ⟨q0, qs, va_K.moved (u := U) (U := U.calling g mk a) (Vm.Alike.refl U.vm) qK, va_En.moved (u := U) (U := U.calling g mk a) (Vm.Alike.refl U.vm) qE, qr⟩
theorem pl_kept {D : va_G} {cI : ClassId} {ad : Nat → Nat} {adr : ad_T} {hh : Nat → Option sh_T} {A : Nat → Prop} {s : State} {H : Heap} {locs : List Loc} (hQ : pl_P D cI ad adr hh s.heap) (hQn : ∀ (k : Nat) (S : sh_T), hh k = some S → ∀ (i : Nat) (q : Nat × va_E), (sh_wa cI ad (adr k) S)[i]? = some q → ¬ A q.1) (hS : va_S A s.heap H locs) : pl_P D cI ad adr hh H := fun k S hk => ⟨gx_ro (hQ k S hk).1 (hQn k S hk) hS, (hQ k S hk).2⟩
theorem pl_n0 {D : va_G} {cI : ClassId} {ad : Nat → Nat} {adr : ad_T} {hh : Nat → Option sh_T} {w : va_W} {s : State} (hQ : pl_P D cI ad adr hh s.heap) (h : ∀ (k : Nat) (S : sh_T), hh k = some S → ∀ (i : Nat) (q : Nat × va_E), (sh_wa cI ad (adr k) S)[i]? = some q → ∀ (j : Nat) (e : va_E), ¬ w[j]? = some (q.1, e)) : ∀ (k : Nat) (S : sh_T), hh k = some S → ∀ (i : Nat) (q : Nat × va_E), (sh_wa cI ad (adr k) S)[i]? = some q → ¬ va_A w s.heap.size q.1 := fun k S hk => gx_rn0 (hQ k S hk).1 (h k S hk)
theorem pl_n1 {cI : ClassId} {ad : Nat → Nat} {adr : ad_T} {hh : Nat → Option sh_T} {A : Nat → Prop} {w : va_W} (hQn : ∀ (k : Nat) (S : sh_T), hh k = some S → ∀ (i : Nat) (q : Nat × va_E), (sh_wa cI ad (adr k) S)[i]? = some q → ¬ A q.1) (hD : va_D A w) : ∀ (k : Nat) (S : sh_T), hh k = some S → ∀ (i : Nat) (q : Nat × va_E), (sh_wa cI ad (adr k) S)[i]? = some q → ∀ (j : Nat) (e : va_E), ¬ w[j]? = some (q.1, e) := fun k S hk i q hq j e hj => hQn k S hk i q hq (hD.2 j (q.1, e) hj)
theorem pl_rn {A : Nat → Prop} {w ro : va_W} (hn : ∀ (i : Nat) (q : Nat × va_E), ro[i]? = some q → ¬ A q.1) (hD : va_D A w) : ∀ (k : Nat) (q : Nat × va_E), ro[k]? = some q → ∀ (j : Nat) (e : va_E), ¬ w[j]? = some (q.1, e) := fun i q hq j e hj => hn i q hq (hD.2 j (q.1, e) hj)
theorem pl_ra {w r1 r2 : va_W} (h1 : ∀ (k : Nat) (q : Nat × va_E), r1[k]? = some q → ∀ (j : Nat) (e : va_E), ¬ w[j]? = some (q.1, e)) (h2 : ∀ (k : Nat) (q : Nat × va_E), r2[k]? = some q → ∀ (j : Nat) (e : va_E), ¬ w[j]? = some (q.1, e)) : ∀ (k : Nat) (q : Nat × va_E), (r1 ++ r2)[k]? = some q → ∀ (j : Nat) (e : va_E), ¬ w[j]? = some (q.1, e) := by
  intro k q hq
  by_cases hk : k < r1.length
  · rw [List.getElem?_append_left hk] at hq
    exact h1 k q hq
  · rw [List.getElem?_append_right (by omega)] at hq
    exact h2 _ q hq
theorem gp_ok {D : va_G} {cI cJ cZ cS : ClassId} {ad : Nat → Nat} {adr : ad_T} {hh : Nat → Option sh_T} {w : va_W} {av : List Value} {s : State} {H : Heap} {A : Nat → Prop} {locs : List Loc} (hK : gl_K D cI cJ cZ cS s) (hE : gl_E ad A s s.heap) (hS : va_S A s.heap H locs) (hF : ∀ q, va_A w H.size q → A q) (hP : va_P D vwCl w H) (hD : va_D A w) (hQ : pl_P D cI ad adr hh s.heap) (hQn : ∀ (k : Nat) (S : sh_T), hh k = some S → ∀ (i : Nat) (q : Nat × va_E), (sh_wa cI ad (adr k) S)[i]? = some q → ¬ A q.1) : ∀ U : State, U.heap = H → s.WarmedH U.vm → gp_P D cI cJ cZ cS ad adr hh H.size w av av.toArray U := fun U hU hW => ⟨rfl, by rw [hU], va_K.moved hW.alike hK, by rw [hU]; exact va_En.moved hW.alike (va_En.narrow (va_En.kept hE hS.2.1) hF), by rw [hU]; exact hP, hD.weaken (fun _ _ _ _ => trivial), by rw [hU]; exact pl_kept hQ hQn hS, pl_n1 hQn hD⟩
-- standing and right, by hand: a reference, or null
abbrev pp_B (D : va_G) (cI cJ cS : ClassId) (ad : Nat → Nat) (x0 xm xb f0 xp xq xr : Nat) (adr : ad_T) (X : pp_T) (hh : Nat → Option sh_T) : Heap → Prop := fun H => va_P D vwCl (pp_w cI cJ cS x0 xm xb f0 xp xq xr adr hh X) H ∧ pl_P D cI ad adr hh H
def s_X3_standing (F : Nat) (X : pp_T) (hh : Nat → Option sh_T) (p1 : Int32) : Option (Option sh_T) :=
  if p1 < 0 then some none else if p1 < pp_n X then rd_q 60 hh p1 else some none
def s_X3_right (F : Nat) (X : pp_T) (hh : Nat → Option sh_T) (p1 : Int32) : Option (Option sh_T) :=
  (s_X3_standing F X hh p1).bind fun v => some (mt_o v none (fun S => if sh_v S = 1 then some S else none))
theorem st_h {F : Nat} {X : pp_T} {hh : Nat → Option sh_T} {p1 : Int32} {S : sh_T} (h : s_X3_standing F X hh p1 = some (some S)) : hh p1.toNatClampNeg = some S := by
  unfold s_X3_standing at h
  split at h
  · cases h
  · split at h
    · exact (rd_q_in h).2
    · cases h
theorem rt_h {F : Nat} {X : pp_T} {hh : Nat → Option sh_T} {p1 : Int32} {S : sh_T} (h : s_X3_right F X hh p1 = some (some S)) : hh p1.toNatClampNeg = some S := by
  obtain ⟨v, h1, h2⟩ := op_bd h
  cases v with
  | none => cases h2
  | some T =>
    have h3 : (if sh_v T = 1 then some T else none) = some S := Option.some.inj h2
    split at h3
    · cases h3
      exact st_h h1
    · cases h3
abbrev rm_X3_standing : Room := { frames := 0, cells := 0, slots := 0, locals := 0 }
theorem in_X3_standing_X3 : ∀ w ∈ wsX30, w ∈ wsX3_standing := by decide +kernel
set_option maxHeartbeats 4000000 in
set_option maxRecDepth 100000 in
theorem c_X3_standing (l : Launch) (D : va_G) (cI cJ cZ cS : ClassId) (ad : Nat → Nat) (x0 xm xb f0 xp xq xr : Nat) (adr : ad_T) (X : pp_T) (hh : Nat → Option sh_T) (p1 : Int32) (F : Nat) (r : Option sh_T) (hs : s_X3_standing F X hh p1 = some r) : Met l yX3_standing wsX3_standing rm_X3_standing (gl_P D cI cJ cZ cS ad [.ref x0, .int p1] (fun H => va_P D vwCl (pp_w cI cJ cS x0 xm xb f0 xp xq xr adr hh X) H)) (va_Sq (fun v => v = r.map (fun _ => (adr p1.toNatClampNeg).1))) 0 0 (fun _ => False) := by
  refine Met.ofW (cc := cX3_standing) (maxL := 2) (ret := (some (.object "PlacePoints$Shape"))) (by decide) rfl ?_
  intro p e s m args below meth c s₁ B hml hv
  obtain ⟨rfl, hK, hE, hP⟩ := hv
  have hx := B.exec
  have hb := B.bytes
  have hr := B.returns
  have hts := atoms_spec (ws := wsX3_standing) B.pre
  have hown : s.vm.findClass RX3 = some m.cls := findClass_of_methodNamed B.named
  have hlocks := B.notSynchronized
  have lk_15 := hts (.fieldLink RX3 15 "PlacePoints" "madeCount" "I") (by decide +kernel)
  have lk_11 := hts (.fieldLink RX3 11 "PlacePoints" "made" "[LPlacePoints$Shape;") (by decide +kernel)
  have in_X3 := in_X3_standing_X3
  have hl := lv_entry ([.ref x0, .int p1]) (n := 2) (Nat.le_of_ble_eq_true rfl)
  rw [lg_entry_eq]
  generalize (lg_sl ([.ref x0, .int p1]) ++ List.replicate (2 - (lg_sl ([.ref x0, .int p1])).length) Slot.unset).toArray = ls at hl ⊢
  have hl : lv_has ls 2 [(0, .ref x0), (1, .int p1)] := hl
  rw [s_X3_standing] at hs
  refine lv_iload_n hx hb dX3_standing_0 rfl (lv_at hl 1 rfl) ?_
  refine lv_if_lt (tgt := 12) hx hb dX3_standing_1 (by decide) (fun c_1 => ?_) (fun c_1 => ?_)
  · replace hs := it_t c_1 hs
    obtain rfl := Option.some.inj hs
    refine lv_null hx hb dX3_standing_12 ?_
    refine lv_goto (tgt := 22) hx hb dX3_standing_13 (by decide) ?_
    exact W.aret (v := .null) hx hb hr (Or.inl ⟨_, rfl⟩) (Or.inl rfl) (fun t ht hW => ⟨none, rfl, rfl, ht⟩) (fun _ h => by cases h) dX3_standing_22
  · replace hs := it_f c_1 hs
    refine lv_iload_n hx hb dX3_standing_4 rfl (lv_at hl 1 rfl) ?_
    refine lv_aload_n hx hb dX3_standing_5 rfl (lv_at hl 0 rfl) ?_
    refine va_get (D := D) (ci := 3) (v := .int (pp_n X)) (C := RX3) (T := TX3) (N := 10) hx hb hts in_X3 hown hK hP 0 rfl rfl 1 (by decide) lk_15 (fun _ h9 => h9) rfl dX3_standing_6 ?_
    refine lv_icmp_lt (tgt := 16) hx hb dX3_standing_9 (by decide) (fun c_9 => ?_) (fun c_9 => ?_)
    · replace hs := it_t c_9 hs
      refine lv_aload_n hx hb dX3_standing_16 rfl (lv_at hl 0 rfl) ?_
      refine va_get (D := D) (ci := 3) (v := .ref xm) (C := RX3) (T := TX3) (N := 10) hx hb hts in_X3 hown hK hP 0 rfl rfl 0 (by decide) lk_11 (fun _ h9 => h9) rfl dX3_standing_17 ?_
      refine lv_iload_n hx hb dX3_standing_20 rfl (lv_at hl 1 rfl) ?_
      obtain ⟨hi, rfl⟩ := rd_q_in hs
      refine va_aldq hx hb hK hP 1 3 rfl rfl hi dX3_standing_21 ?_
      exact W.aret (v := va_rf (pp_f adr hh p1.toNatClampNeg)) hx hb hr (Or.inl ⟨_, rfl⟩) (va_rf_or _) (fun t ht hW => ⟨_, rfl, rfl, ht⟩) (fun _ h => by cases h) dX3_standing_22
    · replace hs := it_f c_9 hs
      obtain rfl := Option.some.inj hs
      refine lv_null hx hb dX3_standing_12 ?_
      refine lv_goto (tgt := 22) hx hb dX3_standing_13 (by decide) ?_
      exact W.aret (v := .null) hx hb hr (Or.inl ⟨_, rfl⟩) (Or.inl rfl) (fun t ht hW => ⟨none, rfl, rfl, ht⟩) (fun _ h => by cases h) dX3_standing_22
abbrev rm_X3_right : Room := { frames := 1, cells := 0, slots := 0, locals := 21 }
theorem in_X3_right_X2 : ∀ w ∈ wsX20, w ∈ wsX3_right := by decide +kernel
set_option maxHeartbeats 4000000 in
set_option maxRecDepth 100000 in
theorem c_X3_right (l : Launch) (D : va_G) (cI cJ cZ cS : ClassId) (ad : Nat → Nat) (x0 xm xb f0 xp xq xr : Nat) (adr : ad_T) (X : pp_T) (hh : Nat → Option sh_T) (p1 : Int32) (F : Nat) (r : Option sh_T) (hs : s_X3_right F X hh p1 = some r) : Met l yX3_right wsX3_right rm_X3_right (gl_P D cI cJ cZ cS ad [.ref x0, .int p1] (pp_B D cI cJ cS ad x0 xm xb f0 xp xq xr adr X hh)) (va_Sq (fun v => v = r.map (fun _ => (adr p1.toNatClampNeg).1))) 0 0 (fun _ => False) := by
  refine Met.ofW (cc := cX3_right) (maxL := 3) (ret := (some (.object "PlacePoints$Shape"))) (by decide) rfl ?_
  intro p e s m args below meth c s₁ B hml hv
  obtain ⟨rfl, hK, hE, hP, hQ⟩ := hv
  have hx := B.exec
  have hb := B.bytes
  have hr := B.returns
  have hts := atoms_spec (ws := wsX3_right) B.pre
  have hown : s.vm.findClass RX3 = some m.cls := findClass_of_methodNamed B.named
  have hlocks := B.notSynchronized
  have lk_86 := hts (.fieldLink RX3 86 "PlacePoints$Shape" "verdict" "I") (by decide +kernel)
  have in_X2 := in_X3_right_X2
  have hl := lv_entry ([.ref x0, .int p1]) (n := 3) (Nat.le_of_ble_eq_true rfl)
  rw [lg_entry_eq]
  generalize (lg_sl ([.ref x0, .int p1]) ++ List.replicate (3 - (lg_sl ([.ref x0, .int p1])).length) Slot.unset).toArray = ls at hl ⊢
  have hl : lv_has ls 3 [(0, .ref x0), (1, .int p1)] := hl
  rw [s_X3_right] at hs
  refine lv_aload_n hx hb dX3_right_0 rfl (lv_at hl 0 rfl) ?_
  refine lv_iload_n hx hb dX3_right_1 rfl (lv_at hl 1 rfl) ?_
  obtain ⟨v, hc, hs⟩ := op_bd hs
  refine gx_cSq (va_Run.run (va_runV (As := [.int p1]) (rest := []) ⟨hx, hb, hml, hown, hts⟩ (c_X3_standing l D cI cJ cZ cS ad x0 xm xb f0 xp xq xr adr X hh p1 F v hc) (cwV 1 hts gX3_right_X3_standing rfl rfl rfl (by decide +kernel) ⟨Nat.le_of_ble_eq_true rfl, Nat.le_of_ble_eq_true rfl⟩) ⟨gl_blind, va_recv hK hP (ci := 3) (q0 := 0) rfl rfl, gl_ok hK hE hP⟩ rfl rfl hl.1 rfl (lv_room (Nat.le_of_ble_eq_true rfl)) dX3_right_2 ⟨Nat.le_of_ble_eq_true rfl, Nat.le_of_ble_eq_true rfl⟩)) ?_
  cases v with
  | none =>
    obtain rfl : none = r := Option.some.inj hs
    refine W.eq (g2 := F0 m 5 ls [.null]) rfl ?_
    refine lv_astore_nN (lv' := [(2, .null), (0, .ref x0), (1, .int p1)]) hx hb dX3_right_5 rfl hl (by decide) rfl (fun ls hl => ?_)
    refine lv_aload_nN hx hb dX3_right_6 rfl (lv_at hl 0 rfl) ?_
    refine lv_ifnullN (tgt := 18) hx hb dX3_right_7 (by decide) ?_
    refine lv_null hx hb dX3_right_18 ?_
    refine lv_goto (tgt := 23) hx hb dX3_right_19 (by decide) ?_
    exact W.aret (v := .null) hx hb hr (Or.inl ⟨_, rfl⟩) (Or.inl rfl) (fun t ht hW => ⟨none, rfl, rfl, ht⟩) (fun _ h => by cases h) dX3_right_23
  | some S =>
    have hq := hQ _ _ (st_h hc)
    have hs : (if sh_v S = 1 then some S else none) = r := Option.some.inj hs
    refine W.eq (g2 := F0 m 5 ls [.ref (adr p1.toNatClampNeg).1]) rfl ?_
    refine lv_astore_n (lv' := [(2, .ref (adr p1.toNatClampNeg).1), (0, .ref x0), (1, .int p1)]) hx hb dX3_right_5 rfl hl (by decide) rfl (fun ls hl => ?_)
    refine lv_aload_n hx hb dX3_right_6 rfl (lv_at hl 0 rfl) ?_
    refine lv_ifnull hx hb dX3_right_7 ?_
    refine lv_aload_n hx hb dX3_right_10 rfl (lv_at hl 0 rfl) ?_
    refine va_get (D := D) (ci := 2) (v := .int (sh_v S)) (C := RX2) (T := TX2) (N := 9) hx hb hts in_X2 hown hK hq.1 0 rfl rfl 2 (by decide) lk_86 (fun _ h9 => h9) rfl dX3_right_11 ?_
    refine lv_iconst (v := 1) hx hb dX3_right_14 (by decide) ?_
    refine lv_icmp_eq (tgt := 22) hx hb dX3_right_15 (by decide) (fun c_15 => ?_) (fun c_15 => ?_)
    · rw [if_pos c_15] at hs
      obtain rfl := hs
      refine lv_aload_n hx hb dX3_right_22 rfl (lv_at hl 0 rfl) ?_
      exact W.aret (v := .ref (adr p1.toNatClampNeg).1) hx hb hr (Or.inl ⟨_, rfl⟩) (Or.inr ⟨_, rfl⟩) (fun t ht hW => ⟨some _, rfl, rfl, ht⟩) (fun _ h => by cases h) dX3_right_23
    · rw [if_neg c_15] at hs
      obtain rfl := hs
      refine lv_null hx hb dX3_right_18 ?_
      refine lv_goto (tgt := 23) hx hb dX3_right_19 (by decide) ?_
      exact W.aret (v := .null) hx hb hr (Or.inl ⟨_, rfl⟩) (Or.inl rfl) (fun t ht hW => ⟨none, rfl, rfl, ht⟩) (fun _ h => by cases h) dX3_right_23
