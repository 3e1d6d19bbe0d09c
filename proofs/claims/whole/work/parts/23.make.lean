abbrev pp_wf (cI cJ cS : ClassId) (x0 xm xb f0 xp xq xr : Nat) (f : Nat → Option Nat) (X : pp_T) : va_W := [(x0, .inr (3, [.ref xm, .int (pp_n X), .int (pp_s X), .int (pp_o X), .ref xb, .int (pp_m X), .ref f0, .ref xp, .ref xq, .ref xr])), (xm, .inl (cS, 60, .inr (.inr (.inr (.inr f))))), (xb, .inl (cI, 60, .inl (pp_b X))), (f0, .inr (1, [.long (pp_u X), .long (pp_l X)])), (xp, .inl (cJ, 60, .inr (.inl (pp_p X)))), (xq, .inl (cJ, 60, .inr (.inl (pp_q X)))), (xr, .inl (cI, 60, .inl (pp_r X)))]
theorem pp_f_new (adr : ad_T) (hh : Nat → Option sh_T) (i : Nat) (u : Nat × Nat × Nat) (S : sh_T) : va_up (pp_f adr hh) i (some u.1) = pp_f (va_up adr i u) (va_up hh i (some S)) := by
  funext k
  by_cases h : k = i
  · subst h; simp [pp_f, va_up]
  · simp [pp_f, va_up, h]
theorem pp_f_del (adr : ad_T) (hh : Nat → Option sh_T) (i : Nat) : va_up (pp_f adr hh) i none = pp_f adr (va_up hh i none) := by
  funext k
  by_cases h : k = i
  · subst h; simp [pp_f, va_up]
  · simp [pp_f, va_up, h]
theorem pp_f_set (adr : ad_T) (hh : Nat → Option sh_T) (i : Nat) {S : sh_T} (h0 : hh i = some S) (T : sh_T) : pp_f adr hh = pp_f adr (va_up hh i (some T)) := by
  funext k
  by_cases h : k = i
  · subst h; simp [pp_f, va_up, h0]
  · simp [pp_f, va_up, h]
theorem gc_blind {D : va_G} {cI cJ cZ cS : ClassId} {ad : Nat → Nat} {sz : Nat} {w : va_W} {av : List Value} : FrameBlind (gc_P D cI cJ cZ cS ad sz w (fun _ => True) av) := by
  intro a U g mk q
  obtain ⟨q0, qs, qK, qE, qr⟩ := q
  exact ⟨q0, qs, va_K.moved (u := U) (U := U.calling g mk a) (Vm.Alike.refl U.vm) qK, va_En.moved (u := U) (U := U.calling g mk a) (Vm.Alike.refl U.vm) qE, qr⟩
theorem gc_ok {D : va_G} {cI cJ cZ cS : ClassId} {ad : Nat → Nat} {w : va_W} {av : List Value} {s : State} {H : Heap} {A : Nat → Prop} {locs : List Loc} (hK : gl_K D cI cJ cZ cS s) (hE : gl_E ad A s s.heap) (hS : va_S A s.heap H locs) (hF : ∀ q, va_A w H.size q → A q) (hP : va_P D vwCl w H) (hD : va_D A w) : ∀ U : State, U.heap = H → s.WarmedH U.vm → gc_P D cI cJ cZ cS ad H.size w (fun _ => True) av av.toArray U := fun U hU hW => ⟨rfl, by rw [hU], va_K.moved hW.alike hK, by rw [hU]; exact va_En.moved hW.alike (va_En.narrow (va_En.kept hE hS.2.1) hF), by rw [hU]; exact hP, hD.weaken (fun _ _ _ _ => trivial), trivial⟩
section GXN
variable {p : Program} {l : Launch} {e : Env} {R : Room} {s : State} {m : MethodId} {args : Array Value} {below : List Frame} {meth : Method} {c : Code} {H : Heap} {locs : List Loc} {cells slots : Nat} {Q : State → Prop}
variable {pc : Nat} {ls : Array Slot} {rest st0 : List Value} {D : va_G} {ws : va_W} {H0 : Heap}
/-- behind a constructor: what it made, at addresses that nobody chose -/
theorem gx_cCv {S : Type} {aa : Array Value} {A0 : Nat → Prop} {mc ms : Nat} {wf : S → va_W} {wc wr : va_W} (hr : va_Run p l e R s m args below meth c H locs cells slots mc ms (F0 m pc ls st0) rest (va_Qv (fun _ : S => True) (fun u t => va_P D vwCl (wf u) t.heap ∧ va_D (va_A wc H.size) (wf u)) (va_A wc H.size) aa) (va_A wc H.size)) (hP : va_P D vwCl ws H) (hD : va_D A0 ws) (hS : va_S A0 H0 H locs) (hA : ∀ q, va_A wc H.size q → A0 q) (isC isR : List Nat) (hC : isC.map (fun i => ws[i]?) = wc.map some) (hR : isR.map (fun i => ws[i]?) = wr.map some) (hn : va_nd isR = true) (hdis : ∀ i ∈ isR, i ∉ isC)
    (kk : ∀ (u : S) (H1 : Heap) (locs1 : List Loc), va_P D vwCl (wr ++ wf u) H1 → va_D A0 (wr ++ wf u) → va_S A0 H0 H1 locs1 → W p l e R s m args below meth c H1 locs1 (cells + mc) (slots + ms) Q (F0 m (pc + 3) ls rest)) : W p l e R s m args below meth c H locs cells slots Q (F0 m pc ls st0) :=
  va_callv hr hS (fun q _ h => hA q h) hA (fun u t H1 locs1 ht hvm hw hB hz1 hk1 hS1 => by
    rw [ht] at hB
    obtain ⟨hP1, hD1⟩ := va_join (wr := wr) (w1 := wf u) hP hD isC isR hC hR hn hdis hk1 hA hB.1 hB.2
    exact kk u H1 locs1 hP1 hD1 hS1)
theorem gx_cCi {S : Type} {v : Int32} {aa : Array Value} {A0 A1 : Nat → Prop} {mc ms : Nat} {wf : S → va_W} (hr : va_Run p l e R s m args below meth c H locs cells slots mc ms (F0 m pc ls st0) rest (va_Qi (fun x (_ : S) => x = v) (fun u t => va_P D vwCl (wf u) t.heap ∧ va_D A1 (wf u)) A1 aa) A1) (hS : va_S A0 H0 H locs) (hA : ∀ q, A1 q → A0 q)
    (kk : ∀ (u : S) (H1 : Heap) (locs1 : List Loc), va_P D vwCl (wf u) H1 → va_D A0 (wf u) → va_S A0 H0 H1 locs1 → W p l e R s m args below meth c H1 locs1 (cells + mc) (slots + ms) Q (F0 m (pc + 3) ls (.int v :: rest))) : W p l e R s m args below meth c H locs cells slots Q (F0 m pc ls st0) :=
  va_calli hr hS (fun q _ h => hA q h) hA (fun r u t H1 locs1 ht hvm hw hB hz1 hk1 hS1 => by
    obtain rfl := hw
    rw [ht] at hB
    exact kk u H1 locs1 hB.1 (hB.2.weaken (fun _ _ _ h => hA _ h)) hS1)
end GXN
theorem nI_60 {i : Nat} (h : i < 60) : nI i < 60 := nI_lt h (by decide)
theorem nI_ge0 {i : Nat} (h : i < 60) : ¬ nI i < 0 := nI_pos (by omega)
theorem nI_s {i : Nat} (h : i < 60) : nI i < nI i + 1 := by rw [nI_1]; exact nI_lt (by omega) (by omega)
theorem nI_c {i : Nat} (h : i < 60) : (nI i).toNatClampNeg = i := nI_clamp (by omega)
abbrev rm_X3_make_ok : Room := { frames := 2, cells := 3, slots := 59, locals := 33 }
theorem in_X3_make_ok_X2 : ∀ w ∈ wsX20, w ∈ wsX3_make := by decide +kernel
theorem in_X3_make_ok_X3 : ∀ w ∈ wsX30, w ∈ wsX3_make := by decide +kernel
set_option maxHeartbeats 4000000 in
set_option maxRecDepth 100000 in
theorem c_X3_make_ok (l : Launch) (D : va_G) (cI cJ cZ cS : ClassId) (ad : Nat → Nat) (x0 xm xb f0 xp xq xr : Nat) (adr : ad_T) (X : pp_T) (hh : Nat → Option sh_T) (sz k i : Nat) (hk : k < 3) (hi : i < 60) (hn : pp_n X = nI i) : Met l yX3_make wsX3_make rm_X3_make_ok (gm_P D cI cJ cZ cS ad sz (pp_w cI cJ cS x0 xm xb f0 xp xq xr adr hh X) [] [.ref x0, .ref (ad k)]) (va_Qi (fun x (_ : Nat × Nat × Nat) => x = pp_n X) (fun u t => va_P D vwCl (pp_w cI cJ cS x0 xm xb f0 xp xq xr (va_up adr i u) (va_up hh i (some (sh_0 k))) (pt_s (pt_n X (pp_n X + 1)) (pp_s X + 1)) ++ sh_wa cI ad u (sh_0 k)) t.heap ∧ va_D (va_A (pp_w cI cJ cS x0 xm xb f0 xp xq xr adr hh X) sz) (pp_w cI cJ cS x0 xm xb f0 xp xq xr (va_up adr i u) (va_up hh i (some (sh_0 k))) (pt_s (pt_n X (pp_n X + 1)) (pp_s X + 1)) ++ sh_wa cI ad u (sh_0 k))) (va_A (pp_w cI cJ cS x0 xm xb f0 xp xq xr adr hh X) sz)) 3 59 (va_A (pp_w cI cJ cS x0 xm xb f0 xp xq xr adr hh X) sz) := by
  refine Met.ofW (cc := cX3_make) (maxL := 3) (ret := (some .int)) (by decide) rfl ?_
  intro p e s m args below meth c s₁ B hml hv
  obtain ⟨rfl, hsz, hK, hE, hP, hD0, hR, hRn0⟩ := hv
  have hx := B.exec
  have hb := B.bytes
  have hr := B.returns
  have hts := atoms_spec (ws := wsX3_make) B.pre
  have hown : s.vm.findClass RX3 = some m.cls := findClass_of_methodNamed B.named
  have hlocks := B.notSynchronized
  subst hsz
  have hD := hD0.self (sz := s.heap.size)
  generalize hAe : va_A (pp_w cI cJ cS x0 xm xb f0 xp xq xr adr hh X) s.heap.size = A at hD hE ⊢
  have hA : ∀ q : Nat, s.heap.size ≤ q → A q := fun q h => by rw [← hAe]; exact Or.inr h
  have hS : va_S A s.heap s.heap [] := va_S.rf
  have lk_11 := hts (.fieldLink RX3 11 "PlacePoints" "made" "[LPlacePoints$Shape;") (by decide +kernel)
  have lk_15 := hts (.fieldLink RX3 15 "PlacePoints" "madeCount" "I") (by decide +kernel)
  have lk_19 := hts (.fieldLink RX3 19 "PlacePoints" "standingCount" "I") (by decide +kernel)
  have in_X2 := in_X3_make_ok_X2
  have in_X3 := in_X3_make_ok_X3
  have hlt : pp_n X < 60 := by rw [hn]; exact nI_60 hi
  have hcl : (pp_n X).toNatClampNeg = i := by rw [hn]; exact nI_c hi
  have hl := lv_entry ([.ref x0, .ref (ad k)]) (n := 3) (Nat.le_of_ble_eq_true rfl)
  rw [lg_entry_eq]
  generalize (lg_sl ([.ref x0, .ref (ad k)]) ++ List.replicate (3 - (lg_sl ([.ref x0, .ref (ad k)])).length) Slot.unset).toArray = ls at hl ⊢
  have hl : lv_has ls 3 [(0, .ref x0), (1, .ref (ad k))] := hl
  refine lv_aload_n hx hb dX3_make_0 rfl (lv_at hl 0 rfl) ?_
  refine va_get (D := D) (ci := 3) (v := .int (pp_n X)) (C := RX3) (T := TX3) (N := 10) hx hb hts in_X3 hown hK hP 0 rfl rfl 1 (by decide) lk_15 (fun _ h9 => h9) rfl dX3_make_1 ?_
  refine lv_bipush (v := 60) hx hb dX3_make_4 (by decide) ?_
  refine lv_icmp_lt (tgt := 12) hx hb dX3_make_6 (by decide) (fun _ => ?_) (fun c_6 => absurd (hlt) c_6)
  refine lv_aload_n hx hb dX3_make_12 rfl (lv_at hl 0 rfl) ?_
  refine va_get (D := D) (ci := 3) (v := .int (pp_n X)) (C := RX3) (T := TX3) (N := 10) hx hb hts in_X3 hown hK hP 0 rfl rfl 1 (by decide) lk_15 (fun _ h9 => h9) rfl dX3_make_13 ?_
  refine lv_istore_n (lv' := [(2, .int (pp_n X)), (0, .ref x0), (1, .ref (ad k))]) hx hb dX3_make_16 rfl hl (by decide) rfl (fun ls hl => ?_)
  refine lv_aload_n hx hb dX3_make_17 rfl (lv_at hl 1 rfl) ?_
  refine va_get (D := D) (ci := 3) (v := .ref xm) (C := RX3) (T := TX3) (N := 10) hx hb hts in_X3 hown hK hP 0 rfl rfl 0 (by decide) lk_11 (fun _ h9 => h9) rfl dX3_make_18 ?_
  refine lv_iload_n hx hb dX3_make_21 rfl (lv_at hl 0 rfl) ?_
  refine va_new (ci := 2) (fs := [.null, .int 0, .int 0, .null, .null, .int 0, .int 0, .int 0, .int 0]) (C := RX2) (T := TX2) (N := 9) hx hb hts in_X2 tyX2 tyX2_ok hown (hts (.classLink RX3 9 RX2) (by decide +kernel)) (hts (.instantiable RX2 9) (by decide +kernel)) (hts (.initialized RX2) (by decide +kernel)) hK hP hD hS hA rfl (fun j hj => by rcases (show j = 0 ∨ j = 1 ∨ j = 2 ∨ j = 3 ∨ j = 4 ∨ j = 5 ∨ j = 6 ∨ j = 7 ∨ j = 8 by omega) with rfl | rfl | rfl | rfl | rfl | rfl | rfl | rfl | rfl <;> rfl) (Nat.le_of_ble_eq_true rfl) (Nat.le_of_ble_eq_true rfl) dX3_make_22 (fun q H hP hD hS => ?_)
  have hP : va_P D vwCl (pp_w cI cJ cS x0 xm xb f0 xp xq xr adr hh X ++ [(q, .inr (2, [.null, .int 0, .int 0, .null, .null, .int 0, .int 0, .int 0, .int 0]))]) H := hP
  have hD : va_D A (pp_w cI cJ cS x0 xm xb f0 xp xq xr adr hh X ++ [(q, .inr (2, [.null, .int 0, .int 0, .null, .null, .int 0, .int 0, .int 0, .int 0]))]) := hD
  refine lv_dup hx hb dX3_make_25 rfl ?_
  refine lv_aload_n hx hb dX3_make_26 rfl (lv_at hl 2 rfl) ?_
  have hFc := va_free (wc := [(q, .inr (2, [.null, .int 0, .int 0, .null, .null, .int 0, .int 0, .int 0, .int 0]))]) hD hS hA [7] rfl
  refine gx_cCv (wf := fun u : Nat × Nat => sh_w cI ad q u.1 u.2 (sh_0 k)) (wr := pp_w cI cJ cS x0 xm xb f0 xp xq xr adr hh X) (va_runI (As := [.ref (ad k)]) (rest := [.ref q, .int (pp_n X), .ref xm]) ⟨hx, hb, hml, hown, hts⟩ (c_X2_init l D cI cJ cZ cS ad q k hk _) (cwI 1 hts gX3_make_X2_init rfl rfl rfl (hts (.initialized RX2) (by decide +kernel)) (hts (.methodLink RX3 130 yX2_init) (by decide +kernel)) (hts (.instanceMethod yX2_init) (by decide +kernel)) rfl (by decide +kernel) ⟨Nat.le_of_ble_eq_true rfl, Nat.le_of_ble_eq_true rfl⟩) ⟨gc_blind, gc_ok hK hE hS hFc (hP.sub [7] rfl) (hD.sub [7] (by decide) rfl)⟩ rfl rfl hl.1 rfl (lv_room (Nat.le_of_ble_eq_true rfl)) dX3_make_27 ⟨Nat.le_of_ble_eq_true rfl, Nat.le_of_ble_eq_true rfl⟩) hP hD hS hFc [7] [0, 1, 2, 3, 4, 5, 6] rfl rfl (by decide) (by decide) (fun u H locs hP hD hS => ?_)
  have hP : va_P D vwCl (pp_w cI cJ cS x0 xm xb f0 xp xq xr adr hh X ++ sh_w cI ad q u.1 u.2 (sh_0 k)) H := hP
  have hD : va_D A (pp_w cI cJ cS x0 xm xb f0 xp xq xr adr hh X ++ sh_w cI ad q u.1 u.2 (sh_0 k)) := hD
  refine va_astq hx hb hK hP hD hS 1 3 7 2 rfl rfl rfl rfl (show vp_in (pp_n X) 60 by rw [hn]; exact vp_in_nI hi (by decide)) dX3_make_30 (fun H locs hP hD hS => ?_)
  have hP : va_P D vwCl (pp_wf cI cJ cS x0 xm xb f0 xp xq xr (va_up (pp_f adr hh) (pp_n X).toNatClampNeg (some (q, u.1, u.2).1)) X ++ sh_w cI ad q u.1 u.2 (sh_0 k)) H := hP
  have hD : va_D A (pp_wf cI cJ cS x0 xm xb f0 xp xq xr (va_up (pp_f adr hh) (pp_n X).toNatClampNeg (some (q, u.1, u.2).1)) X ++ sh_w cI ad q u.1 u.2 (sh_0 k)) := hD
  rw [hcl, pp_f_new adr hh i (q, u.1, u.2) (sh_0 k)] at hP hD
  have hP : va_P D vwCl (pp_w cI cJ cS x0 xm xb f0 xp xq xr (va_up adr i (q, u.1, u.2)) (va_up hh i (some (sh_0 k))) X ++ sh_w cI ad q u.1 u.2 (sh_0 k)) H := hP
  have hD : va_D A (pp_w cI cJ cS x0 xm xb f0 xp xq xr (va_up adr i (q, u.1, u.2)) (va_up hh i (some (sh_0 k))) X ++ sh_w cI ad q u.1 u.2 (sh_0 k)) := hD
  refine lv_aload_n hx hb dX3_make_31 rfl (lv_at hl 1 rfl) ?_
  refine lv_dup hx hb dX3_make_32 rfl ?_
  refine va_get (D := D) (ci := 3) (v := .int (pp_n X)) (C := RX3) (T := TX3) (N := 10) hx hb hts in_X3 hown hK hP 0 rfl rfl 1 (by decide) lk_15 (fun _ h9 => h9) rfl dX3_make_33 ?_
  refine lv_iconst (v := 1) hx hb dX3_make_36 (by decide) ?_
  refine lv_iadd hx hb dX3_make_37 ?_
  refine va_put (D := D) (ci := 3) (v := .int ((pp_n X) + 1)) (ty := .int) (C := RX3) (T := TX3) (N := 10) hx hb hts in_X3 tyX3 tyX3_ok nmX3 hown hK hP hD hS 0 rfl rfl 1 (by decide) lk_15 (fun _ h9 => h9) rfl (by decide +kernel) rfl rfl (Nat.le_of_ble_eq_true rfl) dX3_make_38 (fun H locs hP hD hS => ?_)
  have hP : va_P D vwCl (pp_w cI cJ cS x0 xm xb f0 xp xq xr (va_up adr i (q, u.1, u.2)) (va_up hh i (some (sh_0 k))) (pt_n X (pp_n X + 1)) ++ sh_w cI ad q u.1 u.2 (sh_0 k)) H := hP
  have hD : va_D A (pp_w cI cJ cS x0 xm xb f0 xp xq xr (va_up adr i (q, u.1, u.2)) (va_up hh i (some (sh_0 k))) (pt_n X (pp_n X + 1)) ++ sh_w cI ad q u.1 u.2 (sh_0 k)) := hD
  refine lv_aload_n hx hb dX3_make_41 rfl (lv_at hl 1 rfl) ?_
  refine lv_dup hx hb dX3_make_42 rfl ?_
  refine va_get (D := D) (ci := 3) (v := .int (pp_s X)) (C := RX3) (T := TX3) (N := 10) hx hb hts in_X3 hown hK hP 0 rfl rfl 2 (by decide) lk_19 (fun _ h9 => h9) rfl dX3_make_43 ?_
  refine lv_iconst (v := 1) hx hb dX3_make_46 (by decide) ?_
  refine lv_iadd hx hb dX3_make_47 ?_
  refine va_put (D := D) (ci := 3) (v := .int ((pp_s X) + 1)) (ty := .int) (C := RX3) (T := TX3) (N := 10) hx hb hts in_X3 tyX3 tyX3_ok nmX3 hown hK hP hD hS 0 rfl rfl 2 (by decide) lk_19 (fun _ h9 => h9) rfl (by decide +kernel) rfl rfl (Nat.le_of_ble_eq_true rfl) dX3_make_48 (fun H locs hP hD hS => ?_)
  have hP : va_P D vwCl (pp_w cI cJ cS x0 xm xb f0 xp xq xr (va_up adr i (q, u.1, u.2)) (va_up hh i (some (sh_0 k))) (pt_s (pt_n X (pp_n X + 1)) (pp_s X + 1)) ++ sh_w cI ad q u.1 u.2 (sh_0 k)) H := hP
  have hD : va_D A (pp_w cI cJ cS x0 xm xb f0 xp xq xr (va_up adr i (q, u.1, u.2)) (va_up hh i (some (sh_0 k))) (pt_s (pt_n X (pp_n X + 1)) (pp_s X + 1)) ++ sh_w cI ad q u.1 u.2 (sh_0 k)) := hD
  refine lv_iload_n hx hb dX3_make_51 rfl (lv_at hl 0 rfl) ?_
  exact W.iret (v := pp_n X) hx hb hr (fun t ht hW => ⟨⟨_, (q, u.1, u.2), rfl, rfl, by rw [ht]; exact hP, hD⟩, hS.F ht⟩) hS.2.2 dX3_make_52
abbrev rm_X3_line_ok : Room := { frames := 3, cells := 3, slots := 59, locals := 55 }
set_option maxHeartbeats 4000000 in
set_option maxRecDepth 100000 in
theorem c_X3_line_ok (l : Launch) (D : va_G) (cI cJ cZ cS : ClassId) (ad : Nat → Nat) (x0 xm xb f0 xp xq xr : Nat) (adr : ad_T) (X : pp_T) (hh : Nat → Option sh_T) (sz i : Nat) (hi : i < 60) (hn : pp_n X = nI i) : Met l yX3_line wsX3_line rm_X3_line_ok (gm_P D cI cJ cZ cS ad sz (pp_w cI cJ cS x0 xm xb f0 xp xq xr adr hh X) [] [.ref x0]) (va_Qi (fun x (_ : Nat × Nat × Nat) => x = pp_n X) (fun u t => va_P D vwCl (pp_w cI cJ cS x0 xm xb f0 xp xq xr (va_up adr i u) (va_up hh i (some (sh_0 1))) (pt_s (pt_n X (pp_n X + 1)) (pp_s X + 1)) ++ sh_wa cI ad u (sh_0 1)) t.heap ∧ va_D (va_A (pp_w cI cJ cS x0 xm xb f0 xp xq xr adr hh X) sz) (pp_w cI cJ cS x0 xm xb f0 xp xq xr (va_up adr i u) (va_up hh i (some (sh_0 1))) (pt_s (pt_n X (pp_n X + 1)) (pp_s X + 1)) ++ sh_wa cI ad u (sh_0 1))) (va_A (pp_w cI cJ cS x0 xm xb f0 xp xq xr adr hh X) sz)) 3 59 (va_A (pp_w cI cJ cS x0 xm xb f0 xp xq xr adr hh X) sz) := by
  refine Met.ofW (cc := cX3_line) (maxL := 1) (ret := (some .int)) (by decide) rfl ?_
  intro p e s m args below meth c s₁ B hml hv
  obtain ⟨rfl, hsz, hK, hE, hP, hD0, hR, hRn0⟩ := hv
  have hx := B.exec
  have hb := B.bytes
  have hr := B.returns
  have hts := atoms_spec (ws := wsX3_line) B.pre
  have hown : s.vm.findClass RX3 = some m.cls := findClass_of_methodNamed B.named
  have hlocks := B.notSynchronized
  subst hsz
  have hD := hD0.self (sz := s.heap.size)
  generalize hAe : va_A (pp_w cI cJ cS x0 xm xb f0 xp xq xr adr hh X) s.heap.size = A at hD hE ⊢
  have hA : ∀ q : Nat, s.heap.size ≤ q → A q := fun q h => by rw [← hAe]; exact Or.inr h
  have hS : va_S A s.heap s.heap [] := va_S.rf
  have hl := lv_entry ([.ref x0]) (n := 1) (Nat.le_of_ble_eq_true rfl)
  rw [lg_entry_eq]
  generalize (lg_sl ([.ref x0]) ++ List.replicate (1 - (lg_sl ([.ref x0])).length) Slot.unset).toArray = ls at hl ⊢
  have hl : lv_has ls 1 [(0, .ref x0)] := hl
  refine lv_aload_n hx hb dX3_line_0 rfl (lv_at hl 0 rfl) ?_
  refine va_gets hx hb (hE.1 1 (by decide)).1 hS hown (hts (.fieldLink RX3 71 "PlacePoints$Kind" "LINE" "LPlacePoints$Kind;") (by decide +kernel)) (fun _ h9 => h9) dX3_line_1 ?_
  refine W.eq (g2 := F0 m 4 ls [.ref (ad 1), .ref x0]) rfl ?_
  have hFc := va_free (wc := pp_w cI cJ cS x0 xm xb f0 xp xq xr adr hh X) hD hS hA [0, 1, 2, 3, 4, 5, 6] rfl
  refine gx_cCi (wf := fun u => pp_w cI cJ cS x0 xm xb f0 xp xq xr (va_up adr i u) (va_up hh i (some (sh_0 1))) (pt_s (pt_n X (pp_n X + 1)) (pp_s X + 1)) ++ sh_wa cI ad u (sh_0 1)) (va_runV (As := [.ref (ad 1)]) (rest := []) ⟨hx, hb, hml, hown, hts⟩ (c_X3_make_ok l D cI cJ cZ cS ad x0 xm xb f0 xp xq xr adr X hh _ 1 i (by decide) hi hn) (cwV 1 hts gX3_line_X3_make rfl rfl rfl (by decide +kernel) ⟨Nat.le_of_ble_eq_true rfl, Nat.le_of_ble_eq_true rfl⟩) ⟨gm_blind, va_recv hK hP (ci := 3) (q0 := 0) rfl rfl, gm_ok hK hE hS hFc hP hD va_nil0 gx_nil⟩ rfl rfl hl.1 rfl (lv_room (Nat.le_of_ble_eq_true rfl)) dX3_line_4 ⟨Nat.le_of_ble_eq_true rfl, Nat.le_of_ble_eq_true rfl⟩) hS hFc (fun u H locs hP hD hS => ?_)
  exact W.iret (v := pp_n X) hx hb hr (fun t ht hW => ⟨⟨_, u, rfl, rfl, by rw [ht]; exact hP, hD⟩, hS.F ht⟩) hS.2.2 dX3_line_7
abbrev rm_X3_polygon_ok : Room := { frames := 3, cells := 3, slots := 59, locals := 55 }
set_option maxHeartbeats 4000000 in
set_option maxRecDepth 100000 in
theorem c_X3_polygon_ok (l : Launch) (D : va_G) (cI cJ cZ cS : ClassId) (ad : Nat → Nat) (x0 xm xb f0 xp xq xr : Nat) (adr : ad_T) (X : pp_T) (hh : Nat → Option sh_T) (sz i : Nat) (hi : i < 60) (hn : pp_n X = nI i) : Met l yX3_polygon wsX3_polygon rm_X3_polygon_ok (gm_P D cI cJ cZ cS ad sz (pp_w cI cJ cS x0 xm xb f0 xp xq xr adr hh X) [] [.ref x0]) (va_Qi (fun x (_ : Nat × Nat × Nat) => x = pp_n X) (fun u t => va_P D vwCl (pp_w cI cJ cS x0 xm xb f0 xp xq xr (va_up adr i u) (va_up hh i (some (sh_0 2))) (pt_s (pt_n X (pp_n X + 1)) (pp_s X + 1)) ++ sh_wa cI ad u (sh_0 2)) t.heap ∧ va_D (va_A (pp_w cI cJ cS x0 xm xb f0 xp xq xr adr hh X) sz) (pp_w cI cJ cS x0 xm xb f0 xp xq xr (va_up adr i u) (va_up hh i (some (sh_0 2))) (pt_s (pt_n X (pp_n X + 1)) (pp_s X + 1)) ++ sh_wa cI ad u (sh_0 2))) (va_A (pp_w cI cJ cS x0 xm xb f0 xp xq xr adr hh X) sz)) 3 59 (va_A (pp_w cI cJ cS x0 xm xb f0 xp xq xr adr hh X) sz) := by
  refine Met.ofW (cc := cX3_polygon) (maxL := 1) (ret := (some .int)) (by decide) rfl ?_
  intro p e s m args below meth c s₁ B hml hv
  obtain ⟨rfl, hsz, hK, hE, hP, hD0, hR, hRn0⟩ := hv
  have hx := B.exec
  have hb := B.bytes
  have hr := B.returns
  have hts := atoms_spec (ws := wsX3_polygon) B.pre
  have hown : s.vm.findClass RX3 = some m.cls := findClass_of_methodNamed B.named
  have hlocks := B.notSynchronized
  subst hsz
  have hD := hD0.self (sz := s.heap.size)
  generalize hAe : va_A (pp_w cI cJ cS x0 xm xb f0 xp xq xr adr hh X) s.heap.size = A at hD hE ⊢
  have hA : ∀ q : Nat, s.heap.size ≤ q → A q := fun q h => by rw [← hAe]; exact Or.inr h
  have hS : va_S A s.heap s.heap [] := va_S.rf
  have hl := lv_entry ([.ref x0]) (n := 1) (Nat.le_of_ble_eq_true rfl)
  rw [lg_entry_eq]
  generalize (lg_sl ([.ref x0]) ++ List.replicate (1 - (lg_sl ([.ref x0])).length) Slot.unset).toArray = ls at hl ⊢
  have hl : lv_has ls 1 [(0, .ref x0)] := hl
  refine lv_aload_n hx hb dX3_polygon_0 rfl (lv_at hl 0 rfl) ?_
  refine va_gets hx hb (hE.1 2 (by decide)).1 hS hown (hts (.fieldLink RX3 74 "PlacePoints$Kind" "POLYGON" "LPlacePoints$Kind;") (by decide +kernel)) (fun _ h9 => h9) dX3_polygon_1 ?_
  refine W.eq (g2 := F0 m 4 ls [.ref (ad 2), .ref x0]) rfl ?_
  have hFc := va_free (wc := pp_w cI cJ cS x0 xm xb f0 xp xq xr adr hh X) hD hS hA [0, 1, 2, 3, 4, 5, 6] rfl
  refine gx_cCi (wf := fun u => pp_w cI cJ cS x0 xm xb f0 xp xq xr (va_up adr i u) (va_up hh i (some (sh_0 2))) (pt_s (pt_n X (pp_n X + 1)) (pp_s X + 1)) ++ sh_wa cI ad u (sh_0 2)) (va_runV (As := [.ref (ad 2)]) (rest := []) ⟨hx, hb, hml, hown, hts⟩ (c_X3_make_ok l D cI cJ cZ cS ad x0 xm xb f0 xp xq xr adr X hh _ 2 i (by decide) hi hn) (cwV 1 hts gX3_polygon_X3_make rfl rfl rfl (by decide +kernel) ⟨Nat.le_of_ble_eq_true rfl, Nat.le_of_ble_eq_true rfl⟩) ⟨gm_blind, va_recv hK hP (ci := 3) (q0 := 0) rfl rfl, gm_ok hK hE hS hFc hP hD va_nil0 gx_nil⟩ rfl rfl hl.1 rfl (lv_room (Nat.le_of_ble_eq_true rfl)) dX3_polygon_4 ⟨Nat.le_of_ble_eq_true rfl, Nat.le_of_ble_eq_true rfl⟩) hS hFc (fun u H locs hP hD hS => ?_)
  exact W.iret (v := pp_n X) hx hb hr (fun t ht hW => ⟨⟨_, u, rfl, rfl, by rw [ht]; exact hP, hD⟩, hS.F ht⟩) hS.2.2 dX3_polygon_7
