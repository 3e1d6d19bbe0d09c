theorem add_k {F : Nat} {S T : sh_T} {x y : Int32} (h : s_X2_add F S x y = some T) : sh_k T = sh_k S := by
  unfold s_X2_add at h
  split at h
  · obtain ⟨_, -, h⟩ := op_bd h
    obtain ⟨_, -, h⟩ := op_bd h
    obtain ⟨_, -, h⟩ := op_bd h
    obtain ⟨_, -, h⟩ := op_bd h
    obtain ⟨_, -, h⟩ := op_bd h
    obtain ⟨_, -, h⟩ := op_bd h
    obtain ⟨_, -, h⟩ := op_bd h
    obtain ⟨_, -, h⟩ := op_bd h
    obtain ⟨_, -, h⟩ := op_bd h
    obtain ⟨_, -, h⟩ := op_bd h
    obtain ⟨_, -, h⟩ := op_bd h
    obtain ⟨_, -, h⟩ := op_bd h
    obtain rfl := Option.some.inj h
    rfl
  · obtain rfl := Option.some.inj h
    rfl
def s_X3_sortByGapTo (F : Nat) (X : pp_T) (hh : Nat → Option sh_T) (p1 p2 : Int32) : Option (Int32 × pp_T) := (s_X2_add F (sh_0 0) p1 p2).bind fun T => s_X3_sortL F X hh p1 p2 T
theorem in_X3_sortByGapTo_X2 : ∀ w ∈ wsX20, w ∈ wsX3_sortByGapTo := by decide +kernel
set_option maxHeartbeats 4000000 in
set_option maxRecDepth 100000 in
theorem c_X3_sortByGapTo (l : Launch) (D : va_G) (cI cJ cZ cS : ClassId) (ad : Nat → Nat) (x0 xm xb f0 xp xq xr : Nat) (adr : ad_T) (sz : Nat) (X : pp_T) (hh : Nat → Option sh_T) (p1 p2 : Int32) (F : Nat) (r : Int32 × pp_T) (hs : s_X3_sortByGapTo F X hh p1 p2 = some r) : Met l yX3_sortByGapTo wsX3_sortByGapTo rm_X3_sortByGapTo (gp_P D cI cJ cZ cS ad adr hh sz (pp_w cI cJ cS x0 xm xb f0 xp xq xr adr hh X) [.ref x0, .int p1, .int p2]) (va_Qi (fun x (u : pp_T) => x = r.1 ∧ u = r.2) (fun u t => va_P D vwCl (pp_w cI cJ cS x0 xm xb f0 xp xq xr adr hh u) t.heap ∧ va_D (va_A (pp_w cI cJ cS x0 xm xb f0 xp xq xr adr hh X) sz) (pp_w cI cJ cS x0 xm xb f0 xp xq xr adr hh u)) (va_A (pp_w cI cJ cS x0 xm xb f0 xp xq xr adr hh X) sz)) 3 59 (va_A (pp_w cI cJ cS x0 xm xb f0 xp xq xr adr hh X) sz) := by
  refine Met.ofW (cc := cX3_sortByGapTo) (maxL := 7) (ret := (some .int)) (by decide) rfl ?_
  intro p e s m args below meth c s₁ B hml hv
  obtain ⟨rfl, hsz, hK, hE, hP, hD0, hR, hRn0⟩ := hv
  have hx := B.exec
  have hb := B.bytes
  have hr := B.returns
  have hts := atoms_spec (ws := wsX3_sortByGapTo) B.pre
  have hown : s.vm.findClass RX3 = some m.cls := findClass_of_methodNamed B.named
  have hlocks := B.notSynchronized
  subst hsz
  have hD := hD0.self (sz := s.heap.size)
  have hQn := pl_n0 hR hRn0
  generalize hAe : va_A (pp_w cI cJ cS x0 xm xb f0 xp xq xr adr hh X) s.heap.size = A at hD hE hQn ⊢
  have hA : ∀ q : Nat, s.heap.size ≤ q → A q := fun q h => by rw [← hAe]; exact Or.inr h
  have hS : va_S A s.heap s.heap [] := va_S.rf
  have in_X2 := in_X3_sortByGapTo_X2
  obtain ⟨T, ha, hs⟩ := op_bd hs
  have hl := lv_entry ([.ref x0, .int p1, .int p2]) (n := 7) (Nat.le_of_ble_eq_true rfl)
  rw [lg_entry_eq]
  generalize (lg_sl ([.ref x0, .int p1, .int p2]) ++ List.replicate (7 - (lg_sl ([.ref x0, .int p1, .int p2])).length) Slot.unset).toArray = ls at hl ⊢
  have hl : lv_has ls 7 [(0, .ref x0), (1, .int p1), (2, .int p2)] := hl
  refine va_new (ci := 2) (fs := [.null, .int 0, .int 0, .null, .null, .int 0, .int 0, .int 0, .int 0]) (C := RX2) (T := TX2) (N := 9) hx hb hts in_X2 tyX2 tyX2_ok hown (hts (.classLink RX3 9 RX2) (by decide +kernel)) (hts (.instantiable RX2 9) (by decide +kernel)) (hts (.initialized RX2) (by decide +kernel)) hK hP hD hS hA rfl (fun j hj => by rcases (show j = 0 ∨ j = 1 ∨ j = 2 ∨ j = 3 ∨ j = 4 ∨ j = 5 ∨ j = 6 ∨ j = 7 ∨ j = 8 by omega) with rfl | rfl | rfl | rfl | rfl | rfl | rfl | rfl | rfl <;> rfl) (Nat.le_of_ble_eq_true rfl) (Nat.le_of_ble_eq_true rfl) dX3_sortByGapTo_0 (fun q H hP hD hS => ?_)
  have hP : va_P D vwCl (pp_w cI cJ cS x0 xm xb f0 xp xq xr adr hh X ++ [(q, .inr (2, [.null, .int 0, .int 0, .null, .null, .int 0, .int 0, .int 0, .int 0]))]) H := hP
  have hD : va_D A (pp_w cI cJ cS x0 xm xb f0 xp xq xr adr hh X ++ [(q, .inr (2, [.null, .int 0, .int 0, .null, .null, .int 0, .int 0, .int 0, .int 0]))]) := hD
  refine lv_dup hx hb dX3_sortByGapTo_3 rfl ?_
  refine va_gets hx hb (hE.1 0 (by decide)).1 hS hown (hts (.fieldLink RX3 53 "PlacePoints$Kind" "POINT" "LPlacePoints$Kind;") (by decide +kernel)) (fun _ h9 => h9) dX3_sortByGapTo_4 ?_
  refine W.eq (g2 := F0 m 7 ls [.ref (ad 0), .ref q, .ref q]) rfl ?_
  have hFc := va_free (wc := [(q, .inr (2, [.null, .int 0, .int 0, .null, .null, .int 0, .int 0, .int 0, .int 0]))]) hD hS hA [7] rfl
  refine gx_cCv (wf := fun u : Nat × Nat => sh_w cI ad q u.1 u.2 (sh_0 0)) (wr := pp_w cI cJ cS x0 xm xb f0 xp xq xr adr hh X) (va_runI (As := [.ref (ad 0)]) (rest := [.ref q]) ⟨hx, hb, hml, hown, hts⟩ (c_X2_init l D cI cJ cZ cS ad q 0 (by decide) _) (cwI 1 hts gX3_sortByGapTo_X2_init rfl rfl rfl (hts (.initialized RX2) (by decide +kernel)) (hts (.methodLink RX3 130 yX2_init) (by decide +kernel)) (hts (.instanceMethod yX2_init) (by decide +kernel)) rfl (by decide +kernel) ⟨Nat.le_of_ble_eq_true rfl, Nat.le_of_ble_eq_true rfl⟩) ⟨gc_blind, gc_ok hK hE hS hFc (hP.sub [7] rfl) (hD.sub [7] (by decide) rfl)⟩ rfl rfl hl.1 rfl (lv_room (Nat.le_of_ble_eq_true rfl)) dX3_sortByGapTo_7 ⟨Nat.le_of_ble_eq_true rfl, Nat.le_of_ble_eq_true rfl⟩) hP hD hS hFc [7] [0, 1, 2, 3, 4, 5, 6] rfl rfl (by decide) (by decide) (fun u H locs hP hD hS => ?_)
  have hP : va_P D vwCl (pp_w cI cJ cS x0 xm xb f0 xp xq xr adr hh X ++ sh_w cI ad q u.1 u.2 (sh_0 0)) H := hP
  have hD : va_D A (pp_w cI cJ cS x0 xm xb f0 xp xq xr adr hh X ++ sh_w cI ad q u.1 u.2 (sh_0 0)) := hD
  refine lv_astore_n (lv' := [(3, .ref q), (0, .ref x0), (1, .int p1), (2, .int p2)]) hx hb dX3_sortByGapTo_10 rfl hl (by decide) rfl (fun ls hl => ?_)
  refine lv_aload_n hx hb dX3_sortByGapTo_11 rfl (lv_at hl 0 rfl) ?_
  refine lv_iload_n hx hb dX3_sortByGapTo_12 rfl (lv_at hl 2 rfl) ?_
  refine lv_iload_n hx hb dX3_sortByGapTo_13 rfl (lv_at hl 3 rfl) ?_
  have hFc := va_free (wc := sh_w cI ad q u.1 u.2 (sh_0 0)) hD hS hA [7, 8, 9] rfl
  refine gx_cPv (wf := fun V => sh_w cI ad q u.1 u.2 V) (wr := pp_w cI cJ cS x0 xm xb f0 xp xq xr adr hh X) (w' := pp_w cI cJ cS x0 xm xb f0 xp xq xr adr hh X ++ sh_w cI ad q u.1 u.2 T) (va_runV (As := [.int p1, .int p2]) (rest := []) ⟨hx, hb, hml, hown, hts⟩ (c_X2_add l D cI cJ cZ cS ad q u.1 u.2 _ (sh_0 0) p1 p2 F (show 0 < 3 by decide) T ha) (cwV 2 hts gX3_sortByGapTo_X2_add rfl rfl rfl (by decide +kernel) ⟨Nat.le_of_ble_eq_true rfl, Nat.le_of_ble_eq_true rfl⟩) ⟨gm_blind, va_recv hK hP (ci := 2) (q0 := 7) rfl rfl, gm_ok hK hE hS hFc (hP.sub [7, 8, 9] rfl) (hD.sub [7, 8, 9] (by decide) rfl) va_nil0 gx_nil⟩ rfl rfl hl.1 rfl (lv_room (Nat.le_of_ble_eq_true rfl)) dX3_sortByGapTo_14 ⟨Nat.le_of_ble_eq_true rfl, Nat.le_of_ble_eq_true rfl⟩) hP hD hS hFc [7, 8, 9] [0, 1, 2, 3, 4, 5, 6] rfl rfl (by decide) (by decide) [0, 1, 2, 3, 4, 5, 6, 7, 8, 9] (by decide) rfl (fun H locs hP hD hS => ?_)
  have hP : va_P D vwCl (pp_w cI cJ cS x0 xm xb f0 xp xq xr adr hh X ++ sh_w cI ad q u.1 u.2 T) H := hP
  have hD : va_D A (pp_w cI cJ cS x0 xm xb f0 xp xq xr adr hh X ++ sh_w cI ad q u.1 u.2 T) := hD
  exact w_X3_sortByGapTo l D cI cJ cZ cS ad x0 xm xb f0 xp xq xr adr (q, u.1, u.2) X hh p1 p2 T F (by rw [add_k ha]; decide) r hs hx hb hr hml hlocks hts hown hK hE hA hR hQn _ _ hP hD hS _ (lv_sub hl [1, 2, 3, 0] rfl)
def s_X3_near (F : Nat) (X : pp_T) (hh : Nat → Option sh_T) (p1 : Int32) (p2 : Int32) (p3 : Int32) : Option (Int32 × pp_T) :=
  (s_X3_isPlace F p1 p2).bind fun v_2 =>
  if v_2 = 0 then
    some ((-1), X)
  else
    (s_X3_sortByGapTo F X hh p1 p2).bind fun v_13 =>
    (some (v_13.1)).bind fun e_16 =>
    if p3 < 0 then
      some ((-1), v_13.2)
    else
      if p3 < e_16 then
        (rd_i 60 (pp_r v_13.2) p3).bind fun v_37 =>
        some (v_37, v_13.2)
      else
        some ((-1), v_13.2)
abbrev rm_X3_near : Room := { frames := 8, cells := 3, slots := 59, locals := 182 }
theorem in_X3_near_X3 : ∀ w ∈ wsX30, w ∈ wsX3_near := by decide +kernel
set_option maxHeartbeats 4000000 in
set_option maxRecDepth 100000 in
theorem c_X3_near (l : Launch) (D : va_G) (cI cJ cZ cS : ClassId) (ad : Nat → Nat) (x0 xm xb f0 xp xq xr : Nat) (adr : ad_T) (sz : Nat) (X : pp_T) (hh : Nat → Option sh_T) (p1 : Int32) (p2 : Int32) (p3 : Int32) (F : Nat)  (r : (Int32 × pp_T)) (hs : s_X3_near F X hh p1 p2 p3 = some r) : Met l yX3_near wsX3_near rm_X3_near (gp_P D cI cJ cZ cS ad adr hh sz (pp_w cI cJ cS x0 xm xb f0 xp xq xr adr hh X) [.ref x0, .int p1, .int p2, .int p3]) (va_Qi (fun x (u : pp_T) => x = r.1 ∧ u = r.2) (fun u t => va_P D vwCl (pp_w cI cJ cS x0 xm xb f0 xp xq xr adr hh u) t.heap ∧ va_D (va_A (pp_w cI cJ cS x0 xm xb f0 xp xq xr adr hh X) sz) (pp_w cI cJ cS x0 xm xb f0 xp xq xr adr hh u)) (va_A (pp_w cI cJ cS x0 xm xb f0 xp xq xr adr hh X) sz)) 3 59 (va_A (pp_w cI cJ cS x0 xm xb f0 xp xq xr adr hh X) sz) := by
  refine Met.ofW (cc := cX3_near) (maxL := 5) (ret := (some .int)) (by decide) rfl ?_
  intro p e s m args below meth c s₁ B hml hv
  obtain ⟨rfl, hsz, hK, hE, hP, hD0, hQ, hQn0⟩ := hv
  have hx := B.exec
  have hb := B.bytes
  have hr := B.returns
  have hts := atoms_spec (ws := wsX3_near) B.pre
  have hown : s.vm.findClass RX3 = some m.cls := findClass_of_methodNamed B.named
  have hlocks := B.notSynchronized
  subst hsz
  have hD := hD0.self (sz := s.heap.size)
  have hQn := pl_n0 hQ hQn0
  generalize hAe : va_A (pp_w cI cJ cS x0 xm xb f0 xp xq xr adr hh X) s.heap.size = A at hD hE hQn ⊢
  have hA : ∀ q : Nat, s.heap.size ≤ q → A q := fun q h => by rw [← hAe]; exact Or.inr h
  have hS : va_S A s.heap s.heap [] := va_S.rf
  have lk_46 := hts (.fieldLink RX3 46 "PlacePoints" "sortedNumbers" "[I") (by decide +kernel)
  have in_X3 := in_X3_near_X3
  have hl := lv_entry ([.ref x0, .int p1, .int p2, .int p3]) (n := 5) (Nat.le_of_ble_eq_true rfl)
  rw [lg_entry_eq]
  generalize (lg_sl ([.ref x0, .int p1, .int p2, .int p3]) ++ List.replicate (5 - (lg_sl ([.ref x0, .int p1, .int p2, .int p3])).length) Slot.unset).toArray = ls at hl ⊢
  have hl : lv_has ls 5 [(0, .ref x0), (1, .int p1), (2, .int p2), (3, .int p3)] := hl
  rw [s_X3_near] at hs
  refine lv_iload_n hx hb dX3_near_0 rfl (lv_at hl 1 rfl) ?_
  refine lv_iload_n hx hb dX3_near_1 rfl (lv_at hl 2 rfl) ?_
  obtain ⟨v_2, hc_2, hs⟩ := op_bd hs
  refine gx_cSi (va_Run.run (va_runS (As := [.int p1, .int p2]) (rest := []) ⟨hx, hb, hml, hown, hts⟩ (c_X3_isPlace l D cI cJ cZ cS ad p1 p2 F  v_2 hc_2) (va_cwS 2 hts gX3_near_X3_isPlace rfl rfl rfl (by decide +kernel) ⟨Nat.le_of_ble_eq_true rfl, Nat.le_of_ble_eq_true rfl⟩) ⟨gl_blind, gl_ok hK (gl_Ek hE hS) trivial⟩ rfl rfl hl.1 rfl (lv_room (Nat.le_of_ble_eq_true rfl)) dX3_near_2 ⟨Nat.le_of_ble_eq_true rfl, Nat.le_of_ble_eq_true rfl⟩)) ?_
  refine lv_if_ne (tgt := 10) hx hb dX3_near_5 (by decide) (fun c_5 => ?_) (fun c_5 => ?_)
  · replace hs := it_f c_5 hs
    refine lv_aload_n hx hb dX3_near_10 rfl (lv_at hl 0 rfl) ?_
    refine lv_iload_n hx hb dX3_near_11 rfl (lv_at hl 1 rfl) ?_
    refine lv_iload_n hx hb dX3_near_12 rfl (lv_at hl 2 rfl) ?_
    obtain ⟨v_13, hc_13, hs⟩ := op_bd hs
    have hFc := va_free (wc := pp_w cI cJ cS x0 xm xb f0 xp xq xr adr hh X) hD hS hA [0, 1, 2, 3, 4, 5, 6] rfl
    refine gx_cMi (wf := fun u => pp_w cI cJ cS x0 xm xb f0 xp xq xr adr hh u) (va_runV (As := [.int p1, .int p2]) (rest := []) ⟨hx, hb, hml, hown, hts⟩ (c_X3_sortByGapTo l D cI cJ cZ cS ad x0 xm xb f0 xp xq xr adr _ X hh p1 p2 F  v_13 hc_13) (cwV 2 hts gX3_near_X3_sortByGapTo rfl rfl rfl (by decide +kernel) ⟨Nat.le_of_ble_eq_true rfl, Nat.le_of_ble_eq_true rfl⟩) ⟨gp_blind, va_recv hK hP (ci := 3) (q0 := 0) rfl rfl, gp_ok hK hE hS hFc hP hD hQ hQn⟩ rfl rfl hl.1 rfl (lv_room (Nat.le_of_ble_eq_true rfl)) dX3_near_13 ⟨Nat.le_of_ble_eq_true rfl, Nat.le_of_ble_eq_true rfl⟩) hS hFc (fun H locs hP hD hS => ?_)
    have hP : va_P D vwCl (pp_w cI cJ cS x0 xm xb f0 xp xq xr adr hh v_13.2) H := hP
    have hD : va_D A (pp_w cI cJ cS x0 xm xb f0 xp xq xr adr hh v_13.2) := hD
    obtain ⟨e_16, hv_16, hs⟩ := op_bd hs
    refine gx_ni (Option.some.inj hv_16) ?_
    refine lv_istore (lv' := [(4, .int e_16), (0, .ref x0), (1, .int p1), (2, .int p2), (3, .int p3)]) hx hb dX3_near_16 hl (by decide) rfl (fun ls hl => ?_)
    refine lv_iload_n hx hb dX3_near_18 rfl (lv_at hl 4 rfl) ?_
    refine lv_if_lt (tgt := 28) hx hb dX3_near_19 (by decide) (fun c_19 => ?_) (fun c_19 => ?_)
    · replace hs := it_t c_19 hs
      refine lv_iconst (v := -1) hx hb dX3_near_28 (by decide) ?_
      refine lv_goto (tgt := 38) hx hb dX3_near_29 (by decide) ?_
      obtain rfl := Option.some.inj hs
      refine W.widen (k := 3) (n := 59) (by omega) (by omega) ?_
      exact W.iret hx hb hr (fun t ht hW => ⟨⟨_, _, rfl, ⟨rfl, rfl⟩, by rw [ht]; exact hP, hD⟩, hS.F ht⟩) hS.2.2 dX3_near_38
    · replace hs := it_f c_19 hs
      refine lv_iload_n hx hb dX3_near_22 rfl (lv_at hl 4 rfl) ?_
      refine lv_iload hx hb dX3_near_23 (lv_at hl 0 rfl) ?_
      refine lv_icmp_lt (tgt := 32) hx hb dX3_near_25 (by decide) (fun c_25 => ?_) (fun c_25 => ?_)
      · replace hs := it_t c_25 hs
        refine lv_aload_n hx hb dX3_near_32 rfl (lv_at hl 1 rfl) ?_
        refine va_get (D := D) (ci := 3) (v := .ref xr) (C := RX3) (T := TX3) (N := 10) hx hb hts in_X3 hown hK hP 0 rfl rfl 9 (by decide) lk_46 (fun _ h9 => h9) rfl dX3_near_33 ?_
        refine lv_iload_n hx hb dX3_near_36 rfl (lv_at hl 4 rfl) ?_
        obtain ⟨v_37, hv_37, hs⟩ := op_bd hs
        refine gx_iald hx hb hK hP 6 0 rfl rfl hv_37 dX3_near_37 ?_
        obtain rfl := Option.some.inj hs
        refine W.widen (k := 3) (n := 59) (by omega) (by omega) ?_
        exact W.iret hx hb hr (fun t ht hW => ⟨⟨_, _, rfl, ⟨rfl, rfl⟩, by rw [ht]; exact hP, hD⟩, hS.F ht⟩) hS.2.2 dX3_near_38
      · replace hs := it_f c_25 hs
        refine lv_iconst (v := -1) hx hb dX3_near_28 (by decide) ?_
        refine lv_goto (tgt := 38) hx hb dX3_near_29 (by decide) ?_
        obtain rfl := Option.some.inj hs
        refine W.widen (k := 3) (n := 59) (by omega) (by omega) ?_
        exact W.iret hx hb hr (fun t ht hW => ⟨⟨_, _, rfl, ⟨rfl, rfl⟩, by rw [ht]; exact hP, hD⟩, hS.F ht⟩) hS.2.2 dX3_near_38
  · replace hs := it_t c_5 hs
    refine lv_iconst (v := -1) hx hb dX3_near_8 (by decide) ?_
    obtain rfl := Option.some.inj hs
    refine W.widen (k := 3) (n := 59) (by omega) (by omega) ?_
    exact W.iret hx hb hr (fun t ht hW => ⟨⟨_, _, rfl, ⟨rfl, rfl⟩, by rw [ht]; exact hP, hD⟩, hS.F ht⟩) hS.2.2 dX3_near_9
