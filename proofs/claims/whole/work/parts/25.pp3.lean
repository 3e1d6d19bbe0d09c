def s_X3_make (F : Nat) (X : pp_T) (hh : Nat → Option sh_T) (p1 : Nat) : Option Int32 :=
  if (pp_n X) < 60 then
    none
  else
    some (-2)
abbrev rm_X3_make : Room := { frames := 0, cells := 0, slots := 0, locals := 0 }
theorem in_X3_make_X3 : ∀ w ∈ wsX30, w ∈ wsX3_make := by decide +kernel
set_option maxHeartbeats 4000000 in
set_option maxRecDepth 100000 in
theorem c_X3_make (l : Launch) (D : va_G) (cI cJ cZ cS : ClassId) (ad : Nat → Nat) (x0 xm xb f0 xp xq xr : Nat) (adr : ad_T) (X : pp_T) (hh : Nat → Option sh_T) (p1 : Nat) (F : Nat)  (r : Int32) (hs : s_X3_make F X hh p1 = some r) : Met l yX3_make wsX3_make rm_X3_make (gl_P D cI cJ cZ cS ad [.ref x0, .ref (ad p1)] (pp_B D cI cJ cS ad x0 xm xb f0 xp xq xr adr X hh)) (vp_Si (fun v => v = r)) 0 0 (fun _ => False) := by
  refine Met.ofW (cc := cX3_make) (maxL := 3) (ret := (some .int)) (by decide) rfl ?_
  intro p e s m args below meth c s₁ B hml hv
  obtain ⟨rfl, hK, hE, hP, hQ⟩ := hv
  have hx := B.exec
  have hb := B.bytes
  have hr := B.returns
  have hts := atoms_spec (ws := wsX3_make) B.pre
  have hown : s.vm.findClass RX3 = some m.cls := findClass_of_methodNamed B.named
  have hlocks := B.notSynchronized
  have lk_15 := hts (.fieldLink RX3 15 "PlacePoints" "madeCount" "I") (by decide +kernel)
  have in_X3 := in_X3_make_X3
  have hl := lv_entry ([.ref x0, .ref (ad p1)]) (n := 3) (Nat.le_of_ble_eq_true rfl)
  rw [lg_entry_eq]
  generalize (lg_sl ([.ref x0, .ref (ad p1)]) ++ List.replicate (3 - (lg_sl ([.ref x0, .ref (ad p1)])).length) Slot.unset).toArray = ls at hl ⊢
  have hl : lv_has ls 3 [(0, .ref x0), (1, .ref (ad p1))] := hl
  rw [s_X3_make] at hs
  refine lv_aload_n hx hb dX3_make_0 rfl (lv_at hl 0 rfl) ?_
  refine va_get (D := D) (ci := 3) (v := .int (pp_n X)) (C := RX3) (T := TX3) (N := 10) hx hb hts in_X3 hown hK hP 0 rfl rfl 1 (by decide) lk_15 (fun _ h9 => h9) rfl dX3_make_1 ?_
  refine lv_bipush (v := 60) hx hb dX3_make_4 (by decide) ?_
  refine lv_icmp_lt (tgt := 12) hx hb dX3_make_6 (by decide) (fun c_6 => ?_) (fun c_6 => ?_)
  · replace hs := it_t c_6 hs
    cases hs
  · replace hs := it_f c_6 hs
    refine lv_bipush (v := -2) hx hb dX3_make_9 (by decide) ?_
    obtain rfl := Option.some.inj hs
    exact W.iret hx hb hr (fun t ht hW => ⟨_, rfl, rfl, ht⟩) (fun _ h => by cases h) dX3_make_11
def s_X3_line (F : Nat) (X : pp_T) (hh : Nat → Option sh_T) : Option Int32 :=
  (s_X3_make F X hh 1).bind fun v_4 =>
  some v_4
abbrev rm_X3_line : Room := { frames := 1, cells := 0, slots := 0, locals := 22 }
set_option maxHeartbeats 4000000 in
set_option maxRecDepth 100000 in
theorem c_X3_line (l : Launch) (D : va_G) (cI cJ cZ cS : ClassId) (ad : Nat → Nat) (x0 xm xb f0 xp xq xr : Nat) (adr : ad_T) (X : pp_T) (hh : Nat → Option sh_T) (F : Nat)  (r : Int32) (hs : s_X3_line F X hh = some r) : Met l yX3_line wsX3_line rm_X3_line (gl_P D cI cJ cZ cS ad [.ref x0] (pp_B D cI cJ cS ad x0 xm xb f0 xp xq xr adr X hh)) (vp_Si (fun v => v = r)) 0 0 (fun _ => False) := by
  refine Met.ofW (cc := cX3_line) (maxL := 1) (ret := (some .int)) (by decide) rfl ?_
  intro p e s m args below meth c s₁ B hml hv
  obtain ⟨rfl, hK, hE, hP, hQ⟩ := hv
  have hx := B.exec
  have hb := B.bytes
  have hr := B.returns
  have hts := atoms_spec (ws := wsX3_line) B.pre
  have hown : s.vm.findClass RX3 = some m.cls := findClass_of_methodNamed B.named
  have hlocks := B.notSynchronized
  have hl := lv_entry ([.ref x0]) (n := 1) (Nat.le_of_ble_eq_true rfl)
  rw [lg_entry_eq]
  generalize (lg_sl ([.ref x0]) ++ List.replicate (1 - (lg_sl ([.ref x0])).length) Slot.unset).toArray = ls at hl ⊢
  have hl : lv_has ls 1 [(0, .ref x0)] := hl
  rw [s_X3_line] at hs
  refine lv_aload_n hx hb dX3_line_0 rfl (lv_at hl 0 rfl) ?_
  refine va_gets hx hb (hE.1 1 (by decide)).1 va_S.rf hown (hts (.fieldLink RX3 71 "PlacePoints$Kind" "LINE" "LPlacePoints$Kind;") (by decide +kernel)) (fun _ h9 => h9) dX3_line_1 ?_
  refine W.eq (g2 := F0 m 4 ls [.ref (ad 1), .ref x0]) rfl ?_
  obtain ⟨v_4, hc_4, hs⟩ := op_bd hs
  refine gx_cSi (va_Run.run (va_runV (As := [.ref (ad 1)]) (rest := []) ⟨hx, hb, hml, hown, hts⟩ (c_X3_make l D cI cJ cZ cS ad x0 xm xb f0 xp xq xr adr X hh 1 F  v_4 hc_4) (cwV 1 hts gX3_line_X3_make rfl rfl rfl (by decide +kernel) ⟨Nat.le_of_ble_eq_true rfl, Nat.le_of_ble_eq_true rfl⟩) ⟨gl_blind, va_recv hK hP (ci := 3) (q0 := 0) rfl rfl, gl_ok hK hE ⟨hP, hQ⟩⟩ rfl rfl hl.1 rfl (lv_room (Nat.le_of_ble_eq_true rfl)) dX3_line_4 ⟨Nat.le_of_ble_eq_true rfl, Nat.le_of_ble_eq_true rfl⟩)) ?_
  obtain rfl := Option.some.inj hs
  exact W.iret hx hb hr (fun t ht hW => ⟨_, rfl, rfl, ht⟩) (fun _ h => by cases h) dX3_line_7
def s_X3_polygon (F : Nat) (X : pp_T) (hh : Nat → Option sh_T) : Option Int32 :=
  (s_X3_make F X hh 2).bind fun v_4 =>
  some v_4
abbrev rm_X3_polygon : Room := { frames := 1, cells := 0, slots := 0, locals := 22 }
set_option maxHeartbeats 4000000 in
set_option maxRecDepth 100000 in
theorem c_X3_polygon (l : Launch) (D : va_G) (cI cJ cZ cS : ClassId) (ad : Nat → Nat) (x0 xm xb f0 xp xq xr : Nat) (adr : ad_T) (X : pp_T) (hh : Nat → Option sh_T) (F : Nat)  (r : Int32) (hs : s_X3_polygon F X hh = some r) : Met l yX3_polygon wsX3_polygon rm_X3_polygon (gl_P D cI cJ cZ cS ad [.ref x0] (pp_B D cI cJ cS ad x0 xm xb f0 xp xq xr adr X hh)) (vp_Si (fun v => v = r)) 0 0 (fun _ => False) := by
  refine Met.ofW (cc := cX3_polygon) (maxL := 1) (ret := (some .int)) (by decide) rfl ?_
  intro p e s m args below meth c s₁ B hml hv
  obtain ⟨rfl, hK, hE, hP, hQ⟩ := hv
  have hx := B.exec
  have hb := B.bytes
  have hr := B.returns
  have hts := atoms_spec (ws := wsX3_polygon) B.pre
  have hown : s.vm.findClass RX3 = some m.cls := findClass_of_methodNamed B.named
  have hlocks := B.notSynchronized
  have hl := lv_entry ([.ref x0]) (n := 1) (Nat.le_of_ble_eq_true rfl)
  rw [lg_entry_eq]
  generalize (lg_sl ([.ref x0]) ++ List.replicate (1 - (lg_sl ([.ref x0])).length) Slot.unset).toArray = ls at hl ⊢
  have hl : lv_has ls 1 [(0, .ref x0)] := hl
  rw [s_X3_polygon] at hs
  refine lv_aload_n hx hb dX3_polygon_0 rfl (lv_at hl 0 rfl) ?_
  refine va_gets hx hb (hE.1 2 (by decide)).1 va_S.rf hown (hts (.fieldLink RX3 74 "PlacePoints$Kind" "POLYGON" "LPlacePoints$Kind;") (by decide +kernel)) (fun _ h9 => h9) dX3_polygon_1 ?_
  refine W.eq (g2 := F0 m 4 ls [.ref (ad 2), .ref x0]) rfl ?_
  obtain ⟨v_4, hc_4, hs⟩ := op_bd hs
  refine gx_cSi (va_Run.run (va_runV (As := [.ref (ad 2)]) (rest := []) ⟨hx, hb, hml, hown, hts⟩ (c_X3_make l D cI cJ cZ cS ad x0 xm xb f0 xp xq xr adr X hh 2 F  v_4 hc_4) (cwV 1 hts gX3_polygon_X3_make rfl rfl rfl (by decide +kernel) ⟨Nat.le_of_ble_eq_true rfl, Nat.le_of_ble_eq_true rfl⟩) ⟨gl_blind, va_recv hK hP (ci := 3) (q0 := 0) rfl rfl, gl_ok hK hE ⟨hP, hQ⟩⟩ rfl rfl hl.1 rfl (lv_room (Nat.le_of_ble_eq_true rfl)) dX3_polygon_4 ⟨Nat.le_of_ble_eq_true rfl, Nat.le_of_ble_eq_true rfl⟩)) ?_
  obtain rfl := Option.some.inj hs
  exact W.iret hx hb hr (fun t ht hW => ⟨_, rfl, rfl, ht⟩) (fun _ h => by cases h) dX3_polygon_7
def s_X3_point (F : Nat) (X : pp_T) (hh : Nat → Option sh_T) (p1 : Int32) (p2 : Int32) : Option Int32 :=
  (s_X3_isPlace F p1 p2).bind fun v_2 =>
  if v_2 = 0 then
    some (-1)
  else
    if (pp_o X) < 400 then
      (s_X3_make F X hh 0).bind fun v_27 =>
      (s_X3_standing F X hh v_27).bind fun v_33 =>
      mt_o v_33
        (some v_27)
        (fun S_33 =>
         none)
    else
      some (-2)
abbrev rm_X3_point : Room := { frames := 1, cells := 0, slots := 0, locals := 22 }
theorem in_X3_point_X3 : ∀ w ∈ wsX30, w ∈ wsX3_point := by decide +kernel
set_option maxHeartbeats 4000000 in
set_option maxRecDepth 100000 in
theorem c_X3_point (l : Launch) (D : va_G) (cI cJ cZ cS : ClassId) (ad : Nat → Nat) (x0 xm xb f0 xp xq xr : Nat) (adr : ad_T) (X : pp_T) (hh : Nat → Option sh_T) (p1 : Int32) (p2 : Int32) (F : Nat)  (r : Int32) (hs : s_X3_point F X hh p1 p2 = some r) : Met l yX3_point wsX3_point rm_X3_point (gl_P D cI cJ cZ cS ad [.ref x0, .int p1, .int p2] (pp_B D cI cJ cS ad x0 xm xb f0 xp xq xr adr X hh)) (vp_Si (fun v => v = r)) 0 0 (fun _ => False) := by
  refine Met.ofW (cc := cX3_point) (maxL := 5) (ret := (some .int)) (by decide) rfl ?_
  intro p e s m args below meth c s₁ B hml hv
  obtain ⟨rfl, hK, hE, hP, hQ⟩ := hv
  have hx := B.exec
  have hb := B.bytes
  have hr := B.returns
  have hts := atoms_spec (ws := wsX3_point) B.pre
  have hown : s.vm.findClass RX3 = some m.cls := findClass_of_methodNamed B.named
  have hlocks := B.notSynchronized
  have lk_22 := hts (.fieldLink RX3 22 "PlacePoints" "cornersUsed" "I") (by decide +kernel)
  have in_X3 := in_X3_point_X3
  have hl := lv_entry ([.ref x0, .int p1, .int p2]) (n := 5) (Nat.le_of_ble_eq_true rfl)
  rw [lg_entry_eq]
  generalize (lg_sl ([.ref x0, .int p1, .int p2]) ++ List.replicate (5 - (lg_sl ([.ref x0, .int p1, .int p2])).length) Slot.unset).toArray = ls at hl ⊢
  have hl : lv_has ls 5 [(0, .ref x0), (1, .int p1), (2, .int p2)] := hl
  rw [s_X3_point] at hs
  refine lv_iload_n hx hb dX3_point_0 rfl (lv_at hl 1 rfl) ?_
  refine lv_iload_n hx hb dX3_point_1 rfl (lv_at hl 2 rfl) ?_
  obtain ⟨v_2, hc_2, hs⟩ := op_bd hs
  refine gx_cSi (va_Run.run (va_runS (As := [.int p1, .int p2]) (rest := []) ⟨hx, hb, hml, hown, hts⟩ (c_X3_isPlace l D cI cJ cZ cS ad p1 p2 F  v_2 hc_2) (va_cwS 2 hts gX3_point_X3_isPlace rfl rfl rfl (by decide +kernel) ⟨Nat.le_of_ble_eq_true rfl, Nat.le_of_ble_eq_true rfl⟩) ⟨gl_blind, gl_ok hK hE trivial⟩ rfl rfl hl.1 rfl (lv_room (Nat.le_of_ble_eq_true rfl)) dX3_point_2 ⟨Nat.le_of_ble_eq_true rfl, Nat.le_of_ble_eq_true rfl⟩)) ?_
  refine lv_if_ne (tgt := 10) hx hb dX3_point_5 (by decide) (fun c_5 => ?_) (fun c_5 => ?_)
  · replace hs := it_f c_5 hs
    refine lv_aload_n hx hb dX3_point_10 rfl (lv_at hl 0 rfl) ?_
    refine va_get (D := D) (ci := 3) (v := .int (pp_o X)) (C := RX3) (T := TX3) (N := 10) hx hb hts in_X3 hown hK hP 0 rfl rfl 3 (by decide) lk_22 (fun _ h9 => h9) rfl dX3_point_11 ?_
    refine lv_sipush (v := 400) hx hb dX3_point_14 (by decide) ?_
    refine lv_icmp_lt (tgt := 23) hx hb dX3_point_17 (by decide) (fun c_17 => ?_) (fun c_17 => ?_)
    · replace hs := it_t c_17 hs
      refine lv_aload_n hx hb dX3_point_23 rfl (lv_at hl 0 rfl) ?_
      refine va_gets hx hb (hE.1 0 (by decide)).1 va_S.rf hown (hts (.fieldLink RX3 53 "PlacePoints$Kind" "POINT" "LPlacePoints$Kind;") (by decide +kernel)) (fun _ h9 => h9) dX3_point_24 ?_
      refine W.eq (g2 := F0 m 27 ls [.ref (ad 0), .ref x0]) rfl ?_
      obtain ⟨v_27, hc_27, hs⟩ := op_bd hs
      refine gx_cSi (va_Run.run (va_runV (As := [.ref (ad 0)]) (rest := []) ⟨hx, hb, hml, hown, hts⟩ (c_X3_make l D cI cJ cZ cS ad x0 xm xb f0 xp xq xr adr X hh 0 F  v_27 hc_27) (cwV 1 hts gX3_point_X3_make rfl rfl rfl (by decide +kernel) ⟨Nat.le_of_ble_eq_true rfl, Nat.le_of_ble_eq_true rfl⟩) ⟨gl_blind, va_recv hK hP (ci := 3) (q0 := 0) rfl rfl, gl_ok hK hE ⟨hP, hQ⟩⟩ rfl rfl hl.1 rfl (lv_room (Nat.le_of_ble_eq_true rfl)) dX3_point_27 ⟨Nat.le_of_ble_eq_true rfl, Nat.le_of_ble_eq_true rfl⟩)) ?_
      refine lv_istore_n (lv' := [(3, .int v_27), (0, .ref x0), (1, .int p1), (2, .int p2)]) hx hb dX3_point_30 rfl hl (by decide) rfl (fun ls hl => ?_)
      refine lv_aload_n hx hb dX3_point_31 rfl (lv_at hl 1 rfl) ?_
      refine lv_iload_n hx hb dX3_point_32 rfl (lv_at hl 0 rfl) ?_
      obtain ⟨v_33, hc_33, hs⟩ := op_bd hs
      refine gx_cSq (va_Run.run (va_runV (As := [.int v_27]) (rest := []) ⟨hx, hb, hml, hown, hts⟩ (c_X3_standing l D cI cJ cZ cS ad x0 xm xb f0 xp xq xr adr X hh v_27 F v_33 hc_33) (cwV 1 hts gX3_point_X3_standing rfl rfl rfl (by decide +kernel) ⟨Nat.le_of_ble_eq_true rfl, Nat.le_of_ble_eq_true rfl⟩) ⟨gl_blind, va_recv hK hP (ci := 3) (q0 := 0) rfl rfl, gl_ok hK hE hP⟩ rfl rfl hl.1 rfl (lv_room (Nat.le_of_ble_eq_true rfl)) dX3_point_33 ⟨Nat.le_of_ble_eq_true rfl, Nat.le_of_ble_eq_true rfl⟩)) ?_
      cases v_33 with
      | none =>
        replace hs := mt_n hs
        refine W.eq (g2 := F0 m 36 ls [.null]) rfl ?_
        refine lv_astoreN (lv' := [(4, .null), (3, .int v_27), (0, .ref x0), (1, .int p1), (2, .int p2)]) hx hb dX3_point_36 hl (by decide) rfl (fun ls hl => ?_)
        refine lv_aloadN hx hb dX3_point_38 (lv_at hl 0 rfl) ?_
        refine lv_ifnullN (tgt := 60) hx hb dX3_point_40 (by decide) ?_
        refine lv_iload_n hx hb dX3_point_60 rfl (lv_at hl 1 rfl) ?_
        obtain rfl := Option.some.inj hs
        exact W.iret hx hb hr (fun t ht hW => ⟨_, rfl, rfl, ht⟩) (fun _ h => by cases h) dX3_point_61
      | some S_33 =>
        replace hs := mt_s hs
        have hq_33 := hQ _ _ (st_h hc_33)
        refine W.eq (g2 := F0 m 36 ls [.ref (adr v_27.toNatClampNeg).1]) rfl ?_
        refine lv_astore (lv' := [(4, .ref (adr v_27.toNatClampNeg).1), (3, .int v_27), (0, .ref x0), (1, .int p1), (2, .int p2)]) hx hb dX3_point_36 hl (by decide) rfl (fun ls hl => ?_)
        refine lv_aload hx hb dX3_point_38 (lv_at hl 0 rfl) ?_
        refine lv_ifnull hx hb dX3_point_40 ?_
        cases hs
    · replace hs := it_f c_17 hs
      refine lv_bipush (v := -2) hx hb dX3_point_20 (by decide) ?_
      obtain rfl := Option.some.inj hs
      exact W.iret hx hb hr (fun t ht hW => ⟨_, rfl, rfl, ht⟩) (fun _ h => by cases h) dX3_point_22
  · replace hs := it_t c_5 hs
    refine lv_iconst (v := -1) hx hb dX3_point_8 (by decide) ?_
    obtain rfl := Option.some.inj hs
    exact W.iret hx hb hr (fun t ht hW => ⟨_, rfl, rfl, ht⟩) (fun _ h => by cases h) dX3_point_9
def s_X3_corner (F : Nat) (X : pp_T) (hh : Nat → Option sh_T) (p1 : Int32) (p2 : Int32) (p3 : Int32) : Option Int32 :=
  (s_X3_standing F X hh p1).bind fun v_2 =>
  mt_o v_2
    (some (-1))
    (fun S_2 =>
     if (sh_k S_2) = 0 then
       some (-1)
     else
       (s_X3_isPlace F p2 p3).bind fun v_25 =>
       if v_25 = 0 then
         some (-1)
       else
         if 400 ≤ (pp_o X) then
           some (-2)
         else
           if (sh_z S_2) < (en_m (sh_k S_2)) then
             none
           else
             some (-2))
abbrev rm_X3_corner : Room := { frames := 1, cells := 0, slots := 0, locals := 21 }
theorem in_X3_corner_X2 : ∀ w ∈ wsX20, w ∈ wsX3_corner := by decide +kernel
theorem in_X3_corner_X3 : ∀ w ∈ wsX30, w ∈ wsX3_corner := by decide +kernel
set_option maxHeartbeats 4000000 in
set_option maxRecDepth 100000 in
theorem c_X3_corner (l : Launch) (D : va_G) (cI cJ cZ cS : ClassId) (ad : Nat → Nat) (x0 xm xb f0 xp xq xr : Nat) (adr : ad_T) (X : pp_T) (hh : Nat → Option sh_T) (p1 : Int32) (p2 : Int32) (p3 : Int32) (F : Nat)  (r : Int32) (hs : s_X3_corner F X hh p1 p2 p3 = some r) : Met l yX3_corner wsX3_corner rm_X3_corner (gl_P D cI cJ cZ cS ad [.ref x0, .int p1, .int p2, .int p3] (pp_B D cI cJ cS ad x0 xm xb f0 xp xq xr adr X hh)) (vp_Si (fun v => v = r)) 0 0 (fun _ => False) := by
  refine Met.ofW (cc := cX3_corner) (maxL := 5) (ret := (some .int)) (by decide) rfl ?_
  intro p e s m args below meth c s₁ B hml hv
  obtain ⟨rfl, hK, hE, hP, hQ⟩ := hv
  have hx := B.exec
  have hb := B.bytes
  have hr := B.returns
  have hts := atoms_spec (ws := wsX3_corner) B.pre
  have hown : s.vm.findClass RX3 = some m.cls := findClass_of_methodNamed B.named
  have hlocks := B.notSynchronized
  have lk_22 := hts (.fieldLink RX3 22 "PlacePoints" "cornersUsed" "I") (by decide +kernel)
  have lk_77 := hts (.fieldLink RX3 77 "PlacePoints$Shape" "kind" "LPlacePoints$Kind;") (by decide +kernel)
  have lk_80 := hts (.fieldLink RX3 80 "PlacePoints$Shape" "size" "I") (by decide +kernel)
  have in_X2 := in_X3_corner_X2
  have in_X3 := in_X3_corner_X3
  have hl := lv_entry ([.ref x0, .int p1, .int p2, .int p3]) (n := 5) (Nat.le_of_ble_eq_true rfl)
  rw [lg_entry_eq]
  generalize (lg_sl ([.ref x0, .int p1, .int p2, .int p3]) ++ List.replicate (5 - (lg_sl ([.ref x0, .int p1, .int p2, .int p3])).length) Slot.unset).toArray = ls at hl ⊢
  have hl : lv_has ls 5 [(0, .ref x0), (1, .int p1), (2, .int p2), (3, .int p3)] := hl
  rw [s_X3_corner] at hs
  refine lv_aload_n hx hb dX3_corner_0 rfl (lv_at hl 0 rfl) ?_
  refine lv_iload_n hx hb dX3_corner_1 rfl (lv_at hl 1 rfl) ?_
  obtain ⟨v_2, hc_2, hs⟩ := op_bd hs
  refine gx_cSq (va_Run.run (va_runV (As := [.int p1]) (rest := []) ⟨hx, hb, hml, hown, hts⟩ (c_X3_standing l D cI cJ cZ cS ad x0 xm xb f0 xp xq xr adr X hh p1 F v_2 hc_2) (cwV 1 hts gX3_corner_X3_standing rfl rfl rfl (by decide +kernel) ⟨Nat.le_of_ble_eq_true rfl, Nat.le_of_ble_eq_true rfl⟩) ⟨gl_blind, va_recv hK hP (ci := 3) (q0 := 0) rfl rfl, gl_ok hK hE hP⟩ rfl rfl hl.1 rfl (lv_room (Nat.le_of_ble_eq_true rfl)) dX3_corner_2 ⟨Nat.le_of_ble_eq_true rfl, Nat.le_of_ble_eq_true rfl⟩)) ?_
  cases v_2 with
  | none =>
    replace hs := mt_n hs
    refine W.eq (g2 := F0 m 5 ls [.null]) rfl ?_
    refine lv_astoreN (lv' := [(4, .null), (0, .ref x0), (1, .int p1), (2, .int p2), (3, .int p3)]) hx hb dX3_corner_5 hl (by decide) rfl (fun ls hl => ?_)
    refine lv_aloadN hx hb dX3_corner_7 (lv_at hl 0 rfl) ?_
    refine lv_ifnullN (tgt := 31) hx hb dX3_corner_9 (by decide) ?_
    refine lv_iconst (v := -1) hx hb dX3_corner_31 (by decide) ?_
    obtain rfl := Option.some.inj hs
    exact W.iret hx hb hr (fun t ht hW => ⟨_, rfl, rfl, ht⟩) (fun _ h => by cases h) dX3_corner_32
  | some S_2 =>
    replace hs := mt_s hs
    have hq_2 := hQ _ _ (st_h hc_2)
    refine W.eq (g2 := F0 m 5 ls [.ref (adr p1.toNatClampNeg).1]) rfl ?_
    refine lv_astore (lv' := [(4, .ref (adr p1.toNatClampNeg).1), (0, .ref x0), (1, .int p1), (2, .int p2), (3, .int p3)]) hx hb dX3_corner_5 hl (by decide) rfl (fun ls hl => ?_)
    refine lv_aload hx hb dX3_corner_7 (lv_at hl 0 rfl) ?_
    refine lv_ifnull hx hb dX3_corner_9 ?_
    refine lv_aload hx hb dX3_corner_12 (lv_at hl 0 rfl) ?_
    refine va_get (D := D) (ci := 2) (v := .ref (ad (sh_k S_2))) (C := RX2) (T := TX2) (N := 9) hx hb hts in_X2 hown hK hq_2.1 0 rfl rfl 0 (by decide) lk_77 (fun _ h9 => h9) rfl dX3_corner_14 ?_
    refine va_gets hx hb (hE.1 0 (by decide)).1 va_S.rf hown (hts (.fieldLink RX3 53 "PlacePoints$Kind" "POINT" "LPlacePoints$Kind;") (by decide +kernel)) (fun _ h9 => h9) dX3_corner_17 ?_
    refine W.eq (g2 := F0 m 20 ls [.ref (ad 0), .ref (ad (sh_k S_2))]) rfl ?_
    refine gx_acmp_eq (tgt := 31) hE (show (sh_k S_2) < 3 from hq_2.2) (show 0 < 3 from (by decide)) hx hb dX3_corner_20 (by decide) (fun c_20 => ?_) (fun c_20 => ?_)
    · replace hs := it_t c_20 hs
      refine lv_iconst (v := -1) hx hb dX3_corner_31 (by decide) ?_
      obtain rfl := Option.some.inj hs
      exact W.iret hx hb hr (fun t ht hW => ⟨_, rfl, rfl, ht⟩) (fun _ h => by cases h) dX3_corner_32
    · replace hs := it_f c_20 hs
      refine lv_iload_n hx hb dX3_corner_23 rfl (lv_at hl 3 rfl) ?_
      refine lv_iload_n hx hb dX3_corner_24 rfl (lv_at hl 4 rfl) ?_
      obtain ⟨v_25, hc_25, hs⟩ := op_bd hs
      refine gx_cSi (va_Run.run (va_runS (As := [.int p2, .int p3]) (rest := []) ⟨hx, hb, hml, hown, hts⟩ (c_X3_isPlace l D cI cJ cZ cS ad p2 p3 F  v_25 hc_25) (va_cwS 2 hts gX3_corner_X3_isPlace rfl rfl rfl (by decide +kernel) ⟨Nat.le_of_ble_eq_true rfl, Nat.le_of_ble_eq_true rfl⟩) ⟨gl_blind, gl_ok hK hE trivial⟩ rfl rfl hl.1 rfl (lv_room (Nat.le_of_ble_eq_true rfl)) dX3_corner_25 ⟨Nat.le_of_ble_eq_true rfl, Nat.le_of_ble_eq_true rfl⟩)) ?_
      refine lv_if_ne (tgt := 33) hx hb dX3_corner_28 (by decide) (fun c_28 => ?_) (fun c_28 => ?_)
      · replace hs := it_f c_28 hs
        refine lv_aload_n hx hb dX3_corner_33 rfl (lv_at hl 1 rfl) ?_
        refine va_get (D := D) (ci := 3) (v := .int (pp_o X)) (C := RX3) (T := TX3) (N := 10) hx hb hts in_X3 hown hK hP 0 rfl rfl 3 (by decide) lk_22 (fun _ h9 => h9) rfl dX3_corner_34 ?_
        refine lv_sipush (v := 400) hx hb dX3_corner_37 (by decide) ?_
        refine lv_icmp_ge (tgt := 59) hx hb dX3_corner_40 (by decide) (fun c_40 => ?_) (fun c_40 => ?_)
        · replace hs := it_t c_40 hs
          refine lv_bipush (v := -2) hx hb dX3_corner_59 (by decide) ?_
          obtain rfl := Option.some.inj hs
          exact W.iret hx hb hr (fun t ht hW => ⟨_, rfl, rfl, ht⟩) (fun _ h => by cases h) dX3_corner_61
        · replace hs := it_f c_40 hs
          refine lv_aload hx hb dX3_corner_43 (lv_at hl 0 rfl) ?_
          refine va_get (D := D) (ci := 2) (v := .int (sh_z S_2)) (C := RX2) (T := TX2) (N := 9) hx hb hts in_X2 hown hK hq_2.1 0 rfl rfl 1 (by decide) lk_80 (fun _ h9 => h9) rfl dX3_corner_45 ?_
          refine lv_aload hx hb dX3_corner_48 (lv_at hl 0 rfl) ?_
          refine va_get (D := D) (ci := 2) (v := .ref (ad (sh_k S_2))) (C := RX2) (T := TX2) (N := 9) hx hb hts in_X2 hown hK hq_2.1 0 rfl rfl 0 (by decide) lk_77 (fun _ h9 => h9) rfl dX3_corner_50 ?_
          refine va_getE (q := ("PlacePoints$Kind", "most", "I", [1, 24, 24])) hx hb hE (show (sh_k S_2) < 3 from hq_2.2) va_S.rf hown (by simp) (hts (.fieldLink RX3 83 "PlacePoints$Kind" "most" "I") (by decide +kernel)) (fun _ h9 => h9) dX3_corner_53 ?_
          refine W.eq (g2 := F0 m 56 ls [.int (en_m (sh_k S_2)), .int (sh_z S_2)]) rfl ?_
          refine lv_icmp_lt (tgt := 62) hx hb dX3_corner_56 (by decide) (fun c_56 => ?_) (fun c_56 => ?_)
          · replace hs := it_t c_56 hs
            cases hs
          · replace hs := it_f c_56 hs
            refine lv_bipush (v := -2) hx hb dX3_corner_59 (by decide) ?_
            obtain rfl := Option.some.inj hs
            exact W.iret hx hb hr (fun t ht hW => ⟨_, rfl, rfl, ht⟩) (fun _ h => by cases h) dX3_corner_61
      · replace hs := it_t c_28 hs
        refine lv_iconst (v := -1) hx hb dX3_corner_31 (by decide) ?_
        obtain rfl := Option.some.inj hs
        exact W.iret hx hb hr (fun t ht hW => ⟨_, rfl, rfl, ht⟩) (fun _ h => by cases h) dX3_corner_32
def s_X3_remove (F : Nat) (X : pp_T) (hh : Nat → Option sh_T) (p1 : Int32) : Option Int32 :=
  (s_X3_standing F X hh p1).bind fun v_2 =>
  mt_o v_2
    (some (-1))
    (fun S_2 =>
     none)
abbrev rm_X3_remove : Room := { frames := 1, cells := 0, slots := 0, locals := 21 }
set_option maxHeartbeats 4000000 in
set_option maxRecDepth 100000 in
theorem c_X3_remove (l : Launch) (D : va_G) (cI cJ cZ cS : ClassId) (ad : Nat → Nat) (x0 xm xb f0 xp xq xr : Nat) (adr : ad_T) (X : pp_T) (hh : Nat → Option sh_T) (p1 : Int32) (F : Nat)  (r : Int32) (hs : s_X3_remove F X hh p1 = some r) : Met l yX3_remove wsX3_remove rm_X3_remove (gl_P D cI cJ cZ cS ad [.ref x0, .int p1] (pp_B D cI cJ cS ad x0 xm xb f0 xp xq xr adr X hh)) (vp_Si (fun v => v = r)) 0 0 (fun _ => False) := by
  refine Met.ofW (cc := cX3_remove) (maxL := 2) (ret := (some .int)) (by decide) rfl ?_
  intro p e s m args below meth c s₁ B hml hv
  obtain ⟨rfl, hK, hE, hP, hQ⟩ := hv
  have hx := B.exec
  have hb := B.bytes
  have hr := B.returns
  have hts := atoms_spec (ws := wsX3_remove) B.pre
  have hown : s.vm.findClass RX3 = some m.cls := findClass_of_methodNamed B.named
  have hlocks := B.notSynchronized
  have hl := lv_entry ([.ref x0, .int p1]) (n := 2) (Nat.le_of_ble_eq_true rfl)
  rw [lg_entry_eq]
  generalize (lg_sl ([.ref x0, .int p1]) ++ List.replicate (2 - (lg_sl ([.ref x0, .int p1])).length) Slot.unset).toArray = ls at hl ⊢
  have hl : lv_has ls 2 [(0, .ref x0), (1, .int p1)] := hl
  rw [s_X3_remove] at hs
  refine lv_aload_n hx hb dX3_remove_0 rfl (lv_at hl 0 rfl) ?_
  refine lv_iload_n hx hb dX3_remove_1 rfl (lv_at hl 1 rfl) ?_
  obtain ⟨v_2, hc_2, hs⟩ := op_bd hs
  refine gx_cSq (va_Run.run (va_runV (As := [.int p1]) (rest := []) ⟨hx, hb, hml, hown, hts⟩ (c_X3_standing l D cI cJ cZ cS ad x0 xm xb f0 xp xq xr adr X hh p1 F v_2 hc_2) (cwV 1 hts gX3_remove_X3_standing rfl rfl rfl (by decide +kernel) ⟨Nat.le_of_ble_eq_true rfl, Nat.le_of_ble_eq_true rfl⟩) ⟨gl_blind, va_recv hK hP (ci := 3) (q0 := 0) rfl rfl, gl_ok hK hE hP⟩ rfl rfl hl.1 rfl (lv_room (Nat.le_of_ble_eq_true rfl)) dX3_remove_2 ⟨Nat.le_of_ble_eq_true rfl, Nat.le_of_ble_eq_true rfl⟩)) ?_
  cases v_2 with
  | none =>
    replace hs := mt_n hs
    refine W.eq (g2 := F0 m 5 ls [.null]) rfl ?_
    refine lv_ifnonnullN hx hb dX3_remove_5 ?_
    refine lv_iconst (v := -1) hx hb dX3_remove_8 (by decide) ?_
    obtain rfl := Option.some.inj hs
    exact W.iret hx hb hr (fun t ht hW => ⟨_, rfl, rfl, ht⟩) (fun _ h => by cases h) dX3_remove_9
  | some S_2 =>
    replace hs := mt_s hs
    have hq_2 := hQ _ _ (st_h hc_2)
    refine W.eq (g2 := F0 m 5 ls [.ref (adr p1.toNatClampNeg).1]) rfl ?_
    refine lv_ifnonnull (tgt := 10) hx hb dX3_remove_5 (by decide) ?_
    cases hs
def s_X3_found_12 (F : Nat) (X : pp_T) (hh : Nat → Option sh_T) (p1 : Int32) : Option Int32 :=
  none
def s_X3_found (F : Nat) (X : pp_T) (hh : Nat → Option sh_T) (p1 : Int32) : Option Int32 :=
  if p1 < 0 then
    s_X3_found_12 F X hh p1 
  else
    if p1 < (pp_m X) then
      (rd_i 60 (pp_b X) p1).bind fun v_25 =>
      some v_25
    else
      s_X3_found_12 F X hh p1 
abbrev rm_X3_found : Room := { frames := 0, cells := 0, slots := 0, locals := 0 }
theorem in_X3_found_X3 : ∀ w ∈ wsX30, w ∈ wsX3_found := by decide +kernel
set_option maxHeartbeats 4000000 in
set_option maxRecDepth 100000 in
theorem c_X3_found (l : Launch) (D : va_G) (cI cJ cZ cS : ClassId) (ad : Nat → Nat) (x0 xm xb f0 xp xq xr : Nat) (adr : ad_T) (X : pp_T) (hh : Nat → Option sh_T) (p1 : Int32) (F : Nat)  (r : Int32) (hs : s_X3_found F X hh p1 = some r) : Met l yX3_found wsX3_found rm_X3_found (gl_P D cI cJ cZ cS ad [.ref x0, .int p1] (pp_B D cI cJ cS ad x0 xm xb f0 xp xq xr adr X hh)) (vp_Si (fun v => v = r)) 0 0 (fun _ => False) := by
  refine Met.ofW (cc := cX3_found) (maxL := 2) (ret := (some .int)) (by decide) rfl ?_
  intro p e s m args below meth c s₁ B hml hv
  obtain ⟨rfl, hK, hE, hP, hQ⟩ := hv
  have hx := B.exec
  have hb := B.bytes
  have hr := B.returns
  have hts := atoms_spec (ws := wsX3_found) B.pre
  have hown : s.vm.findClass RX3 = some m.cls := findClass_of_methodNamed B.named
  have hlocks := B.notSynchronized
  have lk_25 := hts (.fieldLink RX3 25 "PlacePoints" "boxedNumbers" "[I") (by decide +kernel)
  have lk_29 := hts (.fieldLink RX3 29 "PlacePoints" "boxedCount" "I") (by decide +kernel)
  have in_X3 := in_X3_found_X3
  have J_12 : s_X3_found_12 F X hh p1 = some r → ∀ ls : Array Slot, lv_has ls 2 [] → W p l e (headSpec wsX3_found rm_X3_found).room s m ([.ref x0, .int p1] : List Value).toArray below meth c s.heap [] 0 0 (MQ below (vp_Si (fun v => v = r)) ([.ref x0, .int p1] : List Value).toArray s 0 0 (fun _ => False)) (F0 m 12 ls []) := by
    intro  hs ls hl
    rw [s_X3_found_12] at hs
    cases hs
  have hl := lv_entry ([.ref x0, .int p1]) (n := 2) (Nat.le_of_ble_eq_true rfl)
  rw [lg_entry_eq]
  generalize (lg_sl ([.ref x0, .int p1]) ++ List.replicate (2 - (lg_sl ([.ref x0, .int p1])).length) Slot.unset).toArray = ls at hl ⊢
  have hl : lv_has ls 2 [(0, .ref x0), (1, .int p1)] := hl
  rw [s_X3_found] at hs
  refine lv_iload_n hx hb dX3_found_0 rfl (lv_at hl 1 rfl) ?_
  refine lv_if_lt (tgt := 12) hx hb dX3_found_1 (by decide) (fun c_1 => ?_) (fun c_1 => ?_)
  · replace hs := it_t c_1 hs
    exact J_12  hs _ (lv_sub hl [] rfl)
  · replace hs := it_f c_1 hs
    refine lv_iload_n hx hb dX3_found_4 rfl (lv_at hl 1 rfl) ?_
    refine lv_aload_n hx hb dX3_found_5 rfl (lv_at hl 0 rfl) ?_
    refine va_get (D := D) (ci := 3) (v := .int (pp_m X)) (C := RX3) (T := TX3) (N := 10) hx hb hts in_X3 hown hK hP 0 rfl rfl 5 (by decide) lk_29 (fun _ h9 => h9) rfl dX3_found_6 ?_
    refine lv_icmp_lt (tgt := 20) hx hb dX3_found_9 (by decide) (fun c_9 => ?_) (fun c_9 => ?_)
    · replace hs := it_t c_9 hs
      refine lv_aload_n hx hb dX3_found_20 rfl (lv_at hl 0 rfl) ?_
      refine va_get (D := D) (ci := 3) (v := .ref xb) (C := RX3) (T := TX3) (N := 10) hx hb hts in_X3 hown hK hP 0 rfl rfl 4 (by decide) lk_25 (fun _ h9 => h9) rfl dX3_found_21 ?_
      refine lv_iload_n hx hb dX3_found_24 rfl (lv_at hl 1 rfl) ?_
      obtain ⟨v_25, hv_25, hs⟩ := op_bd hs
      refine gx_iald hx hb hK hP 2 0 rfl rfl hv_25 dX3_found_25 ?_
      obtain rfl := Option.some.inj hs
      exact W.iret hx hb hr (fun t ht hW => ⟨_, rfl, rfl, ht⟩) (fun _ h => by cases h) dX3_found_26
    · replace hs := it_f c_9 hs
      exact J_12  hs _ (lv_sub hl [] rfl)
