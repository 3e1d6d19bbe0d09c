def s_X3_check (F : Nat) (X : pp_T) (hh : Nat → Option sh_T) (p1 : Int32) : Option Int32 :=
  (s_X3_standing F X hh p1).bind fun v_2 =>
  mt_o v_2
    (some (-1))
    (fun S_2 =>
     some (sh_v S_2))
abbrev rm_X3_check : Room := { frames := 1, cells := 0, slots := 0, locals := 21 }
theorem in_X3_check_X2 : ∀ w ∈ wsX20, w ∈ wsX3_check := by decide +kernel
set_option maxHeartbeats 4000000 in
set_option maxRecDepth 100000 in
theorem c_X3_check (l : Launch) (D : va_G) (cI cJ cZ cS : ClassId) (ad : Nat → Nat) (x0 xm xb f0 xp xq xr : Nat) (adr : ad_T) (X : pp_T) (hh : Nat → Option sh_T) (p1 : Int32) (F : Nat)  (r : Int32) (hs : s_X3_check F X hh p1 = some r) : Met l yX3_check wsX3_check rm_X3_check (gl_P D cI cJ cZ cS ad [.ref x0, .int p1] (pp_B D cI cJ cS ad x0 xm xb f0 xp xq xr adr X hh)) (vp_Si (fun v => v = r)) 0 0 (fun _ => False) := by
  refine Met.ofW (cc := cX3_check) (maxL := 3) (ret := (some .int)) (by decide) rfl ?_
  intro p e s m args below meth c s₁ B hml hv
  obtain ⟨rfl, hK, hE, hP, hQ⟩ := hv
  have hx := B.exec
  have hb := B.bytes
  have hr := B.returns
  have hts := atoms_spec (ws := wsX3_check) B.pre
  have hown : s.vm.findClass RX3 = some m.cls := findClass_of_methodNamed B.named
  have hlocks := B.notSynchronized
  have lk_86 := hts (.fieldLink RX3 86 "PlacePoints$Shape" "verdict" "I") (by decide +kernel)
  have in_X2 := in_X3_check_X2
  have hl := lv_entry ([.ref x0, .int p1]) (n := 3) (Nat.le_of_ble_eq_true rfl)
  rw [lg_entry_eq]
  generalize (lg_sl ([.ref x0, .int p1]) ++ List.replicate (3 - (lg_sl ([.ref x0, .int p1])).length) Slot.unset).toArray = ls at hl ⊢
  have hl : lv_has ls 3 [(0, .ref x0), (1, .int p1)] := hl
  rw [s_X3_check] at hs
  refine lv_aload_n hx hb dX3_check_0 rfl (lv_at hl 0 rfl) ?_
  refine lv_iload_n hx hb dX3_check_1 rfl (lv_at hl 1 rfl) ?_
  obtain ⟨v_2, hc_2, hs⟩ := op_bd hs
  refine gx_cSq (va_Run.run (va_runV (As := [.int p1]) (rest := []) ⟨hx, hb, hml, hown, hts⟩ (c_X3_standing l D cI cJ cZ cS ad x0 xm xb f0 xp xq xr adr X hh p1 F v_2 hc_2) (cwV 1 hts gX3_check_X3_standing rfl rfl rfl (by decide +kernel) ⟨Nat.le_of_ble_eq_true rfl, Nat.le_of_ble_eq_true rfl⟩) ⟨gl_blind, va_recv hK hP (ci := 3) (q0 := 0) rfl rfl, gl_ok hK hE hP⟩ rfl rfl hl.1 rfl (lv_room (Nat.le_of_ble_eq_true rfl)) dX3_check_2 ⟨Nat.le_of_ble_eq_true rfl, Nat.le_of_ble_eq_true rfl⟩)) ?_
  cases v_2 with
  | none =>
    replace hs := mt_n hs
    refine W.eq (g2 := F0 m 5 ls [.null]) rfl ?_
    refine lv_astore_nN (lv' := [(2, .null), (0, .ref x0), (1, .int p1)]) hx hb dX3_check_5 rfl hl (by decide) rfl (fun ls hl => ?_)
    refine lv_aload_nN hx hb dX3_check_6 rfl (lv_at hl 0 rfl) ?_
    refine lv_ifnonnullN hx hb dX3_check_7 ?_
    refine lv_iconst (v := -1) hx hb dX3_check_10 (by decide) ?_
    refine lv_goto (tgt := 18) hx hb dX3_check_11 (by decide) ?_
    obtain rfl := Option.some.inj hs
    exact W.iret hx hb hr (fun t ht hW => ⟨_, rfl, rfl, ht⟩) (fun _ h => by cases h) dX3_check_18
  | some S_2 =>
    replace hs := mt_s hs
    have hq_2 := hQ _ _ (st_h hc_2)
    refine W.eq (g2 := F0 m 5 ls [.ref (adr p1.toNatClampNeg).1]) rfl ?_
    refine lv_astore_n (lv' := [(2, .ref (adr p1.toNatClampNeg).1), (0, .ref x0), (1, .int p1)]) hx hb dX3_check_5 rfl hl (by decide) rfl (fun ls hl => ?_)
    refine lv_aload_n hx hb dX3_check_6 rfl (lv_at hl 0 rfl) ?_
    refine lv_ifnonnull (tgt := 14) hx hb dX3_check_7 (by decide) ?_
    refine lv_aload_n hx hb dX3_check_14 rfl (lv_at hl 0 rfl) ?_
    refine va_get (D := D) (ci := 2) (v := .int (sh_v S_2)) (C := RX2) (T := TX2) (N := 9) hx hb hts in_X2 hown hK hq_2.1 0 rfl rfl 2 (by decide) lk_86 (fun _ h9 => h9) rfl dX3_check_15 ?_
    obtain rfl := Option.some.inj hs
    exact W.iret hx hb hr (fun t ht hW => ⟨_, rfl, rfl, ht⟩) (fun _ h => by cases h) dX3_check_18
def s_X3_inside (F : Nat) (X : pp_T) (hh : Nat → Option sh_T) (p1 : Int32) (p2 : Int32) (p3 : Int32) : Option Int32 :=
  (s_X3_right F X hh p3).bind fun v_2 =>
  mt_o v_2
    (some (-1))
    (fun S_2 =>
     if (sh_k S_2) = 2 then
       (s_X3_isPlace F p1 p2).bind fun v_25 =>
       if v_25 = 0 then
         some (-1)
       else
         (s_X2_whereIs F S_2 p1 p2).bind fun v_37 =>
         some v_37
     else
       some (-1))
abbrev rm_X3_inside : Room := { frames := 3, cells := 0, slots := 0, locals := 72 }
theorem in_X3_inside_X2 : ∀ w ∈ wsX20, w ∈ wsX3_inside := by decide +kernel
set_option maxHeartbeats 4000000 in
set_option maxRecDepth 100000 in
theorem c_X3_inside (l : Launch) (D : va_G) (cI cJ cZ cS : ClassId) (ad : Nat → Nat) (x0 xm xb f0 xp xq xr : Nat) (adr : ad_T) (X : pp_T) (hh : Nat → Option sh_T) (p1 : Int32) (p2 : Int32) (p3 : Int32) (F : Nat)  (r : Int32) (hs : s_X3_inside F X hh p1 p2 p3 = some r) : Met l yX3_inside wsX3_inside rm_X3_inside (gl_P D cI cJ cZ cS ad [.ref x0, .int p1, .int p2, .int p3] (pp_B D cI cJ cS ad x0 xm xb f0 xp xq xr adr X hh)) (vp_Si (fun v => v = r)) 0 0 (fun _ => False) := by
  refine Met.ofW (cc := cX3_inside) (maxL := 5) (ret := (some .int)) (by decide) rfl ?_
  intro p e s m args below meth c s₁ B hml hv
  obtain ⟨rfl, hK, hE, hP, hQ⟩ := hv
  have hx := B.exec
  have hb := B.bytes
  have hr := B.returns
  have hts := atoms_spec (ws := wsX3_inside) B.pre
  have hown : s.vm.findClass RX3 = some m.cls := findClass_of_methodNamed B.named
  have hlocks := B.notSynchronized
  have lk_77 := hts (.fieldLink RX3 77 "PlacePoints$Shape" "kind" "LPlacePoints$Kind;") (by decide +kernel)
  have in_X2 := in_X3_inside_X2
  have hl := lv_entry ([.ref x0, .int p1, .int p2, .int p3]) (n := 5) (Nat.le_of_ble_eq_true rfl)
  rw [lg_entry_eq]
  generalize (lg_sl ([.ref x0, .int p1, .int p2, .int p3]) ++ List.replicate (5 - (lg_sl ([.ref x0, .int p1, .int p2, .int p3])).length) Slot.unset).toArray = ls at hl ⊢
  have hl : lv_has ls 5 [(0, .ref x0), (1, .int p1), (2, .int p2), (3, .int p3)] := hl
  rw [s_X3_inside] at hs
  refine lv_aload_n hx hb dX3_inside_0 rfl (lv_at hl 0 rfl) ?_
  refine lv_iload_n hx hb dX3_inside_1 rfl (lv_at hl 3 rfl) ?_
  obtain ⟨v_2, hc_2, hs⟩ := op_bd hs
  refine gx_cSq (va_Run.run (va_runV (As := [.int p3]) (rest := []) ⟨hx, hb, hml, hown, hts⟩ (c_X3_right l D cI cJ cZ cS ad x0 xm xb f0 xp xq xr adr X hh p3 F v_2 hc_2) (cwV 1 hts gX3_inside_X3_right rfl rfl rfl (by decide +kernel) ⟨Nat.le_of_ble_eq_true rfl, Nat.le_of_ble_eq_true rfl⟩) ⟨gl_blind, va_recv hK hP (ci := 3) (q0 := 0) rfl rfl, gl_ok hK hE ⟨hP, hQ⟩⟩ rfl rfl hl.1 rfl (lv_room (Nat.le_of_ble_eq_true rfl)) dX3_inside_2 ⟨Nat.le_of_ble_eq_true rfl, Nat.le_of_ble_eq_true rfl⟩)) ?_
  cases v_2 with
  | none =>
    replace hs := mt_n hs
    refine W.eq (g2 := F0 m 5 ls [.null]) rfl ?_
    refine lv_astoreN (lv' := [(4, .null), (0, .ref x0), (1, .int p1), (2, .int p2), (3, .int p3)]) hx hb dX3_inside_5 hl (by decide) rfl (fun ls hl => ?_)
    refine lv_aloadN hx hb dX3_inside_7 (lv_at hl 0 rfl) ?_
    refine lv_ifnullN (tgt := 31) hx hb dX3_inside_9 (by decide) ?_
    refine lv_iconst (v := -1) hx hb dX3_inside_31 (by decide) ?_
    obtain rfl := Option.some.inj hs
    exact W.iret hx hb hr (fun t ht hW => ⟨_, rfl, rfl, ht⟩) (fun _ h => by cases h) dX3_inside_32
  | some S_2 =>
    replace hs := mt_s hs
    have hq_2 := hQ _ _ (rt_h hc_2)
    refine W.eq (g2 := F0 m 5 ls [.ref (adr p3.toNatClampNeg).1]) rfl ?_
    refine lv_astore (lv' := [(4, .ref (adr p3.toNatClampNeg).1), (0, .ref x0), (1, .int p1), (2, .int p2), (3, .int p3)]) hx hb dX3_inside_5 hl (by decide) rfl (fun ls hl => ?_)
    refine lv_aload hx hb dX3_inside_7 (lv_at hl 0 rfl) ?_
    refine lv_ifnull hx hb dX3_inside_9 ?_
    refine lv_aload hx hb dX3_inside_12 (lv_at hl 0 rfl) ?_
    refine va_get (D := D) (ci := 2) (v := .ref (ad (sh_k S_2))) (C := RX2) (T := TX2) (N := 9) hx hb hts in_X2 hown hK hq_2.1 0 rfl rfl 0 (by decide) lk_77 (fun _ h9 => h9) rfl dX3_inside_14 ?_
    refine va_gets hx hb (hE.1 2 (by decide)).1 va_S.rf hown (hts (.fieldLink RX3 74 "PlacePoints$Kind" "POLYGON" "LPlacePoints$Kind;") (by decide +kernel)) (fun _ h9 => h9) dX3_inside_17 ?_
    refine W.eq (g2 := F0 m 20 ls [.ref (ad 2), .ref (ad (sh_k S_2))]) rfl ?_
    refine gx_acmp_ne (tgt := 31) hE (show (sh_k S_2) < 3 from hq_2.2) (show 2 < 3 from (by decide)) hx hb dX3_inside_20 (by decide) (fun c_20 => ?_) (fun c_20 => ?_)
    · replace hs := it_f c_20 hs
      refine lv_iconst (v := -1) hx hb dX3_inside_31 (by decide) ?_
      obtain rfl := Option.some.inj hs
      exact W.iret hx hb hr (fun t ht hW => ⟨_, rfl, rfl, ht⟩) (fun _ h => by cases h) dX3_inside_32
    · replace hs := it_t c_20 hs
      refine lv_iload_n hx hb dX3_inside_23 rfl (lv_at hl 2 rfl) ?_
      refine lv_iload_n hx hb dX3_inside_24 rfl (lv_at hl 3 rfl) ?_
      obtain ⟨v_25, hc_25, hs⟩ := op_bd hs
      refine gx_cSi (va_Run.run (va_runS (As := [.int p1, .int p2]) (rest := []) ⟨hx, hb, hml, hown, hts⟩ (c_X3_isPlace l D cI cJ cZ cS ad p1 p2 F  v_25 hc_25) (va_cwS 2 hts gX3_inside_X3_isPlace rfl rfl rfl (by decide +kernel) ⟨Nat.le_of_ble_eq_true rfl, Nat.le_of_ble_eq_true rfl⟩) ⟨gl_blind, gl_ok hK hE trivial⟩ rfl rfl hl.1 rfl (lv_room (Nat.le_of_ble_eq_true rfl)) dX3_inside_25 ⟨Nat.le_of_ble_eq_true rfl, Nat.le_of_ble_eq_true rfl⟩)) ?_
      refine lv_if_ne (tgt := 33) hx hb dX3_inside_28 (by decide) (fun c_28 => ?_) (fun c_28 => ?_)
      · replace hs := it_f c_28 hs
        refine lv_aload hx hb dX3_inside_33 (lv_at hl 0 rfl) ?_
        refine lv_iload_n hx hb dX3_inside_35 rfl (lv_at hl 2 rfl) ?_
        refine lv_iload_n hx hb dX3_inside_36 rfl (lv_at hl 3 rfl) ?_
        obtain ⟨v_37, hc_37, hs⟩ := op_bd hs
        refine gx_cSi (va_Run.run (va_runV (As := [.int p1, .int p2]) (rest := []) ⟨hx, hb, hml, hown, hts⟩ (c_X2_whereIs l D cI cJ cZ cS ad (adr p3.toNatClampNeg).1 (adr p3.toNatClampNeg).2.1 (adr p3.toNatClampNeg).2.2 S_2 p1 p2 F hq_2.2 v_37 hc_37) (cwV 2 hts gX3_inside_X2_whereIs rfl rfl rfl (by decide +kernel) ⟨Nat.le_of_ble_eq_true rfl, Nat.le_of_ble_eq_true rfl⟩) ⟨gl_blind, va_recv hK hq_2.1 (ci := 2) (q0 := 0) rfl rfl, gl_ok hK hE hq_2.1⟩ rfl rfl hl.1 rfl (lv_room (Nat.le_of_ble_eq_true rfl)) dX3_inside_37 ⟨Nat.le_of_ble_eq_true rfl, Nat.le_of_ble_eq_true rfl⟩)) ?_
        obtain rfl := Option.some.inj hs
        exact W.iret hx hb hr (fun t ht hW => ⟨_, rfl, rfl, ht⟩) (fun _ h => by cases h) dX3_inside_40
      · replace hs := it_t c_28 hs
        refine lv_iconst (v := -1) hx hb dX3_inside_31 (by decide) ?_
        obtain rfl := Option.some.inj hs
        exact W.iret hx hb hr (fun t ht hW => ⟨_, rfl, rfl, ht⟩) (fun _ h => by cases h) dX3_inside_32
def s_X3_meets (F : Nat) (X : pp_T) (hh : Nat → Option sh_T) (p1 : Int32) (p2 : Int32) : Option Int32 :=
  (s_X3_right F X hh p1).bind fun v_2 =>
  mt_o v_2
    ((s_X3_right F X hh p2).bind fun v_8 =>
     mt_o v_8
       (some (-1))
       (fun S_8 =>
        some (-1)))
    (fun S_2 =>
     (s_X3_right F X hh p2).bind fun v_8 =>
     mt_o v_8
       (some (-1))
       (fun S_8 =>
        (s_X2_touches F S_2 S_8).bind fun v_27 =>
        if v_27 = 0 then
          some 0
        else
          some 1))
abbrev rm_X3_meets : Room := { frames := 5, cells := 0, slots := 0, locals := 117 }
set_option maxHeartbeats 4000000 in
set_option maxRecDepth 100000 in
theorem c_X3_meets (l : Launch) (D : va_G) (cI cJ cZ cS : ClassId) (ad : Nat → Nat) (x0 xm xb f0 xp xq xr : Nat) (adr : ad_T) (X : pp_T) (hh : Nat → Option sh_T) (p1 : Int32) (p2 : Int32) (F : Nat)  (r : Int32) (hs : s_X3_meets F X hh p1 p2 = some r) : Met l yX3_meets wsX3_meets rm_X3_meets (gl_P D cI cJ cZ cS ad [.ref x0, .int p1, .int p2] (pp_B D cI cJ cS ad x0 xm xb f0 xp xq xr adr X hh)) (vp_Si (fun v => v = r)) 0 0 (fun _ => False) := by
  refine Met.ofW (cc := cX3_meets) (maxL := 5) (ret := (some .int)) (by decide) rfl ?_
  intro p e s m args below meth c s₁ B hml hv
  obtain ⟨rfl, hK, hE, hP, hQ⟩ := hv
  have hx := B.exec
  have hb := B.bytes
  have hr := B.returns
  have hts := atoms_spec (ws := wsX3_meets) B.pre
  have hown : s.vm.findClass RX3 = some m.cls := findClass_of_methodNamed B.named
  have hlocks := B.notSynchronized
  have hl := lv_entry ([.ref x0, .int p1, .int p2]) (n := 5) (Nat.le_of_ble_eq_true rfl)
  rw [lg_entry_eq]
  generalize (lg_sl ([.ref x0, .int p1, .int p2]) ++ List.replicate (5 - (lg_sl ([.ref x0, .int p1, .int p2])).length) Slot.unset).toArray = ls at hl ⊢
  have hl : lv_has ls 5 [(0, .ref x0), (1, .int p1), (2, .int p2)] := hl
  rw [s_X3_meets] at hs
  refine lv_aload_n hx hb dX3_meets_0 rfl (lv_at hl 0 rfl) ?_
  refine lv_iload_n hx hb dX3_meets_1 rfl (lv_at hl 1 rfl) ?_
  obtain ⟨v_2, hc_2, hs⟩ := op_bd hs
  refine gx_cSq (va_Run.run (va_runV (As := [.int p1]) (rest := []) ⟨hx, hb, hml, hown, hts⟩ (c_X3_right l D cI cJ cZ cS ad x0 xm xb f0 xp xq xr adr X hh p1 F v_2 hc_2) (cwV 1 hts gX3_meets_X3_right rfl rfl rfl (by decide +kernel) ⟨Nat.le_of_ble_eq_true rfl, Nat.le_of_ble_eq_true rfl⟩) ⟨gl_blind, va_recv hK hP (ci := 3) (q0 := 0) rfl rfl, gl_ok hK hE ⟨hP, hQ⟩⟩ rfl rfl hl.1 rfl (lv_room (Nat.le_of_ble_eq_true rfl)) dX3_meets_2 ⟨Nat.le_of_ble_eq_true rfl, Nat.le_of_ble_eq_true rfl⟩)) ?_
  cases v_2 with
  | none =>
    replace hs := mt_n hs
    refine W.eq (g2 := F0 m 5 ls [.null]) rfl ?_
    refine lv_astore_nN (lv' := [(3, .null), (0, .ref x0), (1, .int p1), (2, .int p2)]) hx hb dX3_meets_5 rfl hl (by decide) rfl (fun ls hl => ?_)
    refine lv_aload_n hx hb dX3_meets_6 rfl (lv_at hl 1 rfl) ?_
    refine lv_iload_n hx hb dX3_meets_7 rfl (lv_at hl 3 rfl) ?_
    obtain ⟨v_8, hc_8, hs⟩ := op_bd hs
    refine gx_cSq (va_Run.run (va_runV (As := [.int p2]) (rest := []) ⟨hx, hb, hml, hown, hts⟩ (c_X3_right l D cI cJ cZ cS ad x0 xm xb f0 xp xq xr adr X hh p2 F v_8 hc_8) (cwV 1 hts gX3_meets_X3_right rfl rfl rfl (by decide +kernel) ⟨Nat.le_of_ble_eq_true rfl, Nat.le_of_ble_eq_true rfl⟩) ⟨gl_blind, va_recv hK hP (ci := 3) (q0 := 0) rfl rfl, gl_ok hK hE ⟨hP, hQ⟩⟩ rfl rfl hl.1 rfl (lv_room (Nat.le_of_ble_eq_true rfl)) dX3_meets_8 ⟨Nat.le_of_ble_eq_true rfl, Nat.le_of_ble_eq_true rfl⟩)) ?_
    cases v_8 with
    | none =>
      replace hs := mt_n hs
      refine W.eq (g2 := F0 m 11 ls [.null]) rfl ?_
      refine lv_astoreN (lv' := [(4, .null), (3, .null), (0, .ref x0), (1, .int p1), (2, .int p2)]) hx hb dX3_meets_11 hl (by decide) rfl (fun ls hl => ?_)
      refine lv_aload_nN hx hb dX3_meets_13 rfl (lv_at hl 1 rfl) ?_
      refine lv_ifnullN (tgt := 22) hx hb dX3_meets_14 (by decide) ?_
      refine lv_iconst (v := -1) hx hb dX3_meets_22 (by decide) ?_
      obtain rfl := Option.some.inj hs
      exact W.iret hx hb hr (fun t ht hW => ⟨_, rfl, rfl, ht⟩) (fun _ h => by cases h) dX3_meets_23
    | some S_8 =>
      replace hs := mt_s hs
      have hq_8 := hQ _ _ (rt_h hc_8)
      refine W.eq (g2 := F0 m 11 ls [.ref (adr p2.toNatClampNeg).1]) rfl ?_
      refine lv_astore (lv' := [(4, .ref (adr p2.toNatClampNeg).1), (3, .null), (0, .ref x0), (1, .int p1), (2, .int p2)]) hx hb dX3_meets_11 hl (by decide) rfl (fun ls hl => ?_)
      refine lv_aload_nN hx hb dX3_meets_13 rfl (lv_at hl 1 rfl) ?_
      refine lv_ifnullN (tgt := 22) hx hb dX3_meets_14 (by decide) ?_
      refine lv_iconst (v := -1) hx hb dX3_meets_22 (by decide) ?_
      obtain rfl := Option.some.inj hs
      exact W.iret hx hb hr (fun t ht hW => ⟨_, rfl, rfl, ht⟩) (fun _ h => by cases h) dX3_meets_23
  | some S_2 =>
    replace hs := mt_s hs
    have hq_2 := hQ _ _ (rt_h hc_2)
    refine W.eq (g2 := F0 m 5 ls [.ref (adr p1.toNatClampNeg).1]) rfl ?_
    refine lv_astore_n (lv' := [(3, .ref (adr p1.toNatClampNeg).1), (0, .ref x0), (1, .int p1), (2, .int p2)]) hx hb dX3_meets_5 rfl hl (by decide) rfl (fun ls hl => ?_)
    refine lv_aload_n hx hb dX3_meets_6 rfl (lv_at hl 1 rfl) ?_
    refine lv_iload_n hx hb dX3_meets_7 rfl (lv_at hl 3 rfl) ?_
    obtain ⟨v_8, hc_8, hs⟩ := op_bd hs
    refine gx_cSq (va_Run.run (va_runV (As := [.int p2]) (rest := []) ⟨hx, hb, hml, hown, hts⟩ (c_X3_right l D cI cJ cZ cS ad x0 xm xb f0 xp xq xr adr X hh p2 F v_8 hc_8) (cwV 1 hts gX3_meets_X3_right rfl rfl rfl (by decide +kernel) ⟨Nat.le_of_ble_eq_true rfl, Nat.le_of_ble_eq_true rfl⟩) ⟨gl_blind, va_recv hK hP (ci := 3) (q0 := 0) rfl rfl, gl_ok hK hE ⟨hP, hQ⟩⟩ rfl rfl hl.1 rfl (lv_room (Nat.le_of_ble_eq_true rfl)) dX3_meets_8 ⟨Nat.le_of_ble_eq_true rfl, Nat.le_of_ble_eq_true rfl⟩)) ?_
    cases v_8 with
    | none =>
      replace hs := mt_n hs
      refine W.eq (g2 := F0 m 11 ls [.null]) rfl ?_
      refine lv_astoreN (lv' := [(4, .null), (3, .ref (adr p1.toNatClampNeg).1), (0, .ref x0), (1, .int p1), (2, .int p2)]) hx hb dX3_meets_11 hl (by decide) rfl (fun ls hl => ?_)
      refine lv_aload_n hx hb dX3_meets_13 rfl (lv_at hl 1 rfl) ?_
      refine lv_ifnull hx hb dX3_meets_14 ?_
      refine lv_aloadN hx hb dX3_meets_17 (lv_at hl 0 rfl) ?_
      refine lv_ifnonnullN hx hb dX3_meets_19 ?_
      refine lv_iconst (v := -1) hx hb dX3_meets_22 (by decide) ?_
      obtain rfl := Option.some.inj hs
      exact W.iret hx hb hr (fun t ht hW => ⟨_, rfl, rfl, ht⟩) (fun _ h => by cases h) dX3_meets_23
    | some S_8 =>
      replace hs := mt_s hs
      have hq_8 := hQ _ _ (rt_h hc_8)
      refine W.eq (g2 := F0 m 11 ls [.ref (adr p2.toNatClampNeg).1]) rfl ?_
      refine lv_astore (lv' := [(4, .ref (adr p2.toNatClampNeg).1), (3, .ref (adr p1.toNatClampNeg).1), (0, .ref x0), (1, .int p1), (2, .int p2)]) hx hb dX3_meets_11 hl (by decide) rfl (fun ls hl => ?_)
      refine lv_aload_n hx hb dX3_meets_13 rfl (lv_at hl 1 rfl) ?_
      refine lv_ifnull hx hb dX3_meets_14 ?_
      refine lv_aload hx hb dX3_meets_17 (lv_at hl 0 rfl) ?_
      refine lv_ifnonnull (tgt := 24) hx hb dX3_meets_19 (by decide) ?_
      refine lv_aload_n hx hb dX3_meets_24 rfl (lv_at hl 1 rfl) ?_
      refine lv_aload hx hb dX3_meets_25 (lv_at hl 0 rfl) ?_
      obtain ⟨v_27, hc_27, hs⟩ := op_bd hs
      refine gx_cSi (va_Run.run (va_runV (As := [.ref (adr p2.toNatClampNeg).1]) (rest := []) ⟨hx, hb, hml, hown, hts⟩ (c_X2_touches l D cI cJ cZ cS ad (adr p1.toNatClampNeg).1 (adr p1.toNatClampNeg).2.1 (adr p1.toNatClampNeg).2.2 (adr p2.toNatClampNeg).1 (adr p2.toNatClampNeg).2.1 (adr p2.toNatClampNeg).2.2 S_2 S_8 F hq_2.2 hq_8.2 v_27 hc_27) (cwV 1 hts gX3_meets_X2_touches rfl rfl rfl (by decide +kernel) ⟨Nat.le_of_ble_eq_true rfl, Nat.le_of_ble_eq_true rfl⟩) ⟨gl_blind, va_recv hK hq_2.1 (ci := 2) (q0 := 0) rfl rfl, gl_ok hK hE (hq_2.1.app hq_8.1)⟩ rfl rfl hl.1 rfl (lv_room (Nat.le_of_ble_eq_true rfl)) dX3_meets_27 ⟨Nat.le_of_ble_eq_true rfl, Nat.le_of_ble_eq_true rfl⟩)) ?_
      refine lv_if_eq (tgt := 37) hx hb dX3_meets_30 (by decide) (fun c_30 => ?_) (fun c_30 => ?_)
      · replace hs := it_t c_30 hs
        refine lv_iconst (v := 0) hx hb dX3_meets_37 (by decide) ?_
        obtain rfl := Option.some.inj hs
        exact W.iret hx hb hr (fun t ht hW => ⟨_, rfl, rfl, ht⟩) (fun _ h => by cases h) dX3_meets_38
      · replace hs := it_f c_30 hs
        refine lv_iconst (v := 1) hx hb dX3_meets_33 (by decide) ?_
        refine lv_goto (tgt := 38) hx hb dX3_meets_34 (by decide) ?_
        obtain rfl := Option.some.inj hs
        exact W.iret hx hb hr (fun t ht hW => ⟨_, rfl, rfl, ht⟩) (fun _ h => by cases h) dX3_meets_38
def s_X3_area (F : Nat) (X : pp_T) (hh : Nat → Option sh_T) (p1 : Int32) : Option Int64 :=
  (s_X3_right F X hh p1).bind fun v_2 =>
  mt_o v_2
    (some 0)
    (fun S_2 =>
     if (sh_k S_2) = 2 then
       (s_X2_twiceEnclosed F S_2).bind fun v_25 =>
       some v_25
     else
       some 0)
abbrev rm_X3_area : Room := { frames := 2, cells := 0, slots := 0, locals := 43 }
theorem in_X3_area_X2 : ∀ w ∈ wsX20, w ∈ wsX3_area := by decide +kernel
set_option maxHeartbeats 4000000 in
set_option maxRecDepth 100000 in
theorem c_X3_area (l : Launch) (D : va_G) (cI cJ cZ cS : ClassId) (ad : Nat → Nat) (x0 xm xb f0 xp xq xr : Nat) (adr : ad_T) (X : pp_T) (hh : Nat → Option sh_T) (p1 : Int32) (F : Nat)  (r : Int64) (hs : s_X3_area F X hh p1 = some r) : Met l yX3_area wsX3_area rm_X3_area (gl_P D cI cJ cZ cS ad [.ref x0, .int p1] (pp_B D cI cJ cS ad x0 xm xb f0 xp xq xr adr X hh)) (vp_Sl (fun v => v = r)) 0 0 (fun _ => False) := by
  refine Met.ofW (cc := cX3_area) (maxL := 3) (ret := (some .long)) (by decide) rfl ?_
  intro p e s m args below meth c s₁ B hml hv
  obtain ⟨rfl, hK, hE, hP, hQ⟩ := hv
  have hx := B.exec
  have hb := B.bytes
  have hr := B.returns
  have hts := atoms_spec (ws := wsX3_area) B.pre
  have hown : s.vm.findClass RX3 = some m.cls := findClass_of_methodNamed B.named
  have hlocks := B.notSynchronized
  have lk_77 := hts (.fieldLink RX3 77 "PlacePoints$Shape" "kind" "LPlacePoints$Kind;") (by decide +kernel)
  have in_X2 := in_X3_area_X2
  have hl := lv_entry ([.ref x0, .int p1]) (n := 3) (Nat.le_of_ble_eq_true rfl)
  rw [lg_entry_eq]
  generalize (lg_sl ([.ref x0, .int p1]) ++ List.replicate (3 - (lg_sl ([.ref x0, .int p1])).length) Slot.unset).toArray = ls at hl ⊢
  have hl : lv_has ls 3 [(0, .ref x0), (1, .int p1)] := hl
  rw [s_X3_area] at hs
  refine lv_aload_n hx hb dX3_area_0 rfl (lv_at hl 0 rfl) ?_
  refine lv_iload_n hx hb dX3_area_1 rfl (lv_at hl 1 rfl) ?_
  obtain ⟨v_2, hc_2, hs⟩ := op_bd hs
  refine gx_cSq (va_Run.run (va_runV (As := [.int p1]) (rest := []) ⟨hx, hb, hml, hown, hts⟩ (c_X3_right l D cI cJ cZ cS ad x0 xm xb f0 xp xq xr adr X hh p1 F v_2 hc_2) (cwV 1 hts gX3_area_X3_right rfl rfl rfl (by decide +kernel) ⟨Nat.le_of_ble_eq_true rfl, Nat.le_of_ble_eq_true rfl⟩) ⟨gl_blind, va_recv hK hP (ci := 3) (q0 := 0) rfl rfl, gl_ok hK hE ⟨hP, hQ⟩⟩ rfl rfl hl.1 rfl (lv_room (Nat.le_of_ble_eq_true rfl)) dX3_area_2 ⟨Nat.le_of_ble_eq_true rfl, Nat.le_of_ble_eq_true rfl⟩)) ?_
  cases v_2 with
  | none =>
    replace hs := mt_n hs
    refine W.eq (g2 := F0 m 5 ls [.null]) rfl ?_
    refine lv_astore_nN (lv' := [(2, .null), (0, .ref x0), (1, .int p1)]) hx hb dX3_area_5 rfl hl (by decide) rfl (fun ls hl => ?_)
    refine lv_aload_nN hx hb dX3_area_6 rfl (lv_at hl 0 rfl) ?_
    refine lv_ifnullN (tgt := 20) hx hb dX3_area_7 (by decide) ?_
    refine lv_lconst (v := 0) hx hb dX3_area_20 (by decide) ?_
    refine lv_goto (tgt := 28) hx hb dX3_area_21 (by decide) ?_
    obtain rfl := Option.some.inj hs
    exact W.lret hx hb hr (fun t ht hW => ⟨_, rfl, rfl, ht⟩) (fun _ h => by cases h) dX3_area_28
  | some S_2 =>
    replace hs := mt_s hs
    have hq_2 := hQ _ _ (rt_h hc_2)
    refine W.eq (g2 := F0 m 5 ls [.ref (adr p1.toNatClampNeg).1]) rfl ?_
    refine lv_astore_n (lv' := [(2, .ref (adr p1.toNatClampNeg).1), (0, .ref x0), (1, .int p1)]) hx hb dX3_area_5 rfl hl (by decide) rfl (fun ls hl => ?_)
    refine lv_aload_n hx hb dX3_area_6 rfl (lv_at hl 0 rfl) ?_
    refine lv_ifnull hx hb dX3_area_7 ?_
    refine lv_aload_n hx hb dX3_area_10 rfl (lv_at hl 0 rfl) ?_
    refine va_get (D := D) (ci := 2) (v := .ref (ad (sh_k S_2))) (C := RX2) (T := TX2) (N := 9) hx hb hts in_X2 hown hK hq_2.1 0 rfl rfl 0 (by decide) lk_77 (fun _ h9 => h9) rfl dX3_area_11 ?_
    refine va_gets hx hb (hE.1 2 (by decide)).1 va_S.rf hown (hts (.fieldLink RX3 74 "PlacePoints$Kind" "POLYGON" "LPlacePoints$Kind;") (by decide +kernel)) (fun _ h9 => h9) dX3_area_14 ?_
    refine W.eq (g2 := F0 m 17 ls [.ref (ad 2), .ref (ad (sh_k S_2))]) rfl ?_
    refine gx_acmp_eq (tgt := 24) hE (show (sh_k S_2) < 3 from hq_2.2) (show 2 < 3 from (by decide)) hx hb dX3_area_17 (by decide) (fun c_17 => ?_) (fun c_17 => ?_)
    · replace hs := it_t c_17 hs
      refine lv_aload_n hx hb dX3_area_24 rfl (lv_at hl 0 rfl) ?_
      obtain ⟨v_25, hc_25, hs⟩ := op_bd hs
      refine gx_cSl (va_Run.run (va_runV (As := []) (rest := []) ⟨hx, hb, hml, hown, hts⟩ (c_X2_twiceEnclosed l D cI cJ cZ cS ad (adr p1.toNatClampNeg).1 (adr p1.toNatClampNeg).2.1 (adr p1.toNatClampNeg).2.2 S_2 F hq_2.2 v_25 hc_25) (cwV 0 hts gX3_area_X2_twiceEnclosed rfl rfl rfl (by decide +kernel) ⟨Nat.le_of_ble_eq_true rfl, Nat.le_of_ble_eq_true rfl⟩) ⟨gl_blind, va_recv hK hq_2.1 (ci := 2) (q0 := 0) rfl rfl, gl_ok hK hE hq_2.1⟩ rfl rfl hl.1 rfl (lv_room (Nat.le_of_ble_eq_true rfl)) dX3_area_25 ⟨Nat.le_of_ble_eq_true rfl, Nat.le_of_ble_eq_true rfl⟩)) ?_
      obtain rfl := Option.some.inj hs
      exact W.lret hx hb hr (fun t ht hW => ⟨_, rfl, rfl, ht⟩) (fun _ h => by cases h) dX3_area_28
    · replace hs := it_f c_17 hs
      refine lv_lconst (v := 0) hx hb dX3_area_20 (by decide) ?_
      refine lv_goto (tgt := 28) hx hb dX3_area_21 (by decide) ?_
      obtain rfl := Option.some.inj hs
      exact W.lret hx hb hr (fun t ht hW => ⟨_, rfl, rfl, ht⟩) (fun _ h => by cases h) dX3_area_28
def s_X3_shapes (F : Nat) (X : pp_T) (hh : Nat → Option sh_T) : Option Int32 :=
  some (pp_s X)
abbrev rm_X3_shapes : Room := { frames := 0, cells := 0, slots := 0, locals := 0 }
theorem in_X3_shapes_X3 : ∀ w ∈ wsX30, w ∈ wsX3_shapes := by decide +kernel
set_option maxHeartbeats 4000000 in
set_option maxRecDepth 100000 in
theorem c_X3_shapes (l : Launch) (D : va_G) (cI cJ cZ cS : ClassId) (ad : Nat → Nat) (x0 xm xb f0 xp xq xr : Nat) (adr : ad_T) (X : pp_T) (hh : Nat → Option sh_T) (F : Nat)  (r : Int32) (hs : s_X3_shapes F X hh = some r) : Met l yX3_shapes wsX3_shapes rm_X3_shapes (gl_P D cI cJ cZ cS ad [.ref x0] (pp_B D cI cJ cS ad x0 xm xb f0 xp xq xr adr X hh)) (vp_Si (fun v => v = r)) 0 0 (fun _ => False) := by
  refine Met.ofW (cc := cX3_shapes) (maxL := 1) (ret := (some .int)) (by decide) rfl ?_
  intro p e s m args below meth c s₁ B hml hv
  obtain ⟨rfl, hK, hE, hP, hQ⟩ := hv
  have hx := B.exec
  have hb := B.bytes
  have hr := B.returns
  have hts := atoms_spec (ws := wsX3_shapes) B.pre
  have hown : s.vm.findClass RX3 = some m.cls := findClass_of_methodNamed B.named
  have hlocks := B.notSynchronized
  have lk_19 := hts (.fieldLink RX3 19 "PlacePoints" "standingCount" "I") (by decide +kernel)
  have in_X3 := in_X3_shapes_X3
  have hl := lv_entry ([.ref x0]) (n := 1) (Nat.le_of_ble_eq_true rfl)
  rw [lg_entry_eq]
  generalize (lg_sl ([.ref x0]) ++ List.replicate (1 - (lg_sl ([.ref x0])).length) Slot.unset).toArray = ls at hl ⊢
  have hl : lv_has ls 1 [(0, .ref x0)] := hl
  rw [s_X3_shapes] at hs
  refine lv_aload_n hx hb dX3_shapes_0 rfl (lv_at hl 0 rfl) ?_
  refine va_get (D := D) (ci := 3) (v := .int (pp_s X)) (C := RX3) (T := TX3) (N := 10) hx hb hts in_X3 hown hK hP 0 rfl rfl 2 (by decide) lk_19 (fun _ h9 => h9) rfl dX3_shapes_1 ?_
  obtain rfl := Option.some.inj hs
  exact W.iret hx hb hr (fun t ht hW => ⟨_, rfl, rfl, ht⟩) (fun _ h => by cases h) dX3_shapes_4
def s_X3_isFarther (F : Nat) (X : pp_T) (hh : Nat → Option sh_T) (p1 : Int32) (p2 : Int32) : Option Int32 :=
  (rd_l 60 (pp_p X) p1).bind fun v_5 =>
  (rd_l 60 (pp_q X) p1).bind fun v_11 =>
  (rd_l 60 (pp_p X) p2).bind fun v_17 =>
  (rd_l 60 (pp_q X) p2).bind fun v_23 =>
  (s_X0_isAbove F v_5 v_11 v_17 v_23).bind fun v_24 =>
  (bz_i v_24).bind fun _ =>
  some v_24
abbrev rm_X3_isFarther : Room := { frames := 1, cells := 0, slots := 0, locals := 31 }
theorem in_X3_isFarther_X3 : ∀ w ∈ wsX30, w ∈ wsX3_isFarther := by decide +kernel
set_option maxHeartbeats 4000000 in
set_option maxRecDepth 100000 in
theorem c_X3_isFarther (l : Launch) (D : va_G) (cI cJ cZ cS : ClassId) (ad : Nat → Nat) (x0 xm xb f0 xp xq xr : Nat) (adr : ad_T) (X : pp_T) (hh : Nat → Option sh_T) (p1 : Int32) (p2 : Int32) (F : Nat)  (r : Int32) (hs : s_X3_isFarther F X hh p1 p2 = some r) : Met l yX3_isFarther wsX3_isFarther rm_X3_isFarther (gl_P D cI cJ cZ cS ad [.ref x0, .int p1, .int p2] (pp_B D cI cJ cS ad x0 xm xb f0 xp xq xr adr X hh)) (vp_Si (fun v => v = r)) 0 0 (fun _ => False) := by
  refine Met.ofW (cc := cX3_isFarther) (maxL := 3) (ret := (some .boolean)) (by decide) rfl ?_
  intro p e s m args below meth c s₁ B hml hv
  obtain ⟨rfl, hK, hE, hP, hQ⟩ := hv
  have hx := B.exec
  have hb := B.bytes
  have hr := B.returns
  have hts := atoms_spec (ws := wsX3_isFarther) B.pre
  have hown : s.vm.findClass RX3 = some m.cls := findClass_of_methodNamed B.named
  have hlocks := B.notSynchronized
  have lk_39 := hts (.fieldLink RX3 39 "PlacePoints" "gapUppers" "[J") (by decide +kernel)
  have lk_43 := hts (.fieldLink RX3 43 "PlacePoints" "gapLowers" "[J") (by decide +kernel)
  have in_X3 := in_X3_isFarther_X3
  have hl := lv_entry ([.ref x0, .int p1, .int p2]) (n := 3) (Nat.le_of_ble_eq_true rfl)
  rw [lg_entry_eq]
  generalize (lg_sl ([.ref x0, .int p1, .int p2]) ++ List.replicate (3 - (lg_sl ([.ref x0, .int p1, .int p2])).length) Slot.unset).toArray = ls at hl ⊢
  have hl : lv_has ls 3 [(0, .ref x0), (1, .int p1), (2, .int p2)] := hl
  rw [s_X3_isFarther] at hs
  refine lv_aload_n hx hb dX3_isFarther_0 rfl (lv_at hl 0 rfl) ?_
  refine va_get (D := D) (ci := 3) (v := .ref xp) (C := RX3) (T := TX3) (N := 10) hx hb hts in_X3 hown hK hP 0 rfl rfl 7 (by decide) lk_39 (fun _ h9 => h9) rfl dX3_isFarther_1 ?_
  refine lv_iload_n hx hb dX3_isFarther_4 rfl (lv_at hl 1 rfl) ?_
  obtain ⟨v_5, hv_5, hs⟩ := op_bd hs
  refine gx_lald hx hb hK hP 4 1 rfl rfl hv_5 dX3_isFarther_5 ?_
  refine lv_aload_n hx hb dX3_isFarther_6 rfl (lv_at hl 0 rfl) ?_
  refine va_get (D := D) (ci := 3) (v := .ref xq) (C := RX3) (T := TX3) (N := 10) hx hb hts in_X3 hown hK hP 0 rfl rfl 8 (by decide) lk_43 (fun _ h9 => h9) rfl dX3_isFarther_7 ?_
  refine lv_iload_n hx hb dX3_isFarther_10 rfl (lv_at hl 1 rfl) ?_
  obtain ⟨v_11, hv_11, hs⟩ := op_bd hs
  refine gx_lald hx hb hK hP 5 1 rfl rfl hv_11 dX3_isFarther_11 ?_
  refine lv_aload_n hx hb dX3_isFarther_12 rfl (lv_at hl 0 rfl) ?_
  refine va_get (D := D) (ci := 3) (v := .ref xp) (C := RX3) (T := TX3) (N := 10) hx hb hts in_X3 hown hK hP 0 rfl rfl 7 (by decide) lk_39 (fun _ h9 => h9) rfl dX3_isFarther_13 ?_
  refine lv_iload_n hx hb dX3_isFarther_16 rfl (lv_at hl 2 rfl) ?_
  obtain ⟨v_17, hv_17, hs⟩ := op_bd hs
  refine gx_lald hx hb hK hP 4 1 rfl rfl hv_17 dX3_isFarther_17 ?_
  refine lv_aload_n hx hb dX3_isFarther_18 rfl (lv_at hl 0 rfl) ?_
  refine va_get (D := D) (ci := 3) (v := .ref xq) (C := RX3) (T := TX3) (N := 10) hx hb hts in_X3 hown hK hP 0 rfl rfl 8 (by decide) lk_43 (fun _ h9 => h9) rfl dX3_isFarther_19 ?_
  refine lv_iload_n hx hb dX3_isFarther_22 rfl (lv_at hl 2 rfl) ?_
  obtain ⟨v_23, hv_23, hs⟩ := op_bd hs
  refine gx_lald hx hb hK hP 5 1 rfl rfl hv_23 dX3_isFarther_23 ?_
  obtain ⟨v_24, hc_24, hs⟩ := op_bd hs
  refine gx_cSi (va_Run.run (va_runS (As := [.long v_5, .long v_11, .long v_17, .long v_23]) (rest := []) ⟨hx, hb, hml, hown, hts⟩ (c_X0_isAbove l D cI cJ cZ cS ad v_5 v_11 v_17 v_23 F  v_24 hc_24) (va_cwS 4 hts gX3_isFarther_X0_isAbove rfl rfl rfl (by decide +kernel) ⟨Nat.le_of_ble_eq_true rfl, Nat.le_of_ble_eq_true rfl⟩) ⟨gl_blind, gl_ok hK hE trivial⟩ rfl rfl hl.1 rfl (lv_room (Nat.le_of_ble_eq_true rfl)) dX3_isFarther_24 ⟨Nat.le_of_ble_eq_true rfl, Nat.le_of_ble_eq_true rfl⟩)) ?_
  obtain ⟨_, hz_27, hs⟩ := op_bd hs
  obtain rfl := Option.some.inj hs
  exact W.zret hx hb hr (bz_nar hz_27) (fun t ht hW => ⟨_, rfl, rfl, ht⟩) (fun _ h => by cases h) dX3_isFarther_27
