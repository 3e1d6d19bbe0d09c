def s_X2_squareOf (F : Nat) (p1 : Int64) (p2 : Int64) : Option Int64 :=
  some ((p1 * p1) + (p2 * p2))
abbrev rm_X2_squareOf : Room := { frames := 0, cells := 0, slots := 0, locals := 0 }
set_option maxHeartbeats 4000000 in
set_option maxRecDepth 100000 in
theorem c_X2_squareOf (l : Launch) (D : va_G) (cI cJ cZ cS : ClassId) (ad : Nat → Nat) (p1 : Int64) (p2 : Int64) (F : Nat)  (r : Int64) (hs : s_X2_squareOf F p1 p2 = some r) : Met l yX2_squareOf wsX2_squareOf rm_X2_squareOf (gl_P D cI cJ cZ cS ad [.long p1, .long p2] (fun _ => True)) (vp_Sl (fun v => v = r)) 0 0 (fun _ => False) := by
  refine Met.ofW (cc := cX2_squareOf) (maxL := 4) (ret := (some .long)) (by decide) rfl ?_
  intro p e s m args below meth c s₁ B hml hv
  obtain ⟨rfl, hK, hE, hP⟩ := hv
  have hx := B.exec
  have hb := B.bytes
  have hr := B.returns
  have hts := atoms_spec (ws := wsX2_squareOf) B.pre
  have hown : s.vm.findClass RX2 = some m.cls := findClass_of_methodNamed B.named
  have hlocks := B.notSynchronized
  have hl := lv_entry ([.long p1, .long p2]) (n := 4) (Nat.le_of_ble_eq_true rfl)
  rw [lg_entry_eq]
  generalize (lg_sl ([.long p1, .long p2]) ++ List.replicate (4 - (lg_sl ([.long p1, .long p2])).length) Slot.unset).toArray = ls at hl ⊢
  have hl : lv_has ls 4 [(0, .long p1), (2, .long p2)] := hl
  rw [s_X2_squareOf] at hs
  refine lv_lload_n hx hb dX2_squareOf_0 rfl (lv_at hl 0 rfl) ?_
  refine lv_lload_n hx hb dX2_squareOf_1 rfl (lv_at hl 0 rfl) ?_
  refine lv_lmul hx hb dX2_squareOf_2 ?_
  refine lv_lload_n hx hb dX2_squareOf_3 rfl (lv_at hl 1 rfl) ?_
  refine lv_lload_n hx hb dX2_squareOf_4 rfl (lv_at hl 1 rfl) ?_
  refine lv_lmul hx hb dX2_squareOf_5 ?_
  refine lv_ladd hx hb dX2_squareOf_6 ?_
  obtain rfl := Option.some.inj hs
  exact W.lret hx hb hr (fun t ht hW => ⟨_, rfl, rfl, ht⟩) (fun _ h => by cases h) dX2_squareOf_7
def s_X2_overlap (F : Nat) (p1 : Int32) (p2 : Int32) (p3 : Int32) (p4 : Int32) : Option Int32 :=
  if (ma_i p1 p2) < (mi_i p3 p4) then
    some 0
  else
    if (ma_i p3 p4) < (mi_i p1 p2) then
      some 0
    else
      some 1
abbrev rm_X2_overlap : Room := { frames := 1, cells := 0, slots := 0, locals := 21 }
set_option maxHeartbeats 4000000 in
set_option maxRecDepth 100000 in
theorem c_X2_overlap (l : Launch) (D : va_G) (cI cJ cZ cS : ClassId) (ad : Nat → Nat) (p1 : Int32) (p2 : Int32) (p3 : Int32) (p4 : Int32) (F : Nat)  (r : Int32) (hs : s_X2_overlap F p1 p2 p3 p4 = some r) : Met l yX2_overlap wsX2_overlap rm_X2_overlap (gl_P D cI cJ cZ cS ad [.int p1, .int p2, .int p3, .int p4] (fun _ => True)) (vp_Si (fun v => v = r)) 0 0 (fun _ => False) := by
  refine Met.ofW (cc := cX2_overlap) (maxL := 4) (ret := (some .boolean)) (by decide) rfl ?_
  intro p e s m args below meth c s₁ B hml hv
  obtain ⟨rfl, hK, hE, hP⟩ := hv
  have hx := B.exec
  have hb := B.bytes
  have hr := B.returns
  have hts := atoms_spec (ws := wsX2_overlap) B.pre
  have hown : s.vm.findClass RX2 = some m.cls := findClass_of_methodNamed B.named
  have hlocks := B.notSynchronized
  have hl := lv_entry ([.int p1, .int p2, .int p3, .int p4]) (n := 4) (Nat.le_of_ble_eq_true rfl)
  rw [lg_entry_eq]
  generalize (lg_sl ([.int p1, .int p2, .int p3, .int p4]) ++ List.replicate (4 - (lg_sl ([.int p1, .int p2, .int p3, .int p4])).length) Slot.unset).toArray = ls at hl ⊢
  have hl : lv_has ls 4 [(0, .int p1), (1, .int p2), (2, .int p3), (3, .int p4)] := hl
  rw [s_X2_overlap] at hs
  refine lv_iload_n hx hb dX2_overlap_0 rfl (lv_at hl 0 rfl) ?_
  refine lv_iload_n hx hb dX2_overlap_1 rfl (lv_at hl 1 rfl) ?_
  refine va_mmax hx hb (hml.trans hl.1.symm) hown (hts (.methodLink RX2 52 Lib.Math.max.name) (by decide +kernel)) (hts (.static Lib.Math.max.name) (by decide +kernel)) (hts (.initialized "java/lang/Math") (by decide +kernel)) (hts (.code Lib.Math.max.name Lib.Math.max.code 2 (some .int)) (by decide +kernel)) (Nat.le_of_ble_eq_true rfl) (Nat.le_of_ble_eq_true rfl) (Nat.le_of_ble_eq_true rfl) (Nat.le_of_ble_eq_true rfl) dX2_overlap_2 ?_
  refine W.eq (g2 := F0 m 5 ls [.int (ma_i p1 p2)]) rfl ?_
  refine lv_iload_n hx hb dX2_overlap_5 rfl (lv_at hl 2 rfl) ?_
  refine lv_iload_n hx hb dX2_overlap_6 rfl (lv_at hl 3 rfl) ?_
  refine va_mmin hx hb (hml.trans hl.1.symm) hown (hts (.methodLink RX2 46 Lib.Math.min.name) (by decide +kernel)) (hts (.static Lib.Math.min.name) (by decide +kernel)) (hts (.initialized "java/lang/Math") (by decide +kernel)) (hts (.code Lib.Math.min.name Lib.Math.min.code 2 (some .int)) (by decide +kernel)) (Nat.le_of_ble_eq_true rfl) (Nat.le_of_ble_eq_true rfl) (Nat.le_of_ble_eq_true rfl) (Nat.le_of_ble_eq_true rfl) dX2_overlap_7 ?_
  refine W.eq (g2 := F0 m 10 ls [.int (mi_i p3 p4), .int (ma_i p1 p2)]) rfl ?_
  refine lv_icmp_lt (tgt := 30) hx hb dX2_overlap_10 (by decide) (fun c_10 => ?_) (fun c_10 => ?_)
  · replace hs := it_t c_10 hs
    refine lv_iconst (v := 0) hx hb dX2_overlap_30 (by decide) ?_
    obtain rfl := Option.some.inj hs
    exact W.zret hx hb hr rfl (fun t ht hW => ⟨_, rfl, rfl, ht⟩) (fun _ h => by cases h) dX2_overlap_31
  · replace hs := it_f c_10 hs
    refine lv_iload_n hx hb dX2_overlap_13 rfl (lv_at hl 2 rfl) ?_
    refine lv_iload_n hx hb dX2_overlap_14 rfl (lv_at hl 3 rfl) ?_
    refine va_mmax hx hb (hml.trans hl.1.symm) hown (hts (.methodLink RX2 52 Lib.Math.max.name) (by decide +kernel)) (hts (.static Lib.Math.max.name) (by decide +kernel)) (hts (.initialized "java/lang/Math") (by decide +kernel)) (hts (.code Lib.Math.max.name Lib.Math.max.code 2 (some .int)) (by decide +kernel)) (Nat.le_of_ble_eq_true rfl) (Nat.le_of_ble_eq_true rfl) (Nat.le_of_ble_eq_true rfl) (Nat.le_of_ble_eq_true rfl) dX2_overlap_15 ?_
    refine W.eq (g2 := F0 m 18 ls [.int (ma_i p3 p4)]) rfl ?_
    refine lv_iload_n hx hb dX2_overlap_18 rfl (lv_at hl 0 rfl) ?_
    refine lv_iload_n hx hb dX2_overlap_19 rfl (lv_at hl 1 rfl) ?_
    refine va_mmin hx hb (hml.trans hl.1.symm) hown (hts (.methodLink RX2 46 Lib.Math.min.name) (by decide +kernel)) (hts (.static Lib.Math.min.name) (by decide +kernel)) (hts (.initialized "java/lang/Math") (by decide +kernel)) (hts (.code Lib.Math.min.name Lib.Math.min.code 2 (some .int)) (by decide +kernel)) (Nat.le_of_ble_eq_true rfl) (Nat.le_of_ble_eq_true rfl) (Nat.le_of_ble_eq_true rfl) (Nat.le_of_ble_eq_true rfl) dX2_overlap_20 ?_
    refine W.eq (g2 := F0 m 23 ls [.int (mi_i p1 p2), .int (ma_i p3 p4)]) rfl ?_
    refine lv_icmp_lt (tgt := 30) hx hb dX2_overlap_23 (by decide) (fun c_23 => ?_) (fun c_23 => ?_)
    · replace hs := it_t c_23 hs
      refine lv_iconst (v := 0) hx hb dX2_overlap_30 (by decide) ?_
      obtain rfl := Option.some.inj hs
      exact W.zret hx hb hr rfl (fun t ht hW => ⟨_, rfl, rfl, ht⟩) (fun _ h => by cases h) dX2_overlap_31
    · replace hs := it_f c_23 hs
      refine lv_iconst (v := 1) hx hb dX2_overlap_26 (by decide) ?_
      refine lv_goto (tgt := 31) hx hb dX2_overlap_27 (by decide) ?_
      obtain rfl := Option.some.inj hs
      exact W.zret hx hb hr rfl (fun t ht hW => ⟨_, rfl, rfl, ht⟩) (fun _ h => by cases h) dX2_overlap_31
def s_X2_turn (F : Nat) (S : sh_T) (p1 : Int32) (p2 : Int32) (p3 : Int32) : Option Int64 :=
  (rd_i (sh_n S) (sh_x S) (p1 + 1)).bind fun v_7 =>
  (rd_i (sh_n S) (sh_x S) p1).bind fun v_13 =>
  (some (((v_7 - v_13)).toInt64)).bind fun e_16 =>
  (rd_i (sh_n S) (sh_y S) (p1 + 1)).bind fun v_25 =>
  (rd_i (sh_n S) (sh_y S) p1).bind fun v_31 =>
  (some (((v_25 - v_31)).toInt64)).bind fun e_34 =>
  (rd_i (sh_n S) (sh_y S) p1).bind fun v_44 =>
  (rd_i (sh_n S) (sh_x S) p1).bind fun v_56 =>
  some ((e_16 * ((p3 - v_44)).toInt64) - (e_34 * ((p2 - v_56)).toInt64))
abbrev rm_X2_turn : Room := { frames := 0, cells := 0, slots := 0, locals := 0 }
theorem in_X2_turn_X2 : ∀ w ∈ wsX20, w ∈ wsX2_turn := by decide +kernel
set_option maxHeartbeats 4000000 in
set_option maxRecDepth 100000 in
theorem c_X2_turn (l : Launch) (D : va_G) (cI cJ cZ cS : ClassId) (ad : Nat → Nat) (h0 sx sy : Nat) (S : sh_T) (p1 : Int32) (p2 : Int32) (p3 : Int32) (F : Nat) (hkS : sh_k S < 3) (r : Int64) (hs : s_X2_turn F S p1 p2 p3 = some r) : Met l yX2_turn wsX2_turn rm_X2_turn (gl_P D cI cJ cZ cS ad [.ref h0, .int p1, .int p2, .int p3] (fun H => va_P D vwCl (sh_w cI ad h0 sx sy S) H)) (vp_Sl (fun v => v = r)) 0 0 (fun _ => False) := by
  refine Met.ofW (cc := cX2_turn) (maxL := 8) (ret := (some .long)) (by decide) rfl ?_
  intro p e s m args below meth c s₁ B hml hv
  obtain ⟨rfl, hK, hE, hP⟩ := hv
  have hx := B.exec
  have hb := B.bytes
  have hr := B.returns
  have hts := atoms_spec (ws := wsX2_turn) B.pre
  have hown : s.vm.findClass RX2 = some m.cls := findClass_of_methodNamed B.named
  have hlocks := B.notSynchronized
  have lk_39 := hts (.fieldLink RX2 39 "PlacePoints$Shape" "xs" "[I") (by decide +kernel)
  have lk_43 := hts (.fieldLink RX2 43 "PlacePoints$Shape" "ys" "[I") (by decide +kernel)
  have in_X2 := in_X2_turn_X2
  have hl := lv_entry ([.ref h0, .int p1, .int p2, .int p3]) (n := 8) (Nat.le_of_ble_eq_true rfl)
  rw [lg_entry_eq]
  generalize (lg_sl ([.ref h0, .int p1, .int p2, .int p3]) ++ List.replicate (8 - (lg_sl ([.ref h0, .int p1, .int p2, .int p3])).length) Slot.unset).toArray = ls at hl ⊢
  have hl : lv_has ls 8 [(0, .ref h0), (1, .int p1), (2, .int p2), (3, .int p3)] := hl
  rw [s_X2_turn] at hs
  refine lv_aload_n hx hb dX2_turn_0 rfl (lv_at hl 0 rfl) ?_
  refine va_get (D := D) (ci := 2) (v := .ref sx) (C := RX2) (T := TX2) (N := 9) hx hb hts in_X2 hown hK hP 0 rfl rfl 3 (by decide) lk_39 (fun _ h9 => h9) rfl dX2_turn_1 ?_
  refine lv_iload_n hx hb dX2_turn_4 rfl (lv_at hl 1 rfl) ?_
  refine lv_iconst (v := 1) hx hb dX2_turn_5 (by decide) ?_
  refine lv_iadd hx hb dX2_turn_6 ?_
  obtain ⟨v_7, hv_7, hs⟩ := op_bd hs
  refine gx_iald hx hb hK hP 1 0 rfl rfl hv_7 dX2_turn_7 ?_
  refine lv_aload_n hx hb dX2_turn_8 rfl (lv_at hl 0 rfl) ?_
  refine va_get (D := D) (ci := 2) (v := .ref sx) (C := RX2) (T := TX2) (N := 9) hx hb hts in_X2 hown hK hP 0 rfl rfl 3 (by decide) lk_39 (fun _ h9 => h9) rfl dX2_turn_9 ?_
  refine lv_iload_n hx hb dX2_turn_12 rfl (lv_at hl 1 rfl) ?_
  obtain ⟨v_13, hv_13, hs⟩ := op_bd hs
  refine gx_iald hx hb hK hP 1 0 rfl rfl hv_13 dX2_turn_13 ?_
  refine lv_isub hx hb dX2_turn_14 ?_
  refine lv_i2l hx hb dX2_turn_15 rfl ?_
  obtain ⟨e_16, hv_16, hs⟩ := op_bd hs
  refine gx_nj (Option.some.inj hv_16) ?_
  refine lv_lstore (lv' := [(4, .long e_16), (0, .ref h0), (1, .int p1), (2, .int p2), (3, .int p3)]) hx hb dX2_turn_16 hl (by decide) rfl (fun ls hl => ?_)
  refine lv_aload_n hx hb dX2_turn_18 rfl (lv_at hl 1 rfl) ?_
  refine va_get (D := D) (ci := 2) (v := .ref sy) (C := RX2) (T := TX2) (N := 9) hx hb hts in_X2 hown hK hP 0 rfl rfl 4 (by decide) lk_43 (fun _ h9 => h9) rfl dX2_turn_19 ?_
  refine lv_iload_n hx hb dX2_turn_22 rfl (lv_at hl 2 rfl) ?_
  refine lv_iconst (v := 1) hx hb dX2_turn_23 (by decide) ?_
  refine lv_iadd hx hb dX2_turn_24 ?_
  obtain ⟨v_25, hv_25, hs⟩ := op_bd hs
  refine gx_iald hx hb hK hP 2 0 rfl rfl hv_25 dX2_turn_25 ?_
  refine lv_aload_n hx hb dX2_turn_26 rfl (lv_at hl 1 rfl) ?_
  refine va_get (D := D) (ci := 2) (v := .ref sy) (C := RX2) (T := TX2) (N := 9) hx hb hts in_X2 hown hK hP 0 rfl rfl 4 (by decide) lk_43 (fun _ h9 => h9) rfl dX2_turn_27 ?_
  refine lv_iload_n hx hb dX2_turn_30 rfl (lv_at hl 2 rfl) ?_
  obtain ⟨v_31, hv_31, hs⟩ := op_bd hs
  refine gx_iald hx hb hK hP 2 0 rfl rfl hv_31 dX2_turn_31 ?_
  refine lv_isub hx hb dX2_turn_32 ?_
  refine lv_i2l hx hb dX2_turn_33 rfl ?_
  obtain ⟨e_34, hv_34, hs⟩ := op_bd hs
  refine gx_nj (Option.some.inj hv_34) ?_
  refine lv_lstore (lv' := [(6, .long e_34), (4, .long e_16), (0, .ref h0), (1, .int p1), (2, .int p2), (3, .int p3)]) hx hb dX2_turn_34 hl (by decide) rfl (fun ls hl => ?_)
  refine lv_lload hx hb dX2_turn_36 (lv_at hl 1 rfl) ?_
  refine lv_iload_n hx hb dX2_turn_38 rfl (lv_at hl 5 rfl) ?_
  refine lv_aload_n hx hb dX2_turn_39 rfl (lv_at hl 2 rfl) ?_
  refine va_get (D := D) (ci := 2) (v := .ref sy) (C := RX2) (T := TX2) (N := 9) hx hb hts in_X2 hown hK hP 0 rfl rfl 4 (by decide) lk_43 (fun _ h9 => h9) rfl dX2_turn_40 ?_
  refine lv_iload_n hx hb dX2_turn_43 rfl (lv_at hl 3 rfl) ?_
  obtain ⟨v_44, hv_44, hs⟩ := op_bd hs
  refine gx_iald hx hb hK hP 2 0 rfl rfl hv_44 dX2_turn_44 ?_
  refine lv_isub hx hb dX2_turn_45 ?_
  refine lv_i2l hx hb dX2_turn_46 rfl ?_
  refine lv_lmul hx hb dX2_turn_47 ?_
  refine lv_lload hx hb dX2_turn_48 (lv_at hl 0 rfl) ?_
  refine lv_iload_n hx hb dX2_turn_50 rfl (lv_at hl 4 rfl) ?_
  refine lv_aload_n hx hb dX2_turn_51 rfl (lv_at hl 2 rfl) ?_
  refine va_get (D := D) (ci := 2) (v := .ref sx) (C := RX2) (T := TX2) (N := 9) hx hb hts in_X2 hown hK hP 0 rfl rfl 3 (by decide) lk_39 (fun _ h9 => h9) rfl dX2_turn_52 ?_
  refine lv_iload_n hx hb dX2_turn_55 rfl (lv_at hl 3 rfl) ?_
  obtain ⟨v_56, hv_56, hs⟩ := op_bd hs
  refine gx_iald hx hb hK hP 1 0 rfl rfl hv_56 dX2_turn_56 ?_
  refine lv_isub hx hb dX2_turn_57 ?_
  refine lv_i2l hx hb dX2_turn_58 rfl ?_
  refine lv_lmul hx hb dX2_turn_59 ?_
  refine lv_lsub hx hb dX2_turn_60 ?_
  obtain rfl := Option.some.inj hs
  exact W.lret hx hb hr (fun t ht hW => ⟨_, rfl, rfl, ht⟩) (fun _ h => by cases h) dX2_turn_61
def s_X2_sideCount (F : Nat) (S : sh_T) : Option Int32 :=
  if (sh_k S) = 1 then
    some ((sh_z S) - 1)
  else
    some (sh_z S)
abbrev rm_X2_sideCount : Room := { frames := 0, cells := 0, slots := 0, locals := 0 }
theorem in_X2_sideCount_X2 : ∀ w ∈ wsX20, w ∈ wsX2_sideCount := by decide +kernel
set_option maxHeartbeats 4000000 in
set_option maxRecDepth 100000 in
theorem c_X2_sideCount (l : Launch) (D : va_G) (cI cJ cZ cS : ClassId) (ad : Nat → Nat) (h0 sx sy : Nat) (S : sh_T) (F : Nat) (hkS : sh_k S < 3) (r : Int32) (hs : s_X2_sideCount F S = some r) : Met l yX2_sideCount wsX2_sideCount rm_X2_sideCount (gl_P D cI cJ cZ cS ad [.ref h0] (fun H => va_P D vwCl (sh_w cI ad h0 sx sy S) H)) (vp_Si (fun v => v = r)) 0 0 (fun _ => False) := by
  refine Met.ofW (cc := cX2_sideCount) (maxL := 1) (ret := (some .int)) (by decide) rfl ?_
  intro p e s m args below meth c s₁ B hml hv
  obtain ⟨rfl, hK, hE, hP⟩ := hv
  have hx := B.exec
  have hb := B.bytes
  have hr := B.returns
  have hts := atoms_spec (ws := wsX2_sideCount) B.pre
  have hown : s.vm.findClass RX2 = some m.cls := findClass_of_methodNamed B.named
  have hlocks := B.notSynchronized
  have lk_9 := hts (.fieldLink RX2 9 "PlacePoints$Shape" "size" "I") (by decide +kernel)
  have lk_30 := hts (.fieldLink RX2 30 "PlacePoints$Shape" "kind" "LPlacePoints$Kind;") (by decide +kernel)
  have in_X2 := in_X2_sideCount_X2
  have hl := lv_entry ([.ref h0]) (n := 1) (Nat.le_of_ble_eq_true rfl)
  rw [lg_entry_eq]
  generalize (lg_sl ([.ref h0]) ++ List.replicate (1 - (lg_sl ([.ref h0])).length) Slot.unset).toArray = ls at hl ⊢
  have hl : lv_has ls 1 [(0, .ref h0)] := hl
  rw [s_X2_sideCount] at hs
  refine lv_aload_n hx hb dX2_sideCount_0 rfl (lv_at hl 0 rfl) ?_
  refine va_get (D := D) (ci := 2) (v := .ref (ad (sh_k S))) (C := RX2) (T := TX2) (N := 9) hx hb hts in_X2 hown hK hP 0 rfl rfl 0 (by decide) lk_30 (fun _ h9 => h9) rfl dX2_sideCount_1 ?_
  refine va_gets hx hb (hE.1 1 (by decide)).1 va_S.rf hown (hts (.fieldLink RX2 109 "PlacePoints$Kind" "LINE" "LPlacePoints$Kind;") (by decide +kernel)) (fun _ h9 => h9) dX2_sideCount_4 ?_
  refine W.eq (g2 := F0 m 7 ls [.ref (ad 1), .ref (ad (sh_k S))]) rfl ?_
  refine gx_acmp_ne (tgt := 19) hE (show (sh_k S) < 3 from hkS) (show 1 < 3 from (by decide)) hx hb dX2_sideCount_7 (by decide) (fun c_7 => ?_) (fun c_7 => ?_)
  · replace hs := it_f c_7 hs
    refine lv_aload_n hx hb dX2_sideCount_19 rfl (lv_at hl 0 rfl) ?_
    refine va_get (D := D) (ci := 2) (v := .int (sh_z S)) (C := RX2) (T := TX2) (N := 9) hx hb hts in_X2 hown hK hP 0 rfl rfl 1 (by decide) lk_9 (fun _ h9 => h9) rfl dX2_sideCount_20 ?_
    obtain rfl := Option.some.inj hs
    exact W.iret hx hb hr (fun t ht hW => ⟨_, rfl, rfl, ht⟩) (fun _ h => by cases h) dX2_sideCount_23
  · replace hs := it_t c_7 hs
    refine lv_aload_n hx hb dX2_sideCount_10 rfl (lv_at hl 0 rfl) ?_
    refine va_get (D := D) (ci := 2) (v := .int (sh_z S)) (C := RX2) (T := TX2) (N := 9) hx hb hts in_X2 hown hK hP 0 rfl rfl 1 (by decide) lk_9 (fun _ h9 => h9) rfl dX2_sideCount_11 ?_
    refine lv_iconst (v := 1) hx hb dX2_sideCount_14 (by decide) ?_
    refine lv_isub hx hb dX2_sideCount_15 ?_
    refine lv_goto (tgt := 23) hx hb dX2_sideCount_16 (by decide) ?_
    obtain rfl := Option.some.inj hs
    exact W.iret hx hb hr (fun t ht hW => ⟨_, rfl, rfl, ht⟩) (fun _ h => by cases h) dX2_sideCount_23
def s_X0_isAbove (F : Nat) (p1 : Int64) (p2 : Int64) (p3 : Int64) (p4 : Int64) : Option Int32 :=
  if (lg_cmp p2 0) ≤ 0 then
    some 0
  else
    if 0 < (lg_cmp p4 0) then
      (nz_l p2).bind fun _ =>
      (some ((p1 / p2))).bind fun e_18 =>
      (nz_l p4).bind fun _ =>
      (some ((p3 / p4))).bind fun e_25 =>
      if (lg_cmp e_18 e_25) = 0 then
        (nz_l p2).bind fun _ =>
        (nz_l p4).bind fun _ =>
        if (lg_cmp ((p1 - p1 / p2 * p2) * p4) ((p3 - p3 / p4 * p4) * p2)) ≤ 0 then
          some 0
        else
          some 1
      else
        if (lg_cmp e_18 e_25) ≤ 0 then
          some 0
        else
          some 1
    else
      some 0
abbrev rm_X0_isAbove : Room := { frames := 0, cells := 0, slots := 0, locals := 0 }
set_option maxHeartbeats 4000000 in
set_option maxRecDepth 100000 in
theorem c_X0_isAbove (l : Launch) (D : va_G) (cI cJ cZ cS : ClassId) (ad : Nat → Nat) (p1 : Int64) (p2 : Int64) (p3 : Int64) (p4 : Int64) (F : Nat)  (r : Int32) (hs : s_X0_isAbove F p1 p2 p3 p4 = some r) : Met l yX0_isAbove wsX0_isAbove rm_X0_isAbove (gl_P D cI cJ cZ cS ad [.long p1, .long p2, .long p3, .long p4] (fun _ => True)) (vp_Si (fun v => v = r)) 0 0 (fun _ => False) := by
  refine Met.ofW (cc := cX0_isAbove) (maxL := 12) (ret := (some .boolean)) (by decide) rfl ?_
  intro p e s m args below meth c s₁ B hml hv
  obtain ⟨rfl, hK, hE, hP⟩ := hv
  have hx := B.exec
  have hb := B.bytes
  have hr := B.returns
  have hts := atoms_spec (ws := wsX0_isAbove) B.pre
  have hown : s.vm.findClass RX0 = some m.cls := findClass_of_methodNamed B.named
  have hlocks := B.notSynchronized
  have hl := lv_entry ([.long p1, .long p2, .long p3, .long p4]) (n := 12) (Nat.le_of_ble_eq_true rfl)
  rw [lg_entry_eq]
  generalize (lg_sl ([.long p1, .long p2, .long p3, .long p4]) ++ List.replicate (12 - (lg_sl ([.long p1, .long p2, .long p3, .long p4])).length) Slot.unset).toArray = ls at hl ⊢
  have hl : lv_has ls 12 [(0, .long p1), (2, .long p2), (4, .long p3), (6, .long p4)] := hl
  rw [s_X0_isAbove] at hs
  refine lv_lload_n hx hb dX0_isAbove_0 rfl (lv_at hl 1 rfl) ?_
  refine lv_lconst (v := 0) hx hb dX0_isAbove_1 (by decide) ?_
  refine W.lcmp hx hb dX0_isAbove_2 ?_
  refine lv_if_le (tgt := 13) hx hb dX0_isAbove_3 (by decide) (fun c_3 => ?_) (fun c_3 => ?_)
  · replace hs := it_t c_3 hs
    refine lv_iconst (v := 0) hx hb dX0_isAbove_13 (by decide) ?_
    obtain rfl := Option.some.inj hs
    exact W.zret hx hb hr rfl (fun t ht hW => ⟨_, rfl, rfl, ht⟩) (fun _ h => by cases h) dX0_isAbove_14
  · replace hs := it_f c_3 hs
    refine lv_lload hx hb dX0_isAbove_6 (lv_at hl 3 rfl) ?_
    refine lv_lconst (v := 0) hx hb dX0_isAbove_8 (by decide) ?_
    refine W.lcmp hx hb dX0_isAbove_9 ?_
    refine lv_if_gt (tgt := 15) hx hb dX0_isAbove_10 (by decide) (fun c_10 => ?_) (fun c_10 => ?_)
    · replace hs := it_t c_10 hs
      refine lv_lload_n hx hb dX0_isAbove_15 rfl (lv_at hl 0 rfl) ?_
      refine lv_lload_n hx hb dX0_isAbove_16 rfl (lv_at hl 1 rfl) ?_
      obtain ⟨_, hz_17, hs⟩ := op_bd hs
      refine lv_ldiv hx hb dX0_isAbove_17 (nz_l_ne hz_17) ?_
      obtain ⟨e_18, hv_18, hs⟩ := op_bd hs
      refine gx_nj (Option.some.inj hv_18) ?_
      refine lv_lstore (lv' := [(8, .long e_18), (0, .long p1), (2, .long p2), (4, .long p3), (6, .long p4)]) hx hb dX0_isAbove_18 hl (by decide) rfl (fun ls hl => ?_)
      refine lv_lload hx hb dX0_isAbove_20 (lv_at hl 3 rfl) ?_
      refine lv_lload hx hb dX0_isAbove_22 (lv_at hl 4 rfl) ?_
      obtain ⟨_, hz_24, hs⟩ := op_bd hs
      refine lv_ldiv hx hb dX0_isAbove_24 (nz_l_ne hz_24) ?_
      obtain ⟨e_25, hv_25, hs⟩ := op_bd hs
      refine gx_nj (Option.some.inj hv_25) ?_
      refine lv_lstore (lv' := [(10, .long e_25), (8, .long e_18), (0, .long p1), (2, .long p2), (4, .long p3), (6, .long p4)]) hx hb dX0_isAbove_25 hl (by decide) rfl (fun ls hl => ?_)
      refine lv_lload hx hb dX0_isAbove_27 (lv_at hl 1 rfl) ?_
      refine lv_lload hx hb dX0_isAbove_29 (lv_at hl 0 rfl) ?_
      refine W.lcmp hx hb dX0_isAbove_31 ?_
      refine lv_if_eq (tgt := 49) hx hb dX0_isAbove_32 (by decide) (fun c_32 => ?_) (fun c_32 => ?_)
      · replace hs := it_t c_32 hs
        refine lv_lload_n hx hb dX0_isAbove_49 rfl (lv_at hl 2 rfl) ?_
        refine lv_lload_n hx hb dX0_isAbove_50 rfl (lv_at hl 3 rfl) ?_
        obtain ⟨_, hz_51, hs⟩ := op_bd hs
        refine lv_lrem hx hb dX0_isAbove_51 (nz_l_ne hz_51) ?_
        refine lv_lload hx hb dX0_isAbove_52 (lv_at hl 5 rfl) ?_
        refine lv_lmul hx hb dX0_isAbove_54 ?_
        refine lv_lload hx hb dX0_isAbove_55 (lv_at hl 4 rfl) ?_
        refine lv_lload hx hb dX0_isAbove_57 (lv_at hl 5 rfl) ?_
        obtain ⟨_, hz_59, hs⟩ := op_bd hs
        refine lv_lrem hx hb dX0_isAbove_59 (nz_l_ne hz_59) ?_
        refine lv_lload_n hx hb dX0_isAbove_60 rfl (lv_at hl 3 rfl) ?_
        refine lv_lmul hx hb dX0_isAbove_61 ?_
        refine W.lcmp hx hb dX0_isAbove_62 ?_
        refine lv_if_le (tgt := 70) hx hb dX0_isAbove_63 (by decide) (fun c_63 => ?_) (fun c_63 => ?_)
        · replace hs := it_t c_63 hs
          refine lv_iconst (v := 0) hx hb dX0_isAbove_70 (by decide) ?_
          obtain rfl := Option.some.inj hs
          exact W.zret hx hb hr rfl (fun t ht hW => ⟨_, rfl, rfl, ht⟩) (fun _ h => by cases h) dX0_isAbove_71
        · replace hs := it_f c_63 hs
          refine lv_iconst (v := 1) hx hb dX0_isAbove_66 (by decide) ?_
          refine lv_goto (tgt := 71) hx hb dX0_isAbove_67 (by decide) ?_
          obtain rfl := Option.some.inj hs
          exact W.zret hx hb hr rfl (fun t ht hW => ⟨_, rfl, rfl, ht⟩) (fun _ h => by cases h) dX0_isAbove_71
      · replace hs := it_f c_32 hs
        refine lv_lload hx hb dX0_isAbove_35 (lv_at hl 1 rfl) ?_
        refine lv_lload hx hb dX0_isAbove_37 (lv_at hl 0 rfl) ?_
        refine W.lcmp hx hb dX0_isAbove_39 ?_
        refine lv_if_le (tgt := 47) hx hb dX0_isAbove_40 (by decide) (fun c_40 => ?_) (fun c_40 => ?_)
        · replace hs := it_t c_40 hs
          refine lv_iconst (v := 0) hx hb dX0_isAbove_47 (by decide) ?_
          obtain rfl := Option.some.inj hs
          exact W.zret hx hb hr rfl (fun t ht hW => ⟨_, rfl, rfl, ht⟩) (fun _ h => by cases h) dX0_isAbove_48
        · replace hs := it_f c_40 hs
          refine lv_iconst (v := 1) hx hb dX0_isAbove_43 (by decide) ?_
          refine lv_goto (tgt := 48) hx hb dX0_isAbove_44 (by decide) ?_
          obtain rfl := Option.some.inj hs
          exact W.zret hx hb hr rfl (fun t ht hW => ⟨_, rfl, rfl, ht⟩) (fun _ h => by cases h) dX0_isAbove_48
    · replace hs := it_f c_10 hs
      refine lv_iconst (v := 0) hx hb dX0_isAbove_13 (by decide) ?_
      obtain rfl := Option.some.inj hs
      exact W.zret hx hb hr rfl (fun t ht hW => ⟨_, rfl, rfl, ht⟩) (fun _ h => by cases h) dX0_isAbove_14
def s_X0_greatestDivisor_3 (F : Nat) (p1 : Int64) (p2 : Int64) : Nat → Int64 → Int64 → Int32 → Option Int64
  | 0, _, _, _ => none
  | n + 1, x0, x2, x4 =>
    if 200 ≤ x4 then
      some x0
    else
      if (lg_cmp x2 0) = 0 then
        some x0
      else
        (nz_l x2).bind fun _ =>
        (some ((x0 - x0 / x2 * x2))).bind fun e_20 =>
        (some (x4 + 1)).bind fun e_27 =>
        s_X0_greatestDivisor_3 F p1 p2 n x2 e_20 e_27
def s_X0_greatestDivisor (F : Nat) (p1 : Int64) (p2 : Int64) : Option Int64 :=
  s_X0_greatestDivisor_3 F p1 p2 F p1 p2 0
abbrev rm_X0_greatestDivisor : Room := { frames := 0, cells := 0, slots := 0, locals := 0 }
set_option maxHeartbeats 4000000 in
set_option maxRecDepth 100000 in
theorem c_X0_greatestDivisor (l : Launch) (D : va_G) (cI cJ cZ cS : ClassId) (ad : Nat → Nat) (p1 : Int64) (p2 : Int64) (F : Nat)  (r : Int64) (hs : s_X0_greatestDivisor F p1 p2 = some r) : Met l yX0_greatestDivisor wsX0_greatestDivisor rm_X0_greatestDivisor (gl_P D cI cJ cZ cS ad [.long p1, .long p2] (fun _ => True)) (vp_Sl (fun v => v = r)) 0 0 (fun _ => False) := by
  refine Met.ofW (cc := cX0_greatestDivisor) (maxL := 7) (ret := (some .long)) (by decide) rfl ?_
  intro p e s m args below meth c s₁ B hml hv
  obtain ⟨rfl, hK, hE, hP⟩ := hv
  have hx := B.exec
  have hb := B.bytes
  have hr := B.returns
  have hts := atoms_spec (ws := wsX0_greatestDivisor) B.pre
  have hown : s.vm.findClass RX0 = some m.cls := findClass_of_methodNamed B.named
  have hlocks := B.notSynchronized
  have J_3 : ∀ (n_3 : Nat) (x0 : Int64) (x2 : Int64) (x4 : Int32), s_X0_greatestDivisor_3 F p1 p2 n_3 x0 x2 x4 = some r → ∀ ls : Array Slot, lv_has ls 7 [(0, .long x0), (2, .long x2), (4, .int x4)] → W p l e (headSpec wsX0_greatestDivisor rm_X0_greatestDivisor).room s m ([.long p1, .long p2] : List Value).toArray below meth c s.heap [] 0 0 (MQ below (vp_Sl (fun v => v = r)) ([.long p1, .long p2] : List Value).toArray s 0 0 (fun _ => False)) (F0 m 3 ls []) := by
    intro n_3
    induction n_3 with
    | zero =>
      intro x0 x2 x4 hs
      cases hs
    | succ n_3 ih_3 =>
      intro x0 x2 x4 hs ls hl
      rw [s_X0_greatestDivisor_3] at hs
      refine lv_iload hx hb dX0_greatestDivisor_3 (lv_at hl 2 rfl) ?_
      refine lv_sipush (v := 200) hx hb dX0_greatestDivisor_5 (by decide) ?_
      refine lv_icmp_ge (tgt := 33) hx hb dX0_greatestDivisor_8 (by decide) (fun c_8 => ?_) (fun c_8 => ?_)
      · replace hs := it_t c_8 hs
        refine lv_lload_n hx hb dX0_greatestDivisor_33 rfl (lv_at hl 0 rfl) ?_
        obtain rfl := Option.some.inj hs
        exact W.lret hx hb hr (fun t ht hW => ⟨_, rfl, rfl, ht⟩) (fun _ h => by cases h) dX0_greatestDivisor_34
      · replace hs := it_f c_8 hs
        refine lv_lload_n hx hb dX0_greatestDivisor_11 rfl (lv_at hl 1 rfl) ?_
        refine lv_lconst (v := 0) hx hb dX0_greatestDivisor_12 (by decide) ?_
        refine W.lcmp hx hb dX0_greatestDivisor_13 ?_
        refine lv_if_eq (tgt := 33) hx hb dX0_greatestDivisor_14 (by decide) (fun c_14 => ?_) (fun c_14 => ?_)
        · replace hs := it_t c_14 hs
          refine lv_lload_n hx hb dX0_greatestDivisor_33 rfl (lv_at hl 0 rfl) ?_
          obtain rfl := Option.some.inj hs
          exact W.lret hx hb hr (fun t ht hW => ⟨_, rfl, rfl, ht⟩) (fun _ h => by cases h) dX0_greatestDivisor_34
        · replace hs := it_f c_14 hs
          refine lv_lload_n hx hb dX0_greatestDivisor_17 rfl (lv_at hl 0 rfl) ?_
          refine lv_lload_n hx hb dX0_greatestDivisor_18 rfl (lv_at hl 1 rfl) ?_
          obtain ⟨_, hz_19, hs⟩ := op_bd hs
          refine lv_lrem hx hb dX0_greatestDivisor_19 (nz_l_ne hz_19) ?_
          obtain ⟨e_20, hv_20, hs⟩ := op_bd hs
          refine gx_nj (Option.some.inj hv_20) ?_
          refine lv_lstore (lv' := [(5, .long e_20), (0, .long x0), (2, .long x2), (4, .int x4)]) hx hb dX0_greatestDivisor_20 hl (by decide) rfl (fun ls hl => ?_)
          refine lv_lload_n hx hb dX0_greatestDivisor_22 rfl (lv_at hl 2 rfl) ?_
          refine lv_lstore_n (lv' := [(0, .long x2), (5, .long e_20), (2, .long x2), (4, .int x4)]) hx hb dX0_greatestDivisor_23 rfl hl (by decide) rfl (fun ls hl => ?_)
          refine lv_lload hx hb dX0_greatestDivisor_24 (lv_at hl 1 rfl) ?_
          refine lv_lstore_n (lv' := [(2, .long e_20), (0, .long x2), (5, .long e_20), (4, .int x4)]) hx hb dX0_greatestDivisor_26 rfl hl (by decide) rfl (fun ls hl => ?_)
          obtain ⟨e_27, hv_27, hs⟩ := op_bd hs
          refine lv_iinc (v := e_27) (lv' := [(4, .int e_27), (2, .long e_20), (0, .long x2), (5, .long e_20)]) hx hb dX0_greatestDivisor_27 hl (k := 3) rfl (Option.some.inj hv_27) (by decide) rfl (fun ls hl => ?_)
          refine lv_goto (tgt := 3) hx hb dX0_greatestDivisor_30 (by decide) ?_
          exact ih_3 x2 e_20 e_27 hs _ (lv_sub hl [2, 1, 0] rfl)
  have hl := lv_entry ([.long p1, .long p2]) (n := 7) (Nat.le_of_ble_eq_true rfl)
  rw [lg_entry_eq]
  generalize (lg_sl ([.long p1, .long p2]) ++ List.replicate (7 - (lg_sl ([.long p1, .long p2])).length) Slot.unset).toArray = ls at hl ⊢
  have hl : lv_has ls 7 [(0, .long p1), (2, .long p2)] := hl
  rw [s_X0_greatestDivisor] at hs
  refine lv_iconst (v := 0) hx hb dX0_greatestDivisor_0 (by decide) ?_
  refine lv_istore (lv' := [(4, .int 0), (0, .long p1), (2, .long p2)]) hx hb dX0_greatestDivisor_1 hl (by decide) rfl (fun ls hl => ?_)
  exact J_3 F p1 p2 0 hs _ (lv_sub hl [1, 2, 0] rfl)
def s_X3_isPlace (F : Nat) (p1 : Int32) (p2 : Int32) : Option Int32 :=
  if p1 < (-10000) then
    some 0
  else
    if 10000 < p1 then
      some 0
    else
      if p2 < (-10000) then
        some 0
      else
        if 10000 < p2 then
          some 0
        else
          some 1
abbrev rm_X3_isPlace : Room := { frames := 0, cells := 0, slots := 0, locals := 0 }
set_option maxHeartbeats 4000000 in
set_option maxRecDepth 100000 in
theorem c_X3_isPlace (l : Launch) (D : va_G) (cI cJ cZ cS : ClassId) (ad : Nat → Nat) (p1 : Int32) (p2 : Int32) (F : Nat)  (r : Int32) (hs : s_X3_isPlace F p1 p2 = some r) : Met l yX3_isPlace wsX3_isPlace rm_X3_isPlace (gl_P D cI cJ cZ cS ad [.int p1, .int p2] (fun _ => True)) (vp_Si (fun v => v = r)) 0 0 (fun _ => False) := by
  refine Met.ofW (cc := cX3_isPlace) (maxL := 2) (ret := (some .boolean)) (by decide) rfl ?_
  intro p e s m args below meth c s₁ B hml hv
  obtain ⟨rfl, hK, hE, hP⟩ := hv
  have hx := B.exec
  have hb := B.bytes
  have hr := B.returns
  have hts := atoms_spec (ws := wsX3_isPlace) B.pre
  have hown : s.vm.findClass RX3 = some m.cls := findClass_of_methodNamed B.named
  have hlocks := B.notSynchronized
  have hl := lv_entry ([.int p1, .int p2]) (n := 2) (Nat.le_of_ble_eq_true rfl)
  rw [lg_entry_eq]
  generalize (lg_sl ([.int p1, .int p2]) ++ List.replicate (2 - (lg_sl ([.int p1, .int p2])).length) Slot.unset).toArray = ls at hl ⊢
  have hl : lv_has ls 2 [(0, .int p1), (1, .int p2)] := hl
  rw [s_X3_isPlace] at hs
  refine lv_iload_n hx hb dX3_isPlace_0 rfl (lv_at hl 0 rfl) ?_
  refine lv_sipush (v := -10000) hx hb dX3_isPlace_1 (by decide) ?_
  refine lv_icmp_lt (tgt := 32) hx hb dX3_isPlace_4 (by decide) (fun c_4 => ?_) (fun c_4 => ?_)
  · replace hs := it_t c_4 hs
    refine lv_iconst (v := 0) hx hb dX3_isPlace_32 (by decide) ?_
    obtain rfl := Option.some.inj hs
    exact W.zret hx hb hr rfl (fun t ht hW => ⟨_, rfl, rfl, ht⟩) (fun _ h => by cases h) dX3_isPlace_33
  · replace hs := it_f c_4 hs
    refine lv_iload_n hx hb dX3_isPlace_7 rfl (lv_at hl 0 rfl) ?_
    refine lv_sipush (v := 10000) hx hb dX3_isPlace_8 (by decide) ?_
    refine lv_icmp_gt (tgt := 32) hx hb dX3_isPlace_11 (by decide) (fun c_11 => ?_) (fun c_11 => ?_)
    · replace hs := it_t c_11 hs
      refine lv_iconst (v := 0) hx hb dX3_isPlace_32 (by decide) ?_
      obtain rfl := Option.some.inj hs
      exact W.zret hx hb hr rfl (fun t ht hW => ⟨_, rfl, rfl, ht⟩) (fun _ h => by cases h) dX3_isPlace_33
    · replace hs := it_f c_11 hs
      refine lv_iload_n hx hb dX3_isPlace_14 rfl (lv_at hl 1 rfl) ?_
      refine lv_sipush (v := -10000) hx hb dX3_isPlace_15 (by decide) ?_
      refine lv_icmp_lt (tgt := 32) hx hb dX3_isPlace_18 (by decide) (fun c_18 => ?_) (fun c_18 => ?_)
      · replace hs := it_t c_18 hs
        refine lv_iconst (v := 0) hx hb dX3_isPlace_32 (by decide) ?_
        obtain rfl := Option.some.inj hs
        exact W.zret hx hb hr rfl (fun t ht hW => ⟨_, rfl, rfl, ht⟩) (fun _ h => by cases h) dX3_isPlace_33
      · replace hs := it_f c_18 hs
        refine lv_iload_n hx hb dX3_isPlace_21 rfl (lv_at hl 1 rfl) ?_
        refine lv_sipush (v := 10000) hx hb dX3_isPlace_22 (by decide) ?_
        refine lv_icmp_gt (tgt := 32) hx hb dX3_isPlace_25 (by decide) (fun c_25 => ?_) (fun c_25 => ?_)
        · replace hs := it_t c_25 hs
          refine lv_iconst (v := 0) hx hb dX3_isPlace_32 (by decide) ?_
          obtain rfl := Option.some.inj hs
          exact W.zret hx hb hr rfl (fun t ht hW => ⟨_, rfl, rfl, ht⟩) (fun _ h => by cases h) dX3_isPlace_33
        · replace hs := it_f c_25 hs
          refine lv_iconst (v := 1) hx hb dX3_isPlace_28 (by decide) ?_
          refine lv_goto (tgt := 33) hx hb dX3_isPlace_29 (by decide) ?_
          obtain rfl := Option.some.inj hs
          exact W.zret hx hb hr rfl (fun t ht hW => ⟨_, rfl, rfl, ht⟩) (fun _ h => by cases h) dX3_isPlace_33
