def s_X4_folds (F : Nat) (M : mo_T) (p1 : Int32) (p2 : Int32) (p3 : Int32) : Option Int32 :=
  (rd_l 1500 (mo_x M) p1).bind fun v_5 =>
  (rd_l 1500 (mo_x M) p2).bind fun v_11 =>
  (some ((v_5 - v_11))).bind fun e_13 =>
  (rd_l 1500 (mo_y M) p1).bind fun v_20 =>
  (rd_l 1500 (mo_y M) p2).bind fun v_26 =>
  (some ((v_20 - v_26))).bind fun e_28 =>
  (rd_l 1500 (mo_x M) p3).bind fun v_35 =>
  (rd_l 1500 (mo_x M) p2).bind fun v_41 =>
  (some ((v_35 - v_41))).bind fun e_43 =>
  (rd_l 1500 (mo_y M) p3).bind fun v_50 =>
  (rd_l 1500 (mo_y M) p2).bind fun v_56 =>
  (some ((v_50 - v_56))).bind fun e_58 =>
  (s_X4_cross F e_13 e_28 e_43 e_58).bind fun v_68 =>
  if (lg_cmp v_68 0) = 0 then
    if (lg_cmp ((e_13 * e_43) + (e_28 * e_58)) 0) ≤ 0 then
      some 0
    else
      some 1
  else
    some 0
abbrev rm_X4_folds : Room := { frames := 1, cells := 0, slots := 0, locals := 27 }
theorem in_X4_folds_X4 : ∀ w ∈ wsX40, w ∈ wsX4_folds := by decide +kernel
set_option maxHeartbeats 4000000 in
set_option maxRecDepth 100000 in
theorem c_X4_folds (l : Launch) (D : va_G) (cI cJ cZ cS : ClassId) (ad : Nat → Nat) (m0 mk mc mx my mf mp mq mb : Nat) (M : mo_T) (p1 : Int32) (p2 : Int32) (p3 : Int32) (F : Nat)  (r : Int32) (hs : s_X4_folds F M p1 p2 p3 = some r) : Met l yX4_folds wsX4_folds rm_X4_folds (gl_P D cI cJ cZ cS ad [.ref m0, .int p1, .int p2, .int p3] (fun H => va_P D vwCl (mo_w cI cJ cZ m0 mk mc mx my mf mp mq mb M) H)) (vp_Si (fun v => v = r)) 0 0 (fun _ => False) := by
  refine Met.ofW (cc := cX4_folds) (maxL := 12) (ret := (some .boolean)) (by decide) rfl ?_
  intro p e s m args below meth c s₁ B hml hv
  obtain ⟨rfl, hK, hE, hP⟩ := hv
  have hx := B.exec
  have hb := B.bytes
  have hr := B.returns
  have hts := atoms_spec (ws := wsX4_folds) B.pre
  have hown : s.vm.findClass RX4 = some m.cls := findClass_of_methodNamed B.named
  have hlocks := B.notSynchronized
  have lk_20 := hts (.fieldLink RX4 20 "PlacePointsModel" "xs" "[J") (by decide +kernel)
  have lk_24 := hts (.fieldLink RX4 24 "PlacePointsModel" "ys" "[J") (by decide +kernel)
  have in_X4 := in_X4_folds_X4
  have hl := lv_entry ([.ref m0, .int p1, .int p2, .int p3]) (n := 12) (Nat.le_of_ble_eq_true rfl)
  rw [lg_entry_eq]
  generalize (lg_sl ([.ref m0, .int p1, .int p2, .int p3]) ++ List.replicate (12 - (lg_sl ([.ref m0, .int p1, .int p2, .int p3])).length) Slot.unset).toArray = ls at hl ⊢
  have hl : lv_has ls 12 [(0, .ref m0), (1, .int p1), (2, .int p2), (3, .int p3)] := hl
  rw [s_X4_folds] at hs
  refine lv_aload_n hx hb dX4_folds_0 rfl (lv_at hl 0 rfl) ?_
  refine va_get (D := D) (ci := 4) (v := .ref mx) (C := RX4) (T := TX4) (N := 15) hx hb hts in_X4 hown hK hP 0 rfl rfl 2 (by decide) lk_20 (fun _ h9 => h9) rfl dX4_folds_1 ?_
  refine lv_iload_n hx hb dX4_folds_4 rfl (lv_at hl 1 rfl) ?_
  obtain ⟨v_5, hv_5, hs⟩ := op_bd hs
  refine gx_lald hx hb hK hP 3 1 rfl rfl hv_5 dX4_folds_5 ?_
  refine lv_aload_n hx hb dX4_folds_6 rfl (lv_at hl 0 rfl) ?_
  refine va_get (D := D) (ci := 4) (v := .ref mx) (C := RX4) (T := TX4) (N := 15) hx hb hts in_X4 hown hK hP 0 rfl rfl 2 (by decide) lk_20 (fun _ h9 => h9) rfl dX4_folds_7 ?_
  refine lv_iload_n hx hb dX4_folds_10 rfl (lv_at hl 2 rfl) ?_
  obtain ⟨v_11, hv_11, hs⟩ := op_bd hs
  refine gx_lald hx hb hK hP 3 1 rfl rfl hv_11 dX4_folds_11 ?_
  refine lv_lsub hx hb dX4_folds_12 ?_
  obtain ⟨e_13, hv_13, hs⟩ := op_bd hs
  refine gx_nj (Option.some.inj hv_13) ?_
  refine lv_lstore (lv' := [(4, .long e_13), (0, .ref m0), (1, .int p1), (2, .int p2), (3, .int p3)]) hx hb dX4_folds_13 hl (by decide) rfl (fun ls hl => ?_)
  refine lv_aload_n hx hb dX4_folds_15 rfl (lv_at hl 1 rfl) ?_
  refine va_get (D := D) (ci := 4) (v := .ref my) (C := RX4) (T := TX4) (N := 15) hx hb hts in_X4 hown hK hP 0 rfl rfl 3 (by decide) lk_24 (fun _ h9 => h9) rfl dX4_folds_16 ?_
  refine lv_iload_n hx hb dX4_folds_19 rfl (lv_at hl 2 rfl) ?_
  obtain ⟨v_20, hv_20, hs⟩ := op_bd hs
  refine gx_lald hx hb hK hP 4 1 rfl rfl hv_20 dX4_folds_20 ?_
  refine lv_aload_n hx hb dX4_folds_21 rfl (lv_at hl 1 rfl) ?_
  refine va_get (D := D) (ci := 4) (v := .ref my) (C := RX4) (T := TX4) (N := 15) hx hb hts in_X4 hown hK hP 0 rfl rfl 3 (by decide) lk_24 (fun _ h9 => h9) rfl dX4_folds_22 ?_
  refine lv_iload_n hx hb dX4_folds_25 rfl (lv_at hl 3 rfl) ?_
  obtain ⟨v_26, hv_26, hs⟩ := op_bd hs
  refine gx_lald hx hb hK hP 4 1 rfl rfl hv_26 dX4_folds_26 ?_
  refine lv_lsub hx hb dX4_folds_27 ?_
  obtain ⟨e_28, hv_28, hs⟩ := op_bd hs
  refine gx_nj (Option.some.inj hv_28) ?_
  refine lv_lstore (lv' := [(6, .long e_28), (4, .long e_13), (0, .ref m0), (1, .int p1), (2, .int p2), (3, .int p3)]) hx hb dX4_folds_28 hl (by decide) rfl (fun ls hl => ?_)
  refine lv_aload_n hx hb dX4_folds_30 rfl (lv_at hl 2 rfl) ?_
  refine va_get (D := D) (ci := 4) (v := .ref mx) (C := RX4) (T := TX4) (N := 15) hx hb hts in_X4 hown hK hP 0 rfl rfl 2 (by decide) lk_20 (fun _ h9 => h9) rfl dX4_folds_31 ?_
  refine lv_iload_n hx hb dX4_folds_34 rfl (lv_at hl 5 rfl) ?_
  obtain ⟨v_35, hv_35, hs⟩ := op_bd hs
  refine gx_lald hx hb hK hP 3 1 rfl rfl hv_35 dX4_folds_35 ?_
  refine lv_aload_n hx hb dX4_folds_36 rfl (lv_at hl 2 rfl) ?_
  refine va_get (D := D) (ci := 4) (v := .ref mx) (C := RX4) (T := TX4) (N := 15) hx hb hts in_X4 hown hK hP 0 rfl rfl 2 (by decide) lk_20 (fun _ h9 => h9) rfl dX4_folds_37 ?_
  refine lv_iload_n hx hb dX4_folds_40 rfl (lv_at hl 4 rfl) ?_
  obtain ⟨v_41, hv_41, hs⟩ := op_bd hs
  refine gx_lald hx hb hK hP 3 1 rfl rfl hv_41 dX4_folds_41 ?_
  refine lv_lsub hx hb dX4_folds_42 ?_
  obtain ⟨e_43, hv_43, hs⟩ := op_bd hs
  refine gx_nj (Option.some.inj hv_43) ?_
  refine lv_lstore (lv' := [(8, .long e_43), (6, .long e_28), (4, .long e_13), (0, .ref m0), (1, .int p1), (2, .int p2), (3, .int p3)]) hx hb dX4_folds_43 hl (by decide) rfl (fun ls hl => ?_)
  refine lv_aload_n hx hb dX4_folds_45 rfl (lv_at hl 3 rfl) ?_
  refine va_get (D := D) (ci := 4) (v := .ref my) (C := RX4) (T := TX4) (N := 15) hx hb hts in_X4 hown hK hP 0 rfl rfl 3 (by decide) lk_24 (fun _ h9 => h9) rfl dX4_folds_46 ?_
  refine lv_iload_n hx hb dX4_folds_49 rfl (lv_at hl 6 rfl) ?_
  obtain ⟨v_50, hv_50, hs⟩ := op_bd hs
  refine gx_lald hx hb hK hP 4 1 rfl rfl hv_50 dX4_folds_50 ?_
  refine lv_aload_n hx hb dX4_folds_51 rfl (lv_at hl 3 rfl) ?_
  refine va_get (D := D) (ci := 4) (v := .ref my) (C := RX4) (T := TX4) (N := 15) hx hb hts in_X4 hown hK hP 0 rfl rfl 3 (by decide) lk_24 (fun _ h9 => h9) rfl dX4_folds_52 ?_
  refine lv_iload_n hx hb dX4_folds_55 rfl (lv_at hl 5 rfl) ?_
  obtain ⟨v_56, hv_56, hs⟩ := op_bd hs
  refine gx_lald hx hb hK hP 4 1 rfl rfl hv_56 dX4_folds_56 ?_
  refine lv_lsub hx hb dX4_folds_57 ?_
  obtain ⟨e_58, hv_58, hs⟩ := op_bd hs
  refine gx_nj (Option.some.inj hv_58) ?_
  refine lv_lstore (lv' := [(10, .long e_58), (8, .long e_43), (6, .long e_28), (4, .long e_13), (0, .ref m0), (1, .int p1), (2, .int p2), (3, .int p3)]) hx hb dX4_folds_58 hl (by decide) rfl (fun ls hl => ?_)
  refine lv_lload hx hb dX4_folds_60 (lv_at hl 3 rfl) ?_
  refine lv_lload hx hb dX4_folds_62 (lv_at hl 2 rfl) ?_
  refine lv_lload hx hb dX4_folds_64 (lv_at hl 1 rfl) ?_
  refine lv_lload hx hb dX4_folds_66 (lv_at hl 0 rfl) ?_
  obtain ⟨v_68, hc_68, hs⟩ := op_bd hs
  refine gx_cSl (va_Run.run (va_runS (As := [.long e_13, .long e_28, .long e_43, .long e_58]) (rest := []) ⟨hx, hb, hml, hown, hts⟩ (c_X4_cross l D cI cJ cZ cS ad e_13 e_28 e_43 e_58 F  v_68 hc_68) (va_cwS 4 hts gX4_folds_X4_cross rfl rfl rfl (by decide +kernel) ⟨Nat.le_of_ble_eq_true rfl, Nat.le_of_ble_eq_true rfl⟩) ⟨gl_blind, gl_ok hK hE trivial⟩ rfl rfl hl.1 rfl (lv_room (Nat.le_of_ble_eq_true rfl)) dX4_folds_68 ⟨Nat.le_of_ble_eq_true rfl, Nat.le_of_ble_eq_true rfl⟩)) ?_
  refine lv_lconst (v := 0) hx hb dX4_folds_71 (by decide) ?_
  refine W.lcmp hx hb dX4_folds_72 ?_
  refine lv_if_ne (tgt := 96) hx hb dX4_folds_73 (by decide) (fun c_73 => ?_) (fun c_73 => ?_)
  · replace hs := it_f c_73 hs
    refine lv_iconst (v := 0) hx hb dX4_folds_96 (by decide) ?_
    obtain rfl := Option.some.inj hs
    exact W.zret hx hb hr rfl (fun t ht hW => ⟨_, rfl, rfl, ht⟩) (fun _ h => by cases h) dX4_folds_97
  · replace hs := it_t c_73 hs
    refine lv_lload hx hb dX4_folds_76 (lv_at hl 3 rfl) ?_
    refine lv_lload hx hb dX4_folds_78 (lv_at hl 1 rfl) ?_
    refine lv_lmul hx hb dX4_folds_80 ?_
    refine lv_lload hx hb dX4_folds_81 (lv_at hl 2 rfl) ?_
    refine lv_lload hx hb dX4_folds_83 (lv_at hl 0 rfl) ?_
    refine lv_lmul hx hb dX4_folds_85 ?_
    refine lv_ladd hx hb dX4_folds_86 ?_
    refine lv_lconst (v := 0) hx hb dX4_folds_87 (by decide) ?_
    refine W.lcmp hx hb dX4_folds_88 ?_
    refine lv_if_le (tgt := 96) hx hb dX4_folds_89 (by decide) (fun c_89 => ?_) (fun c_89 => ?_)
    · replace hs := it_t c_89 hs
      refine lv_iconst (v := 0) hx hb dX4_folds_96 (by decide) ?_
      obtain rfl := Option.some.inj hs
      exact W.zret hx hb hr rfl (fun t ht hW => ⟨_, rfl, rfl, ht⟩) (fun _ h => by cases h) dX4_folds_97
    · replace hs := it_f c_89 hs
      refine lv_iconst (v := 1) hx hb dX4_folds_92 (by decide) ?_
      refine lv_goto (tgt := 97) hx hb dX4_folds_93 (by decide) ?_
      obtain rfl := Option.some.inj hs
      exact W.zret hx hb hr rfl (fun t ht hW => ⟨_, rfl, rfl, ht⟩) (fun _ h => by cases h) dX4_folds_97
def s_X4_isIn_109 (F : Nat) (M : mo_T) (p1 : Int32) (p2 : Int32) (p3 : Int32) (p4 : Int32) (p5 : Int32) (kc_15 : Int32 → Int32 → Int32 → Int32 → Int32 → Option Int32) (x6 : Int32) (x7 : Int32) (x9 : Int32) (x10 : Int32) (x11 : Int32) (t0 : Int32) : Option Int32 :=
  if x9 = 0 then
    (some (x10 + 1)).bind fun e_137 =>
    kc_15 x6 x7 t0 0 e_137
  else
    (rd_l 1500 (mo_y M) x11).bind fun v_122 =>
    if (lg_cmp v_122 p5.toInt64) ≤ 0 then
      (some (x10 + 1)).bind fun e_137 =>
      kc_15 x6 x7 t0 0 e_137
    else
      (some (x10 + 1)).bind fun e_137 =>
      kc_15 x6 x7 t0 1 e_137
def s_X4_isIn_84 (F : Nat) (M : mo_T) (p1 : Int32) (p2 : Int32) (p3 : Int32) (p4 : Int32) (p5 : Int32) (kc_15 : Int32 → Int32 → Int32 → Int32 → Int32 → Option Int32) (x6 : Int32) (x8 : Int32) (x9 : Int32) (x10 : Int32) (x11 : Int32) (t0 : Int32) : Option Int32 :=
  if x8 = 0 then
    s_X4_isIn_109 F M p1 p2 p3 p4 p5 kc_15 x6 t0 x9 x10 x11 0
  else
    (rd_l 1500 (mo_y M) x11).bind fun v_97 =>
    if 0 ≤ (lg_cmp v_97 p3.toInt64) then
      s_X4_isIn_109 F M p1 p2 p3 p4 p5 kc_15 x6 t0 x9 x10 x11 0
    else
      s_X4_isIn_109 F M p1 p2 p3 p4 p5 kc_15 x6 t0 x9 x10 x11 1
def s_X4_isIn_58 (F : Nat) (M : mo_T) (p1 : Int32) (p2 : Int32) (p3 : Int32) (p4 : Int32) (p5 : Int32) (kc_15 : Int32 → Int32 → Int32 → Int32 → Int32 → Option Int32) (x7 : Int32) (x8 : Int32) (x9 : Int32) (x10 : Int32) (x11 : Int32) (t0 : Int32) : Option Int32 :=
  if x7 = 0 then
    s_X4_isIn_84 F M p1 p2 p3 p4 p5 kc_15 t0 x8 x9 x10 x11 0
  else
    (rd_l 1500 (mo_x M) x11).bind fun v_71 =>
    if (lg_cmp v_71 p4.toInt64) ≤ 0 then
      s_X4_isIn_84 F M p1 p2 p3 p4 p5 kc_15 t0 x8 x9 x10 x11 0
    else
      s_X4_isIn_84 F M p1 p2 p3 p4 p5 kc_15 t0 x8 x9 x10 x11 1
def s_X4_isIn_15 (F : Nat) (M : mo_T) (p1 : Int32) (p2 : Int32) (p3 : Int32) (p4 : Int32) (p5 : Int32) : Nat → Int32 → Int32 → Int32 → Int32 → Int32 → Option Int32
  | 0, _, _, _, _, _ => none
  | n + 1, x6, x7, x8, x9, x10 =>
    (rd_i 60 (mo_c M) p1).bind fun v_22 =>
    if v_22 ≤ x10 then
      if x6 = 0 then
        if x7 = 0 then
          if x8 = 0 then
            if x9 = 0 then
              some 1
            else
              some 0
          else
            some 0
        else
          some 0
      else
        some 0
    else
      (s_X4_from F M p1 x10).bind fun v_30 =>
      if x6 = 0 then
        s_X4_isIn_58 F M p1 p2 p3 p4 p5 (fun y0 y1 y2 y3 y4 => s_X4_isIn_15 F M p1 p2 p3 p4 p5 n y0 y1 y2 y3 y4) x7 x8 x9 x10 v_30 0
      else
        (rd_l 1500 (mo_x M) v_30).bind fun v_46 =>
        if 0 ≤ (lg_cmp v_46 p2.toInt64) then
          s_X4_isIn_58 F M p1 p2 p3 p4 p5 (fun y0 y1 y2 y3 y4 => s_X4_isIn_15 F M p1 p2 p3 p4 p5 n y0 y1 y2 y3 y4) x7 x8 x9 x10 v_30 0
        else
          s_X4_isIn_58 F M p1 p2 p3 p4 p5 (fun y0 y1 y2 y3 y4 => s_X4_isIn_15 F M p1 p2 p3 p4 p5 n y0 y1 y2 y3 y4) x7 x8 x9 x10 v_30 1
def s_X4_isIn (F : Nat) (M : mo_T) (p1 : Int32) (p2 : Int32) (p3 : Int32) (p4 : Int32) (p5 : Int32) : Option Int32 :=
  s_X4_isIn_15 F M p1 p2 p3 p4 p5 F 1 1 1 1 0
abbrev rm_X4_isIn : Room := { frames := 1, cells := 0, slots := 0, locals := 22 }
theorem in_X4_isIn_X4 : ∀ w ∈ wsX40, w ∈ wsX4_isIn := by decide +kernel
set_option maxHeartbeats 4000000 in
set_option maxRecDepth 100000 in
theorem c_X4_isIn (l : Launch) (D : va_G) (cI cJ cZ cS : ClassId) (ad : Nat → Nat) (m0 mk mc mx my mf mp mq mb : Nat) (M : mo_T) (p1 : Int32) (p2 : Int32) (p3 : Int32) (p4 : Int32) (p5 : Int32) (F : Nat)  (r : Int32) (hs : s_X4_isIn F M p1 p2 p3 p4 p5 = some r) : Met l yX4_isIn wsX4_isIn rm_X4_isIn (gl_P D cI cJ cZ cS ad [.ref m0, .int p1, .int p2, .int p3, .int p4, .int p5] (fun H => va_P D vwCl (mo_w cI cJ cZ m0 mk mc mx my mf mp mq mb M) H)) (vp_Si (fun v => v = r)) 0 0 (fun _ => False) := by
  refine Met.ofW (cc := cX4_isIn) (maxL := 12) (ret := (some .boolean)) (by decide) rfl ?_
  intro p e s m args below meth c s₁ B hml hv
  obtain ⟨rfl, hK, hE, hP⟩ := hv
  have hx := B.exec
  have hb := B.bytes
  have hr := B.returns
  have hts := atoms_spec (ws := wsX4_isIn) B.pre
  have hown : s.vm.findClass RX4 = some m.cls := findClass_of_methodNamed B.named
  have hlocks := B.notSynchronized
  have lk_17 := hts (.fieldLink RX4 17 "PlacePointsModel" "counts" "[I") (by decide +kernel)
  have lk_20 := hts (.fieldLink RX4 20 "PlacePointsModel" "xs" "[J") (by decide +kernel)
  have lk_24 := hts (.fieldLink RX4 24 "PlacePointsModel" "ys" "[J") (by decide +kernel)
  have in_X4 := in_X4_isIn_X4
  have J_15 : ∀ (n_15 : Nat) (x6 : Int32) (x7 : Int32) (x8 : Int32) (x9 : Int32) (x10 : Int32), s_X4_isIn_15 F M p1 p2 p3 p4 p5 n_15 x6 x7 x8 x9 x10 = some r → ∀ ls : Array Slot, lv_has ls 12 [(0, .ref m0), (1, .int p1), (2, .int p2), (3, .int p3), (4, .int p4), (5, .int p5), (6, .int x6), (7, .int x7), (8, .int x8), (9, .int x9), (10, .int x10)] → W p l e (headSpec wsX4_isIn rm_X4_isIn).room s m ([.ref m0, .int p1, .int p2, .int p3, .int p4, .int p5] : List Value).toArray below meth c s.heap [] 0 0 (MQ below (vp_Si (fun v => v = r)) ([.ref m0, .int p1, .int p2, .int p3, .int p4, .int p5] : List Value).toArray s 0 0 (fun _ => False)) (F0 m 15 ls []) := by
    intro n_15
    induction n_15 with
    | zero =>
      intro x6 x7 x8 x9 x10 hs
      cases hs
    | succ n_15 ih_15 =>
      have J_109 : ∀ (x6 : Int32) (x7 : Int32) (x9 : Int32) (x10 : Int32) (x11 : Int32) (t0 : Int32), s_X4_isIn_109 F M p1 p2 p3 p4 p5 (fun y0 y1 y2 y3 y4 => s_X4_isIn_15 F M p1 p2 p3 p4 p5 n_15 y0 y1 y2 y3 y4) x6 x7 x9 x10 x11 t0 = some r → ∀ ls : Array Slot, lv_has ls 12 [(0, .ref m0), (1, .int p1), (2, .int p2), (3, .int p3), (4, .int p4), (5, .int p5), (6, .int x6), (7, .int x7), (9, .int x9), (10, .int x10), (11, .int x11)] → W p l e (headSpec wsX4_isIn rm_X4_isIn).room s m ([.ref m0, .int p1, .int p2, .int p3, .int p4, .int p5] : List Value).toArray below meth c s.heap [] 0 0 (MQ below (vp_Si (fun v => v = r)) ([.ref m0, .int p1, .int p2, .int p3, .int p4, .int p5] : List Value).toArray s 0 0 (fun _ => False)) (F0 m 109 ls [.int t0]) := by
        intro x6 x7 x9 x10 x11 t0 hs ls hl
        rw [s_X4_isIn_109] at hs
        refine lv_istore (lv' := [(8, .int t0), (0, .ref m0), (1, .int p1), (2, .int p2), (3, .int p3), (4, .int p4), (5, .int p5), (6, .int x6), (7, .int x7), (9, .int x9), (10, .int x10), (11, .int x11)]) hx hb dX4_isIn_109 hl (by decide) rfl (fun ls hl => ?_)
        refine lv_iload hx hb dX4_isIn_111 (lv_at hl 9 rfl) ?_
        refine lv_if_eq (tgt := 134) hx hb dX4_isIn_113 (by decide) (fun c_113 => ?_) (fun c_113 => ?_)
        · replace hs := it_t c_113 hs
          refine lv_iconst (v := 0) hx hb dX4_isIn_134 (by decide) ?_
          refine lv_istore (lv' := [(9, .int 0), (8, .int t0), (0, .ref m0), (1, .int p1), (2, .int p2), (3, .int p3), (4, .int p4), (5, .int p5), (6, .int x6), (7, .int x7), (10, .int x10), (11, .int x11)]) hx hb dX4_isIn_135 hl (by decide) rfl (fun ls hl => ?_)
          obtain ⟨e_137, hv_137, hs⟩ := op_bd hs
          refine lv_iinc (v := e_137) (lv' := [(10, .int e_137), (9, .int 0), (8, .int t0), (0, .ref m0), (1, .int p1), (2, .int p2), (3, .int p3), (4, .int p4), (5, .int p5), (6, .int x6), (7, .int x7), (11, .int x11)]) hx hb dX4_isIn_137 hl (k := 10) rfl (Option.some.inj hv_137) (by decide) rfl (fun ls hl => ?_)
          refine lv_goto (tgt := 15) hx hb dX4_isIn_140 (by decide) ?_
          exact ih_15 x6 x7 t0 0 e_137 hs _ (lv_sub hl [3, 4, 5, 6, 7, 8, 9, 10, 2, 1, 0] rfl)
        · replace hs := it_f c_113 hs
          refine lv_aload_n hx hb dX4_isIn_116 rfl (lv_at hl 1 rfl) ?_
          refine va_get (D := D) (ci := 4) (v := .ref my) (C := RX4) (T := TX4) (N := 15) hx hb hts in_X4 hown hK hP 0 rfl rfl 3 (by decide) lk_24 (fun _ h9 => h9) rfl dX4_isIn_117 ?_
          refine lv_iload hx hb dX4_isIn_120 (lv_at hl 11 rfl) ?_
          obtain ⟨v_122, hv_122, hs⟩ := op_bd hs
          refine gx_lald hx hb hK hP 4 1 rfl rfl hv_122 dX4_isIn_122 ?_
          refine lv_iload hx hb dX4_isIn_123 (lv_at hl 6 rfl) ?_
          refine lv_i2l hx hb dX4_isIn_125 rfl ?_
          refine W.lcmp hx hb dX4_isIn_126 ?_
          refine lv_if_le (tgt := 134) hx hb dX4_isIn_127 (by decide) (fun c_127 => ?_) (fun c_127 => ?_)
          · replace hs := it_t c_127 hs
            refine lv_iconst (v := 0) hx hb dX4_isIn_134 (by decide) ?_
            refine lv_istore (lv' := [(9, .int 0), (8, .int t0), (0, .ref m0), (1, .int p1), (2, .int p2), (3, .int p3), (4, .int p4), (5, .int p5), (6, .int x6), (7, .int x7), (10, .int x10), (11, .int x11)]) hx hb dX4_isIn_135 hl (by decide) rfl (fun ls hl => ?_)
            obtain ⟨e_137, hv_137, hs⟩ := op_bd hs
            refine lv_iinc (v := e_137) (lv' := [(10, .int e_137), (9, .int 0), (8, .int t0), (0, .ref m0), (1, .int p1), (2, .int p2), (3, .int p3), (4, .int p4), (5, .int p5), (6, .int x6), (7, .int x7), (11, .int x11)]) hx hb dX4_isIn_137 hl (k := 10) rfl (Option.some.inj hv_137) (by decide) rfl (fun ls hl => ?_)
            refine lv_goto (tgt := 15) hx hb dX4_isIn_140 (by decide) ?_
            exact ih_15 x6 x7 t0 0 e_137 hs _ (lv_sub hl [3, 4, 5, 6, 7, 8, 9, 10, 2, 1, 0] rfl)
          · replace hs := it_f c_127 hs
            refine lv_iconst (v := 1) hx hb dX4_isIn_130 (by decide) ?_
            refine lv_goto (tgt := 135) hx hb dX4_isIn_131 (by decide) ?_
            refine lv_istore (lv' := [(9, .int 1), (8, .int t0), (0, .ref m0), (1, .int p1), (2, .int p2), (3, .int p3), (4, .int p4), (5, .int p5), (6, .int x6), (7, .int x7), (10, .int x10), (11, .int x11)]) hx hb dX4_isIn_135 hl (by decide) rfl (fun ls hl => ?_)
            obtain ⟨e_137, hv_137, hs⟩ := op_bd hs
            refine lv_iinc (v := e_137) (lv' := [(10, .int e_137), (9, .int 1), (8, .int t0), (0, .ref m0), (1, .int p1), (2, .int p2), (3, .int p3), (4, .int p4), (5, .int p5), (6, .int x6), (7, .int x7), (11, .int x11)]) hx hb dX4_isIn_137 hl (k := 10) rfl (Option.some.inj hv_137) (by decide) rfl (fun ls hl => ?_)
            refine lv_goto (tgt := 15) hx hb dX4_isIn_140 (by decide) ?_
            exact ih_15 x6 x7 t0 1 e_137 hs _ (lv_sub hl [3, 4, 5, 6, 7, 8, 9, 10, 2, 1, 0] rfl)
      have J_84 : ∀ (x6 : Int32) (x8 : Int32) (x9 : Int32) (x10 : Int32) (x11 : Int32) (t0 : Int32), s_X4_isIn_84 F M p1 p2 p3 p4 p5 (fun y0 y1 y2 y3 y4 => s_X4_isIn_15 F M p1 p2 p3 p4 p5 n_15 y0 y1 y2 y3 y4) x6 x8 x9 x10 x11 t0 = some r → ∀ ls : Array Slot, lv_has ls 12 [(0, .ref m0), (1, .int p1), (2, .int p2), (3, .int p3), (4, .int p4), (5, .int p5), (6, .int x6), (8, .int x8), (9, .int x9), (10, .int x10), (11, .int x11)] → W p l e (headSpec wsX4_isIn rm_X4_isIn).room s m ([.ref m0, .int p1, .int p2, .int p3, .int p4, .int p5] : List Value).toArray below meth c s.heap [] 0 0 (MQ below (vp_Si (fun v => v = r)) ([.ref m0, .int p1, .int p2, .int p3, .int p4, .int p5] : List Value).toArray s 0 0 (fun _ => False)) (F0 m 84 ls [.int t0]) := by
        intro x6 x8 x9 x10 x11 t0 hs ls hl
        rw [s_X4_isIn_84] at hs
        refine lv_istore (lv' := [(7, .int t0), (0, .ref m0), (1, .int p1), (2, .int p2), (3, .int p3), (4, .int p4), (5, .int p5), (6, .int x6), (8, .int x8), (9, .int x9), (10, .int x10), (11, .int x11)]) hx hb dX4_isIn_84 hl (by decide) rfl (fun ls hl => ?_)
        refine lv_iload hx hb dX4_isIn_86 (lv_at hl 8 rfl) ?_
        refine lv_if_eq (tgt := 108) hx hb dX4_isIn_88 (by decide) (fun c_88 => ?_) (fun c_88 => ?_)
        · replace hs := it_t c_88 hs
          refine lv_iconst (v := 0) hx hb dX4_isIn_108 (by decide) ?_
          exact J_109 x6 t0 x9 x10 x11 0 hs _ (lv_sub hl [1, 2, 3, 4, 5, 6, 7, 0, 9, 10, 11] rfl)
        · replace hs := it_f c_88 hs
          refine lv_aload_n hx hb dX4_isIn_91 rfl (lv_at hl 1 rfl) ?_
          refine va_get (D := D) (ci := 4) (v := .ref my) (C := RX4) (T := TX4) (N := 15) hx hb hts in_X4 hown hK hP 0 rfl rfl 3 (by decide) lk_24 (fun _ h9 => h9) rfl dX4_isIn_92 ?_
          refine lv_iload hx hb dX4_isIn_95 (lv_at hl 11 rfl) ?_
          obtain ⟨v_97, hv_97, hs⟩ := op_bd hs
          refine gx_lald hx hb hK hP 4 1 rfl rfl hv_97 dX4_isIn_97 ?_
          refine lv_iload_n hx hb dX4_isIn_98 rfl (lv_at hl 4 rfl) ?_
          refine lv_i2l hx hb dX4_isIn_99 rfl ?_
          refine W.lcmp hx hb dX4_isIn_100 ?_
          refine lv_if_ge (tgt := 108) hx hb dX4_isIn_101 (by decide) (fun c_101 => ?_) (fun c_101 => ?_)
          · replace hs := it_t c_101 hs
            refine lv_iconst (v := 0) hx hb dX4_isIn_108 (by decide) ?_
            exact J_109 x6 t0 x9 x10 x11 0 hs _ (lv_sub hl [1, 2, 3, 4, 5, 6, 7, 0, 9, 10, 11] rfl)
          · replace hs := it_f c_101 hs
            refine lv_iconst (v := 1) hx hb dX4_isIn_104 (by decide) ?_
            refine lv_goto (tgt := 109) hx hb dX4_isIn_105 (by decide) ?_
            exact J_109 x6 t0 x9 x10 x11 1 hs _ (lv_sub hl [1, 2, 3, 4, 5, 6, 7, 0, 9, 10, 11] rfl)
      have J_58 : ∀ (x7 : Int32) (x8 : Int32) (x9 : Int32) (x10 : Int32) (x11 : Int32) (t0 : Int32), s_X4_isIn_58 F M p1 p2 p3 p4 p5 (fun y0 y1 y2 y3 y4 => s_X4_isIn_15 F M p1 p2 p3 p4 p5 n_15 y0 y1 y2 y3 y4) x7 x8 x9 x10 x11 t0 = some r → ∀ ls : Array Slot, lv_has ls 12 [(0, .ref m0), (1, .int p1), (2, .int p2), (3, .int p3), (4, .int p4), (5, .int p5), (7, .int x7), (8, .int x8), (9, .int x9), (10, .int x10), (11, .int x11)] → W p l e (headSpec wsX4_isIn rm_X4_isIn).room s m ([.ref m0, .int p1, .int p2, .int p3, .int p4, .int p5] : List Value).toArray below meth c s.heap [] 0 0 (MQ below (vp_Si (fun v => v = r)) ([.ref m0, .int p1, .int p2, .int p3, .int p4, .int p5] : List Value).toArray s 0 0 (fun _ => False)) (F0 m 58 ls [.int t0]) := by
        intro x7 x8 x9 x10 x11 t0 hs ls hl
        rw [s_X4_isIn_58] at hs
        refine lv_istore (lv' := [(6, .int t0), (0, .ref m0), (1, .int p1), (2, .int p2), (3, .int p3), (4, .int p4), (5, .int p5), (7, .int x7), (8, .int x8), (9, .int x9), (10, .int x10), (11, .int x11)]) hx hb dX4_isIn_58 hl (by decide) rfl (fun ls hl => ?_)
        refine lv_iload hx hb dX4_isIn_60 (lv_at hl 7 rfl) ?_
        refine lv_if_eq (tgt := 83) hx hb dX4_isIn_62 (by decide) (fun c_62 => ?_) (fun c_62 => ?_)
        · replace hs := it_t c_62 hs
          refine lv_iconst (v := 0) hx hb dX4_isIn_83 (by decide) ?_
          exact J_84 t0 x8 x9 x10 x11 0 hs _ (lv_sub hl [1, 2, 3, 4, 5, 6, 0, 8, 9, 10, 11] rfl)
        · replace hs := it_f c_62 hs
          refine lv_aload_n hx hb dX4_isIn_65 rfl (lv_at hl 1 rfl) ?_
          refine va_get (D := D) (ci := 4) (v := .ref mx) (C := RX4) (T := TX4) (N := 15) hx hb hts in_X4 hown hK hP 0 rfl rfl 2 (by decide) lk_20 (fun _ h9 => h9) rfl dX4_isIn_66 ?_
          refine lv_iload hx hb dX4_isIn_69 (lv_at hl 11 rfl) ?_
          obtain ⟨v_71, hv_71, hs⟩ := op_bd hs
          refine gx_lald hx hb hK hP 3 1 rfl rfl hv_71 dX4_isIn_71 ?_
          refine lv_iload hx hb dX4_isIn_72 (lv_at hl 5 rfl) ?_
          refine lv_i2l hx hb dX4_isIn_74 rfl ?_
          refine W.lcmp hx hb dX4_isIn_75 ?_
          refine lv_if_le (tgt := 83) hx hb dX4_isIn_76 (by decide) (fun c_76 => ?_) (fun c_76 => ?_)
          · replace hs := it_t c_76 hs
            refine lv_iconst (v := 0) hx hb dX4_isIn_83 (by decide) ?_
            exact J_84 t0 x8 x9 x10 x11 0 hs _ (lv_sub hl [1, 2, 3, 4, 5, 6, 0, 8, 9, 10, 11] rfl)
          · replace hs := it_f c_76 hs
            refine lv_iconst (v := 1) hx hb dX4_isIn_79 (by decide) ?_
            refine lv_goto (tgt := 84) hx hb dX4_isIn_80 (by decide) ?_
            exact J_84 t0 x8 x9 x10 x11 1 hs _ (lv_sub hl [1, 2, 3, 4, 5, 6, 0, 8, 9, 10, 11] rfl)
      intro x6 x7 x8 x9 x10 hs ls hl
      rw [s_X4_isIn_15] at hs
      refine lv_iload hx hb dX4_isIn_15 (lv_at hl 10 rfl) ?_
      refine lv_aload_n hx hb dX4_isIn_17 rfl (lv_at hl 0 rfl) ?_
      refine va_get (D := D) (ci := 4) (v := .ref mc) (C := RX4) (T := TX4) (N := 15) hx hb hts in_X4 hown hK hP 0 rfl rfl 1 (by decide) lk_17 (fun _ h9 => h9) rfl dX4_isIn_18 ?_
      refine lv_iload_n hx hb dX4_isIn_21 rfl (lv_at hl 1 rfl) ?_
      obtain ⟨v_22, hv_22, hs⟩ := op_bd hs
      refine gx_iald hx hb hK hP 2 0 rfl rfl hv_22 dX4_isIn_22 ?_
      refine lv_icmp_ge (tgt := 143) hx hb dX4_isIn_23 (by decide) (fun c_23 => ?_) (fun c_23 => ?_)
      · replace hs := it_t c_23 hs
        refine lv_iload hx hb dX4_isIn_143 (lv_at hl 6 rfl) ?_
        refine lv_if_ne (tgt := 167) hx hb dX4_isIn_145 (by decide) (fun c_145 => ?_) (fun c_145 => ?_)
        · replace hs := it_f c_145 hs
          refine lv_iconst (v := 0) hx hb dX4_isIn_167 (by decide) ?_
          obtain rfl := Option.some.inj hs
          exact W.zret hx hb hr rfl (fun t ht hW => ⟨_, rfl, rfl, ht⟩) (fun _ h => by cases h) dX4_isIn_168
        · replace hs := it_t c_145 hs
          refine lv_iload hx hb dX4_isIn_148 (lv_at hl 7 rfl) ?_
          refine lv_if_ne (tgt := 167) hx hb dX4_isIn_150 (by decide) (fun c_150 => ?_) (fun c_150 => ?_)
          · replace hs := it_f c_150 hs
            refine lv_iconst (v := 0) hx hb dX4_isIn_167 (by decide) ?_
            obtain rfl := Option.some.inj hs
            exact W.zret hx hb hr rfl (fun t ht hW => ⟨_, rfl, rfl, ht⟩) (fun _ h => by cases h) dX4_isIn_168
          · replace hs := it_t c_150 hs
            refine lv_iload hx hb dX4_isIn_153 (lv_at hl 8 rfl) ?_
            refine lv_if_ne (tgt := 167) hx hb dX4_isIn_155 (by decide) (fun c_155 => ?_) (fun c_155 => ?_)
            · replace hs := it_f c_155 hs
              refine lv_iconst (v := 0) hx hb dX4_isIn_167 (by decide) ?_
              obtain rfl := Option.some.inj hs
              exact W.zret hx hb hr rfl (fun t ht hW => ⟨_, rfl, rfl, ht⟩) (fun _ h => by cases h) dX4_isIn_168
            · replace hs := it_t c_155 hs
              refine lv_iload hx hb dX4_isIn_158 (lv_at hl 9 rfl) ?_
              refine lv_if_ne (tgt := 167) hx hb dX4_isIn_160 (by decide) (fun c_160 => ?_) (fun c_160 => ?_)
              · replace hs := it_f c_160 hs
                refine lv_iconst (v := 0) hx hb dX4_isIn_167 (by decide) ?_
                obtain rfl := Option.some.inj hs
                exact W.zret hx hb hr rfl (fun t ht hW => ⟨_, rfl, rfl, ht⟩) (fun _ h => by cases h) dX4_isIn_168
              · replace hs := it_t c_160 hs
                refine lv_iconst (v := 1) hx hb dX4_isIn_163 (by decide) ?_
                refine lv_goto (tgt := 168) hx hb dX4_isIn_164 (by decide) ?_
                obtain rfl := Option.some.inj hs
                exact W.zret hx hb hr rfl (fun t ht hW => ⟨_, rfl, rfl, ht⟩) (fun _ h => by cases h) dX4_isIn_168
      · replace hs := it_f c_23 hs
        refine lv_aload_n hx hb dX4_isIn_26 rfl (lv_at hl 0 rfl) ?_
        refine lv_iload_n hx hb dX4_isIn_27 rfl (lv_at hl 1 rfl) ?_
        refine lv_iload hx hb dX4_isIn_28 (lv_at hl 10 rfl) ?_
        obtain ⟨v_30, hc_30, hs⟩ := op_bd hs
        refine gx_cSi (va_Run.run (va_runV (As := [.int p1, .int x10]) (rest := []) ⟨hx, hb, hml, hown, hts⟩ (c_X4_from l D cI cJ cZ cS ad m0 mk mc mx my mf mp mq mb M p1 x10 F  v_30 hc_30) (cwV 2 hts gX4_isIn_X4_from rfl rfl rfl (by decide +kernel) ⟨Nat.le_of_ble_eq_true rfl, Nat.le_of_ble_eq_true rfl⟩) ⟨gl_blind, va_recv hK hP (ci := 4) (q0 := 0) rfl rfl, gl_ok hK hE hP⟩ rfl rfl hl.1 rfl (lv_room (Nat.le_of_ble_eq_true rfl)) dX4_isIn_30 ⟨Nat.le_of_ble_eq_true rfl, Nat.le_of_ble_eq_true rfl⟩)) ?_
        refine lv_istore (lv' := [(11, .int v_30), (0, .ref m0), (1, .int p1), (2, .int p2), (3, .int p3), (4, .int p4), (5, .int p5), (6, .int x6), (7, .int x7), (8, .int x8), (9, .int x9), (10, .int x10)]) hx hb dX4_isIn_33 hl (by decide) rfl (fun ls hl => ?_)
        refine lv_iload hx hb dX4_isIn_35 (lv_at hl 7 rfl) ?_
        refine lv_if_eq (tgt := 57) hx hb dX4_isIn_37 (by decide) (fun c_37 => ?_) (fun c_37 => ?_)
        · replace hs := it_t c_37 hs
          refine lv_iconst (v := 0) hx hb dX4_isIn_57 (by decide) ?_
          exact J_58 x7 x8 x9 x10 v_30 0 hs _ (lv_sub hl [1, 2, 3, 4, 5, 6, 8, 9, 10, 11, 0] rfl)
        · replace hs := it_f c_37 hs
          refine lv_aload_n hx hb dX4_isIn_40 rfl (lv_at hl 1 rfl) ?_
          refine va_get (D := D) (ci := 4) (v := .ref mx) (C := RX4) (T := TX4) (N := 15) hx hb hts in_X4 hown hK hP 0 rfl rfl 2 (by decide) lk_20 (fun _ h9 => h9) rfl dX4_isIn_41 ?_
          refine lv_iload hx hb dX4_isIn_44 (lv_at hl 0 rfl) ?_
          obtain ⟨v_46, hv_46, hs⟩ := op_bd hs
          refine gx_lald hx hb hK hP 3 1 rfl rfl hv_46 dX4_isIn_46 ?_
          refine lv_iload_n hx hb dX4_isIn_47 rfl (lv_at hl 3 rfl) ?_
          refine lv_i2l hx hb dX4_isIn_48 rfl ?_
          refine W.lcmp hx hb dX4_isIn_49 ?_
          refine lv_if_ge (tgt := 57) hx hb dX4_isIn_50 (by decide) (fun c_50 => ?_) (fun c_50 => ?_)
          · replace hs := it_t c_50 hs
            refine lv_iconst (v := 0) hx hb dX4_isIn_57 (by decide) ?_
            exact J_58 x7 x8 x9 x10 v_30 0 hs _ (lv_sub hl [1, 2, 3, 4, 5, 6, 8, 9, 10, 11, 0] rfl)
          · replace hs := it_f c_50 hs
            refine lv_iconst (v := 1) hx hb dX4_isIn_53 (by decide) ?_
            refine lv_goto (tgt := 58) hx hb dX4_isIn_54 (by decide) ?_
            exact J_58 x7 x8 x9 x10 v_30 1 hs _ (lv_sub hl [1, 2, 3, 4, 5, 6, 8, 9, 10, 11, 0] rfl)
  have hl := lv_entry ([.ref m0, .int p1, .int p2, .int p3, .int p4, .int p5]) (n := 12) (Nat.le_of_ble_eq_true rfl)
  rw [lg_entry_eq]
  generalize (lg_sl ([.ref m0, .int p1, .int p2, .int p3, .int p4, .int p5]) ++ List.replicate (12 - (lg_sl ([.ref m0, .int p1, .int p2, .int p3, .int p4, .int p5])).length) Slot.unset).toArray = ls at hl ⊢
  have hl : lv_has ls 12 [(0, .ref m0), (1, .int p1), (2, .int p2), (3, .int p3), (4, .int p4), (5, .int p5)] := hl
  rw [s_X4_isIn] at hs
  refine lv_iconst (v := 1) hx hb dX4_isIn_0 (by decide) ?_
  refine lv_istore (lv' := [(6, .int 1), (0, .ref m0), (1, .int p1), (2, .int p2), (3, .int p3), (4, .int p4), (5, .int p5)]) hx hb dX4_isIn_1 hl (by decide) rfl (fun ls hl => ?_)
  refine lv_iconst (v := 1) hx hb dX4_isIn_3 (by decide) ?_
  refine lv_istore (lv' := [(7, .int 1), (6, .int 1), (0, .ref m0), (1, .int p1), (2, .int p2), (3, .int p3), (4, .int p4), (5, .int p5)]) hx hb dX4_isIn_4 hl (by decide) rfl (fun ls hl => ?_)
  refine lv_iconst (v := 1) hx hb dX4_isIn_6 (by decide) ?_
  refine lv_istore (lv' := [(8, .int 1), (7, .int 1), (6, .int 1), (0, .ref m0), (1, .int p1), (2, .int p2), (3, .int p3), (4, .int p4), (5, .int p5)]) hx hb dX4_isIn_7 hl (by decide) rfl (fun ls hl => ?_)
  refine lv_iconst (v := 1) hx hb dX4_isIn_9 (by decide) ?_
  refine lv_istore (lv' := [(9, .int 1), (8, .int 1), (7, .int 1), (6, .int 1), (0, .ref m0), (1, .int p1), (2, .int p2), (3, .int p3), (4, .int p4), (5, .int p5)]) hx hb dX4_isIn_10 hl (by decide) rfl (fun ls hl => ?_)
  refine lv_iconst (v := 0) hx hb dX4_isIn_12 (by decide) ?_
  refine lv_istore (lv' := [(10, .int 0), (9, .int 1), (8, .int 1), (7, .int 1), (6, .int 1), (0, .ref m0), (1, .int p1), (2, .int p2), (3, .int p3), (4, .int p4), (5, .int p5)]) hx hb dX4_isIn_13 hl (by decide) rfl (fun ls hl => ?_)
  exact J_15 F 1 1 1 1 0 hs _ (lv_sub hl [5, 6, 7, 8, 9, 10, 4, 3, 2, 1, 0] rfl)
def s_X4_cut (F : Nat) (M : mo_T) (p1 : Int32) (p2 : Int32) (p3 : Int32) (p4 : Int32) : Option Int32 :=
  (rd_l 1500 (mo_x M) p1).bind fun v_5 =>
  (rd_l 1500 (mo_y M) p1).bind fun v_11 =>
  (rd_l 1500 (mo_x M) p2).bind fun v_17 =>
  (rd_l 1500 (mo_y M) p2).bind fun v_23 =>
  (rd_l 1500 (mo_x M) p3).bind fun v_29 =>
  (rd_l 1500 (mo_y M) p3).bind fun v_35 =>
  (s_X4_isOn F v_5 v_11 v_17 v_23 v_29 v_35).bind fun v_36 =>
  if v_36 = 0 then
    (rd_l 1500 (mo_x M) p1).bind fun v_47 =>
    (rd_l 1500 (mo_y M) p1).bind fun v_53 =>
    (rd_l 1500 (mo_x M) p2).bind fun v_59 =>
    (rd_l 1500 (mo_y M) p2).bind fun v_65 =>
    (rd_l 1500 (mo_x M) p4).bind fun v_72 =>
    (rd_l 1500 (mo_y M) p4).bind fun v_79 =>
    (s_X4_isOn F v_47 v_53 v_59 v_65 v_72 v_79).bind fun v_80 =>
    if v_80 = 0 then
      (rd_l 1500 (mo_x M) p3).bind fun v_91 =>
      (rd_l 1500 (mo_y M) p3).bind fun v_97 =>
      (rd_l 1500 (mo_x M) p4).bind fun v_104 =>
      (rd_l 1500 (mo_y M) p4).bind fun v_111 =>
      (rd_l 1500 (mo_x M) p1).bind fun v_117 =>
      (rd_l 1500 (mo_y M) p1).bind fun v_123 =>
      (s_X4_isOn F v_91 v_97 v_104 v_111 v_117 v_123).bind fun v_124 =>
      if v_124 = 0 then
        (rd_l 1500 (mo_x M) p3).bind fun v_135 =>
        (rd_l 1500 (mo_y M) p3).bind fun v_141 =>
        (rd_l 1500 (mo_x M) p4).bind fun v_148 =>
        (rd_l 1500 (mo_y M) p4).bind fun v_155 =>
        (rd_l 1500 (mo_x M) p2).bind fun v_161 =>
        (rd_l 1500 (mo_y M) p2).bind fun v_167 =>
        (s_X4_isOn F v_135 v_141 v_148 v_155 v_161 v_167).bind fun v_168 =>
        if v_168 = 0 then
          (rd_l 1500 (mo_x M) p1).bind fun v_181 =>
          (rd_l 1500 (mo_y M) p1).bind fun v_187 =>
          (rd_l 1500 (mo_x M) p2).bind fun v_193 =>
          (rd_l 1500 (mo_y M) p2).bind fun v_199 =>
          (rd_l 1500 (mo_x M) p3).bind fun v_205 =>
          (rd_l 1500 (mo_y M) p3).bind fun v_211 =>
          (s_X4_hand F v_181 v_187 v_193 v_199 v_205 v_211).bind fun v_212 =>
          (rd_l 1500 (mo_x M) p1).bind fun v_220 =>
          (rd_l 1500 (mo_y M) p1).bind fun v_226 =>
          (rd_l 1500 (mo_x M) p2).bind fun v_232 =>
          (rd_l 1500 (mo_y M) p2).bind fun v_238 =>
          (rd_l 1500 (mo_x M) p4).bind fun v_245 =>
          (rd_l 1500 (mo_y M) p4).bind fun v_252 =>
          (s_X4_hand F v_220 v_226 v_232 v_238 v_245 v_252).bind fun v_253 =>
          (some ((v_212 * v_253))).bind fun e_257 =>
          (rd_l 1500 (mo_x M) p3).bind fun v_264 =>
          (rd_l 1500 (mo_y M) p3).bind fun v_270 =>
          (rd_l 1500 (mo_x M) p4).bind fun v_277 =>
          (rd_l 1500 (mo_y M) p4).bind fun v_284 =>
          (rd_l 1500 (mo_x M) p1).bind fun v_290 =>
          (rd_l 1500 (mo_y M) p1).bind fun v_296 =>
          (s_X4_hand F v_264 v_270 v_277 v_284 v_290 v_296).bind fun v_297 =>
          (rd_l 1500 (mo_x M) p3).bind fun v_305 =>
          (rd_l 1500 (mo_y M) p3).bind fun v_311 =>
          (rd_l 1500 (mo_x M) p4).bind fun v_318 =>
          (rd_l 1500 (mo_y M) p4).bind fun v_325 =>
          (rd_l 1500 (mo_x M) p2).bind fun v_331 =>
          (rd_l 1500 (mo_y M) p2).bind fun v_337 =>
          (s_X4_hand F v_305 v_311 v_318 v_325 v_331 v_337).bind fun v_338 =>
          (some ((v_297 * v_338))).bind fun e_342 =>
          if 0 ≤ e_257 then
            some 0
          else
            if 0 ≤ e_342 then
              some 0
            else
              some 1
        else
          some 1
      else
        some 1
    else
      some 1
  else
    some 1
abbrev rm_X4_cut : Room := { frames := 3, cells := 0, slots := 0, locals := 91 }
theorem in_X4_cut_X4 : ∀ w ∈ wsX40, w ∈ wsX4_cut := by decide +kernel
set_option maxHeartbeats 4000000 in
set_option maxRecDepth 100000 in
theorem c_X4_cut (l : Launch) (D : va_G) (cI cJ cZ cS : ClassId) (ad : Nat → Nat) (m0 mk mc mx my mf mp mq mb : Nat) (M : mo_T) (p1 : Int32) (p2 : Int32) (p3 : Int32) (p4 : Int32) (F : Nat)  (r : Int32) (hs : s_X4_cut F M p1 p2 p3 p4 = some r) : Met l yX4_cut wsX4_cut rm_X4_cut (gl_P D cI cJ cZ cS ad [.ref m0, .int p1, .int p2, .int p3, .int p4] (fun H => va_P D vwCl (mo_w cI cJ cZ m0 mk mc mx my mf mp mq mb M) H)) (vp_Si (fun v => v = r)) 0 0 (fun _ => False) := by
  refine Met.ofW (cc := cX4_cut) (maxL := 7) (ret := (some .boolean)) (by decide) rfl ?_
  intro p e s m args below meth c s₁ B hml hv
  obtain ⟨rfl, hK, hE, hP⟩ := hv
  have hx := B.exec
  have hb := B.bytes
  have hr := B.returns
  have hts := atoms_spec (ws := wsX4_cut) B.pre
  have hown : s.vm.findClass RX4 = some m.cls := findClass_of_methodNamed B.named
  have hlocks := B.notSynchronized
  have lk_20 := hts (.fieldLink RX4 20 "PlacePointsModel" "xs" "[J") (by decide +kernel)
  have lk_24 := hts (.fieldLink RX4 24 "PlacePointsModel" "ys" "[J") (by decide +kernel)
  have in_X4 := in_X4_cut_X4
  have hl := lv_entry ([.ref m0, .int p1, .int p2, .int p3, .int p4]) (n := 7) (Nat.le_of_ble_eq_true rfl)
  rw [lg_entry_eq]
  generalize (lg_sl ([.ref m0, .int p1, .int p2, .int p3, .int p4]) ++ List.replicate (7 - (lg_sl ([.ref m0, .int p1, .int p2, .int p3, .int p4])).length) Slot.unset).toArray = ls at hl ⊢
  have hl : lv_has ls 7 [(0, .ref m0), (1, .int p1), (2, .int p2), (3, .int p3), (4, .int p4)] := hl
  rw [s_X4_cut] at hs
  refine lv_aload_n hx hb dX4_cut_0 rfl (lv_at hl 0 rfl) ?_
  refine va_get (D := D) (ci := 4) (v := .ref mx) (C := RX4) (T := TX4) (N := 15) hx hb hts in_X4 hown hK hP 0 rfl rfl 2 (by decide) lk_20 (fun _ h9 => h9) rfl dX4_cut_1 ?_
  refine lv_iload_n hx hb dX4_cut_4 rfl (lv_at hl 1 rfl) ?_
  obtain ⟨v_5, hv_5, hs⟩ := op_bd hs
  refine gx_lald hx hb hK hP 3 1 rfl rfl hv_5 dX4_cut_5 ?_
  refine lv_aload_n hx hb dX4_cut_6 rfl (lv_at hl 0 rfl) ?_
  refine va_get (D := D) (ci := 4) (v := .ref my) (C := RX4) (T := TX4) (N := 15) hx hb hts in_X4 hown hK hP 0 rfl rfl 3 (by decide) lk_24 (fun _ h9 => h9) rfl dX4_cut_7 ?_
  refine lv_iload_n hx hb dX4_cut_10 rfl (lv_at hl 1 rfl) ?_
  obtain ⟨v_11, hv_11, hs⟩ := op_bd hs
  refine gx_lald hx hb hK hP 4 1 rfl rfl hv_11 dX4_cut_11 ?_
  refine lv_aload_n hx hb dX4_cut_12 rfl (lv_at hl 0 rfl) ?_
  refine va_get (D := D) (ci := 4) (v := .ref mx) (C := RX4) (T := TX4) (N := 15) hx hb hts in_X4 hown hK hP 0 rfl rfl 2 (by decide) lk_20 (fun _ h9 => h9) rfl dX4_cut_13 ?_
  refine lv_iload_n hx hb dX4_cut_16 rfl (lv_at hl 2 rfl) ?_
  obtain ⟨v_17, hv_17, hs⟩ := op_bd hs
  refine gx_lald hx hb hK hP 3 1 rfl rfl hv_17 dX4_cut_17 ?_
  refine lv_aload_n hx hb dX4_cut_18 rfl (lv_at hl 0 rfl) ?_
  refine va_get (D := D) (ci := 4) (v := .ref my) (C := RX4) (T := TX4) (N := 15) hx hb hts in_X4 hown hK hP 0 rfl rfl 3 (by decide) lk_24 (fun _ h9 => h9) rfl dX4_cut_19 ?_
  refine lv_iload_n hx hb dX4_cut_22 rfl (lv_at hl 2 rfl) ?_
  obtain ⟨v_23, hv_23, hs⟩ := op_bd hs
  refine gx_lald hx hb hK hP 4 1 rfl rfl hv_23 dX4_cut_23 ?_
  refine lv_aload_n hx hb dX4_cut_24 rfl (lv_at hl 0 rfl) ?_
  refine va_get (D := D) (ci := 4) (v := .ref mx) (C := RX4) (T := TX4) (N := 15) hx hb hts in_X4 hown hK hP 0 rfl rfl 2 (by decide) lk_20 (fun _ h9 => h9) rfl dX4_cut_25 ?_
  refine lv_iload_n hx hb dX4_cut_28 rfl (lv_at hl 3 rfl) ?_
  obtain ⟨v_29, hv_29, hs⟩ := op_bd hs
  refine gx_lald hx hb hK hP 3 1 rfl rfl hv_29 dX4_cut_29 ?_
  refine lv_aload_n hx hb dX4_cut_30 rfl (lv_at hl 0 rfl) ?_
  refine va_get (D := D) (ci := 4) (v := .ref my) (C := RX4) (T := TX4) (N := 15) hx hb hts in_X4 hown hK hP 0 rfl rfl 3 (by decide) lk_24 (fun _ h9 => h9) rfl dX4_cut_31 ?_
  refine lv_iload_n hx hb dX4_cut_34 rfl (lv_at hl 3 rfl) ?_
  obtain ⟨v_35, hv_35, hs⟩ := op_bd hs
  refine gx_lald hx hb hK hP 4 1 rfl rfl hv_35 dX4_cut_35 ?_
  obtain ⟨v_36, hc_36, hs⟩ := op_bd hs
  refine gx_cSi (va_Run.run (va_runS (As := [.long v_5, .long v_11, .long v_17, .long v_23, .long v_29, .long v_35]) (rest := []) ⟨hx, hb, hml, hown, hts⟩ (c_X4_isOn l D cI cJ cZ cS ad v_5 v_11 v_17 v_23 v_29 v_35 F  v_36 hc_36) (va_cwS 6 hts gX4_cut_X4_isOn rfl rfl rfl (by decide +kernel) ⟨Nat.le_of_ble_eq_true rfl, Nat.le_of_ble_eq_true rfl⟩) ⟨gl_blind, gl_ok hK hE trivial⟩ rfl rfl hl.1 rfl (lv_room (Nat.le_of_ble_eq_true rfl)) dX4_cut_36 ⟨Nat.le_of_ble_eq_true rfl, Nat.le_of_ble_eq_true rfl⟩)) ?_
  refine lv_if_ne (tgt := 174) hx hb dX4_cut_39 (by decide) (fun c_39 => ?_) (fun c_39 => ?_)
  · replace hs := it_f c_39 hs
    refine lv_iconst (v := 1) hx hb dX4_cut_174 (by decide) ?_
    obtain rfl := Option.some.inj hs
    exact W.zret hx hb hr rfl (fun t ht hW => ⟨_, rfl, rfl, ht⟩) (fun _ h => by cases h) dX4_cut_175
  · replace hs := it_t c_39 hs
    refine lv_aload_n hx hb dX4_cut_42 rfl (lv_at hl 0 rfl) ?_
    refine va_get (D := D) (ci := 4) (v := .ref mx) (C := RX4) (T := TX4) (N := 15) hx hb hts in_X4 hown hK hP 0 rfl rfl 2 (by decide) lk_20 (fun _ h9 => h9) rfl dX4_cut_43 ?_
    refine lv_iload_n hx hb dX4_cut_46 rfl (lv_at hl 1 rfl) ?_
    obtain ⟨v_47, hv_47, hs⟩ := op_bd hs
    refine gx_lald hx hb hK hP 3 1 rfl rfl hv_47 dX4_cut_47 ?_
    refine lv_aload_n hx hb dX4_cut_48 rfl (lv_at hl 0 rfl) ?_
    refine va_get (D := D) (ci := 4) (v := .ref my) (C := RX4) (T := TX4) (N := 15) hx hb hts in_X4 hown hK hP 0 rfl rfl 3 (by decide) lk_24 (fun _ h9 => h9) rfl dX4_cut_49 ?_
    refine lv_iload_n hx hb dX4_cut_52 rfl (lv_at hl 1 rfl) ?_
    obtain ⟨v_53, hv_53, hs⟩ := op_bd hs
    refine gx_lald hx hb hK hP 4 1 rfl rfl hv_53 dX4_cut_53 ?_
    refine lv_aload_n hx hb dX4_cut_54 rfl (lv_at hl 0 rfl) ?_
    refine va_get (D := D) (ci := 4) (v := .ref mx) (C := RX4) (T := TX4) (N := 15) hx hb hts in_X4 hown hK hP 0 rfl rfl 2 (by decide) lk_20 (fun _ h9 => h9) rfl dX4_cut_55 ?_
    refine lv_iload_n hx hb dX4_cut_58 rfl (lv_at hl 2 rfl) ?_
    obtain ⟨v_59, hv_59, hs⟩ := op_bd hs
    refine gx_lald hx hb hK hP 3 1 rfl rfl hv_59 dX4_cut_59 ?_
    refine lv_aload_n hx hb dX4_cut_60 rfl (lv_at hl 0 rfl) ?_
    refine va_get (D := D) (ci := 4) (v := .ref my) (C := RX4) (T := TX4) (N := 15) hx hb hts in_X4 hown hK hP 0 rfl rfl 3 (by decide) lk_24 (fun _ h9 => h9) rfl dX4_cut_61 ?_
    refine lv_iload_n hx hb dX4_cut_64 rfl (lv_at hl 2 rfl) ?_
    obtain ⟨v_65, hv_65, hs⟩ := op_bd hs
    refine gx_lald hx hb hK hP 4 1 rfl rfl hv_65 dX4_cut_65 ?_
    refine lv_aload_n hx hb dX4_cut_66 rfl (lv_at hl 0 rfl) ?_
    refine va_get (D := D) (ci := 4) (v := .ref mx) (C := RX4) (T := TX4) (N := 15) hx hb hts in_X4 hown hK hP 0 rfl rfl 2 (by decide) lk_20 (fun _ h9 => h9) rfl dX4_cut_67 ?_
    refine lv_iload hx hb dX4_cut_70 (lv_at hl 4 rfl) ?_
    obtain ⟨v_72, hv_72, hs⟩ := op_bd hs
    refine gx_lald hx hb hK hP 3 1 rfl rfl hv_72 dX4_cut_72 ?_
    refine lv_aload_n hx hb dX4_cut_73 rfl (lv_at hl 0 rfl) ?_
    refine va_get (D := D) (ci := 4) (v := .ref my) (C := RX4) (T := TX4) (N := 15) hx hb hts in_X4 hown hK hP 0 rfl rfl 3 (by decide) lk_24 (fun _ h9 => h9) rfl dX4_cut_74 ?_
    refine lv_iload hx hb dX4_cut_77 (lv_at hl 4 rfl) ?_
    obtain ⟨v_79, hv_79, hs⟩ := op_bd hs
    refine gx_lald hx hb hK hP 4 1 rfl rfl hv_79 dX4_cut_79 ?_
    obtain ⟨v_80, hc_80, hs⟩ := op_bd hs
    refine gx_cSi (va_Run.run (va_runS (As := [.long v_47, .long v_53, .long v_59, .long v_65, .long v_72, .long v_79]) (rest := []) ⟨hx, hb, hml, hown, hts⟩ (c_X4_isOn l D cI cJ cZ cS ad v_47 v_53 v_59 v_65 v_72 v_79 F  v_80 hc_80) (va_cwS 6 hts gX4_cut_X4_isOn rfl rfl rfl (by decide +kernel) ⟨Nat.le_of_ble_eq_true rfl, Nat.le_of_ble_eq_true rfl⟩) ⟨gl_blind, gl_ok hK hE trivial⟩ rfl rfl hl.1 rfl (lv_room (Nat.le_of_ble_eq_true rfl)) dX4_cut_80 ⟨Nat.le_of_ble_eq_true rfl, Nat.le_of_ble_eq_true rfl⟩)) ?_
    refine lv_if_ne (tgt := 174) hx hb dX4_cut_83 (by decide) (fun c_83 => ?_) (fun c_83 => ?_)
    · replace hs := it_f c_83 hs
      refine lv_iconst (v := 1) hx hb dX4_cut_174 (by decide) ?_
      obtain rfl := Option.some.inj hs
      exact W.zret hx hb hr rfl (fun t ht hW => ⟨_, rfl, rfl, ht⟩) (fun _ h => by cases h) dX4_cut_175
    · replace hs := it_t c_83 hs
      refine lv_aload_n hx hb dX4_cut_86 rfl (lv_at hl 0 rfl) ?_
      refine va_get (D := D) (ci := 4) (v := .ref mx) (C := RX4) (T := TX4) (N := 15) hx hb hts in_X4 hown hK hP 0 rfl rfl 2 (by decide) lk_20 (fun _ h9 => h9) rfl dX4_cut_87 ?_
      refine lv_iload_n hx hb dX4_cut_90 rfl (lv_at hl 3 rfl) ?_
      obtain ⟨v_91, hv_91, hs⟩ := op_bd hs
      refine gx_lald hx hb hK hP 3 1 rfl rfl hv_91 dX4_cut_91 ?_
      refine lv_aload_n hx hb dX4_cut_92 rfl (lv_at hl 0 rfl) ?_
      refine va_get (D := D) (ci := 4) (v := .ref my) (C := RX4) (T := TX4) (N := 15) hx hb hts in_X4 hown hK hP 0 rfl rfl 3 (by decide) lk_24 (fun _ h9 => h9) rfl dX4_cut_93 ?_
      refine lv_iload_n hx hb dX4_cut_96 rfl (lv_at hl 3 rfl) ?_
      obtain ⟨v_97, hv_97, hs⟩ := op_bd hs
      refine gx_lald hx hb hK hP 4 1 rfl rfl hv_97 dX4_cut_97 ?_
      refine lv_aload_n hx hb dX4_cut_98 rfl (lv_at hl 0 rfl) ?_
      refine va_get (D := D) (ci := 4) (v := .ref mx) (C := RX4) (T := TX4) (N := 15) hx hb hts in_X4 hown hK hP 0 rfl rfl 2 (by decide) lk_20 (fun _ h9 => h9) rfl dX4_cut_99 ?_
      refine lv_iload hx hb dX4_cut_102 (lv_at hl 4 rfl) ?_
      obtain ⟨v_104, hv_104, hs⟩ := op_bd hs
      refine gx_lald hx hb hK hP 3 1 rfl rfl hv_104 dX4_cut_104 ?_
      refine lv_aload_n hx hb dX4_cut_105 rfl (lv_at hl 0 rfl) ?_
      refine va_get (D := D) (ci := 4) (v := .ref my) (C := RX4) (T := TX4) (N := 15) hx hb hts in_X4 hown hK hP 0 rfl rfl 3 (by decide) lk_24 (fun _ h9 => h9) rfl dX4_cut_106 ?_
      refine lv_iload hx hb dX4_cut_109 (lv_at hl 4 rfl) ?_
      obtain ⟨v_111, hv_111, hs⟩ := op_bd hs
      refine gx_lald hx hb hK hP 4 1 rfl rfl hv_111 dX4_cut_111 ?_
      refine lv_aload_n hx hb dX4_cut_112 rfl (lv_at hl 0 rfl) ?_
      refine va_get (D := D) (ci := 4) (v := .ref mx) (C := RX4) (T := TX4) (N := 15) hx hb hts in_X4 hown hK hP 0 rfl rfl 2 (by decide) lk_20 (fun _ h9 => h9) rfl dX4_cut_113 ?_
      refine lv_iload_n hx hb dX4_cut_116 rfl (lv_at hl 1 rfl) ?_
      obtain ⟨v_117, hv_117, hs⟩ := op_bd hs
      refine gx_lald hx hb hK hP 3 1 rfl rfl hv_117 dX4_cut_117 ?_
      refine lv_aload_n hx hb dX4_cut_118 rfl (lv_at hl 0 rfl) ?_
      refine va_get (D := D) (ci := 4) (v := .ref my) (C := RX4) (T := TX4) (N := 15) hx hb hts in_X4 hown hK hP 0 rfl rfl 3 (by decide) lk_24 (fun _ h9 => h9) rfl dX4_cut_119 ?_
      refine lv_iload_n hx hb dX4_cut_122 rfl (lv_at hl 1 rfl) ?_
      obtain ⟨v_123, hv_123, hs⟩ := op_bd hs
      refine gx_lald hx hb hK hP 4 1 rfl rfl hv_123 dX4_cut_123 ?_
      obtain ⟨v_124, hc_124, hs⟩ := op_bd hs
      refine gx_cSi (va_Run.run (va_runS (As := [.long v_91, .long v_97, .long v_104, .long v_111, .long v_117, .long v_123]) (rest := []) ⟨hx, hb, hml, hown, hts⟩ (c_X4_isOn l D cI cJ cZ cS ad v_91 v_97 v_104 v_111 v_117 v_123 F  v_124 hc_124) (va_cwS 6 hts gX4_cut_X4_isOn rfl rfl rfl (by decide +kernel) ⟨Nat.le_of_ble_eq_true rfl, Nat.le_of_ble_eq_true rfl⟩) ⟨gl_blind, gl_ok hK hE trivial⟩ rfl rfl hl.1 rfl (lv_room (Nat.le_of_ble_eq_true rfl)) dX4_cut_124 ⟨Nat.le_of_ble_eq_true rfl, Nat.le_of_ble_eq_true rfl⟩)) ?_
      refine lv_if_ne (tgt := 174) hx hb dX4_cut_127 (by decide) (fun c_127 => ?_) (fun c_127 => ?_)
      · replace hs := it_f c_127 hs
        refine lv_iconst (v := 1) hx hb dX4_cut_174 (by decide) ?_
        obtain rfl := Option.some.inj hs
        exact W.zret hx hb hr rfl (fun t ht hW => ⟨_, rfl, rfl, ht⟩) (fun _ h => by cases h) dX4_cut_175
      · replace hs := it_t c_127 hs
        refine lv_aload_n hx hb dX4_cut_130 rfl (lv_at hl 0 rfl) ?_
        refine va_get (D := D) (ci := 4) (v := .ref mx) (C := RX4) (T := TX4) (N := 15) hx hb hts in_X4 hown hK hP 0 rfl rfl 2 (by decide) lk_20 (fun _ h9 => h9) rfl dX4_cut_131 ?_
        refine lv_iload_n hx hb dX4_cut_134 rfl (lv_at hl 3 rfl) ?_
        obtain ⟨v_135, hv_135, hs⟩ := op_bd hs
        refine gx_lald hx hb hK hP 3 1 rfl rfl hv_135 dX4_cut_135 ?_
        refine lv_aload_n hx hb dX4_cut_136 rfl (lv_at hl 0 rfl) ?_
        refine va_get (D := D) (ci := 4) (v := .ref my) (C := RX4) (T := TX4) (N := 15) hx hb hts in_X4 hown hK hP 0 rfl rfl 3 (by decide) lk_24 (fun _ h9 => h9) rfl dX4_cut_137 ?_
        refine lv_iload_n hx hb dX4_cut_140 rfl (lv_at hl 3 rfl) ?_
        obtain ⟨v_141, hv_141, hs⟩ := op_bd hs
        refine gx_lald hx hb hK hP 4 1 rfl rfl hv_141 dX4_cut_141 ?_
        refine lv_aload_n hx hb dX4_cut_142 rfl (lv_at hl 0 rfl) ?_
        refine va_get (D := D) (ci := 4) (v := .ref mx) (C := RX4) (T := TX4) (N := 15) hx hb hts in_X4 hown hK hP 0 rfl rfl 2 (by decide) lk_20 (fun _ h9 => h9) rfl dX4_cut_143 ?_
        refine lv_iload hx hb dX4_cut_146 (lv_at hl 4 rfl) ?_
        obtain ⟨v_148, hv_148, hs⟩ := op_bd hs
        refine gx_lald hx hb hK hP 3 1 rfl rfl hv_148 dX4_cut_148 ?_
        refine lv_aload_n hx hb dX4_cut_149 rfl (lv_at hl 0 rfl) ?_
        refine va_get (D := D) (ci := 4) (v := .ref my) (C := RX4) (T := TX4) (N := 15) hx hb hts in_X4 hown hK hP 0 rfl rfl 3 (by decide) lk_24 (fun _ h9 => h9) rfl dX4_cut_150 ?_
        refine lv_iload hx hb dX4_cut_153 (lv_at hl 4 rfl) ?_
        obtain ⟨v_155, hv_155, hs⟩ := op_bd hs
        refine gx_lald hx hb hK hP 4 1 rfl rfl hv_155 dX4_cut_155 ?_
        refine lv_aload_n hx hb dX4_cut_156 rfl (lv_at hl 0 rfl) ?_
        refine va_get (D := D) (ci := 4) (v := .ref mx) (C := RX4) (T := TX4) (N := 15) hx hb hts in_X4 hown hK hP 0 rfl rfl 2 (by decide) lk_20 (fun _ h9 => h9) rfl dX4_cut_157 ?_
        refine lv_iload_n hx hb dX4_cut_160 rfl (lv_at hl 2 rfl) ?_
        obtain ⟨v_161, hv_161, hs⟩ := op_bd hs
        refine gx_lald hx hb hK hP 3 1 rfl rfl hv_161 dX4_cut_161 ?_
        refine lv_aload_n hx hb dX4_cut_162 rfl (lv_at hl 0 rfl) ?_
        refine va_get (D := D) (ci := 4) (v := .ref my) (C := RX4) (T := TX4) (N := 15) hx hb hts in_X4 hown hK hP 0 rfl rfl 3 (by decide) lk_24 (fun _ h9 => h9) rfl dX4_cut_163 ?_
        refine lv_iload_n hx hb dX4_cut_166 rfl (lv_at hl 2 rfl) ?_
        obtain ⟨v_167, hv_167, hs⟩ := op_bd hs
        refine gx_lald hx hb hK hP 4 1 rfl rfl hv_167 dX4_cut_167 ?_
        obtain ⟨v_168, hc_168, hs⟩ := op_bd hs
        refine gx_cSi (va_Run.run (va_runS (As := [.long v_135, .long v_141, .long v_148, .long v_155, .long v_161, .long v_167]) (rest := []) ⟨hx, hb, hml, hown, hts⟩ (c_X4_isOn l D cI cJ cZ cS ad v_135 v_141 v_148 v_155 v_161 v_167 F  v_168 hc_168) (va_cwS 6 hts gX4_cut_X4_isOn rfl rfl rfl (by decide +kernel) ⟨Nat.le_of_ble_eq_true rfl, Nat.le_of_ble_eq_true rfl⟩) ⟨gl_blind, gl_ok hK hE trivial⟩ rfl rfl hl.1 rfl (lv_room (Nat.le_of_ble_eq_true rfl)) dX4_cut_168 ⟨Nat.le_of_ble_eq_true rfl, Nat.le_of_ble_eq_true rfl⟩)) ?_
        refine lv_if_eq (tgt := 176) hx hb dX4_cut_171 (by decide) (fun c_171 => ?_) (fun c_171 => ?_)
        · replace hs := it_t c_171 hs
          refine lv_aload_n hx hb dX4_cut_176 rfl (lv_at hl 0 rfl) ?_
          refine va_get (D := D) (ci := 4) (v := .ref mx) (C := RX4) (T := TX4) (N := 15) hx hb hts in_X4 hown hK hP 0 rfl rfl 2 (by decide) lk_20 (fun _ h9 => h9) rfl dX4_cut_177 ?_
          refine lv_iload_n hx hb dX4_cut_180 rfl (lv_at hl 1 rfl) ?_
          obtain ⟨v_181, hv_181, hs⟩ := op_bd hs
          refine gx_lald hx hb hK hP 3 1 rfl rfl hv_181 dX4_cut_181 ?_
          refine lv_aload_n hx hb dX4_cut_182 rfl (lv_at hl 0 rfl) ?_
          refine va_get (D := D) (ci := 4) (v := .ref my) (C := RX4) (T := TX4) (N := 15) hx hb hts in_X4 hown hK hP 0 rfl rfl 3 (by decide) lk_24 (fun _ h9 => h9) rfl dX4_cut_183 ?_
          refine lv_iload_n hx hb dX4_cut_186 rfl (lv_at hl 1 rfl) ?_
          obtain ⟨v_187, hv_187, hs⟩ := op_bd hs
          refine gx_lald hx hb hK hP 4 1 rfl rfl hv_187 dX4_cut_187 ?_
          refine lv_aload_n hx hb dX4_cut_188 rfl (lv_at hl 0 rfl) ?_
          refine va_get (D := D) (ci := 4) (v := .ref mx) (C := RX4) (T := TX4) (N := 15) hx hb hts in_X4 hown hK hP 0 rfl rfl 2 (by decide) lk_20 (fun _ h9 => h9) rfl dX4_cut_189 ?_
          refine lv_iload_n hx hb dX4_cut_192 rfl (lv_at hl 2 rfl) ?_
          obtain ⟨v_193, hv_193, hs⟩ := op_bd hs
          refine gx_lald hx hb hK hP 3 1 rfl rfl hv_193 dX4_cut_193 ?_
          refine lv_aload_n hx hb dX4_cut_194 rfl (lv_at hl 0 rfl) ?_
          refine va_get (D := D) (ci := 4) (v := .ref my) (C := RX4) (T := TX4) (N := 15) hx hb hts in_X4 hown hK hP 0 rfl rfl 3 (by decide) lk_24 (fun _ h9 => h9) rfl dX4_cut_195 ?_
          refine lv_iload_n hx hb dX4_cut_198 rfl (lv_at hl 2 rfl) ?_
          obtain ⟨v_199, hv_199, hs⟩ := op_bd hs
          refine gx_lald hx hb hK hP 4 1 rfl rfl hv_199 dX4_cut_199 ?_
          refine lv_aload_n hx hb dX4_cut_200 rfl (lv_at hl 0 rfl) ?_
          refine va_get (D := D) (ci := 4) (v := .ref mx) (C := RX4) (T := TX4) (N := 15) hx hb hts in_X4 hown hK hP 0 rfl rfl 2 (by decide) lk_20 (fun _ h9 => h9) rfl dX4_cut_201 ?_
          refine lv_iload_n hx hb dX4_cut_204 rfl (lv_at hl 3 rfl) ?_
          obtain ⟨v_205, hv_205, hs⟩ := op_bd hs
          refine gx_lald hx hb hK hP 3 1 rfl rfl hv_205 dX4_cut_205 ?_
          refine lv_aload_n hx hb dX4_cut_206 rfl (lv_at hl 0 rfl) ?_
          refine va_get (D := D) (ci := 4) (v := .ref my) (C := RX4) (T := TX4) (N := 15) hx hb hts in_X4 hown hK hP 0 rfl rfl 3 (by decide) lk_24 (fun _ h9 => h9) rfl dX4_cut_207 ?_
          refine lv_iload_n hx hb dX4_cut_210 rfl (lv_at hl 3 rfl) ?_
          obtain ⟨v_211, hv_211, hs⟩ := op_bd hs
          refine gx_lald hx hb hK hP 4 1 rfl rfl hv_211 dX4_cut_211 ?_
          obtain ⟨v_212, hc_212, hs⟩ := op_bd hs
          refine gx_cSi (va_Run.run (va_runS (As := [.long v_181, .long v_187, .long v_193, .long v_199, .long v_205, .long v_211]) (rest := []) ⟨hx, hb, hml, hown, hts⟩ (c_X4_hand l D cI cJ cZ cS ad v_181 v_187 v_193 v_199 v_205 v_211 F  v_212 hc_212) (va_cwS 6 hts gX4_cut_X4_hand rfl rfl rfl (by decide +kernel) ⟨Nat.le_of_ble_eq_true rfl, Nat.le_of_ble_eq_true rfl⟩) ⟨gl_blind, gl_ok hK hE trivial⟩ rfl rfl hl.1 rfl (lv_room (Nat.le_of_ble_eq_true rfl)) dX4_cut_212 ⟨Nat.le_of_ble_eq_true rfl, Nat.le_of_ble_eq_true rfl⟩)) ?_
          refine lv_aload_n hx hb dX4_cut_215 rfl (lv_at hl 0 rfl) ?_
          refine va_get (D := D) (ci := 4) (v := .ref mx) (C := RX4) (T := TX4) (N := 15) hx hb hts in_X4 hown hK hP 0 rfl rfl 2 (by decide) lk_20 (fun _ h9 => h9) rfl dX4_cut_216 ?_
          refine lv_iload_n hx hb dX4_cut_219 rfl (lv_at hl 1 rfl) ?_
          obtain ⟨v_220, hv_220, hs⟩ := op_bd hs
          refine gx_lald hx hb hK hP 3 1 rfl rfl hv_220 dX4_cut_220 ?_
          refine lv_aload_n hx hb dX4_cut_221 rfl (lv_at hl 0 rfl) ?_
          refine va_get (D := D) (ci := 4) (v := .ref my) (C := RX4) (T := TX4) (N := 15) hx hb hts in_X4 hown hK hP 0 rfl rfl 3 (by decide) lk_24 (fun _ h9 => h9) rfl dX4_cut_222 ?_
          refine lv_iload_n hx hb dX4_cut_225 rfl (lv_at hl 1 rfl) ?_
          obtain ⟨v_226, hv_226, hs⟩ := op_bd hs
          refine gx_lald hx hb hK hP 4 1 rfl rfl hv_226 dX4_cut_226 ?_
          refine lv_aload_n hx hb dX4_cut_227 rfl (lv_at hl 0 rfl) ?_
          refine va_get (D := D) (ci := 4) (v := .ref mx) (C := RX4) (T := TX4) (N := 15) hx hb hts in_X4 hown hK hP 0 rfl rfl 2 (by decide) lk_20 (fun _ h9 => h9) rfl dX4_cut_228 ?_
          refine lv_iload_n hx hb dX4_cut_231 rfl (lv_at hl 2 rfl) ?_
          obtain ⟨v_232, hv_232, hs⟩ := op_bd hs
          refine gx_lald hx hb hK hP 3 1 rfl rfl hv_232 dX4_cut_232 ?_
          refine lv_aload_n hx hb dX4_cut_233 rfl (lv_at hl 0 rfl) ?_
          refine va_get (D := D) (ci := 4) (v := .ref my) (C := RX4) (T := TX4) (N := 15) hx hb hts in_X4 hown hK hP 0 rfl rfl 3 (by decide) lk_24 (fun _ h9 => h9) rfl dX4_cut_234 ?_
          refine lv_iload_n hx hb dX4_cut_237 rfl (lv_at hl 2 rfl) ?_
          obtain ⟨v_238, hv_238, hs⟩ := op_bd hs
          refine gx_lald hx hb hK hP 4 1 rfl rfl hv_238 dX4_cut_238 ?_
          refine lv_aload_n hx hb dX4_cut_239 rfl (lv_at hl 0 rfl) ?_
          refine va_get (D := D) (ci := 4) (v := .ref mx) (C := RX4) (T := TX4) (N := 15) hx hb hts in_X4 hown hK hP 0 rfl rfl 2 (by decide) lk_20 (fun _ h9 => h9) rfl dX4_cut_240 ?_
          refine lv_iload hx hb dX4_cut_243 (lv_at hl 4 rfl) ?_
          obtain ⟨v_245, hv_245, hs⟩ := op_bd hs
          refine gx_lald hx hb hK hP 3 1 rfl rfl hv_245 dX4_cut_245 ?_
          refine lv_aload_n hx hb dX4_cut_246 rfl (lv_at hl 0 rfl) ?_
          refine va_get (D := D) (ci := 4) (v := .ref my) (C := RX4) (T := TX4) (N := 15) hx hb hts in_X4 hown hK hP 0 rfl rfl 3 (by decide) lk_24 (fun _ h9 => h9) rfl dX4_cut_247 ?_
          refine lv_iload hx hb dX4_cut_250 (lv_at hl 4 rfl) ?_
          obtain ⟨v_252, hv_252, hs⟩ := op_bd hs
          refine gx_lald hx hb hK hP 4 1 rfl rfl hv_252 dX4_cut_252 ?_
          obtain ⟨v_253, hc_253, hs⟩ := op_bd hs
          refine gx_cSi (va_Run.run (va_runS (As := [.long v_220, .long v_226, .long v_232, .long v_238, .long v_245, .long v_252]) (rest := [.int v_212]) ⟨hx, hb, hml, hown, hts⟩ (c_X4_hand l D cI cJ cZ cS ad v_220 v_226 v_232 v_238 v_245 v_252 F  v_253 hc_253) (va_cwS 6 hts gX4_cut_X4_hand rfl rfl rfl (by decide +kernel) ⟨Nat.le_of_ble_eq_true rfl, Nat.le_of_ble_eq_true rfl⟩) ⟨gl_blind, gl_ok hK hE trivial⟩ rfl rfl hl.1 rfl (lv_room (Nat.le_of_ble_eq_true rfl)) dX4_cut_253 ⟨Nat.le_of_ble_eq_true rfl, Nat.le_of_ble_eq_true rfl⟩)) ?_
          refine lv_imul hx hb dX4_cut_256 ?_
          obtain ⟨e_257, hv_257, hs⟩ := op_bd hs
          refine gx_ni (Option.some.inj hv_257) ?_
          refine lv_istore (lv' := [(5, .int e_257), (0, .ref m0), (1, .int p1), (2, .int p2), (3, .int p3), (4, .int p4)]) hx hb dX4_cut_257 hl (by decide) rfl (fun ls hl => ?_)
          refine lv_aload_n hx hb dX4_cut_259 rfl (lv_at hl 1 rfl) ?_
          refine va_get (D := D) (ci := 4) (v := .ref mx) (C := RX4) (T := TX4) (N := 15) hx hb hts in_X4 hown hK hP 0 rfl rfl 2 (by decide) lk_20 (fun _ h9 => h9) rfl dX4_cut_260 ?_
          refine lv_iload_n hx hb dX4_cut_263 rfl (lv_at hl 4 rfl) ?_
          obtain ⟨v_264, hv_264, hs⟩ := op_bd hs
          refine gx_lald hx hb hK hP 3 1 rfl rfl hv_264 dX4_cut_264 ?_
          refine lv_aload_n hx hb dX4_cut_265 rfl (lv_at hl 1 rfl) ?_
          refine va_get (D := D) (ci := 4) (v := .ref my) (C := RX4) (T := TX4) (N := 15) hx hb hts in_X4 hown hK hP 0 rfl rfl 3 (by decide) lk_24 (fun _ h9 => h9) rfl dX4_cut_266 ?_
          refine lv_iload_n hx hb dX4_cut_269 rfl (lv_at hl 4 rfl) ?_
          obtain ⟨v_270, hv_270, hs⟩ := op_bd hs
          refine gx_lald hx hb hK hP 4 1 rfl rfl hv_270 dX4_cut_270 ?_
          refine lv_aload_n hx hb dX4_cut_271 rfl (lv_at hl 1 rfl) ?_
          refine va_get (D := D) (ci := 4) (v := .ref mx) (C := RX4) (T := TX4) (N := 15) hx hb hts in_X4 hown hK hP 0 rfl rfl 2 (by decide) lk_20 (fun _ h9 => h9) rfl dX4_cut_272 ?_
          refine lv_iload hx hb dX4_cut_275 (lv_at hl 5 rfl) ?_
          obtain ⟨v_277, hv_277, hs⟩ := op_bd hs
          refine gx_lald hx hb hK hP 3 1 rfl rfl hv_277 dX4_cut_277 ?_
          refine lv_aload_n hx hb dX4_cut_278 rfl (lv_at hl 1 rfl) ?_
          refine va_get (D := D) (ci := 4) (v := .ref my) (C := RX4) (T := TX4) (N := 15) hx hb hts in_X4 hown hK hP 0 rfl rfl 3 (by decide) lk_24 (fun _ h9 => h9) rfl dX4_cut_279 ?_
          refine lv_iload hx hb dX4_cut_282 (lv_at hl 5 rfl) ?_
          obtain ⟨v_284, hv_284, hs⟩ := op_bd hs
          refine gx_lald hx hb hK hP 4 1 rfl rfl hv_284 dX4_cut_284 ?_
          refine lv_aload_n hx hb dX4_cut_285 rfl (lv_at hl 1 rfl) ?_
          refine va_get (D := D) (ci := 4) (v := .ref mx) (C := RX4) (T := TX4) (N := 15) hx hb hts in_X4 hown hK hP 0 rfl rfl 2 (by decide) lk_20 (fun _ h9 => h9) rfl dX4_cut_286 ?_
          refine lv_iload_n hx hb dX4_cut_289 rfl (lv_at hl 2 rfl) ?_
          obtain ⟨v_290, hv_290, hs⟩ := op_bd hs
          refine gx_lald hx hb hK hP 3 1 rfl rfl hv_290 dX4_cut_290 ?_
          refine lv_aload_n hx hb dX4_cut_291 rfl (lv_at hl 1 rfl) ?_
          refine va_get (D := D) (ci := 4) (v := .ref my) (C := RX4) (T := TX4) (N := 15) hx hb hts in_X4 hown hK hP 0 rfl rfl 3 (by decide) lk_24 (fun _ h9 => h9) rfl dX4_cut_292 ?_
          refine lv_iload_n hx hb dX4_cut_295 rfl (lv_at hl 2 rfl) ?_
          obtain ⟨v_296, hv_296, hs⟩ := op_bd hs
          refine gx_lald hx hb hK hP 4 1 rfl rfl hv_296 dX4_cut_296 ?_
          obtain ⟨v_297, hc_297, hs⟩ := op_bd hs
          refine gx_cSi (va_Run.run (va_runS (As := [.long v_264, .long v_270, .long v_277, .long v_284, .long v_290, .long v_296]) (rest := []) ⟨hx, hb, hml, hown, hts⟩ (c_X4_hand l D cI cJ cZ cS ad v_264 v_270 v_277 v_284 v_290 v_296 F  v_297 hc_297) (va_cwS 6 hts gX4_cut_X4_hand rfl rfl rfl (by decide +kernel) ⟨Nat.le_of_ble_eq_true rfl, Nat.le_of_ble_eq_true rfl⟩) ⟨gl_blind, gl_ok hK hE trivial⟩ rfl rfl hl.1 rfl (lv_room (Nat.le_of_ble_eq_true rfl)) dX4_cut_297 ⟨Nat.le_of_ble_eq_true rfl, Nat.le_of_ble_eq_true rfl⟩)) ?_
          refine lv_aload_n hx hb dX4_cut_300 rfl (lv_at hl 1 rfl) ?_
          refine va_get (D := D) (ci := 4) (v := .ref mx) (C := RX4) (T := TX4) (N := 15) hx hb hts in_X4 hown hK hP 0 rfl rfl 2 (by decide) lk_20 (fun _ h9 => h9) rfl dX4_cut_301 ?_
          refine lv_iload_n hx hb dX4_cut_304 rfl (lv_at hl 4 rfl) ?_
          obtain ⟨v_305, hv_305, hs⟩ := op_bd hs
          refine gx_lald hx hb hK hP 3 1 rfl rfl hv_305 dX4_cut_305 ?_
          refine lv_aload_n hx hb dX4_cut_306 rfl (lv_at hl 1 rfl) ?_
          refine va_get (D := D) (ci := 4) (v := .ref my) (C := RX4) (T := TX4) (N := 15) hx hb hts in_X4 hown hK hP 0 rfl rfl 3 (by decide) lk_24 (fun _ h9 => h9) rfl dX4_cut_307 ?_
          refine lv_iload_n hx hb dX4_cut_310 rfl (lv_at hl 4 rfl) ?_
          obtain ⟨v_311, hv_311, hs⟩ := op_bd hs
          refine gx_lald hx hb hK hP 4 1 rfl rfl hv_311 dX4_cut_311 ?_
          refine lv_aload_n hx hb dX4_cut_312 rfl (lv_at hl 1 rfl) ?_
          refine va_get (D := D) (ci := 4) (v := .ref mx) (C := RX4) (T := TX4) (N := 15) hx hb hts in_X4 hown hK hP 0 rfl rfl 2 (by decide) lk_20 (fun _ h9 => h9) rfl dX4_cut_313 ?_
          refine lv_iload hx hb dX4_cut_316 (lv_at hl 5 rfl) ?_
          obtain ⟨v_318, hv_318, hs⟩ := op_bd hs
          refine gx_lald hx hb hK hP 3 1 rfl rfl hv_318 dX4_cut_318 ?_
          refine lv_aload_n hx hb dX4_cut_319 rfl (lv_at hl 1 rfl) ?_
          refine va_get (D := D) (ci := 4) (v := .ref my) (C := RX4) (T := TX4) (N := 15) hx hb hts in_X4 hown hK hP 0 rfl rfl 3 (by decide) lk_24 (fun _ h9 => h9) rfl dX4_cut_320 ?_
          refine lv_iload hx hb dX4_cut_323 (lv_at hl 5 rfl) ?_
          obtain ⟨v_325, hv_325, hs⟩ := op_bd hs
          refine gx_lald hx hb hK hP 4 1 rfl rfl hv_325 dX4_cut_325 ?_
          refine lv_aload_n hx hb dX4_cut_326 rfl (lv_at hl 1 rfl) ?_
          refine va_get (D := D) (ci := 4) (v := .ref mx) (C := RX4) (T := TX4) (N := 15) hx hb hts in_X4 hown hK hP 0 rfl rfl 2 (by decide) lk_20 (fun _ h9 => h9) rfl dX4_cut_327 ?_
          refine lv_iload_n hx hb dX4_cut_330 rfl (lv_at hl 3 rfl) ?_
          obtain ⟨v_331, hv_331, hs⟩ := op_bd hs
          refine gx_lald hx hb hK hP 3 1 rfl rfl hv_331 dX4_cut_331 ?_
          refine lv_aload_n hx hb dX4_cut_332 rfl (lv_at hl 1 rfl) ?_
          refine va_get (D := D) (ci := 4) (v := .ref my) (C := RX4) (T := TX4) (N := 15) hx hb hts in_X4 hown hK hP 0 rfl rfl 3 (by decide) lk_24 (fun _ h9 => h9) rfl dX4_cut_333 ?_
          refine lv_iload_n hx hb dX4_cut_336 rfl (lv_at hl 3 rfl) ?_
          obtain ⟨v_337, hv_337, hs⟩ := op_bd hs
          refine gx_lald hx hb hK hP 4 1 rfl rfl hv_337 dX4_cut_337 ?_
          obtain ⟨v_338, hc_338, hs⟩ := op_bd hs
          refine gx_cSi (va_Run.run (va_runS (As := [.long v_305, .long v_311, .long v_318, .long v_325, .long v_331, .long v_337]) (rest := [.int v_297]) ⟨hx, hb, hml, hown, hts⟩ (c_X4_hand l D cI cJ cZ cS ad v_305 v_311 v_318 v_325 v_331 v_337 F  v_338 hc_338) (va_cwS 6 hts gX4_cut_X4_hand rfl rfl rfl (by decide +kernel) ⟨Nat.le_of_ble_eq_true rfl, Nat.le_of_ble_eq_true rfl⟩) ⟨gl_blind, gl_ok hK hE trivial⟩ rfl rfl hl.1 rfl (lv_room (Nat.le_of_ble_eq_true rfl)) dX4_cut_338 ⟨Nat.le_of_ble_eq_true rfl, Nat.le_of_ble_eq_true rfl⟩)) ?_
          refine lv_imul hx hb dX4_cut_341 ?_
          obtain ⟨e_342, hv_342, hs⟩ := op_bd hs
          refine gx_ni (Option.some.inj hv_342) ?_
          refine lv_istore (lv' := [(6, .int e_342), (5, .int e_257), (0, .ref m0), (1, .int p1), (2, .int p2), (3, .int p3), (4, .int p4)]) hx hb dX4_cut_342 hl (by decide) rfl (fun ls hl => ?_)
          refine lv_iload hx hb dX4_cut_344 (lv_at hl 1 rfl) ?_
          refine lv_if_ge (tgt := 358) hx hb dX4_cut_346 (by decide) (fun c_346 => ?_) (fun c_346 => ?_)
          · replace hs := it_t c_346 hs
            refine lv_iconst (v := 0) hx hb dX4_cut_358 (by decide) ?_
            obtain rfl := Option.some.inj hs
            exact W.zret hx hb hr rfl (fun t ht hW => ⟨_, rfl, rfl, ht⟩) (fun _ h => by cases h) dX4_cut_359
          · replace hs := it_f c_346 hs
            refine lv_iload hx hb dX4_cut_349 (lv_at hl 0 rfl) ?_
            refine lv_if_ge (tgt := 358) hx hb dX4_cut_351 (by decide) (fun c_351 => ?_) (fun c_351 => ?_)
            · replace hs := it_t c_351 hs
              refine lv_iconst (v := 0) hx hb dX4_cut_358 (by decide) ?_
              obtain rfl := Option.some.inj hs
              exact W.zret hx hb hr rfl (fun t ht hW => ⟨_, rfl, rfl, ht⟩) (fun _ h => by cases h) dX4_cut_359
            · replace hs := it_f c_351 hs
              refine lv_iconst (v := 1) hx hb dX4_cut_354 (by decide) ?_
              refine lv_goto (tgt := 359) hx hb dX4_cut_355 (by decide) ?_
              obtain rfl := Option.some.inj hs
              exact W.zret hx hb hr rfl (fun t ht hW => ⟨_, rfl, rfl, ht⟩) (fun _ h => by cases h) dX4_cut_359
        · replace hs := it_f c_171 hs
          refine lv_iconst (v := 1) hx hb dX4_cut_174 (by decide) ?_
          obtain rfl := Option.some.inj hs
          exact W.zret hx hb hr rfl (fun t ht hW => ⟨_, rfl, rfl, ht⟩) (fun _ h => by cases h) dX4_cut_175
