def s_X4_weigh_26 (F : Nat) (M : mo_T) (p1 : Int64) (p2 : Int64) (N : mo_T) : Option mo_T :=
  some (ms_l (ms_u N p1) p2)
def s_X4_weigh (F : Nat) (M : mo_T) (p1 : Int64) (p2 : Int64) : Option mo_T :=
  if (lg_cmp (mo_l M) 0) = 0 then
    s_X4_weigh_26 F M p1 p2 M
  else
    (s_X4_isLess F p1 p2 (mo_u M) (mo_l M)).bind fun v_19 =>
    if v_19 = 0 then
      some M
    else
      s_X4_weigh_26 F M p1 p2 M
abbrev rm_X4_weigh : Room := { frames := 1, cells := 0, slots := 0, locals := 40 }
theorem in_X4_weigh_X4 : ∀ w ∈ wsX40, w ∈ wsX4_weigh := by decide +kernel
set_option maxHeartbeats 4000000 in
set_option maxRecDepth 100000 in
theorem c_X4_weigh (l : Launch) (D : va_G) (cI cJ cZ cS : ClassId) (ad : Nat → Nat) (m0 mk mc mx my mf mp mq mb : Nat) (sz : Nat) (M : mo_T) (p1 : Int64) (p2 : Int64) (F : Nat)  (r : mo_T) (hs : s_X4_weigh F M p1 p2 = some r) : Met l yX4_weigh wsX4_weigh rm_X4_weigh (gm_P D cI cJ cZ cS ad sz (mo_w cI cJ cZ m0 mk mc mx my mf mp mq mb M) ([]) [.ref m0, .long p1, .long p2]) (va_Qv (fun u : mo_T => u = r) (fun u t => va_P D vwCl (mo_w cI cJ cZ m0 mk mc mx my mf mp mq mb u) t.heap ∧ va_D (va_A (mo_w cI cJ cZ m0 mk mc mx my mf mp mq mb M) sz) (mo_w cI cJ cZ m0 mk mc mx my mf mp mq mb u)) (va_A (mo_w cI cJ cZ m0 mk mc mx my mf mp mq mb M) sz)) 0 0 (va_A (mo_w cI cJ cZ m0 mk mc mx my mf mp mq mb M) sz) := by
  refine Met.ofW (cc := cX4_weigh) (maxL := 5) (ret := none) (by decide) rfl ?_
  intro p e s m args below meth c s₁ B hml hv
  obtain ⟨rfl, hsz, hK, hE, hP, hD0, hR, hRn0⟩ := hv
  have hx := B.exec
  have hb := B.bytes
  have hr := B.returns
  have hts := atoms_spec (ws := wsX4_weigh) B.pre
  have hown : s.vm.findClass RX4 = some m.cls := findClass_of_methodNamed B.named
  have hlocks := B.notSynchronized
  subst hsz
  have hD := hD0.self (sz := s.heap.size)
  have hRn := gx_rn0 hR hRn0
  generalize hAe : va_A (mo_w cI cJ cZ m0 mk mc mx my mf mp mq mb M) s.heap.size = A at hD hE hRn ⊢
  have hA : ∀ q : Nat, s.heap.size ≤ q → A q := fun q h => by rw [← hAe]; exact Or.inr h
  have hS : va_S A s.heap s.heap [] := va_S.rf
  have lk_115 := hts (.fieldLink RX4 115 "PlacePointsModel" "lower" "J") (by decide +kernel)
  have lk_119 := hts (.fieldLink RX4 119 "PlacePointsModel" "upper" "J") (by decide +kernel)
  have in_X4 := in_X4_weigh_X4
  have J_26 : ∀ (N : mo_T), s_X4_weigh_26 F M p1 p2 N = some r → ∀ (H : Heap) (locs : List Loc), va_P D vwCl (mo_w cI cJ cZ m0 mk mc mx my mf mp mq mb N) H → va_D A (mo_w cI cJ cZ m0 mk mc mx my mf mp mq mb N) → va_S A s.heap H locs → ∀ ls : Array Slot, lv_has ls 5 [(0, .ref m0), (1, .long p1), (3, .long p2)] → W p l e (headSpec wsX4_weigh rm_X4_weigh).room s m ([.ref m0, .long p1, .long p2] : List Value).toArray below meth c H locs 0 0 (MQ below (va_Qv (fun u : mo_T => u = r) (fun u t => va_P D vwCl (mo_w cI cJ cZ m0 mk mc mx my mf mp mq mb u) t.heap ∧ va_D (A) (mo_w cI cJ cZ m0 mk mc mx my mf mp mq mb u)) (A)) ([.ref m0, .long p1, .long p2] : List Value).toArray s 0 0 (A)) (F0 m 26 ls []) := by
    intro N hs H locs hP hD hS ls hl
    rw [s_X4_weigh_26] at hs
    refine lv_aload_n hx hb dX4_weigh_26 rfl (lv_at hl 0 rfl) ?_
    refine lv_lload_n hx hb dX4_weigh_27 rfl (lv_at hl 1 rfl) ?_
    refine va_put (D := D) (ci := 4) (v := .long p1) (ty := .long) (C := RX4) (T := TX4) (N := 15) hx hb hts in_X4 tyX4 tyX4_ok nmX4 hown hK hP hD hS 0 rfl rfl 9 (by decide) lk_119 (fun _ h9 => h9) rfl (by decide +kernel) rfl rfl (Nat.le_of_ble_eq_true rfl) dX4_weigh_28 (fun H locs hP hD hS => ?_)
    have hP : va_P D vwCl (mo_w cI cJ cZ m0 mk mc mx my mf mp mq mb (ms_u N p1)) H := hP
    have hD : va_D A (mo_w cI cJ cZ m0 mk mc mx my mf mp mq mb (ms_u N p1)) := hD
    refine lv_aload_n hx hb dX4_weigh_31 rfl (lv_at hl 0 rfl) ?_
    refine lv_lload_n hx hb dX4_weigh_32 rfl (lv_at hl 2 rfl) ?_
    refine va_put (D := D) (ci := 4) (v := .long p2) (ty := .long) (C := RX4) (T := TX4) (N := 15) hx hb hts in_X4 tyX4 tyX4_ok nmX4 hown hK hP hD hS 0 rfl rfl 10 (by decide) lk_115 (fun _ h9 => h9) rfl (by decide +kernel) rfl rfl (Nat.le_of_ble_eq_true rfl) dX4_weigh_33 (fun H locs hP hD hS => ?_)
    have hP : va_P D vwCl (mo_w cI cJ cZ m0 mk mc mx my mf mp mq mb (ms_l (ms_u N p1) p2)) H := hP
    have hD : va_D A (mo_w cI cJ cZ m0 mk mc mx my mf mp mq mb (ms_l (ms_u N p1) p2)) := hD
    obtain rfl := Option.some.inj hs
    exact W.vret hx hb hr (fun t ht hW => ⟨⟨_, rfl, rfl, by rw [ht]; exact hP, hD⟩, hS.F ht⟩) hS.2.2 dX4_weigh_36
  have hl := lv_entry ([.ref m0, .long p1, .long p2]) (n := 5) (Nat.le_of_ble_eq_true rfl)
  rw [lg_entry_eq]
  generalize (lg_sl ([.ref m0, .long p1, .long p2]) ++ List.replicate (5 - (lg_sl ([.ref m0, .long p1, .long p2])).length) Slot.unset).toArray = ls at hl ⊢
  have hl : lv_has ls 5 [(0, .ref m0), (1, .long p1), (3, .long p2)] := hl
  rw [s_X4_weigh] at hs
  refine lv_aload_n hx hb dX4_weigh_0 rfl (lv_at hl 0 rfl) ?_
  refine va_get (D := D) (ci := 4) (v := .long (mo_l M)) (C := RX4) (T := TX4) (N := 15) hx hb hts in_X4 hown hK hP 0 rfl rfl 10 (by decide) lk_115 (fun _ h9 => h9) rfl dX4_weigh_1 ?_
  refine lv_lconst (v := 0) hx hb dX4_weigh_4 (by decide) ?_
  refine W.lcmp hx hb dX4_weigh_5 ?_
  refine lv_if_eq (tgt := 26) hx hb dX4_weigh_6 (by decide) (fun c_6 => ?_) (fun c_6 => ?_)
  · replace hs := it_t c_6 hs
    exact J_26 M hs _ _ hP hD hS _ (lv_sub hl [0, 1, 2] rfl)
  · replace hs := it_f c_6 hs
    refine lv_lload_n hx hb dX4_weigh_9 rfl (lv_at hl 1 rfl) ?_
    refine lv_lload_n hx hb dX4_weigh_10 rfl (lv_at hl 2 rfl) ?_
    refine lv_aload_n hx hb dX4_weigh_11 rfl (lv_at hl 0 rfl) ?_
    refine va_get (D := D) (ci := 4) (v := .long (mo_u M)) (C := RX4) (T := TX4) (N := 15) hx hb hts in_X4 hown hK hP 0 rfl rfl 9 (by decide) lk_119 (fun _ h9 => h9) rfl dX4_weigh_12 ?_
    refine lv_aload_n hx hb dX4_weigh_15 rfl (lv_at hl 0 rfl) ?_
    refine va_get (D := D) (ci := 4) (v := .long (mo_l M)) (C := RX4) (T := TX4) (N := 15) hx hb hts in_X4 hown hK hP 0 rfl rfl 10 (by decide) lk_115 (fun _ h9 => h9) rfl dX4_weigh_16 ?_
    obtain ⟨v_19, hc_19, hs⟩ := op_bd hs
    refine gx_cSi (va_Run.run (va_runS (As := [.long p1, .long p2, .long (mo_u M), .long (mo_l M)]) (rest := []) ⟨hx, hb, hml, hown, hts⟩ (c_X4_isLess l D cI cJ cZ cS ad p1 p2 (mo_u M) (mo_l M) F  v_19 hc_19) (va_cwS 4 hts gX4_weigh_X4_isLess rfl rfl rfl (by decide +kernel) ⟨Nat.le_of_ble_eq_true rfl, Nat.le_of_ble_eq_true rfl⟩) ⟨gl_blind, gl_ok hK (gl_Ek hE hS) trivial⟩ rfl rfl hl.1 rfl (lv_room (Nat.le_of_ble_eq_true rfl)) dX4_weigh_19 ⟨Nat.le_of_ble_eq_true rfl, Nat.le_of_ble_eq_true rfl⟩)) ?_
    refine lv_if_ne (tgt := 26) hx hb dX4_weigh_22 (by decide) (fun c_22 => ?_) (fun c_22 => ?_)
    · replace hs := it_f c_22 hs
      exact J_26 M hs _ _ hP hD hS _ (lv_sub hl [0, 1, 2] rfl)
    · replace hs := it_t c_22 hs
      obtain rfl := Option.some.inj hs
      exact W.vret hx hb hr (fun t ht hW => ⟨⟨_, rfl, rfl, by rw [ht]; exact hP, hD⟩, hS.F ht⟩) hS.2.2 dX4_weigh_25
def s_X4_weighSide (F : Nat) (M : mo_T) (p1 : Int64) (p2 : Int64) (p3 : Int32) (p4 : Int32) : Option mo_T :=
  (rd_l 1500 (mo_x M) p4).bind fun v_6 =>
  (rd_l 1500 (mo_x M) p3).bind fun v_13 =>
  (some ((v_6 - v_13))).bind fun e_15 =>
  (rd_l 1500 (mo_y M) p4).bind fun v_23 =>
  (rd_l 1500 (mo_y M) p3).bind fun v_30 =>
  (some ((v_23 - v_30))).bind fun e_32 =>
  (rd_l 1500 (mo_x M) p3).bind fun v_41 =>
  (some ((p1 - v_41))).bind fun e_43 =>
  (rd_l 1500 (mo_y M) p3).bind fun v_52 =>
  (some ((p2 - v_52))).bind fun e_54 =>
  (some (((e_43 * e_15) + (e_54 * e_32)))).bind fun e_67 =>
  (some (((e_15 * e_15) + (e_32 * e_32)))).bind fun e_80 =>
  if 0 < (lg_cmp e_67 0) then
    if (lg_cmp e_67 e_80) < 0 then
      (s_X4_cross F e_15 e_32 e_43 e_54).bind fun v_171 =>
      (s_X4_divisor F (v_171 * v_171) e_80).bind fun v_183 =>
      (nz_l v_183).bind fun _ =>
      (nz_l v_183).bind fun _ =>
      (s_X4_weigh F M ((v_171 * v_171) / v_183) (e_80 / v_183)).bind fun v_202 =>
      some v_202
    else
      (rd_l 1500 (mo_x M) p4).bind fun v_124 =>
      (rd_l 1500 (mo_x M) p4).bind fun v_133 =>
      (rd_l 1500 (mo_y M) p4).bind fun v_143 =>
      (rd_l 1500 (mo_y M) p4).bind fun v_152 =>
      (s_X4_weigh F M (((p1 - v_124) * (p1 - v_133)) + ((p2 - v_143) * (p2 - v_152))) 1).bind fun v_157 =>
      some v_157
  else
    (s_X4_weigh F M ((e_43 * e_43) + (e_54 * e_54)) 1).bind fun v_102 =>
    some v_102
abbrev rm_X4_weighSide : Room := { frames := 2, cells := 0, slots := 0, locals := 64 }
theorem in_X4_weighSide_X4 : ∀ w ∈ wsX40, w ∈ wsX4_weighSide := by decide +kernel
set_option maxHeartbeats 4000000 in
set_option maxRecDepth 100000 in
theorem c_X4_weighSide (l : Launch) (D : va_G) (cI cJ cZ cS : ClassId) (ad : Nat → Nat) (m0 mk mc mx my mf mp mq mb : Nat) (sz : Nat) (M : mo_T) (p1 : Int64) (p2 : Int64) (p3 : Int32) (p4 : Int32) (F : Nat)  (r : mo_T) (hs : s_X4_weighSide F M p1 p2 p3 p4 = some r) : Met l yX4_weighSide wsX4_weighSide rm_X4_weighSide (gm_P D cI cJ cZ cS ad sz (mo_w cI cJ cZ m0 mk mc mx my mf mp mq mb M) ([]) [.ref m0, .long p1, .long p2, .int p3, .int p4]) (va_Qv (fun u : mo_T => u = r) (fun u t => va_P D vwCl (mo_w cI cJ cZ m0 mk mc mx my mf mp mq mb u) t.heap ∧ va_D (va_A (mo_w cI cJ cZ m0 mk mc mx my mf mp mq mb M) sz) (mo_w cI cJ cZ m0 mk mc mx my mf mp mq mb u)) (va_A (mo_w cI cJ cZ m0 mk mc mx my mf mp mq mb M) sz)) 0 0 (va_A (mo_w cI cJ cZ m0 mk mc mx my mf mp mq mb M) sz) := by
  refine Met.ofW (cc := cX4_weighSide) (maxL := 23) (ret := none) (by decide) rfl ?_
  intro p e s m args below meth c s₁ B hml hv
  obtain ⟨rfl, hsz, hK, hE, hP, hD0, hR, hRn0⟩ := hv
  have hx := B.exec
  have hb := B.bytes
  have hr := B.returns
  have hts := atoms_spec (ws := wsX4_weighSide) B.pre
  have hown : s.vm.findClass RX4 = some m.cls := findClass_of_methodNamed B.named
  have hlocks := B.notSynchronized
  subst hsz
  have hD := hD0.self (sz := s.heap.size)
  have hRn := gx_rn0 hR hRn0
  generalize hAe : va_A (mo_w cI cJ cZ m0 mk mc mx my mf mp mq mb M) s.heap.size = A at hD hE hRn ⊢
  have hA : ∀ q : Nat, s.heap.size ≤ q → A q := fun q h => by rw [← hAe]; exact Or.inr h
  have hS : va_S A s.heap s.heap [] := va_S.rf
  have lk_20 := hts (.fieldLink RX4 20 "PlacePointsModel" "xs" "[J") (by decide +kernel)
  have lk_24 := hts (.fieldLink RX4 24 "PlacePointsModel" "ys" "[J") (by decide +kernel)
  have in_X4 := in_X4_weighSide_X4
  have hl := lv_entry ([.ref m0, .long p1, .long p2, .int p3, .int p4]) (n := 23) (Nat.le_of_ble_eq_true rfl)
  rw [lg_entry_eq]
  generalize (lg_sl ([.ref m0, .long p1, .long p2, .int p3, .int p4]) ++ List.replicate (23 - (lg_sl ([.ref m0, .long p1, .long p2, .int p3, .int p4])).length) Slot.unset).toArray = ls at hl ⊢
  have hl : lv_has ls 23 [(0, .ref m0), (1, .long p1), (3, .long p2), (5, .int p3), (6, .int p4)] := hl
  rw [s_X4_weighSide] at hs
  refine lv_aload_n hx hb dX4_weighSide_0 rfl (lv_at hl 0 rfl) ?_
  refine va_get (D := D) (ci := 4) (v := .ref mx) (C := RX4) (T := TX4) (N := 15) hx hb hts in_X4 hown hK hP 0 rfl rfl 2 (by decide) lk_20 (fun _ h9 => h9) rfl dX4_weighSide_1 ?_
  refine lv_iload hx hb dX4_weighSide_4 (lv_at hl 4 rfl) ?_
  obtain ⟨v_6, hv_6, hs⟩ := op_bd hs
  refine gx_lald hx hb hK hP 3 1 rfl rfl hv_6 dX4_weighSide_6 ?_
  refine lv_aload_n hx hb dX4_weighSide_7 rfl (lv_at hl 0 rfl) ?_
  refine va_get (D := D) (ci := 4) (v := .ref mx) (C := RX4) (T := TX4) (N := 15) hx hb hts in_X4 hown hK hP 0 rfl rfl 2 (by decide) lk_20 (fun _ h9 => h9) rfl dX4_weighSide_8 ?_
  refine lv_iload hx hb dX4_weighSide_11 (lv_at hl 3 rfl) ?_
  obtain ⟨v_13, hv_13, hs⟩ := op_bd hs
  refine gx_lald hx hb hK hP 3 1 rfl rfl hv_13 dX4_weighSide_13 ?_
  refine lv_lsub hx hb dX4_weighSide_14 ?_
  obtain ⟨e_15, hv_15, hs⟩ := op_bd hs
  refine gx_nj (Option.some.inj hv_15) ?_
  refine lv_lstore (lv' := [(7, .long e_15), (0, .ref m0), (1, .long p1), (3, .long p2), (5, .int p3), (6, .int p4)]) hx hb dX4_weighSide_15 hl (by decide) rfl (fun ls hl => ?_)
  refine lv_aload_n hx hb dX4_weighSide_17 rfl (lv_at hl 1 rfl) ?_
  refine va_get (D := D) (ci := 4) (v := .ref my) (C := RX4) (T := TX4) (N := 15) hx hb hts in_X4 hown hK hP 0 rfl rfl 3 (by decide) lk_24 (fun _ h9 => h9) rfl dX4_weighSide_18 ?_
  refine lv_iload hx hb dX4_weighSide_21 (lv_at hl 5 rfl) ?_
  obtain ⟨v_23, hv_23, hs⟩ := op_bd hs
  refine gx_lald hx hb hK hP 4 1 rfl rfl hv_23 dX4_weighSide_23 ?_
  refine lv_aload_n hx hb dX4_weighSide_24 rfl (lv_at hl 1 rfl) ?_
  refine va_get (D := D) (ci := 4) (v := .ref my) (C := RX4) (T := TX4) (N := 15) hx hb hts in_X4 hown hK hP 0 rfl rfl 3 (by decide) lk_24 (fun _ h9 => h9) rfl dX4_weighSide_25 ?_
  refine lv_iload hx hb dX4_weighSide_28 (lv_at hl 4 rfl) ?_
  obtain ⟨v_30, hv_30, hs⟩ := op_bd hs
  refine gx_lald hx hb hK hP 4 1 rfl rfl hv_30 dX4_weighSide_30 ?_
  refine lv_lsub hx hb dX4_weighSide_31 ?_
  obtain ⟨e_32, hv_32, hs⟩ := op_bd hs
  refine gx_nj (Option.some.inj hv_32) ?_
  refine lv_lstore (lv' := [(9, .long e_32), (7, .long e_15), (0, .ref m0), (1, .long p1), (3, .long p2), (5, .int p3), (6, .int p4)]) hx hb dX4_weighSide_32 hl (by decide) rfl (fun ls hl => ?_)
  refine lv_lload_n hx hb dX4_weighSide_34 rfl (lv_at hl 3 rfl) ?_
  refine lv_aload_n hx hb dX4_weighSide_35 rfl (lv_at hl 2 rfl) ?_
  refine va_get (D := D) (ci := 4) (v := .ref mx) (C := RX4) (T := TX4) (N := 15) hx hb hts in_X4 hown hK hP 0 rfl rfl 2 (by decide) lk_20 (fun _ h9 => h9) rfl dX4_weighSide_36 ?_
  refine lv_iload hx hb dX4_weighSide_39 (lv_at hl 5 rfl) ?_
  obtain ⟨v_41, hv_41, hs⟩ := op_bd hs
  refine gx_lald hx hb hK hP 3 1 rfl rfl hv_41 dX4_weighSide_41 ?_
  refine lv_lsub hx hb dX4_weighSide_42 ?_
  obtain ⟨e_43, hv_43, hs⟩ := op_bd hs
  refine gx_nj (Option.some.inj hv_43) ?_
  refine lv_lstore (lv' := [(11, .long e_43), (9, .long e_32), (7, .long e_15), (0, .ref m0), (1, .long p1), (3, .long p2), (5, .int p3), (6, .int p4)]) hx hb dX4_weighSide_43 hl (by decide) rfl (fun ls hl => ?_)
  refine lv_lload_n hx hb dX4_weighSide_45 rfl (lv_at hl 5 rfl) ?_
  refine lv_aload_n hx hb dX4_weighSide_46 rfl (lv_at hl 3 rfl) ?_
  refine va_get (D := D) (ci := 4) (v := .ref my) (C := RX4) (T := TX4) (N := 15) hx hb hts in_X4 hown hK hP 0 rfl rfl 3 (by decide) lk_24 (fun _ h9 => h9) rfl dX4_weighSide_47 ?_
  refine lv_iload hx hb dX4_weighSide_50 (lv_at hl 6 rfl) ?_
  obtain ⟨v_52, hv_52, hs⟩ := op_bd hs
  refine gx_lald hx hb hK hP 4 1 rfl rfl hv_52 dX4_weighSide_52 ?_
  refine lv_lsub hx hb dX4_weighSide_53 ?_
  obtain ⟨e_54, hv_54, hs⟩ := op_bd hs
  refine gx_nj (Option.some.inj hv_54) ?_
  refine lv_lstore (lv' := [(13, .long e_54), (11, .long e_43), (9, .long e_32), (7, .long e_15), (0, .ref m0), (1, .long p1), (3, .long p2), (5, .int p3), (6, .int p4)]) hx hb dX4_weighSide_54 hl (by decide) rfl (fun ls hl => ?_)
  refine lv_lload hx hb dX4_weighSide_56 (lv_at hl 1 rfl) ?_
  refine lv_lload hx hb dX4_weighSide_58 (lv_at hl 3 rfl) ?_
  refine lv_lmul hx hb dX4_weighSide_60 ?_
  refine lv_lload hx hb dX4_weighSide_61 (lv_at hl 0 rfl) ?_
  refine lv_lload hx hb dX4_weighSide_63 (lv_at hl 2 rfl) ?_
  refine lv_lmul hx hb dX4_weighSide_65 ?_
  refine lv_ladd hx hb dX4_weighSide_66 ?_
  obtain ⟨e_67, hv_67, hs⟩ := op_bd hs
  refine gx_nj (Option.some.inj hv_67) ?_
  refine lv_lstore (lv' := [(15, .long e_67), (13, .long e_54), (11, .long e_43), (9, .long e_32), (7, .long e_15), (0, .ref m0), (1, .long p1), (3, .long p2), (5, .int p3), (6, .int p4)]) hx hb dX4_weighSide_67 hl (by decide) rfl (fun ls hl => ?_)
  refine lv_lload hx hb dX4_weighSide_69 (lv_at hl 4 rfl) ?_
  refine lv_lload hx hb dX4_weighSide_71 (lv_at hl 4 rfl) ?_
  refine lv_lmul hx hb dX4_weighSide_73 ?_
  refine lv_lload hx hb dX4_weighSide_74 (lv_at hl 3 rfl) ?_
  refine lv_lload hx hb dX4_weighSide_76 (lv_at hl 3 rfl) ?_
  refine lv_lmul hx hb dX4_weighSide_78 ?_
  refine lv_ladd hx hb dX4_weighSide_79 ?_
  obtain ⟨e_80, hv_80, hs⟩ := op_bd hs
  refine gx_nj (Option.some.inj hv_80) ?_
  refine lv_lstore (lv' := [(17, .long e_80), (15, .long e_67), (13, .long e_54), (11, .long e_43), (9, .long e_32), (7, .long e_15), (0, .ref m0), (1, .long p1), (3, .long p2), (5, .int p3), (6, .int p4)]) hx hb dX4_weighSide_80 hl (by decide) rfl (fun ls hl => ?_)
  refine lv_lload hx hb dX4_weighSide_82 (lv_at hl 1 rfl) ?_
  refine lv_lconst (v := 0) hx hb dX4_weighSide_84 (by decide) ?_
  refine W.lcmp hx hb dX4_weighSide_85 ?_
  refine lv_if_gt (tgt := 108) hx hb dX4_weighSide_86 (by decide) (fun c_86 => ?_) (fun c_86 => ?_)
  · replace hs := it_t c_86 hs
    refine lv_lload hx hb dX4_weighSide_108 (lv_at hl 1 rfl) ?_
    refine lv_lload hx hb dX4_weighSide_110 (lv_at hl 0 rfl) ?_
    refine W.lcmp hx hb dX4_weighSide_112 ?_
    refine lv_if_lt (tgt := 163) hx hb dX4_weighSide_113 (by decide) (fun c_113 => ?_) (fun c_113 => ?_)
    · replace hs := it_t c_113 hs
      refine lv_lload hx hb dX4_weighSide_163 (lv_at hl 5 rfl) ?_
      refine lv_lload hx hb dX4_weighSide_165 (lv_at hl 4 rfl) ?_
      refine lv_lload hx hb dX4_weighSide_167 (lv_at hl 3 rfl) ?_
      refine lv_lload hx hb dX4_weighSide_169 (lv_at hl 2 rfl) ?_
      obtain ⟨v_171, hc_171, hs⟩ := op_bd hs
      refine gx_cSl (va_Run.run (va_runS (As := [.long e_15, .long e_32, .long e_43, .long e_54]) (rest := []) ⟨hx, hb, hml, hown, hts⟩ (c_X4_cross l D cI cJ cZ cS ad e_15 e_32 e_43 e_54 F  v_171 hc_171) (va_cwS 4 hts gX4_weighSide_X4_cross rfl rfl rfl (by decide +kernel) ⟨Nat.le_of_ble_eq_true rfl, Nat.le_of_ble_eq_true rfl⟩) ⟨gl_blind, gl_ok hK (gl_Ek hE hS) trivial⟩ rfl rfl hl.1 rfl (lv_room (Nat.le_of_ble_eq_true rfl)) dX4_weighSide_171 ⟨Nat.le_of_ble_eq_true rfl, Nat.le_of_ble_eq_true rfl⟩)) ?_
      refine lv_lstore (lv' := [(19, .long v_171), (17, .long e_80), (15, .long e_67), (13, .long e_54), (11, .long e_43), (9, .long e_32), (7, .long e_15), (0, .ref m0), (1, .long p1), (3, .long p2), (5, .int p3), (6, .int p4)]) hx hb dX4_weighSide_174 hl (by decide) rfl (fun ls hl => ?_)
      refine lv_lload hx hb dX4_weighSide_176 (lv_at hl 0 rfl) ?_
      refine lv_lload hx hb dX4_weighSide_178 (lv_at hl 0 rfl) ?_
      refine lv_lmul hx hb dX4_weighSide_180 ?_
      refine lv_lload hx hb dX4_weighSide_181 (lv_at hl 1 rfl) ?_
      obtain ⟨v_183, hc_183, hs⟩ := op_bd hs
      refine gx_cSl (va_Run.run (va_runS (As := [.long (v_171 * v_171), .long e_80]) (rest := []) ⟨hx, hb, hml, hown, hts⟩ (c_X4_divisor l D cI cJ cZ cS ad (v_171 * v_171) e_80 F  v_183 hc_183) (va_cwS 2 hts gX4_weighSide_X4_divisor rfl rfl rfl (by decide +kernel) ⟨Nat.le_of_ble_eq_true rfl, Nat.le_of_ble_eq_true rfl⟩) ⟨gl_blind, gl_ok hK (gl_Ek hE hS) trivial⟩ rfl rfl hl.1 rfl (lv_room (Nat.le_of_ble_eq_true rfl)) dX4_weighSide_183 ⟨Nat.le_of_ble_eq_true rfl, Nat.le_of_ble_eq_true rfl⟩)) ?_
      refine lv_lstore (lv' := [(21, .long v_183), (19, .long v_171), (17, .long e_80), (15, .long e_67), (13, .long e_54), (11, .long e_43), (9, .long e_32), (7, .long e_15), (0, .ref m0), (1, .long p1), (3, .long p2), (5, .int p3), (6, .int p4)]) hx hb dX4_weighSide_186 hl (by decide) rfl (fun ls hl => ?_)
      refine lv_aload_n hx hb dX4_weighSide_188 rfl (lv_at hl 8 rfl) ?_
      refine lv_lload hx hb dX4_weighSide_189 (lv_at hl 1 rfl) ?_
      refine lv_lload hx hb dX4_weighSide_191 (lv_at hl 1 rfl) ?_
      refine lv_lmul hx hb dX4_weighSide_193 ?_
      refine lv_lload hx hb dX4_weighSide_194 (lv_at hl 0 rfl) ?_
      obtain ⟨_, hz_196, hs⟩ := op_bd hs
      refine lv_ldiv hx hb dX4_weighSide_196 (nz_l_ne hz_196) ?_
      refine lv_lload hx hb dX4_weighSide_197 (lv_at hl 2 rfl) ?_
      refine lv_lload hx hb dX4_weighSide_199 (lv_at hl 0 rfl) ?_
      obtain ⟨_, hz_201, hs⟩ := op_bd hs
      refine lv_ldiv hx hb dX4_weighSide_201 (nz_l_ne hz_201) ?_
      obtain ⟨v_202, hc_202, hs⟩ := op_bd hs
      have hFc := va_free (wc := mo_w cI cJ cZ m0 mk mc mx my mf mp mq mb M) hD hS hA [0, 1, 2, 3, 4, 5, 6, 7, 8] rfl
      refine gx_cMv (wf := fun u => mo_w cI cJ cZ m0 mk mc mx my mf mp mq mb u) (va_runV (As := [.long ((v_171 * v_171) / v_183), .long (e_80 / v_183)]) (rest := []) ⟨hx, hb, hml, hown, hts⟩ (c_X4_weigh l D cI cJ cZ cS ad m0 mk mc mx my mf mp mq mb _ M ((v_171 * v_171) / v_183) (e_80 / v_183) F  v_202 hc_202) (cwV 2 hts gX4_weighSide_X4_weigh rfl rfl rfl (by decide +kernel) ⟨Nat.le_of_ble_eq_true rfl, Nat.le_of_ble_eq_true rfl⟩) ⟨gm_blind, va_recv hK hP (ci := 4) (q0 := 0) rfl rfl, gm_ok hK hE hS hFc hP hD va_nil0 gx_nil⟩ rfl rfl hl.1 rfl (lv_room (Nat.le_of_ble_eq_true rfl)) dX4_weighSide_202 ⟨Nat.le_of_ble_eq_true rfl, Nat.le_of_ble_eq_true rfl⟩) hS hFc (fun H locs hP hD hS => ?_)
      have hP : va_P D vwCl (mo_w cI cJ cZ m0 mk mc mx my mf mp mq mb v_202) H := hP
      have hD : va_D A (mo_w cI cJ cZ m0 mk mc mx my mf mp mq mb v_202) := hD
      obtain rfl := Option.some.inj hs
      exact W.vret hx hb hr (fun t ht hW => ⟨⟨_, rfl, rfl, by rw [ht]; exact hP, hD⟩, hS.F ht⟩) hS.2.2 dX4_weighSide_205
    · replace hs := it_f c_113 hs
      refine lv_aload_n hx hb dX4_weighSide_116 rfl (lv_at hl 6 rfl) ?_
      refine lv_lload_n hx hb dX4_weighSide_117 rfl (lv_at hl 7 rfl) ?_
      refine lv_aload_n hx hb dX4_weighSide_118 rfl (lv_at hl 6 rfl) ?_
      refine va_get (D := D) (ci := 4) (v := .ref mx) (C := RX4) (T := TX4) (N := 15) hx hb hts in_X4 hown hK hP 0 rfl rfl 2 (by decide) lk_20 (fun _ h9 => h9) rfl dX4_weighSide_119 ?_
      refine lv_iload hx hb dX4_weighSide_122 (lv_at hl 10 rfl) ?_
      obtain ⟨v_124, hv_124, hs⟩ := op_bd hs
      refine gx_lald hx hb hK hP 3 1 rfl rfl hv_124 dX4_weighSide_124 ?_
      refine lv_lsub hx hb dX4_weighSide_125 ?_
      refine lv_lload_n hx hb dX4_weighSide_126 rfl (lv_at hl 7 rfl) ?_
      refine lv_aload_n hx hb dX4_weighSide_127 rfl (lv_at hl 6 rfl) ?_
      refine va_get (D := D) (ci := 4) (v := .ref mx) (C := RX4) (T := TX4) (N := 15) hx hb hts in_X4 hown hK hP 0 rfl rfl 2 (by decide) lk_20 (fun _ h9 => h9) rfl dX4_weighSide_128 ?_
      refine lv_iload hx hb dX4_weighSide_131 (lv_at hl 10 rfl) ?_
      obtain ⟨v_133, hv_133, hs⟩ := op_bd hs
      refine gx_lald hx hb hK hP 3 1 rfl rfl hv_133 dX4_weighSide_133 ?_
      refine lv_lsub hx hb dX4_weighSide_134 ?_
      refine lv_lmul hx hb dX4_weighSide_135 ?_
      refine lv_lload_n hx hb dX4_weighSide_136 rfl (lv_at hl 8 rfl) ?_
      refine lv_aload_n hx hb dX4_weighSide_137 rfl (lv_at hl 6 rfl) ?_
      refine va_get (D := D) (ci := 4) (v := .ref my) (C := RX4) (T := TX4) (N := 15) hx hb hts in_X4 hown hK hP 0 rfl rfl 3 (by decide) lk_24 (fun _ h9 => h9) rfl dX4_weighSide_138 ?_
      refine lv_iload hx hb dX4_weighSide_141 (lv_at hl 10 rfl) ?_
      obtain ⟨v_143, hv_143, hs⟩ := op_bd hs
      refine gx_lald hx hb hK hP 4 1 rfl rfl hv_143 dX4_weighSide_143 ?_
      refine lv_lsub hx hb dX4_weighSide_144 ?_
      refine lv_lload_n hx hb dX4_weighSide_145 rfl (lv_at hl 8 rfl) ?_
      refine lv_aload_n hx hb dX4_weighSide_146 rfl (lv_at hl 6 rfl) ?_
      refine va_get (D := D) (ci := 4) (v := .ref my) (C := RX4) (T := TX4) (N := 15) hx hb hts in_X4 hown hK hP 0 rfl rfl 3 (by decide) lk_24 (fun _ h9 => h9) rfl dX4_weighSide_147 ?_
      refine lv_iload hx hb dX4_weighSide_150 (lv_at hl 10 rfl) ?_
      obtain ⟨v_152, hv_152, hs⟩ := op_bd hs
      refine gx_lald hx hb hK hP 4 1 rfl rfl hv_152 dX4_weighSide_152 ?_
      refine lv_lsub hx hb dX4_weighSide_153 ?_
      refine lv_lmul hx hb dX4_weighSide_154 ?_
      refine lv_ladd hx hb dX4_weighSide_155 ?_
      refine lv_lconst (v := 1) hx hb dX4_weighSide_156 (by decide) ?_
      obtain ⟨v_157, hc_157, hs⟩ := op_bd hs
      have hFc := va_free (wc := mo_w cI cJ cZ m0 mk mc mx my mf mp mq mb M) hD hS hA [0, 1, 2, 3, 4, 5, 6, 7, 8] rfl
      refine gx_cMv (wf := fun u => mo_w cI cJ cZ m0 mk mc mx my mf mp mq mb u) (va_runV (As := [.long (((p1 - v_124) * (p1 - v_133)) + ((p2 - v_143) * (p2 - v_152))), .long 1]) (rest := []) ⟨hx, hb, hml, hown, hts⟩ (c_X4_weigh l D cI cJ cZ cS ad m0 mk mc mx my mf mp mq mb _ M (((p1 - v_124) * (p1 - v_133)) + ((p2 - v_143) * (p2 - v_152))) 1 F  v_157 hc_157) (cwV 2 hts gX4_weighSide_X4_weigh rfl rfl rfl (by decide +kernel) ⟨Nat.le_of_ble_eq_true rfl, Nat.le_of_ble_eq_true rfl⟩) ⟨gm_blind, va_recv hK hP (ci := 4) (q0 := 0) rfl rfl, gm_ok hK hE hS hFc hP hD va_nil0 gx_nil⟩ rfl rfl hl.1 rfl (lv_room (Nat.le_of_ble_eq_true rfl)) dX4_weighSide_157 ⟨Nat.le_of_ble_eq_true rfl, Nat.le_of_ble_eq_true rfl⟩) hS hFc (fun H locs hP hD hS => ?_)
      have hP : va_P D vwCl (mo_w cI cJ cZ m0 mk mc mx my mf mp mq mb v_157) H := hP
      have hD : va_D A (mo_w cI cJ cZ m0 mk mc mx my mf mp mq mb v_157) := hD
      refine lv_goto (tgt := 205) hx hb dX4_weighSide_160 (by decide) ?_
      obtain rfl := Option.some.inj hs
      exact W.vret hx hb hr (fun t ht hW => ⟨⟨_, rfl, rfl, by rw [ht]; exact hP, hD⟩, hS.F ht⟩) hS.2.2 dX4_weighSide_205
  · replace hs := it_f c_86 hs
    refine lv_aload_n hx hb dX4_weighSide_89 rfl (lv_at hl 6 rfl) ?_
    refine lv_lload hx hb dX4_weighSide_90 (lv_at hl 3 rfl) ?_
    refine lv_lload hx hb dX4_weighSide_92 (lv_at hl 3 rfl) ?_
    refine lv_lmul hx hb dX4_weighSide_94 ?_
    refine lv_lload hx hb dX4_weighSide_95 (lv_at hl 2 rfl) ?_
    refine lv_lload hx hb dX4_weighSide_97 (lv_at hl 2 rfl) ?_
    refine lv_lmul hx hb dX4_weighSide_99 ?_
    refine lv_ladd hx hb dX4_weighSide_100 ?_
    refine lv_lconst (v := 1) hx hb dX4_weighSide_101 (by decide) ?_
    obtain ⟨v_102, hc_102, hs⟩ := op_bd hs
    have hFc := va_free (wc := mo_w cI cJ cZ m0 mk mc mx my mf mp mq mb M) hD hS hA [0, 1, 2, 3, 4, 5, 6, 7, 8] rfl
    refine gx_cMv (wf := fun u => mo_w cI cJ cZ m0 mk mc mx my mf mp mq mb u) (va_runV (As := [.long ((e_43 * e_43) + (e_54 * e_54)), .long 1]) (rest := []) ⟨hx, hb, hml, hown, hts⟩ (c_X4_weigh l D cI cJ cZ cS ad m0 mk mc mx my mf mp mq mb _ M ((e_43 * e_43) + (e_54 * e_54)) 1 F  v_102 hc_102) (cwV 2 hts gX4_weighSide_X4_weigh rfl rfl rfl (by decide +kernel) ⟨Nat.le_of_ble_eq_true rfl, Nat.le_of_ble_eq_true rfl⟩) ⟨gm_blind, va_recv hK hP (ci := 4) (q0 := 0) rfl rfl, gm_ok hK hE hS hFc hP hD va_nil0 gx_nil⟩ rfl rfl hl.1 rfl (lv_room (Nat.le_of_ble_eq_true rfl)) dX4_weighSide_102 ⟨Nat.le_of_ble_eq_true rfl, Nat.le_of_ble_eq_true rfl⟩) hS hFc (fun H locs hP hD hS => ?_)
    have hP : va_P D vwCl (mo_w cI cJ cZ m0 mk mc mx my mf mp mq mb v_102) H := hP
    have hD : va_D A (mo_w cI cJ cZ m0 mk mc mx my mf mp mq mb v_102) := hD
    refine lv_goto (tgt := 205) hx hb dX4_weighSide_105 (by decide) ?_
    obtain rfl := Option.some.inj hs
    exact W.vret hx hb hr (fun t ht hW => ⟨⟨_, rfl, rfl, by rw [ht]; exact hP, hD⟩, hS.F ht⟩) hS.2.2 dX4_weighSide_205
def s_X4_weighCorners_15 (F : Nat) (M : mo_T) (p1 : Int32) (p2 : Int32) (kc_2 : Int32 → mo_T → Option mo_T) : Nat → Int32 → Int32 → mo_T → Option mo_T
  | 0, _, _, _ => none
  | n + 1, x3, x4, N =>
    (s_X4_sides F N p2).bind fun v_19 =>
    if v_19 ≤ x4 then
      (some (x3 + 1)).bind fun e_71 =>
      kc_2 e_71 N
    else
      (s_X4_from F N p1 x3).bind fun v_33 =>
      (rd_l 1500 (mo_x N) v_33).bind fun v_36 =>
      (s_X4_from F N p1 x3).bind fun v_44 =>
      (rd_l 1500 (mo_y N) v_44).bind fun v_47 =>
      (s_X4_from F N p2 x4).bind fun v_52 =>
      (s_X4_to F N p2 x4).bind fun v_59 =>
      (s_X4_weighSide F N v_36 v_47 v_52 v_59).bind fun v_62 =>
      (some (x4 + 1)).bind fun e_65 =>
      s_X4_weighCorners_15 F M p1 p2 kc_2 n x3 e_65 v_62
def s_X4_weighCorners_2 (F : Nat) (M : mo_T) (p1 : Int32) (p2 : Int32) : Nat → Int32 → mo_T → Option mo_T
  | 0, _, _ => none
  | n + 1, x3, N =>
    (rd_i 60 (mo_c N) p1).bind fun v_8 =>
    if v_8 ≤ x3 then
      some N
    else
      s_X4_weighCorners_15 F M p1 p2 (fun y0 y1 => s_X4_weighCorners_2 F M p1 p2 n y0 y1) F x3 0 N
def s_X4_weighCorners (F : Nat) (M : mo_T) (p1 : Int32) (p2 : Int32) : Option mo_T :=
  s_X4_weighCorners_2 F M p1 p2 F 0 M
abbrev rm_X4_weighCorners : Room := { frames := 3, cells := 0, slots := 0, locals := 106 }
theorem in_X4_weighCorners_X4 : ∀ w ∈ wsX40, w ∈ wsX4_weighCorners := by decide +kernel
set_option maxHeartbeats 4000000 in
set_option maxRecDepth 100000 in
theorem c_X4_weighCorners (l : Launch) (D : va_G) (cI cJ cZ cS : ClassId) (ad : Nat → Nat) (m0 mk mc mx my mf mp mq mb : Nat) (sz : Nat) (M : mo_T) (p1 : Int32) (p2 : Int32) (F : Nat)  (r : mo_T) (hs : s_X4_weighCorners F M p1 p2 = some r) : Met l yX4_weighCorners wsX4_weighCorners rm_X4_weighCorners (gm_P D cI cJ cZ cS ad sz (mo_w cI cJ cZ m0 mk mc mx my mf mp mq mb M) ([]) [.ref m0, .int p1, .int p2]) (va_Qv (fun u : mo_T => u = r) (fun u t => va_P D vwCl (mo_w cI cJ cZ m0 mk mc mx my mf mp mq mb u) t.heap ∧ va_D (va_A (mo_w cI cJ cZ m0 mk mc mx my mf mp mq mb M) sz) (mo_w cI cJ cZ m0 mk mc mx my mf mp mq mb u)) (va_A (mo_w cI cJ cZ m0 mk mc mx my mf mp mq mb M) sz)) 0 0 (va_A (mo_w cI cJ cZ m0 mk mc mx my mf mp mq mb M) sz) := by
  refine Met.ofW (cc := cX4_weighCorners) (maxL := 5) (ret := none) (by decide) rfl ?_
  intro p e s m args below meth c s₁ B hml hv
  obtain ⟨rfl, hsz, hK, hE, hP, hD0, hR, hRn0⟩ := hv
  have hx := B.exec
  have hb := B.bytes
  have hr := B.returns
  have hts := atoms_spec (ws := wsX4_weighCorners) B.pre
  have hown : s.vm.findClass RX4 = some m.cls := findClass_of_methodNamed B.named
  have hlocks := B.notSynchronized
  subst hsz
  have hD := hD0.self (sz := s.heap.size)
  have hRn := gx_rn0 hR hRn0
  generalize hAe : va_A (mo_w cI cJ cZ m0 mk mc mx my mf mp mq mb M) s.heap.size = A at hD hE hRn ⊢
  have hA : ∀ q : Nat, s.heap.size ≤ q → A q := fun q h => by rw [← hAe]; exact Or.inr h
  have hS : va_S A s.heap s.heap [] := va_S.rf
  have lk_17 := hts (.fieldLink RX4 17 "PlacePointsModel" "counts" "[I") (by decide +kernel)
  have lk_20 := hts (.fieldLink RX4 20 "PlacePointsModel" "xs" "[J") (by decide +kernel)
  have lk_24 := hts (.fieldLink RX4 24 "PlacePointsModel" "ys" "[J") (by decide +kernel)
  have in_X4 := in_X4_weighCorners_X4
  have J_2 : ∀ (n_2 : Nat) (x3 : Int32) (N : mo_T), s_X4_weighCorners_2 F M p1 p2 n_2 x3 N = some r → ∀ (H : Heap) (locs : List Loc), va_P D vwCl (mo_w cI cJ cZ m0 mk mc mx my mf mp mq mb N) H → va_D A (mo_w cI cJ cZ m0 mk mc mx my mf mp mq mb N) → va_S A s.heap H locs → ∀ ls : Array Slot, lv_has ls 5 [(0, .ref m0), (1, .int p1), (2, .int p2), (3, .int x3)] → W p l e (headSpec wsX4_weighCorners rm_X4_weighCorners).room s m ([.ref m0, .int p1, .int p2] : List Value).toArray below meth c H locs 0 0 (MQ below (va_Qv (fun u : mo_T => u = r) (fun u t => va_P D vwCl (mo_w cI cJ cZ m0 mk mc mx my mf mp mq mb u) t.heap ∧ va_D (A) (mo_w cI cJ cZ m0 mk mc mx my mf mp mq mb u)) (A)) ([.ref m0, .int p1, .int p2] : List Value).toArray s 0 0 (A)) (F0 m 2 ls []) := by
    intro n_2
    induction n_2 with
    | zero =>
      intro x3 N hs
      cases hs
    | succ n_2 ih_2 =>
      have J_15 : ∀ (n_15 : Nat) (x3 : Int32) (x4 : Int32) (N : mo_T), s_X4_weighCorners_15 F M p1 p2 (fun y0 y1 => s_X4_weighCorners_2 F M p1 p2 n_2 y0 y1) n_15 x3 x4 N = some r → ∀ (H : Heap) (locs : List Loc), va_P D vwCl (mo_w cI cJ cZ m0 mk mc mx my mf mp mq mb N) H → va_D A (mo_w cI cJ cZ m0 mk mc mx my mf mp mq mb N) → va_S A s.heap H locs → ∀ ls : Array Slot, lv_has ls 5 [(0, .ref m0), (1, .int p1), (2, .int p2), (3, .int x3), (4, .int x4)] → W p l e (headSpec wsX4_weighCorners rm_X4_weighCorners).room s m ([.ref m0, .int p1, .int p2] : List Value).toArray below meth c H locs 0 0 (MQ below (va_Qv (fun u : mo_T => u = r) (fun u t => va_P D vwCl (mo_w cI cJ cZ m0 mk mc mx my mf mp mq mb u) t.heap ∧ va_D (A) (mo_w cI cJ cZ m0 mk mc mx my mf mp mq mb u)) (A)) ([.ref m0, .int p1, .int p2] : List Value).toArray s 0 0 (A)) (F0 m 15 ls []) := by
        intro n_15
        induction n_15 with
        | zero =>
          intro x3 x4 N hs
          cases hs
        | succ n_15 ih_15 =>
          intro x3 x4 N hs H locs hP hD hS ls hl
          rw [s_X4_weighCorners_15] at hs
          refine lv_iload hx hb dX4_weighCorners_15 (lv_at hl 4 rfl) ?_
          refine lv_aload_n hx hb dX4_weighCorners_17 rfl (lv_at hl 0 rfl) ?_
          refine lv_iload_n hx hb dX4_weighCorners_18 rfl (lv_at hl 2 rfl) ?_
          obtain ⟨v_19, hc_19, hs⟩ := op_bd hs
          refine gx_cSi (va_Run.run (va_runV (As := [.int p2]) (rest := [.int x4]) ⟨hx, hb, hml, hown, hts⟩ (c_X4_sides l D cI cJ cZ cS ad m0 mk mc mx my mf mp mq mb N p2 F  v_19 hc_19) (cwV 1 hts gX4_weighCorners_X4_sides rfl rfl rfl (by decide +kernel) ⟨Nat.le_of_ble_eq_true rfl, Nat.le_of_ble_eq_true rfl⟩) ⟨gl_blind, va_recv hK hP (ci := 4) (q0 := 0) rfl rfl, gl_ok hK (gl_Ek hE hS) hP⟩ rfl rfl hl.1 rfl (lv_room (Nat.le_of_ble_eq_true rfl)) dX4_weighCorners_19 ⟨Nat.le_of_ble_eq_true rfl, Nat.le_of_ble_eq_true rfl⟩)) ?_
          refine lv_icmp_ge (tgt := 71) hx hb dX4_weighCorners_22 (by decide) (fun c_22 => ?_) (fun c_22 => ?_)
          · replace hs := it_t c_22 hs
            obtain ⟨e_71, hv_71, hs⟩ := op_bd hs
            refine lv_iinc (v := e_71) (lv' := [(3, .int e_71), (0, .ref m0), (1, .int p1), (2, .int p2), (4, .int x4)]) hx hb dX4_weighCorners_71 hl (k := 3) rfl (Option.some.inj hv_71) (by decide) rfl (fun ls hl => ?_)
            refine lv_goto (tgt := 2) hx hb dX4_weighCorners_74 (by decide) ?_
            exact ih_2 e_71 N hs _ _ hP hD hS _ (lv_sub hl [1, 2, 3, 0] rfl)
          · replace hs := it_f c_22 hs
            refine lv_aload_n hx hb dX4_weighCorners_25 rfl (lv_at hl 0 rfl) ?_
            refine lv_aload_n hx hb dX4_weighCorners_26 rfl (lv_at hl 0 rfl) ?_
            refine va_get (D := D) (ci := 4) (v := .ref mx) (C := RX4) (T := TX4) (N := 15) hx hb hts in_X4 hown hK hP 0 rfl rfl 2 (by decide) lk_20 (fun _ h9 => h9) rfl dX4_weighCorners_27 ?_
            refine lv_aload_n hx hb dX4_weighCorners_30 rfl (lv_at hl 0 rfl) ?_
            refine lv_iload_n hx hb dX4_weighCorners_31 rfl (lv_at hl 1 rfl) ?_
            refine lv_iload_n hx hb dX4_weighCorners_32 rfl (lv_at hl 3 rfl) ?_
            obtain ⟨v_33, hc_33, hs⟩ := op_bd hs
            refine gx_cSi (va_Run.run (va_runV (As := [.int p1, .int x3]) (rest := [.ref mx, .ref m0]) ⟨hx, hb, hml, hown, hts⟩ (c_X4_from l D cI cJ cZ cS ad m0 mk mc mx my mf mp mq mb N p1 x3 F  v_33 hc_33) (cwV 2 hts gX4_weighCorners_X4_from rfl rfl rfl (by decide +kernel) ⟨Nat.le_of_ble_eq_true rfl, Nat.le_of_ble_eq_true rfl⟩) ⟨gl_blind, va_recv hK hP (ci := 4) (q0 := 0) rfl rfl, gl_ok hK (gl_Ek hE hS) hP⟩ rfl rfl hl.1 rfl (lv_room (Nat.le_of_ble_eq_true rfl)) dX4_weighCorners_33 ⟨Nat.le_of_ble_eq_true rfl, Nat.le_of_ble_eq_true rfl⟩)) ?_
            obtain ⟨v_36, hv_36, hs⟩ := op_bd hs
            refine gx_lald hx hb hK hP 3 1 rfl rfl hv_36 dX4_weighCorners_36 ?_
            refine lv_aload_n hx hb dX4_weighCorners_37 rfl (lv_at hl 0 rfl) ?_
            refine va_get (D := D) (ci := 4) (v := .ref my) (C := RX4) (T := TX4) (N := 15) hx hb hts in_X4 hown hK hP 0 rfl rfl 3 (by decide) lk_24 (fun _ h9 => h9) rfl dX4_weighCorners_38 ?_
            refine lv_aload_n hx hb dX4_weighCorners_41 rfl (lv_at hl 0 rfl) ?_
            refine lv_iload_n hx hb dX4_weighCorners_42 rfl (lv_at hl 1 rfl) ?_
            refine lv_iload_n hx hb dX4_weighCorners_43 rfl (lv_at hl 3 rfl) ?_
            obtain ⟨v_44, hc_44, hs⟩ := op_bd hs
            refine gx_cSi (va_Run.run (va_runV (As := [.int p1, .int x3]) (rest := [.ref my, .long v_36, .ref m0]) ⟨hx, hb, hml, hown, hts⟩ (c_X4_from l D cI cJ cZ cS ad m0 mk mc mx my mf mp mq mb N p1 x3 F  v_44 hc_44) (cwV 2 hts gX4_weighCorners_X4_from rfl rfl rfl (by decide +kernel) ⟨Nat.le_of_ble_eq_true rfl, Nat.le_of_ble_eq_true rfl⟩) ⟨gl_blind, va_recv hK hP (ci := 4) (q0 := 0) rfl rfl, gl_ok hK (gl_Ek hE hS) hP⟩ rfl rfl hl.1 rfl (lv_room (Nat.le_of_ble_eq_true rfl)) dX4_weighCorners_44 ⟨Nat.le_of_ble_eq_true rfl, Nat.le_of_ble_eq_true rfl⟩)) ?_
            obtain ⟨v_47, hv_47, hs⟩ := op_bd hs
            refine gx_lald hx hb hK hP 4 1 rfl rfl hv_47 dX4_weighCorners_47 ?_
            refine lv_aload_n hx hb dX4_weighCorners_48 rfl (lv_at hl 0 rfl) ?_
            refine lv_iload_n hx hb dX4_weighCorners_49 rfl (lv_at hl 2 rfl) ?_
            refine lv_iload hx hb dX4_weighCorners_50 (lv_at hl 4 rfl) ?_
            obtain ⟨v_52, hc_52, hs⟩ := op_bd hs
            refine gx_cSi (va_Run.run (va_runV (As := [.int p2, .int x4]) (rest := [.long v_47, .long v_36, .ref m0]) ⟨hx, hb, hml, hown, hts⟩ (c_X4_from l D cI cJ cZ cS ad m0 mk mc mx my mf mp mq mb N p2 x4 F  v_52 hc_52) (cwV 2 hts gX4_weighCorners_X4_from rfl rfl rfl (by decide +kernel) ⟨Nat.le_of_ble_eq_true rfl, Nat.le_of_ble_eq_true rfl⟩) ⟨gl_blind, va_recv hK hP (ci := 4) (q0 := 0) rfl rfl, gl_ok hK (gl_Ek hE hS) hP⟩ rfl rfl hl.1 rfl (lv_room (Nat.le_of_ble_eq_true rfl)) dX4_weighCorners_52 ⟨Nat.le_of_ble_eq_true rfl, Nat.le_of_ble_eq_true rfl⟩)) ?_
            refine lv_aload_n hx hb dX4_weighCorners_55 rfl (lv_at hl 0 rfl) ?_
            refine lv_iload_n hx hb dX4_weighCorners_56 rfl (lv_at hl 2 rfl) ?_
            refine lv_iload hx hb dX4_weighCorners_57 (lv_at hl 4 rfl) ?_
            obtain ⟨v_59, hc_59, hs⟩ := op_bd hs
            refine gx_cSi (va_Run.run (va_runV (As := [.int p2, .int x4]) (rest := [.int v_52, .long v_47, .long v_36, .ref m0]) ⟨hx, hb, hml, hown, hts⟩ (c_X4_to l D cI cJ cZ cS ad m0 mk mc mx my mf mp mq mb N p2 x4 F  v_59 hc_59) (cwV 2 hts gX4_weighCorners_X4_to rfl rfl rfl (by decide +kernel) ⟨Nat.le_of_ble_eq_true rfl, Nat.le_of_ble_eq_true rfl⟩) ⟨gl_blind, va_recv hK hP (ci := 4) (q0 := 0) rfl rfl, gl_ok hK (gl_Ek hE hS) hP⟩ rfl rfl hl.1 rfl (lv_room (Nat.le_of_ble_eq_true rfl)) dX4_weighCorners_59 ⟨Nat.le_of_ble_eq_true rfl, Nat.le_of_ble_eq_true rfl⟩)) ?_
            obtain ⟨v_62, hc_62, hs⟩ := op_bd hs
            have hFc := va_free (wc := mo_w cI cJ cZ m0 mk mc mx my mf mp mq mb N) hD hS hA [0, 1, 2, 3, 4, 5, 6, 7, 8] rfl
            refine gx_cMv (wf := fun u => mo_w cI cJ cZ m0 mk mc mx my mf mp mq mb u) (va_runV (As := [.long v_36, .long v_47, .int v_52, .int v_59]) (rest := []) ⟨hx, hb, hml, hown, hts⟩ (c_X4_weighSide l D cI cJ cZ cS ad m0 mk mc mx my mf mp mq mb _ N v_36 v_47 v_52 v_59 F  v_62 hc_62) (cwV 4 hts gX4_weighCorners_X4_weighSide rfl rfl rfl (by decide +kernel) ⟨Nat.le_of_ble_eq_true rfl, Nat.le_of_ble_eq_true rfl⟩) ⟨gm_blind, va_recv hK hP (ci := 4) (q0 := 0) rfl rfl, gm_ok hK hE hS hFc hP hD va_nil0 gx_nil⟩ rfl rfl hl.1 rfl (lv_room (Nat.le_of_ble_eq_true rfl)) dX4_weighCorners_62 ⟨Nat.le_of_ble_eq_true rfl, Nat.le_of_ble_eq_true rfl⟩) hS hFc (fun H locs hP hD hS => ?_)
            have hP : va_P D vwCl (mo_w cI cJ cZ m0 mk mc mx my mf mp mq mb v_62) H := hP
            have hD : va_D A (mo_w cI cJ cZ m0 mk mc mx my mf mp mq mb v_62) := hD
            obtain ⟨e_65, hv_65, hs⟩ := op_bd hs
            refine lv_iinc (v := e_65) (lv' := [(4, .int e_65), (0, .ref m0), (1, .int p1), (2, .int p2), (3, .int x3)]) hx hb dX4_weighCorners_65 hl (k := 4) rfl (Option.some.inj hv_65) (by decide) rfl (fun ls hl => ?_)
            refine lv_goto (tgt := 15) hx hb dX4_weighCorners_68 (by decide) ?_
            exact ih_15 x3 e_65 v_62 hs _ _ hP hD hS _ (lv_sub hl [1, 2, 3, 4, 0] rfl)
      intro x3 N hs H locs hP hD hS ls hl
      rw [s_X4_weighCorners_2] at hs
      refine lv_iload_n hx hb dX4_weighCorners_2 rfl (lv_at hl 3 rfl) ?_
      refine lv_aload_n hx hb dX4_weighCorners_3 rfl (lv_at hl 0 rfl) ?_
      refine va_get (D := D) (ci := 4) (v := .ref mc) (C := RX4) (T := TX4) (N := 15) hx hb hts in_X4 hown hK hP 0 rfl rfl 1 (by decide) lk_17 (fun _ h9 => h9) rfl dX4_weighCorners_4 ?_
      refine lv_iload_n hx hb dX4_weighCorners_7 rfl (lv_at hl 1 rfl) ?_
      obtain ⟨v_8, hv_8, hs⟩ := op_bd hs
      refine gx_iald hx hb hK hP 2 0 rfl rfl hv_8 dX4_weighCorners_8 ?_
      refine lv_icmp_ge (tgt := 77) hx hb dX4_weighCorners_9 (by decide) (fun c_9 => ?_) (fun c_9 => ?_)
      · replace hs := it_t c_9 hs
        obtain rfl := Option.some.inj hs
        exact W.vret hx hb hr (fun t ht hW => ⟨⟨_, rfl, rfl, by rw [ht]; exact hP, hD⟩, hS.F ht⟩) hS.2.2 dX4_weighCorners_77
      · replace hs := it_f c_9 hs
        refine lv_iconst (v := 0) hx hb dX4_weighCorners_12 (by decide) ?_
        refine lv_istore (lv' := [(4, .int 0), (0, .ref m0), (1, .int p1), (2, .int p2), (3, .int x3)]) hx hb dX4_weighCorners_13 hl (by decide) rfl (fun ls hl => ?_)
        exact J_15 F x3 0 N hs _ _ hP hD hS _ (lv_sub hl [1, 2, 3, 4, 0] rfl)
  have hl := lv_entry ([.ref m0, .int p1, .int p2]) (n := 5) (Nat.le_of_ble_eq_true rfl)
  rw [lg_entry_eq]
  generalize (lg_sl ([.ref m0, .int p1, .int p2]) ++ List.replicate (5 - (lg_sl ([.ref m0, .int p1, .int p2])).length) Slot.unset).toArray = ls at hl ⊢
  have hl : lv_has ls 5 [(0, .ref m0), (1, .int p1), (2, .int p2)] := hl
  rw [s_X4_weighCorners] at hs
  refine lv_iconst (v := 0) hx hb dX4_weighCorners_0 (by decide) ?_
  refine lv_istore_n (lv' := [(3, .int 0), (0, .ref m0), (1, .int p1), (2, .int p2)]) hx hb dX4_weighCorners_1 rfl hl (by decide) rfl (fun ls hl => ?_)
  exact J_2 F 0 M hs _ _ hP hD hS _ (lv_sub hl [1, 2, 3, 0] rfl)
def s_X4_least (F : Nat) (M : mo_T) (p1 : Int32) (p2 : Int32) : Option mo_T :=
  (s_X4_have F (ms_l (ms_u M 0) 1) p1 p2).bind fun v_13 =>
  if v_13 = 0 then
    (s_X4_weighCorners F (ms_l (ms_u M 0) 0) p1 p2).bind fun v_28 =>
    (s_X4_weighCorners F v_28 p2 p1).bind fun v_34 =>
    some v_34
  else
    some (ms_l (ms_u M 0) 1)
abbrev rm_X4_least : Room := { frames := 5, cells := 0, slots := 0, locals := 146 }
theorem in_X4_least_X4 : ∀ w ∈ wsX40, w ∈ wsX4_least := by decide +kernel
set_option maxHeartbeats 4000000 in
set_option maxRecDepth 100000 in
theorem c_X4_least (l : Launch) (D : va_G) (cI cJ cZ cS : ClassId) (ad : Nat → Nat) (m0 mk mc mx my mf mp mq mb : Nat) (sz : Nat) (M : mo_T) (p1 : Int32) (p2 : Int32) (F : Nat)  (r : mo_T) (hs : s_X4_least F M p1 p2 = some r) : Met l yX4_least wsX4_least rm_X4_least (gm_P D cI cJ cZ cS ad sz (mo_w cI cJ cZ m0 mk mc mx my mf mp mq mb M) ([]) [.ref m0, .int p1, .int p2]) (va_Qv (fun u : mo_T => u = r) (fun u t => va_P D vwCl (mo_w cI cJ cZ m0 mk mc mx my mf mp mq mb u) t.heap ∧ va_D (va_A (mo_w cI cJ cZ m0 mk mc mx my mf mp mq mb M) sz) (mo_w cI cJ cZ m0 mk mc mx my mf mp mq mb u)) (va_A (mo_w cI cJ cZ m0 mk mc mx my mf mp mq mb M) sz)) 0 0 (va_A (mo_w cI cJ cZ m0 mk mc mx my mf mp mq mb M) sz) := by
  refine Met.ofW (cc := cX4_least) (maxL := 3) (ret := none) (by decide) rfl ?_
  intro p e s m args below meth c s₁ B hml hv
  obtain ⟨rfl, hsz, hK, hE, hP, hD0, hR, hRn0⟩ := hv
  have hx := B.exec
  have hb := B.bytes
  have hr := B.returns
  have hts := atoms_spec (ws := wsX4_least) B.pre
  have hown : s.vm.findClass RX4 = some m.cls := findClass_of_methodNamed B.named
  have hlocks := B.notSynchronized
  subst hsz
  have hD := hD0.self (sz := s.heap.size)
  have hRn := gx_rn0 hR hRn0
  generalize hAe : va_A (mo_w cI cJ cZ m0 mk mc mx my mf mp mq mb M) s.heap.size = A at hD hE hRn ⊢
  have hA : ∀ q : Nat, s.heap.size ≤ q → A q := fun q h => by rw [← hAe]; exact Or.inr h
  have hS : va_S A s.heap s.heap [] := va_S.rf
  have lk_115 := hts (.fieldLink RX4 115 "PlacePointsModel" "lower" "J") (by decide +kernel)
  have lk_119 := hts (.fieldLink RX4 119 "PlacePointsModel" "upper" "J") (by decide +kernel)
  have in_X4 := in_X4_least_X4
  have hl := lv_entry ([.ref m0, .int p1, .int p2]) (n := 3) (Nat.le_of_ble_eq_true rfl)
  rw [lg_entry_eq]
  generalize (lg_sl ([.ref m0, .int p1, .int p2]) ++ List.replicate (3 - (lg_sl ([.ref m0, .int p1, .int p2])).length) Slot.unset).toArray = ls at hl ⊢
  have hl : lv_has ls 3 [(0, .ref m0), (1, .int p1), (2, .int p2)] := hl
  rw [s_X4_least] at hs
  refine lv_aload_n hx hb dX4_least_0 rfl (lv_at hl 0 rfl) ?_
  refine lv_lconst (v := 0) hx hb dX4_least_1 (by decide) ?_
  refine va_put (D := D) (ci := 4) (v := .long 0) (ty := .long) (C := RX4) (T := TX4) (N := 15) hx hb hts in_X4 tyX4 tyX4_ok nmX4 hown hK hP hD hS 0 rfl rfl 9 (by decide) lk_119 (fun _ h9 => h9) rfl (by decide +kernel) rfl rfl (Nat.le_of_ble_eq_true rfl) dX4_least_2 (fun H locs hP hD hS => ?_)
  have hP : va_P D vwCl (mo_w cI cJ cZ m0 mk mc mx my mf mp mq mb (ms_u M 0)) H := hP
  have hD : va_D A (mo_w cI cJ cZ m0 mk mc mx my mf mp mq mb (ms_u M 0)) := hD
  refine lv_aload_n hx hb dX4_least_5 rfl (lv_at hl 0 rfl) ?_
  refine lv_lconst (v := 1) hx hb dX4_least_6 (by decide) ?_
  refine va_put (D := D) (ci := 4) (v := .long 1) (ty := .long) (C := RX4) (T := TX4) (N := 15) hx hb hts in_X4 tyX4 tyX4_ok nmX4 hown hK hP hD hS 0 rfl rfl 10 (by decide) lk_115 (fun _ h9 => h9) rfl (by decide +kernel) rfl rfl (Nat.le_of_ble_eq_true rfl) dX4_least_7 (fun H locs hP hD hS => ?_)
  have hP : va_P D vwCl (mo_w cI cJ cZ m0 mk mc mx my mf mp mq mb (ms_l (ms_u M 0) 1)) H := hP
  have hD : va_D A (mo_w cI cJ cZ m0 mk mc mx my mf mp mq mb (ms_l (ms_u M 0) 1)) := hD
  refine lv_aload_n hx hb dX4_least_10 rfl (lv_at hl 0 rfl) ?_
  refine lv_iload_n hx hb dX4_least_11 rfl (lv_at hl 1 rfl) ?_
  refine lv_iload_n hx hb dX4_least_12 rfl (lv_at hl 2 rfl) ?_
  obtain ⟨v_13, hc_13, hs⟩ := op_bd hs
  refine gx_cSi (va_Run.run (va_runV (As := [.int p1, .int p2]) (rest := []) ⟨hx, hb, hml, hown, hts⟩ (c_X4_have l D cI cJ cZ cS ad m0 mk mc mx my mf mp mq mb (ms_l (ms_u M 0) 1) p1 p2 F  v_13 hc_13) (cwV 2 hts gX4_least_X4_have rfl rfl rfl (by decide +kernel) ⟨Nat.le_of_ble_eq_true rfl, Nat.le_of_ble_eq_true rfl⟩) ⟨gl_blind, va_recv hK hP (ci := 4) (q0 := 0) rfl rfl, gl_ok hK (gl_Ek hE hS) hP⟩ rfl rfl hl.1 rfl (lv_room (Nat.le_of_ble_eq_true rfl)) dX4_least_13 ⟨Nat.le_of_ble_eq_true rfl, Nat.le_of_ble_eq_true rfl⟩)) ?_
  refine lv_if_eq (tgt := 20) hx hb dX4_least_16 (by decide) (fun c_16 => ?_) (fun c_16 => ?_)
  · replace hs := it_t c_16 hs
    refine lv_aload_n hx hb dX4_least_20 rfl (lv_at hl 0 rfl) ?_
    refine lv_lconst (v := 0) hx hb dX4_least_21 (by decide) ?_
    refine va_put (D := D) (ci := 4) (v := .long 0) (ty := .long) (C := RX4) (T := TX4) (N := 15) hx hb hts in_X4 tyX4 tyX4_ok nmX4 hown hK hP hD hS 0 rfl rfl 10 (by decide) lk_115 (fun _ h9 => h9) rfl (by decide +kernel) rfl rfl (Nat.le_of_ble_eq_true rfl) dX4_least_22 (fun H locs hP hD hS => ?_)
    have hP : va_P D vwCl (mo_w cI cJ cZ m0 mk mc mx my mf mp mq mb (ms_l (ms_u M 0) 0)) H := hP
    have hD : va_D A (mo_w cI cJ cZ m0 mk mc mx my mf mp mq mb (ms_l (ms_u M 0) 0)) := hD
    refine lv_aload_n hx hb dX4_least_25 rfl (lv_at hl 0 rfl) ?_
    refine lv_iload_n hx hb dX4_least_26 rfl (lv_at hl 1 rfl) ?_
    refine lv_iload_n hx hb dX4_least_27 rfl (lv_at hl 2 rfl) ?_
    obtain ⟨v_28, hc_28, hs⟩ := op_bd hs
    have hFc := va_free (wc := mo_w cI cJ cZ m0 mk mc mx my mf mp mq mb (ms_l (ms_u M 0) 0)) hD hS hA [0, 1, 2, 3, 4, 5, 6, 7, 8] rfl
    refine gx_cMv (wf := fun u => mo_w cI cJ cZ m0 mk mc mx my mf mp mq mb u) (va_runV (As := [.int p1, .int p2]) (rest := []) ⟨hx, hb, hml, hown, hts⟩ (c_X4_weighCorners l D cI cJ cZ cS ad m0 mk mc mx my mf mp mq mb _ (ms_l (ms_u M 0) 0) p1 p2 F  v_28 hc_28) (cwV 2 hts gX4_least_X4_weighCorners rfl rfl rfl (by decide +kernel) ⟨Nat.le_of_ble_eq_true rfl, Nat.le_of_ble_eq_true rfl⟩) ⟨gm_blind, va_recv hK hP (ci := 4) (q0 := 0) rfl rfl, gm_ok hK hE hS hFc hP hD va_nil0 gx_nil⟩ rfl rfl hl.1 rfl (lv_room (Nat.le_of_ble_eq_true rfl)) dX4_least_28 ⟨Nat.le_of_ble_eq_true rfl, Nat.le_of_ble_eq_true rfl⟩) hS hFc (fun H locs hP hD hS => ?_)
    have hP : va_P D vwCl (mo_w cI cJ cZ m0 mk mc mx my mf mp mq mb v_28) H := hP
    have hD : va_D A (mo_w cI cJ cZ m0 mk mc mx my mf mp mq mb v_28) := hD
    refine lv_aload_n hx hb dX4_least_31 rfl (lv_at hl 0 rfl) ?_
    refine lv_iload_n hx hb dX4_least_32 rfl (lv_at hl 2 rfl) ?_
    refine lv_iload_n hx hb dX4_least_33 rfl (lv_at hl 1 rfl) ?_
    obtain ⟨v_34, hc_34, hs⟩ := op_bd hs
    have hFc := va_free (wc := mo_w cI cJ cZ m0 mk mc mx my mf mp mq mb v_28) hD hS hA [0, 1, 2, 3, 4, 5, 6, 7, 8] rfl
    refine gx_cMv (wf := fun u => mo_w cI cJ cZ m0 mk mc mx my mf mp mq mb u) (va_runV (As := [.int p2, .int p1]) (rest := []) ⟨hx, hb, hml, hown, hts⟩ (c_X4_weighCorners l D cI cJ cZ cS ad m0 mk mc mx my mf mp mq mb _ v_28 p2 p1 F  v_34 hc_34) (cwV 2 hts gX4_least_X4_weighCorners rfl rfl rfl (by decide +kernel) ⟨Nat.le_of_ble_eq_true rfl, Nat.le_of_ble_eq_true rfl⟩) ⟨gm_blind, va_recv hK hP (ci := 4) (q0 := 0) rfl rfl, gm_ok hK hE hS hFc hP hD va_nil0 gx_nil⟩ rfl rfl hl.1 rfl (lv_room (Nat.le_of_ble_eq_true rfl)) dX4_least_34 ⟨Nat.le_of_ble_eq_true rfl, Nat.le_of_ble_eq_true rfl⟩) hS hFc (fun H locs hP hD hS => ?_)
    have hP : va_P D vwCl (mo_w cI cJ cZ m0 mk mc mx my mf mp mq mb v_34) H := hP
    have hD : va_D A (mo_w cI cJ cZ m0 mk mc mx my mf mp mq mb v_34) := hD
    obtain rfl := Option.some.inj hs
    exact W.vret hx hb hr (fun t ht hW => ⟨⟨_, rfl, rfl, by rw [ht]; exact hP, hD⟩, hS.F ht⟩) hS.2.2 dX4_least_37
  · replace hs := it_f c_16 hs
    obtain rfl := Option.some.inj hs
    exact W.vret hx hb hr (fun t ht hW => ⟨⟨_, rfl, rfl, by rw [ht]; exact hP, hD⟩, hS.F ht⟩) hS.2.2 dX4_least_19
def s_X4_square (F : Nat) (M : mo_T) (p1 : Int32) (p2 : Int32) (p3 : Int32) : Option (Int64 × mo_T) :=
  (s_X4_isRight F (ms_t M 0) p1).bind fun v_7 =>
  if v_7.1 = 0 then
    some ((-1), v_7.2)
  else
    (s_X4_isRight F v_7.2 p2).bind fun v_15 =>
    if v_15.1 = 0 then
      some ((-1), v_15.2)
    else
      (s_X4_least F v_15.2 p1 p2).bind fun v_28 =>
      if p3 = 0 then
        some ((mo_u v_28), v_28)
      else
        some ((mo_l v_28), v_28)
abbrev rm_X4_square : Room := { frames := 7, cells := 0, slots := 0, locals := 189 }
theorem in_X4_square_X4 : ∀ w ∈ wsX40, w ∈ wsX4_square := by decide +kernel
set_option maxHeartbeats 4000000 in
set_option maxRecDepth 100000 in
theorem c_X4_square (l : Launch) (D : va_G) (cI cJ cZ cS : ClassId) (ad : Nat → Nat) (m0 mk mc mx my mf mp mq mb : Nat) (sz : Nat) (M : mo_T) (p1 : Int32) (p2 : Int32) (p3 : Int32) (F : Nat)  (r : (Int64 × mo_T)) (hs : s_X4_square F M p1 p2 p3 = some r) : Met l yX4_square wsX4_square rm_X4_square (gm_P D cI cJ cZ cS ad sz (mo_w cI cJ cZ m0 mk mc mx my mf mp mq mb M) ([]) [.ref m0, .int p1, .int p2, .int p3]) (va_Ql (fun x (u : mo_T) => x = r.1 ∧ u = r.2) (fun u t => va_P D vwCl (mo_w cI cJ cZ m0 mk mc mx my mf mp mq mb u) t.heap ∧ va_D (va_A (mo_w cI cJ cZ m0 mk mc mx my mf mp mq mb M) sz) (mo_w cI cJ cZ m0 mk mc mx my mf mp mq mb u)) (va_A (mo_w cI cJ cZ m0 mk mc mx my mf mp mq mb M) sz)) 0 0 (va_A (mo_w cI cJ cZ m0 mk mc mx my mf mp mq mb M) sz) := by
  refine Met.ofW (cc := cX4_square) (maxL := 4) (ret := (some .long)) (by decide) rfl ?_
  intro p e s m args below meth c s₁ B hml hv
  obtain ⟨rfl, hsz, hK, hE, hP, hD0, hR, hRn0⟩ := hv
  have hx := B.exec
  have hb := B.bytes
  have hr := B.returns
  have hts := atoms_spec (ws := wsX4_square) B.pre
  have hown : s.vm.findClass RX4 = some m.cls := findClass_of_methodNamed B.named
  have hlocks := B.notSynchronized
  subst hsz
  have hD := hD0.self (sz := s.heap.size)
  have hRn := gx_rn0 hR hRn0
  generalize hAe : va_A (mo_w cI cJ cZ m0 mk mc mx my mf mp mq mb M) s.heap.size = A at hD hE hRn ⊢
  have hA : ∀ q : Nat, s.heap.size ≤ q → A q := fun q h => by rw [← hAe]; exact Or.inr h
  have hS : va_S A s.heap s.heap [] := va_S.rf
  have lk_1 := hts (.fieldLink RX4 1 "PlacePointsModel" "thrown" "I") (by decide +kernel)
  have lk_115 := hts (.fieldLink RX4 115 "PlacePointsModel" "lower" "J") (by decide +kernel)
  have lk_119 := hts (.fieldLink RX4 119 "PlacePointsModel" "upper" "J") (by decide +kernel)
  have in_X4 := in_X4_square_X4
  have hl := lv_entry ([.ref m0, .int p1, .int p2, .int p3]) (n := 4) (Nat.le_of_ble_eq_true rfl)
  rw [lg_entry_eq]
  generalize (lg_sl ([.ref m0, .int p1, .int p2, .int p3]) ++ List.replicate (4 - (lg_sl ([.ref m0, .int p1, .int p2, .int p3])).length) Slot.unset).toArray = ls at hl ⊢
  have hl : lv_has ls 4 [(0, .ref m0), (1, .int p1), (2, .int p2), (3, .int p3)] := hl
  rw [s_X4_square] at hs
  refine lv_aload_n hx hb dX4_square_0 rfl (lv_at hl 0 rfl) ?_
  refine lv_iconst (v := 0) hx hb dX4_square_1 (by decide) ?_
  refine va_put (D := D) (ci := 4) (v := .int 0) (ty := .int) (C := RX4) (T := TX4) (N := 15) hx hb hts in_X4 tyX4 tyX4_ok nmX4 hown hK hP hD hS 0 rfl rfl 11 (by decide) lk_1 (fun _ h9 => h9) rfl (by decide +kernel) rfl rfl (Nat.le_of_ble_eq_true rfl) dX4_square_2 (fun H locs hP hD hS => ?_)
  have hP : va_P D vwCl (mo_w cI cJ cZ m0 mk mc mx my mf mp mq mb (ms_t M 0)) H := hP
  have hD : va_D A (mo_w cI cJ cZ m0 mk mc mx my mf mp mq mb (ms_t M 0)) := hD
  refine lv_aload_n hx hb dX4_square_5 rfl (lv_at hl 0 rfl) ?_
  refine lv_iload_n hx hb dX4_square_6 rfl (lv_at hl 1 rfl) ?_
  obtain ⟨v_7, hc_7, hs⟩ := op_bd hs
  have hFc := va_free (wc := mo_w cI cJ cZ m0 mk mc mx my mf mp mq mb (ms_t M 0)) hD hS hA [0, 1, 2, 3, 4, 5, 6, 7, 8] rfl
  refine gx_cMi (wf := fun u => mo_w cI cJ cZ m0 mk mc mx my mf mp mq mb u) (va_runV (As := [.int p1]) (rest := []) ⟨hx, hb, hml, hown, hts⟩ (c_X4_isRight l D cI cJ cZ cS ad m0 mk mc mx my mf mp mq mb _ (ms_t M 0) p1 F  v_7 hc_7) (cwV 1 hts gX4_square_X4_isRight rfl rfl rfl (by decide +kernel) ⟨Nat.le_of_ble_eq_true rfl, Nat.le_of_ble_eq_true rfl⟩) ⟨gm_blind, va_recv hK hP (ci := 4) (q0 := 0) rfl rfl, gm_ok hK hE hS hFc hP hD va_nil0 gx_nil⟩ rfl rfl hl.1 rfl (lv_room (Nat.le_of_ble_eq_true rfl)) dX4_square_7 ⟨Nat.le_of_ble_eq_true rfl, Nat.le_of_ble_eq_true rfl⟩) hS hFc (fun H locs hP hD hS => ?_)
  have hP : va_P D vwCl (mo_w cI cJ cZ m0 mk mc mx my mf mp mq mb v_7.2) H := hP
  have hD : va_D A (mo_w cI cJ cZ m0 mk mc mx my mf mp mq mb v_7.2) := hD
  refine lv_if_eq (tgt := 21) hx hb dX4_square_10 (by decide) (fun c_10 => ?_) (fun c_10 => ?_)
  · replace hs := it_t c_10 hs
    refine lv_ldc2 (v := -1) hx hb hown (hts (.constantLong RX4 142 (-1)) (by decide +kernel)) dX4_square_21 ?_
    obtain rfl := Option.some.inj hs
    exact W.lret hx hb hr (fun t ht hW => ⟨⟨_, _, rfl, ⟨rfl, rfl⟩, by rw [ht]; exact hP, hD⟩, hS.F ht⟩) hS.2.2 dX4_square_24
  · replace hs := it_f c_10 hs
    refine lv_aload_n hx hb dX4_square_13 rfl (lv_at hl 0 rfl) ?_
    refine lv_iload_n hx hb dX4_square_14 rfl (lv_at hl 2 rfl) ?_
    obtain ⟨v_15, hc_15, hs⟩ := op_bd hs
    have hFc := va_free (wc := mo_w cI cJ cZ m0 mk mc mx my mf mp mq mb v_7.2) hD hS hA [0, 1, 2, 3, 4, 5, 6, 7, 8] rfl
    refine gx_cMi (wf := fun u => mo_w cI cJ cZ m0 mk mc mx my mf mp mq mb u) (va_runV (As := [.int p2]) (rest := []) ⟨hx, hb, hml, hown, hts⟩ (c_X4_isRight l D cI cJ cZ cS ad m0 mk mc mx my mf mp mq mb _ v_7.2 p2 F  v_15 hc_15) (cwV 1 hts gX4_square_X4_isRight rfl rfl rfl (by decide +kernel) ⟨Nat.le_of_ble_eq_true rfl, Nat.le_of_ble_eq_true rfl⟩) ⟨gm_blind, va_recv hK hP (ci := 4) (q0 := 0) rfl rfl, gm_ok hK hE hS hFc hP hD va_nil0 gx_nil⟩ rfl rfl hl.1 rfl (lv_room (Nat.le_of_ble_eq_true rfl)) dX4_square_15 ⟨Nat.le_of_ble_eq_true rfl, Nat.le_of_ble_eq_true rfl⟩) hS hFc (fun H locs hP hD hS => ?_)
    have hP : va_P D vwCl (mo_w cI cJ cZ m0 mk mc mx my mf mp mq mb v_15.2) H := hP
    have hD : va_D A (mo_w cI cJ cZ m0 mk mc mx my mf mp mq mb v_15.2) := hD
    refine lv_if_ne (tgt := 25) hx hb dX4_square_18 (by decide) (fun c_18 => ?_) (fun c_18 => ?_)
    · replace hs := it_f c_18 hs
      refine lv_aload_n hx hb dX4_square_25 rfl (lv_at hl 0 rfl) ?_
      refine lv_iload_n hx hb dX4_square_26 rfl (lv_at hl 1 rfl) ?_
      refine lv_iload_n hx hb dX4_square_27 rfl (lv_at hl 2 rfl) ?_
      obtain ⟨v_28, hc_28, hs⟩ := op_bd hs
      have hFc := va_free (wc := mo_w cI cJ cZ m0 mk mc mx my mf mp mq mb v_15.2) hD hS hA [0, 1, 2, 3, 4, 5, 6, 7, 8] rfl
      refine gx_cMv (wf := fun u => mo_w cI cJ cZ m0 mk mc mx my mf mp mq mb u) (va_runV (As := [.int p1, .int p2]) (rest := []) ⟨hx, hb, hml, hown, hts⟩ (c_X4_least l D cI cJ cZ cS ad m0 mk mc mx my mf mp mq mb _ v_15.2 p1 p2 F  v_28 hc_28) (cwV 2 hts gX4_square_X4_least rfl rfl rfl (by decide +kernel) ⟨Nat.le_of_ble_eq_true rfl, Nat.le_of_ble_eq_true rfl⟩) ⟨gm_blind, va_recv hK hP (ci := 4) (q0 := 0) rfl rfl, gm_ok hK hE hS hFc hP hD va_nil0 gx_nil⟩ rfl rfl hl.1 rfl (lv_room (Nat.le_of_ble_eq_true rfl)) dX4_square_28 ⟨Nat.le_of_ble_eq_true rfl, Nat.le_of_ble_eq_true rfl⟩) hS hFc (fun H locs hP hD hS => ?_)
      have hP : va_P D vwCl (mo_w cI cJ cZ m0 mk mc mx my mf mp mq mb v_28) H := hP
      have hD : va_D A (mo_w cI cJ cZ m0 mk mc mx my mf mp mq mb v_28) := hD
      refine lv_iload_n hx hb dX4_square_31 rfl (lv_at hl 3 rfl) ?_
      refine lv_if_ne (tgt := 42) hx hb dX4_square_32 (by decide) (fun c_32 => ?_) (fun c_32 => ?_)
      · replace hs := it_f c_32 hs
        refine lv_aload_n hx hb dX4_square_42 rfl (lv_at hl 0 rfl) ?_
        refine va_get (D := D) (ci := 4) (v := .long (mo_l v_28)) (C := RX4) (T := TX4) (N := 15) hx hb hts in_X4 hown hK hP 0 rfl rfl 10 (by decide) lk_115 (fun _ h9 => h9) rfl dX4_square_43 ?_
        obtain rfl := Option.some.inj hs
        exact W.lret hx hb hr (fun t ht hW => ⟨⟨_, _, rfl, ⟨rfl, rfl⟩, by rw [ht]; exact hP, hD⟩, hS.F ht⟩) hS.2.2 dX4_square_46
      · replace hs := it_t c_32 hs
        refine lv_aload_n hx hb dX4_square_35 rfl (lv_at hl 0 rfl) ?_
        refine va_get (D := D) (ci := 4) (v := .long (mo_u v_28)) (C := RX4) (T := TX4) (N := 15) hx hb hts in_X4 hown hK hP 0 rfl rfl 9 (by decide) lk_119 (fun _ h9 => h9) rfl dX4_square_36 ?_
        refine lv_goto (tgt := 46) hx hb dX4_square_39 (by decide) ?_
        obtain rfl := Option.some.inj hs
        exact W.lret hx hb hr (fun t ht hW => ⟨⟨_, _, rfl, ⟨rfl, rfl⟩, by rw [ht]; exact hP, hD⟩, hS.F ht⟩) hS.2.2 dX4_square_46
    · replace hs := it_t c_18 hs
      refine lv_ldc2 (v := -1) hx hb hown (hts (.constantLong RX4 142 (-1)) (by decide +kernel)) dX4_square_21 ?_
      obtain rfl := Option.some.inj hs
      exact W.lret hx hb hr (fun t ht hW => ⟨⟨_, _, rfl, ⟨rfl, rfl⟩, by rw [ht]; exact hP, hD⟩, hS.F ht⟩) hS.2.2 dX4_square_24
def s_X4_toPlace_41 (F : Nat) (M : mo_T) (p1 : Int32) (p2 : Int32) (p3 : Int32) : Nat → Int32 → mo_T → Option mo_T
  | 0, _, _ => none
  | n + 1, x4, N =>
    (s_X4_sides F N p3).bind fun v_45 =>
    if v_45 ≤ x4 then
      some N
    else
      (s_X4_from F N p3 x4).bind fun v_60 =>
      (s_X4_to F N p3 x4).bind fun v_67 =>
      (s_X4_weighSide F N p1.toInt64 p2.toInt64 v_60 v_67).bind fun v_70 =>
      (some (x4 + 1)).bind fun e_73 =>
      s_X4_toPlace_41 F M p1 p2 p3 n e_73 v_70
def s_X4_toPlace_33 (F : Nat) (M : mo_T) (p1 : Int32) (p2 : Int32) (p3 : Int32) (N : mo_T) : Option mo_T :=
  s_X4_toPlace_41 F M p1 p2 p3 F 0 (ms_l N 0)
def s_X4_toPlace (F : Nat) (M : mo_T) (p1 : Int32) (p2 : Int32) (p3 : Int32) : Option mo_T :=
  (rd_i 60 (mo_k M) p3).bind fun v_15 =>
  if v_15 = 3 then
    (s_X4_stands F (ms_l (ms_u M 0) 1) p1.toInt64 p2.toInt64 p3).bind fun v_26 =>
    if v_26 ≤ 0 then
      s_X4_toPlace_33 F M p1 p2 p3 (ms_l (ms_u M 0) 1)
    else
      some (ms_l (ms_u M 0) 1)
  else
    s_X4_toPlace_33 F M p1 p2 p3 (ms_l (ms_u M 0) 1)
abbrev rm_X4_toPlace : Room := { frames := 4, cells := 0, slots := 0, locals := 122 }
theorem in_X4_toPlace_X4 : ∀ w ∈ wsX40, w ∈ wsX4_toPlace := by decide +kernel
set_option maxHeartbeats 4000000 in
set_option maxRecDepth 100000 in
theorem c_X4_toPlace (l : Launch) (D : va_G) (cI cJ cZ cS : ClassId) (ad : Nat → Nat) (m0 mk mc mx my mf mp mq mb : Nat) (sz : Nat) (M : mo_T) (p1 : Int32) (p2 : Int32) (p3 : Int32) (F : Nat)  (r : mo_T) (hs : s_X4_toPlace F M p1 p2 p3 = some r) : Met l yX4_toPlace wsX4_toPlace rm_X4_toPlace (gm_P D cI cJ cZ cS ad sz (mo_w cI cJ cZ m0 mk mc mx my mf mp mq mb M) ([]) [.ref m0, .int p1, .int p2, .int p3]) (va_Qv (fun u : mo_T => u = r) (fun u t => va_P D vwCl (mo_w cI cJ cZ m0 mk mc mx my mf mp mq mb u) t.heap ∧ va_D (va_A (mo_w cI cJ cZ m0 mk mc mx my mf mp mq mb M) sz) (mo_w cI cJ cZ m0 mk mc mx my mf mp mq mb u)) (va_A (mo_w cI cJ cZ m0 mk mc mx my mf mp mq mb M) sz)) 0 0 (va_A (mo_w cI cJ cZ m0 mk mc mx my mf mp mq mb M) sz) := by
  refine Met.ofW (cc := cX4_toPlace) (maxL := 5) (ret := none) (by decide) rfl ?_
  intro p e s m args below meth c s₁ B hml hv
  obtain ⟨rfl, hsz, hK, hE, hP, hD0, hR, hRn0⟩ := hv
  have hx := B.exec
  have hb := B.bytes
  have hr := B.returns
  have hts := atoms_spec (ws := wsX4_toPlace) B.pre
  have hown : s.vm.findClass RX4 = some m.cls := findClass_of_methodNamed B.named
  have hlocks := B.notSynchronized
  subst hsz
  have hD := hD0.self (sz := s.heap.size)
  have hRn := gx_rn0 hR hRn0
  generalize hAe : va_A (mo_w cI cJ cZ m0 mk mc mx my mf mp mq mb M) s.heap.size = A at hD hE hRn ⊢
  have hA : ∀ q : Nat, s.heap.size ≤ q → A q := fun q h => by rw [← hAe]; exact Or.inr h
  have hS : va_S A s.heap s.heap [] := va_S.rf
  have lk_13 := hts (.fieldLink RX4 13 "PlacePointsModel" "kinds" "[I") (by decide +kernel)
  have lk_115 := hts (.fieldLink RX4 115 "PlacePointsModel" "lower" "J") (by decide +kernel)
  have lk_119 := hts (.fieldLink RX4 119 "PlacePointsModel" "upper" "J") (by decide +kernel)
  have in_X4 := in_X4_toPlace_X4
  have J_41 : ∀ (n_41 : Nat) (x4 : Int32) (N : mo_T), s_X4_toPlace_41 F M p1 p2 p3 n_41 x4 N = some r → ∀ (H : Heap) (locs : List Loc), va_P D vwCl (mo_w cI cJ cZ m0 mk mc mx my mf mp mq mb N) H → va_D A (mo_w cI cJ cZ m0 mk mc mx my mf mp mq mb N) → va_S A s.heap H locs → ∀ ls : Array Slot, lv_has ls 5 [(0, .ref m0), (1, .int p1), (2, .int p2), (3, .int p3), (4, .int x4)] → W p l e (headSpec wsX4_toPlace rm_X4_toPlace).room s m ([.ref m0, .int p1, .int p2, .int p3] : List Value).toArray below meth c H locs 0 0 (MQ below (va_Qv (fun u : mo_T => u = r) (fun u t => va_P D vwCl (mo_w cI cJ cZ m0 mk mc mx my mf mp mq mb u) t.heap ∧ va_D (A) (mo_w cI cJ cZ m0 mk mc mx my mf mp mq mb u)) (A)) ([.ref m0, .int p1, .int p2, .int p3] : List Value).toArray s 0 0 (A)) (F0 m 41 ls []) := by
    intro n_41
    induction n_41 with
    | zero =>
      intro x4 N hs
      cases hs
    | succ n_41 ih_41 =>
      intro x4 N hs H locs hP hD hS ls hl
      rw [s_X4_toPlace_41] at hs
      refine lv_iload hx hb dX4_toPlace_41 (lv_at hl 4 rfl) ?_
      refine lv_aload_n hx hb dX4_toPlace_43 rfl (lv_at hl 0 rfl) ?_
      refine lv_iload_n hx hb dX4_toPlace_44 rfl (lv_at hl 3 rfl) ?_
      obtain ⟨v_45, hc_45, hs⟩ := op_bd hs
      refine gx_cSi (va_Run.run (va_runV (As := [.int p3]) (rest := [.int x4]) ⟨hx, hb, hml, hown, hts⟩ (c_X4_sides l D cI cJ cZ cS ad m0 mk mc mx my mf mp mq mb N p3 F  v_45 hc_45) (cwV 1 hts gX4_toPlace_X4_sides rfl rfl rfl (by decide +kernel) ⟨Nat.le_of_ble_eq_true rfl, Nat.le_of_ble_eq_true rfl⟩) ⟨gl_blind, va_recv hK hP (ci := 4) (q0 := 0) rfl rfl, gl_ok hK (gl_Ek hE hS) hP⟩ rfl rfl hl.1 rfl (lv_room (Nat.le_of_ble_eq_true rfl)) dX4_toPlace_45 ⟨Nat.le_of_ble_eq_true rfl, Nat.le_of_ble_eq_true rfl⟩)) ?_
      refine lv_icmp_ge (tgt := 79) hx hb dX4_toPlace_48 (by decide) (fun c_48 => ?_) (fun c_48 => ?_)
      · replace hs := it_t c_48 hs
        obtain rfl := Option.some.inj hs
        exact W.vret hx hb hr (fun t ht hW => ⟨⟨_, rfl, rfl, by rw [ht]; exact hP, hD⟩, hS.F ht⟩) hS.2.2 dX4_toPlace_79
      · replace hs := it_f c_48 hs
        refine lv_aload_n hx hb dX4_toPlace_51 rfl (lv_at hl 0 rfl) ?_
        refine lv_iload_n hx hb dX4_toPlace_52 rfl (lv_at hl 1 rfl) ?_
        refine lv_i2l hx hb dX4_toPlace_53 rfl ?_
        refine lv_iload_n hx hb dX4_toPlace_54 rfl (lv_at hl 2 rfl) ?_
        refine lv_i2l hx hb dX4_toPlace_55 rfl ?_
        refine lv_aload_n hx hb dX4_toPlace_56 rfl (lv_at hl 0 rfl) ?_
        refine lv_iload_n hx hb dX4_toPlace_57 rfl (lv_at hl 3 rfl) ?_
        refine lv_iload hx hb dX4_toPlace_58 (lv_at hl 4 rfl) ?_
        obtain ⟨v_60, hc_60, hs⟩ := op_bd hs
        refine gx_cSi (va_Run.run (va_runV (As := [.int p3, .int x4]) (rest := [.long p2.toInt64, .long p1.toInt64, .ref m0]) ⟨hx, hb, hml, hown, hts⟩ (c_X4_from l D cI cJ cZ cS ad m0 mk mc mx my mf mp mq mb N p3 x4 F  v_60 hc_60) (cwV 2 hts gX4_toPlace_X4_from rfl rfl rfl (by decide +kernel) ⟨Nat.le_of_ble_eq_true rfl, Nat.le_of_ble_eq_true rfl⟩) ⟨gl_blind, va_recv hK hP (ci := 4) (q0 := 0) rfl rfl, gl_ok hK (gl_Ek hE hS) hP⟩ rfl rfl hl.1 rfl (lv_room (Nat.le_of_ble_eq_true rfl)) dX4_toPlace_60 ⟨Nat.le_of_ble_eq_true rfl, Nat.le_of_ble_eq_true rfl⟩)) ?_
        refine lv_aload_n hx hb dX4_toPlace_63 rfl (lv_at hl 0 rfl) ?_
        refine lv_iload_n hx hb dX4_toPlace_64 rfl (lv_at hl 3 rfl) ?_
        refine lv_iload hx hb dX4_toPlace_65 (lv_at hl 4 rfl) ?_
        obtain ⟨v_67, hc_67, hs⟩ := op_bd hs
        refine gx_cSi (va_Run.run (va_runV (As := [.int p3, .int x4]) (rest := [.int v_60, .long p2.toInt64, .long p1.toInt64, .ref m0]) ⟨hx, hb, hml, hown, hts⟩ (c_X4_to l D cI cJ cZ cS ad m0 mk mc mx my mf mp mq mb N p3 x4 F  v_67 hc_67) (cwV 2 hts gX4_toPlace_X4_to rfl rfl rfl (by decide +kernel) ⟨Nat.le_of_ble_eq_true rfl, Nat.le_of_ble_eq_true rfl⟩) ⟨gl_blind, va_recv hK hP (ci := 4) (q0 := 0) rfl rfl, gl_ok hK (gl_Ek hE hS) hP⟩ rfl rfl hl.1 rfl (lv_room (Nat.le_of_ble_eq_true rfl)) dX4_toPlace_67 ⟨Nat.le_of_ble_eq_true rfl, Nat.le_of_ble_eq_true rfl⟩)) ?_
        obtain ⟨v_70, hc_70, hs⟩ := op_bd hs
        have hFc := va_free (wc := mo_w cI cJ cZ m0 mk mc mx my mf mp mq mb N) hD hS hA [0, 1, 2, 3, 4, 5, 6, 7, 8] rfl
        refine gx_cMv (wf := fun u => mo_w cI cJ cZ m0 mk mc mx my mf mp mq mb u) (va_runV (As := [.long p1.toInt64, .long p2.toInt64, .int v_60, .int v_67]) (rest := []) ⟨hx, hb, hml, hown, hts⟩ (c_X4_weighSide l D cI cJ cZ cS ad m0 mk mc mx my mf mp mq mb _ N p1.toInt64 p2.toInt64 v_60 v_67 F  v_70 hc_70) (cwV 4 hts gX4_toPlace_X4_weighSide rfl rfl rfl (by decide +kernel) ⟨Nat.le_of_ble_eq_true rfl, Nat.le_of_ble_eq_true rfl⟩) ⟨gm_blind, va_recv hK hP (ci := 4) (q0 := 0) rfl rfl, gm_ok hK hE hS hFc hP hD va_nil0 gx_nil⟩ rfl rfl hl.1 rfl (lv_room (Nat.le_of_ble_eq_true rfl)) dX4_toPlace_70 ⟨Nat.le_of_ble_eq_true rfl, Nat.le_of_ble_eq_true rfl⟩) hS hFc (fun H locs hP hD hS => ?_)
        have hP : va_P D vwCl (mo_w cI cJ cZ m0 mk mc mx my mf mp mq mb v_70) H := hP
        have hD : va_D A (mo_w cI cJ cZ m0 mk mc mx my mf mp mq mb v_70) := hD
        obtain ⟨e_73, hv_73, hs⟩ := op_bd hs
        refine lv_iinc (v := e_73) (lv' := [(4, .int e_73), (0, .ref m0), (1, .int p1), (2, .int p2), (3, .int p3)]) hx hb dX4_toPlace_73 hl (k := 4) rfl (Option.some.inj hv_73) (by decide) rfl (fun ls hl => ?_)
        refine lv_goto (tgt := 41) hx hb dX4_toPlace_76 (by decide) ?_
        exact ih_41 e_73 v_70 hs _ _ hP hD hS _ (lv_sub hl [1, 2, 3, 4, 0] rfl)
  have J_33 : ∀ (N : mo_T), s_X4_toPlace_33 F M p1 p2 p3 N = some r → ∀ (H : Heap) (locs : List Loc), va_P D vwCl (mo_w cI cJ cZ m0 mk mc mx my mf mp mq mb N) H → va_D A (mo_w cI cJ cZ m0 mk mc mx my mf mp mq mb N) → va_S A s.heap H locs → ∀ ls : Array Slot, lv_has ls 5 [(0, .ref m0), (1, .int p1), (2, .int p2), (3, .int p3)] → W p l e (headSpec wsX4_toPlace rm_X4_toPlace).room s m ([.ref m0, .int p1, .int p2, .int p3] : List Value).toArray below meth c H locs 0 0 (MQ below (va_Qv (fun u : mo_T => u = r) (fun u t => va_P D vwCl (mo_w cI cJ cZ m0 mk mc mx my mf mp mq mb u) t.heap ∧ va_D (A) (mo_w cI cJ cZ m0 mk mc mx my mf mp mq mb u)) (A)) ([.ref m0, .int p1, .int p2, .int p3] : List Value).toArray s 0 0 (A)) (F0 m 33 ls []) := by
    intro N hs H locs hP hD hS ls hl
    rw [s_X4_toPlace_33] at hs
    refine lv_aload_n hx hb dX4_toPlace_33 rfl (lv_at hl 0 rfl) ?_
    refine lv_lconst (v := 0) hx hb dX4_toPlace_34 (by decide) ?_
    refine va_put (D := D) (ci := 4) (v := .long 0) (ty := .long) (C := RX4) (T := TX4) (N := 15) hx hb hts in_X4 tyX4 tyX4_ok nmX4 hown hK hP hD hS 0 rfl rfl 10 (by decide) lk_115 (fun _ h9 => h9) rfl (by decide +kernel) rfl rfl (Nat.le_of_ble_eq_true rfl) dX4_toPlace_35 (fun H locs hP hD hS => ?_)
    have hP : va_P D vwCl (mo_w cI cJ cZ m0 mk mc mx my mf mp mq mb (ms_l N 0)) H := hP
    have hD : va_D A (mo_w cI cJ cZ m0 mk mc mx my mf mp mq mb (ms_l N 0)) := hD
    refine lv_iconst (v := 0) hx hb dX4_toPlace_38 (by decide) ?_
    refine lv_istore (lv' := [(4, .int 0), (0, .ref m0), (1, .int p1), (2, .int p2), (3, .int p3)]) hx hb dX4_toPlace_39 hl (by decide) rfl (fun ls hl => ?_)
    exact J_41 F 0 (ms_l N 0) hs _ _ hP hD hS _ (lv_sub hl [1, 2, 3, 4, 0] rfl)
  have hl := lv_entry ([.ref m0, .int p1, .int p2, .int p3]) (n := 5) (Nat.le_of_ble_eq_true rfl)
  rw [lg_entry_eq]
  generalize (lg_sl ([.ref m0, .int p1, .int p2, .int p3]) ++ List.replicate (5 - (lg_sl ([.ref m0, .int p1, .int p2, .int p3])).length) Slot.unset).toArray = ls at hl ⊢
  have hl : lv_has ls 5 [(0, .ref m0), (1, .int p1), (2, .int p2), (3, .int p3)] := hl
  rw [s_X4_toPlace] at hs
  refine lv_aload_n hx hb dX4_toPlace_0 rfl (lv_at hl 0 rfl) ?_
  refine lv_lconst (v := 0) hx hb dX4_toPlace_1 (by decide) ?_
  refine va_put (D := D) (ci := 4) (v := .long 0) (ty := .long) (C := RX4) (T := TX4) (N := 15) hx hb hts in_X4 tyX4 tyX4_ok nmX4 hown hK hP hD hS 0 rfl rfl 9 (by decide) lk_119 (fun _ h9 => h9) rfl (by decide +kernel) rfl rfl (Nat.le_of_ble_eq_true rfl) dX4_toPlace_2 (fun H locs hP hD hS => ?_)
  have hP : va_P D vwCl (mo_w cI cJ cZ m0 mk mc mx my mf mp mq mb (ms_u M 0)) H := hP
  have hD : va_D A (mo_w cI cJ cZ m0 mk mc mx my mf mp mq mb (ms_u M 0)) := hD
  refine lv_aload_n hx hb dX4_toPlace_5 rfl (lv_at hl 0 rfl) ?_
  refine lv_lconst (v := 1) hx hb dX4_toPlace_6 (by decide) ?_
  refine va_put (D := D) (ci := 4) (v := .long 1) (ty := .long) (C := RX4) (T := TX4) (N := 15) hx hb hts in_X4 tyX4 tyX4_ok nmX4 hown hK hP hD hS 0 rfl rfl 10 (by decide) lk_115 (fun _ h9 => h9) rfl (by decide +kernel) rfl rfl (Nat.le_of_ble_eq_true rfl) dX4_toPlace_7 (fun H locs hP hD hS => ?_)
  have hP : va_P D vwCl (mo_w cI cJ cZ m0 mk mc mx my mf mp mq mb (ms_l (ms_u M 0) 1)) H := hP
  have hD : va_D A (mo_w cI cJ cZ m0 mk mc mx my mf mp mq mb (ms_l (ms_u M 0) 1)) := hD
  refine lv_aload_n hx hb dX4_toPlace_10 rfl (lv_at hl 0 rfl) ?_
  refine va_get (D := D) (ci := 4) (v := .ref mk) (C := RX4) (T := TX4) (N := 15) hx hb hts in_X4 hown hK hP 0 rfl rfl 0 (by decide) lk_13 (fun _ h9 => h9) rfl dX4_toPlace_11 ?_
  refine lv_iload_n hx hb dX4_toPlace_14 rfl (lv_at hl 3 rfl) ?_
  obtain ⟨v_15, hv_15, hs⟩ := op_bd hs
  refine gx_iald hx hb hK hP 1 0 rfl rfl hv_15 dX4_toPlace_15 ?_
  refine lv_iconst (v := 3) hx hb dX4_toPlace_16 (by decide) ?_
  refine lv_icmp_ne (tgt := 33) hx hb dX4_toPlace_17 (by decide) (fun c_17 => ?_) (fun c_17 => ?_)
  · replace hs := it_f c_17 hs
    exact J_33 (ms_l (ms_u M 0) 1) hs _ _ hP hD hS _ (lv_sub hl [0, 1, 2, 3] rfl)
  · replace hs := it_t c_17 hs
    refine lv_aload_n hx hb dX4_toPlace_20 rfl (lv_at hl 0 rfl) ?_
    refine lv_iload_n hx hb dX4_toPlace_21 rfl (lv_at hl 1 rfl) ?_
    refine lv_i2l hx hb dX4_toPlace_22 rfl ?_
    refine lv_iload_n hx hb dX4_toPlace_23 rfl (lv_at hl 2 rfl) ?_
    refine lv_i2l hx hb dX4_toPlace_24 rfl ?_
    refine lv_iload_n hx hb dX4_toPlace_25 rfl (lv_at hl 3 rfl) ?_
    obtain ⟨v_26, hc_26, hs⟩ := op_bd hs
    refine gx_cSi (va_Run.run (va_runV (As := [.long p1.toInt64, .long p2.toInt64, .int p3]) (rest := []) ⟨hx, hb, hml, hown, hts⟩ (c_X4_stands l D cI cJ cZ cS ad m0 mk mc mx my mf mp mq mb (ms_l (ms_u M 0) 1) p1.toInt64 p2.toInt64 p3 F  v_26 hc_26) (cwV 3 hts gX4_toPlace_X4_stands rfl rfl rfl (by decide +kernel) ⟨Nat.le_of_ble_eq_true rfl, Nat.le_of_ble_eq_true rfl⟩) ⟨gl_blind, va_recv hK hP (ci := 4) (q0 := 0) rfl rfl, gl_ok hK (gl_Ek hE hS) hP⟩ rfl rfl hl.1 rfl (lv_room (Nat.le_of_ble_eq_true rfl)) dX4_toPlace_26 ⟨Nat.le_of_ble_eq_true rfl, Nat.le_of_ble_eq_true rfl⟩)) ?_
    refine lv_if_le (tgt := 33) hx hb dX4_toPlace_29 (by decide) (fun c_29 => ?_) (fun c_29 => ?_)
    · replace hs := it_t c_29 hs
      exact J_33 (ms_l (ms_u M 0) 1) hs _ _ hP hD hS _ (lv_sub hl [0, 1, 2, 3] rfl)
    · replace hs := it_f c_29 hs
      obtain rfl := Option.some.inj hs
      exact W.vret hx hb hr (fun t ht hW => ⟨⟨_, rfl, rfl, by rw [ht]; exact hP, hD⟩, hS.F ht⟩) hS.2.2 dX4_toPlace_32
def s_X4_area_30 (F : Nat) (M : mo_T) (p1 : Int32) : Nat → Int64 → Int32 → mo_T → Option (Int64 × mo_T)
  | 0, _, _, _ => none
  | n + 1, x2, x4, N =>
    (rd_i 60 (mo_c N) p1).bind fun v_37 =>
    if v_37 ≤ x4 then
      some (x2, N)
    else
      (s_X4_from F N p1 x4).bind fun v_50 =>
      (rd_l 1500 (mo_x N) v_50).bind fun v_53 =>
      (s_X4_from F N p1 x4).bind fun v_62 =>
      (rd_l 1500 (mo_y N) v_62).bind fun v_65 =>
      (s_X4_to F N p1 x4).bind fun v_74 =>
      (rd_l 1500 (mo_x N) v_74).bind fun v_77 =>
      (s_X4_to F N p1 x4).bind fun v_86 =>
      (rd_l 1500 (mo_y N) v_86).bind fun v_89 =>
      (s_X4_cross F v_53 v_65 v_77 v_89).bind fun v_90 =>
      (some ((x2 + v_90))).bind fun e_94 =>
      (some (x4 + 1)).bind fun e_95 =>
      s_X4_area_30 F M p1 n e_94 e_95 N
def s_X4_area (F : Nat) (M : mo_T) (p1 : Int32) : Option (Int64 × mo_T) :=
  (s_X4_isRight F (ms_t M 0) p1).bind fun v_7 =>
  if v_7.1 = 0 then
    some (0, v_7.2)
  else
    (rd_i 60 (mo_k v_7.2) p1).bind fun v_18 =>
    if v_18 = 3 then
      s_X4_area_30 F M p1 F 0 0 v_7.2
    else
      some (0, v_7.2)
abbrev rm_X4_area : Room := { frames := 7, cells := 0, slots := 0, locals := 189 }
theorem in_X4_area_X4 : ∀ w ∈ wsX40, w ∈ wsX4_area := by decide +kernel
set_option maxHeartbeats 4000000 in
set_option maxRecDepth 100000 in
theorem c_X4_area (l : Launch) (D : va_G) (cI cJ cZ cS : ClassId) (ad : Nat → Nat) (m0 mk mc mx my mf mp mq mb : Nat) (sz : Nat) (M : mo_T) (p1 : Int32) (F : Nat)  (r : (Int64 × mo_T)) (hs : s_X4_area F M p1 = some r) : Met l yX4_area wsX4_area rm_X4_area (gm_P D cI cJ cZ cS ad sz (mo_w cI cJ cZ m0 mk mc mx my mf mp mq mb M) ([]) [.ref m0, .int p1]) (va_Ql (fun x (u : mo_T) => x = r.1 ∧ u = r.2) (fun u t => va_P D vwCl (mo_w cI cJ cZ m0 mk mc mx my mf mp mq mb u) t.heap ∧ va_D (va_A (mo_w cI cJ cZ m0 mk mc mx my mf mp mq mb M) sz) (mo_w cI cJ cZ m0 mk mc mx my mf mp mq mb u)) (va_A (mo_w cI cJ cZ m0 mk mc mx my mf mp mq mb M) sz)) 0 0 (va_A (mo_w cI cJ cZ m0 mk mc mx my mf mp mq mb M) sz) := by
  refine Met.ofW (cc := cX4_area) (maxL := 5) (ret := (some .long)) (by decide) rfl ?_
  intro p e s m args below meth c s₁ B hml hv
  obtain ⟨rfl, hsz, hK, hE, hP, hD0, hR, hRn0⟩ := hv
  have hx := B.exec
  have hb := B.bytes
  have hr := B.returns
  have hts := atoms_spec (ws := wsX4_area) B.pre
  have hown : s.vm.findClass RX4 = some m.cls := findClass_of_methodNamed B.named
  have hlocks := B.notSynchronized
  subst hsz
  have hD := hD0.self (sz := s.heap.size)
  have hRn := gx_rn0 hR hRn0
  generalize hAe : va_A (mo_w cI cJ cZ m0 mk mc mx my mf mp mq mb M) s.heap.size = A at hD hE hRn ⊢
  have hA : ∀ q : Nat, s.heap.size ≤ q → A q := fun q h => by rw [← hAe]; exact Or.inr h
  have hS : va_S A s.heap s.heap [] := va_S.rf
  have lk_1 := hts (.fieldLink RX4 1 "PlacePointsModel" "thrown" "I") (by decide +kernel)
  have lk_13 := hts (.fieldLink RX4 13 "PlacePointsModel" "kinds" "[I") (by decide +kernel)
  have lk_17 := hts (.fieldLink RX4 17 "PlacePointsModel" "counts" "[I") (by decide +kernel)
  have lk_20 := hts (.fieldLink RX4 20 "PlacePointsModel" "xs" "[J") (by decide +kernel)
  have lk_24 := hts (.fieldLink RX4 24 "PlacePointsModel" "ys" "[J") (by decide +kernel)
  have in_X4 := in_X4_area_X4
  have J_30 : ∀ (n_30 : Nat) (x2 : Int64) (x4 : Int32) (N : mo_T), s_X4_area_30 F M p1 n_30 x2 x4 N = some r → ∀ (H : Heap) (locs : List Loc), va_P D vwCl (mo_w cI cJ cZ m0 mk mc mx my mf mp mq mb N) H → va_D A (mo_w cI cJ cZ m0 mk mc mx my mf mp mq mb N) → va_S A s.heap H locs → ∀ ls : Array Slot, lv_has ls 5 [(0, .ref m0), (1, .int p1), (2, .long x2), (4, .int x4)] → W p l e (headSpec wsX4_area rm_X4_area).room s m ([.ref m0, .int p1] : List Value).toArray below meth c H locs 0 0 (MQ below (va_Ql (fun x (u : mo_T) => x = r.1 ∧ u = r.2) (fun u t => va_P D vwCl (mo_w cI cJ cZ m0 mk mc mx my mf mp mq mb u) t.heap ∧ va_D (A) (mo_w cI cJ cZ m0 mk mc mx my mf mp mq mb u)) (A)) ([.ref m0, .int p1] : List Value).toArray s 0 0 (A)) (F0 m 30 ls []) := by
    intro n_30
    induction n_30 with
    | zero =>
      intro x2 x4 N hs
      cases hs
    | succ n_30 ih_30 =>
      intro x2 x4 N hs H locs hP hD hS ls hl
      rw [s_X4_area_30] at hs
      refine lv_iload hx hb dX4_area_30 (lv_at hl 3 rfl) ?_
      refine lv_aload_n hx hb dX4_area_32 rfl (lv_at hl 0 rfl) ?_
      refine va_get (D := D) (ci := 4) (v := .ref mc) (C := RX4) (T := TX4) (N := 15) hx hb hts in_X4 hown hK hP 0 rfl rfl 1 (by decide) lk_17 (fun _ h9 => h9) rfl dX4_area_33 ?_
      refine lv_iload_n hx hb dX4_area_36 rfl (lv_at hl 1 rfl) ?_
      obtain ⟨v_37, hv_37, hs⟩ := op_bd hs
      refine gx_iald hx hb hK hP 2 0 rfl rfl hv_37 dX4_area_37 ?_
      refine lv_icmp_ge (tgt := 101) hx hb dX4_area_38 (by decide) (fun c_38 => ?_) (fun c_38 => ?_)
      · replace hs := it_t c_38 hs
        refine lv_lload_n hx hb dX4_area_101 rfl (lv_at hl 2 rfl) ?_
        obtain rfl := Option.some.inj hs
        exact W.lret hx hb hr (fun t ht hW => ⟨⟨_, _, rfl, ⟨rfl, rfl⟩, by rw [ht]; exact hP, hD⟩, hS.F ht⟩) hS.2.2 dX4_area_102
      · replace hs := it_f c_38 hs
        refine lv_lload_n hx hb dX4_area_41 rfl (lv_at hl 2 rfl) ?_
        refine lv_aload_n hx hb dX4_area_42 rfl (lv_at hl 0 rfl) ?_
        refine va_get (D := D) (ci := 4) (v := .ref mx) (C := RX4) (T := TX4) (N := 15) hx hb hts in_X4 hown hK hP 0 rfl rfl 2 (by decide) lk_20 (fun _ h9 => h9) rfl dX4_area_43 ?_
        refine lv_aload_n hx hb dX4_area_46 rfl (lv_at hl 0 rfl) ?_
        refine lv_iload_n hx hb dX4_area_47 rfl (lv_at hl 1 rfl) ?_
        refine lv_iload hx hb dX4_area_48 (lv_at hl 3 rfl) ?_
        obtain ⟨v_50, hc_50, hs⟩ := op_bd hs
        refine gx_cSi (va_Run.run (va_runV (As := [.int p1, .int x4]) (rest := [.ref mx, .long x2]) ⟨hx, hb, hml, hown, hts⟩ (c_X4_from l D cI cJ cZ cS ad m0 mk mc mx my mf mp mq mb N p1 x4 F  v_50 hc_50) (cwV 2 hts gX4_area_X4_from rfl rfl rfl (by decide +kernel) ⟨Nat.le_of_ble_eq_true rfl, Nat.le_of_ble_eq_true rfl⟩) ⟨gl_blind, va_recv hK hP (ci := 4) (q0 := 0) rfl rfl, gl_ok hK (gl_Ek hE hS) hP⟩ rfl rfl hl.1 rfl (lv_room (Nat.le_of_ble_eq_true rfl)) dX4_area_50 ⟨Nat.le_of_ble_eq_true rfl, Nat.le_of_ble_eq_true rfl⟩)) ?_
        obtain ⟨v_53, hv_53, hs⟩ := op_bd hs
        refine gx_lald hx hb hK hP 3 1 rfl rfl hv_53 dX4_area_53 ?_
        refine lv_aload_n hx hb dX4_area_54 rfl (lv_at hl 0 rfl) ?_
        refine va_get (D := D) (ci := 4) (v := .ref my) (C := RX4) (T := TX4) (N := 15) hx hb hts in_X4 hown hK hP 0 rfl rfl 3 (by decide) lk_24 (fun _ h9 => h9) rfl dX4_area_55 ?_
        refine lv_aload_n hx hb dX4_area_58 rfl (lv_at hl 0 rfl) ?_
        refine lv_iload_n hx hb dX4_area_59 rfl (lv_at hl 1 rfl) ?_
        refine lv_iload hx hb dX4_area_60 (lv_at hl 3 rfl) ?_
        obtain ⟨v_62, hc_62, hs⟩ := op_bd hs
        refine gx_cSi (va_Run.run (va_runV (As := [.int p1, .int x4]) (rest := [.ref my, .long v_53, .long x2]) ⟨hx, hb, hml, hown, hts⟩ (c_X4_from l D cI cJ cZ cS ad m0 mk mc mx my mf mp mq mb N p1 x4 F  v_62 hc_62) (cwV 2 hts gX4_area_X4_from rfl rfl rfl (by decide +kernel) ⟨Nat.le_of_ble_eq_true rfl, Nat.le_of_ble_eq_true rfl⟩) ⟨gl_blind, va_recv hK hP (ci := 4) (q0 := 0) rfl rfl, gl_ok hK (gl_Ek hE hS) hP⟩ rfl rfl hl.1 rfl (lv_room (Nat.le_of_ble_eq_true rfl)) dX4_area_62 ⟨Nat.le_of_ble_eq_true rfl, Nat.le_of_ble_eq_true rfl⟩)) ?_
        obtain ⟨v_65, hv_65, hs⟩ := op_bd hs
        refine gx_lald hx hb hK hP 4 1 rfl rfl hv_65 dX4_area_65 ?_
        refine lv_aload_n hx hb dX4_area_66 rfl (lv_at hl 0 rfl) ?_
        refine va_get (D := D) (ci := 4) (v := .ref mx) (C := RX4) (T := TX4) (N := 15) hx hb hts in_X4 hown hK hP 0 rfl rfl 2 (by decide) lk_20 (fun _ h9 => h9) rfl dX4_area_67 ?_
        refine lv_aload_n hx hb dX4_area_70 rfl (lv_at hl 0 rfl) ?_
        refine lv_iload_n hx hb dX4_area_71 rfl (lv_at hl 1 rfl) ?_
        refine lv_iload hx hb dX4_area_72 (lv_at hl 3 rfl) ?_
        obtain ⟨v_74, hc_74, hs⟩ := op_bd hs
        refine gx_cSi (va_Run.run (va_runV (As := [.int p1, .int x4]) (rest := [.ref mx, .long v_65, .long v_53, .long x2]) ⟨hx, hb, hml, hown, hts⟩ (c_X4_to l D cI cJ cZ cS ad m0 mk mc mx my mf mp mq mb N p1 x4 F  v_74 hc_74) (cwV 2 hts gX4_area_X4_to rfl rfl rfl (by decide +kernel) ⟨Nat.le_of_ble_eq_true rfl, Nat.le_of_ble_eq_true rfl⟩) ⟨gl_blind, va_recv hK hP (ci := 4) (q0 := 0) rfl rfl, gl_ok hK (gl_Ek hE hS) hP⟩ rfl rfl hl.1 rfl (lv_room (Nat.le_of_ble_eq_true rfl)) dX4_area_74 ⟨Nat.le_of_ble_eq_true rfl, Nat.le_of_ble_eq_true rfl⟩)) ?_
        obtain ⟨v_77, hv_77, hs⟩ := op_bd hs
        refine gx_lald hx hb hK hP 3 1 rfl rfl hv_77 dX4_area_77 ?_
        refine lv_aload_n hx hb dX4_area_78 rfl (lv_at hl 0 rfl) ?_
        refine va_get (D := D) (ci := 4) (v := .ref my) (C := RX4) (T := TX4) (N := 15) hx hb hts in_X4 hown hK hP 0 rfl rfl 3 (by decide) lk_24 (fun _ h9 => h9) rfl dX4_area_79 ?_
        refine lv_aload_n hx hb dX4_area_82 rfl (lv_at hl 0 rfl) ?_
        refine lv_iload_n hx hb dX4_area_83 rfl (lv_at hl 1 rfl) ?_
        refine lv_iload hx hb dX4_area_84 (lv_at hl 3 rfl) ?_
        obtain ⟨v_86, hc_86, hs⟩ := op_bd hs
        refine gx_cSi (va_Run.run (gx_runV12 (As := [.int p1, .int x4]) (rest := [.ref my, .long v_77, .long v_65, .long v_53, .long x2]) ⟨hx, hb, hml, hown, hts⟩ (c_X4_to l D cI cJ cZ cS ad m0 mk mc mx my mf mp mq mb N p1 x4 F  v_86 hc_86) (cwV 2 hts gX4_area_X4_to rfl rfl rfl (by decide +kernel) ⟨Nat.le_of_ble_eq_true rfl, Nat.le_of_ble_eq_true rfl⟩) (Nat.le_of_ble_eq_true rfl) ⟨gl_blind, va_recv hK hP (ci := 4) (q0 := 0) rfl rfl, gl_ok hK (gl_Ek hE hS) hP⟩ rfl rfl hl.1 rfl (gx_room12 (Nat.le_of_ble_eq_true rfl)) dX4_area_86 ⟨Nat.le_of_ble_eq_true rfl, Nat.le_of_ble_eq_true rfl⟩)) ?_
        obtain ⟨v_89, hv_89, hs⟩ := op_bd hs
        refine gx_lald hx hb hK hP 4 1 rfl rfl hv_89 dX4_area_89 ?_
        obtain ⟨v_90, hc_90, hs⟩ := op_bd hs
        refine gx_cSl (va_Run.run (va_runS (As := [.long v_53, .long v_65, .long v_77, .long v_89]) (rest := [.long x2]) ⟨hx, hb, hml, hown, hts⟩ (c_X4_cross l D cI cJ cZ cS ad v_53 v_65 v_77 v_89 F  v_90 hc_90) (va_cwS 4 hts gX4_area_X4_cross rfl rfl rfl (by decide +kernel) ⟨Nat.le_of_ble_eq_true rfl, Nat.le_of_ble_eq_true rfl⟩) ⟨gl_blind, gl_ok hK (gl_Ek hE hS) trivial⟩ rfl rfl hl.1 rfl (lv_room (Nat.le_of_ble_eq_true rfl)) dX4_area_90 ⟨Nat.le_of_ble_eq_true rfl, Nat.le_of_ble_eq_true rfl⟩)) ?_
        refine lv_ladd hx hb dX4_area_93 ?_
        obtain ⟨e_94, hv_94, hs⟩ := op_bd hs
        refine gx_nj (Option.some.inj hv_94) ?_
        refine lv_lstore_n (lv' := [(2, .long e_94), (0, .ref m0), (1, .int p1), (4, .int x4)]) hx hb dX4_area_94 rfl hl (by decide) rfl (fun ls hl => ?_)
        obtain ⟨e_95, hv_95, hs⟩ := op_bd hs
        refine lv_iinc (v := e_95) (lv' := [(4, .int e_95), (2, .long e_94), (0, .ref m0), (1, .int p1)]) hx hb dX4_area_95 hl (k := 3) rfl (Option.some.inj hv_95) (by decide) rfl (fun ls hl => ?_)
        refine lv_goto (tgt := 30) hx hb dX4_area_98 (by decide) ?_
        exact ih_30 e_94 e_95 N hs _ _ hP hD hS _ (lv_sub hl [2, 3, 1, 0] rfl)
  have hl := lv_entry ([.ref m0, .int p1]) (n := 5) (Nat.le_of_ble_eq_true rfl)
  rw [lg_entry_eq]
  generalize (lg_sl ([.ref m0, .int p1]) ++ List.replicate (5 - (lg_sl ([.ref m0, .int p1])).length) Slot.unset).toArray = ls at hl ⊢
  have hl : lv_has ls 5 [(0, .ref m0), (1, .int p1)] := hl
  rw [s_X4_area] at hs
  refine lv_aload_n hx hb dX4_area_0 rfl (lv_at hl 0 rfl) ?_
  refine lv_iconst (v := 0) hx hb dX4_area_1 (by decide) ?_
  refine va_put (D := D) (ci := 4) (v := .int 0) (ty := .int) (C := RX4) (T := TX4) (N := 15) hx hb hts in_X4 tyX4 tyX4_ok nmX4 hown hK hP hD hS 0 rfl rfl 11 (by decide) lk_1 (fun _ h9 => h9) rfl (by decide +kernel) rfl rfl (Nat.le_of_ble_eq_true rfl) dX4_area_2 (fun H locs hP hD hS => ?_)
  have hP : va_P D vwCl (mo_w cI cJ cZ m0 mk mc mx my mf mp mq mb (ms_t M 0)) H := hP
  have hD : va_D A (mo_w cI cJ cZ m0 mk mc mx my mf mp mq mb (ms_t M 0)) := hD
  refine lv_aload_n hx hb dX4_area_5 rfl (lv_at hl 0 rfl) ?_
  refine lv_iload_n hx hb dX4_area_6 rfl (lv_at hl 1 rfl) ?_
  obtain ⟨v_7, hc_7, hs⟩ := op_bd hs
  have hFc := va_free (wc := mo_w cI cJ cZ m0 mk mc mx my mf mp mq mb (ms_t M 0)) hD hS hA [0, 1, 2, 3, 4, 5, 6, 7, 8] rfl
  refine gx_cMi (wf := fun u => mo_w cI cJ cZ m0 mk mc mx my mf mp mq mb u) (va_runV (As := [.int p1]) (rest := []) ⟨hx, hb, hml, hown, hts⟩ (c_X4_isRight l D cI cJ cZ cS ad m0 mk mc mx my mf mp mq mb _ (ms_t M 0) p1 F  v_7 hc_7) (cwV 1 hts gX4_area_X4_isRight rfl rfl rfl (by decide +kernel) ⟨Nat.le_of_ble_eq_true rfl, Nat.le_of_ble_eq_true rfl⟩) ⟨gm_blind, va_recv hK hP (ci := 4) (q0 := 0) rfl rfl, gm_ok hK hE hS hFc hP hD va_nil0 gx_nil⟩ rfl rfl hl.1 rfl (lv_room (Nat.le_of_ble_eq_true rfl)) dX4_area_7 ⟨Nat.le_of_ble_eq_true rfl, Nat.le_of_ble_eq_true rfl⟩) hS hFc (fun H locs hP hD hS => ?_)
  have hP : va_P D vwCl (mo_w cI cJ cZ m0 mk mc mx my mf mp mq mb v_7.2) H := hP
  have hD : va_D A (mo_w cI cJ cZ m0 mk mc mx my mf mp mq mb v_7.2) := hD
  refine lv_if_eq (tgt := 23) hx hb dX4_area_10 (by decide) (fun c_10 => ?_) (fun c_10 => ?_)
  · replace hs := it_t c_10 hs
    refine lv_lconst (v := 0) hx hb dX4_area_23 (by decide) ?_
    obtain rfl := Option.some.inj hs
    exact W.lret hx hb hr (fun t ht hW => ⟨⟨_, _, rfl, ⟨rfl, rfl⟩, by rw [ht]; exact hP, hD⟩, hS.F ht⟩) hS.2.2 dX4_area_24
  · replace hs := it_f c_10 hs
    refine lv_aload_n hx hb dX4_area_13 rfl (lv_at hl 0 rfl) ?_
    refine va_get (D := D) (ci := 4) (v := .ref mk) (C := RX4) (T := TX4) (N := 15) hx hb hts in_X4 hown hK hP 0 rfl rfl 0 (by decide) lk_13 (fun _ h9 => h9) rfl dX4_area_14 ?_
    refine lv_iload_n hx hb dX4_area_17 rfl (lv_at hl 1 rfl) ?_
    obtain ⟨v_18, hv_18, hs⟩ := op_bd hs
    refine gx_iald hx hb hK hP 1 0 rfl rfl hv_18 dX4_area_18 ?_
    refine lv_iconst (v := 3) hx hb dX4_area_19 (by decide) ?_
    refine lv_icmp_eq (tgt := 25) hx hb dX4_area_20 (by decide) (fun c_20 => ?_) (fun c_20 => ?_)
    · replace hs := it_t c_20 hs
      refine lv_lconst (v := 0) hx hb dX4_area_25 (by decide) ?_
      refine lv_lstore_n (lv' := [(2, .long 0), (0, .ref m0), (1, .int p1)]) hx hb dX4_area_26 rfl hl (by decide) rfl (fun ls hl => ?_)
      refine lv_iconst (v := 0) hx hb dX4_area_27 (by decide) ?_
      refine lv_istore (lv' := [(4, .int 0), (2, .long 0), (0, .ref m0), (1, .int p1)]) hx hb dX4_area_28 hl (by decide) rfl (fun ls hl => ?_)
      exact J_30 F 0 0 v_7.2 hs _ _ hP hD hS _ (lv_sub hl [2, 3, 1, 0] rfl)
    · replace hs := it_f c_20 hs
      refine lv_lconst (v := 0) hx hb dX4_area_23 (by decide) ?_
      obtain rfl := Option.some.inj hs
      exact W.lret hx hb hr (fun t ht hW => ⟨⟨_, _, rfl, ⟨rfl, rfl⟩, by rw [ht]; exact hP, hD⟩, hS.F ht⟩) hS.2.2 dX4_area_24
def s_X4_boxed_13 (F : Nat) (M : mo_T) (p1 : Int32) (p2 : Int32) (p3 : Int32) (p4 : Int32) : Nat → Int32 → mo_T → Option (Int32 × mo_T)
  | 0, _, _ => none
  | n + 1, x5, N =>
    if (mo_n N) ≤ x5 then
      some ((mo_m N), N)
    else
      if p3 < p1 then
        some ((mo_m N), N)
      else
        if p4 < p2 then
          some ((mo_m N), N)
        else
          (s_X4_isRight F N x5).bind fun v_36 =>
          if v_36.1 = 0 then
            (some (x5 + 1)).bind fun e_80 =>
            s_X4_boxed_13 F M p1 p2 p3 p4 n e_80 v_36.2
          else
            (s_X4_isIn F v_36.2 x5 p1 p2 p3 p4).bind fun v_50 =>
            if v_50 = 0 then
              (some (x5 + 1)).bind fun e_80 =>
              s_X4_boxed_13 F M p1 p2 p3 p4 n e_80 v_36.2
            else
              (wr_in 60 (mo_m v_36.2)).bind fun _ =>
              (some (((mo_m v_36.2) + 1))).bind fun e_77 =>
              (some (x5 + 1)).bind fun e_80 =>
              s_X4_boxed_13 F M p1 p2 p3 p4 n e_80 (ms_m (ms_f v_36.2 (upd (mo_f v_36.2) (mo_m v_36.2).toNatClampNeg x5)) e_77)
def s_X4_boxed (F : Nat) (M : mo_T) (p1 : Int32) (p2 : Int32) (p3 : Int32) (p4 : Int32) : Option (Int32 × mo_T) :=
  s_X4_boxed_13 F M p1 p2 p3 p4 F 0 (ms_t (ms_m M 0) 0)
abbrev rm_X4_boxed : Room := { frames := 7, cells := 0, slots := 0, locals := 189 }
theorem in_X4_boxed_X4 : ∀ w ∈ wsX40, w ∈ wsX4_boxed := by decide +kernel
set_option maxHeartbeats 4000000 in
set_option maxRecDepth 100000 in
theorem c_X4_boxed (l : Launch) (D : va_G) (cI cJ cZ cS : ClassId) (ad : Nat → Nat) (m0 mk mc mx my mf mp mq mb : Nat) (sz : Nat) (M : mo_T) (p1 : Int32) (p2 : Int32) (p3 : Int32) (p4 : Int32) (F : Nat)  (r : (Int32 × mo_T)) (hs : s_X4_boxed F M p1 p2 p3 p4 = some r) : Met l yX4_boxed wsX4_boxed rm_X4_boxed (gm_P D cI cJ cZ cS ad sz (mo_w cI cJ cZ m0 mk mc mx my mf mp mq mb M) ([]) [.ref m0, .int p1, .int p2, .int p3, .int p4]) (va_Qi (fun x (u : mo_T) => x = r.1 ∧ u = r.2) (fun u t => va_P D vwCl (mo_w cI cJ cZ m0 mk mc mx my mf mp mq mb u) t.heap ∧ va_D (va_A (mo_w cI cJ cZ m0 mk mc mx my mf mp mq mb M) sz) (mo_w cI cJ cZ m0 mk mc mx my mf mp mq mb u)) (va_A (mo_w cI cJ cZ m0 mk mc mx my mf mp mq mb M) sz)) 0 0 (va_A (mo_w cI cJ cZ m0 mk mc mx my mf mp mq mb M) sz) := by
  refine Met.ofW (cc := cX4_boxed) (maxL := 6) (ret := (some .int)) (by decide) rfl ?_
  intro p e s m args below meth c s₁ B hml hv
  obtain ⟨rfl, hsz, hK, hE, hP, hD0, hR, hRn0⟩ := hv
  have hx := B.exec
  have hb := B.bytes
  have hr := B.returns
  have hts := atoms_spec (ws := wsX4_boxed) B.pre
  have hown : s.vm.findClass RX4 = some m.cls := findClass_of_methodNamed B.named
  have hlocks := B.notSynchronized
  subst hsz
  have hD := hD0.self (sz := s.heap.size)
  have hRn := gx_rn0 hR hRn0
  generalize hAe : va_A (mo_w cI cJ cZ m0 mk mc mx my mf mp mq mb M) s.heap.size = A at hD hE hRn ⊢
  have hA : ∀ q : Nat, s.heap.size ≤ q → A q := fun q h => by rw [← hAe]; exact Or.inr h
  have hS : va_S A s.heap s.heap [] := va_S.rf
  have lk_1 := hts (.fieldLink RX4 1 "PlacePointsModel" "thrown" "I") (by decide +kernel)
  have lk_27 := hts (.fieldLink RX4 27 "PlacePointsModel" "found" "[I") (by decide +kernel)
  have lk_40 := hts (.fieldLink RX4 40 "PlacePointsModel" "count" "I") (by decide +kernel)
  have lk_150 := hts (.fieldLink RX4 150 "PlacePointsModel" "foundCount" "I") (by decide +kernel)
  have in_X4 := in_X4_boxed_X4
  have J_13 : ∀ (n_13 : Nat) (x5 : Int32) (N : mo_T), s_X4_boxed_13 F M p1 p2 p3 p4 n_13 x5 N = some r → ∀ (H : Heap) (locs : List Loc), va_P D vwCl (mo_w cI cJ cZ m0 mk mc mx my mf mp mq mb N) H → va_D A (mo_w cI cJ cZ m0 mk mc mx my mf mp mq mb N) → va_S A s.heap H locs → ∀ ls : Array Slot, lv_has ls 6 [(0, .ref m0), (1, .int p1), (2, .int p2), (3, .int p3), (4, .int p4), (5, .int x5)] → W p l e (headSpec wsX4_boxed rm_X4_boxed).room s m ([.ref m0, .int p1, .int p2, .int p3, .int p4] : List Value).toArray below meth c H locs 0 0 (MQ below (va_Qi (fun x (u : mo_T) => x = r.1 ∧ u = r.2) (fun u t => va_P D vwCl (mo_w cI cJ cZ m0 mk mc mx my mf mp mq mb u) t.heap ∧ va_D (A) (mo_w cI cJ cZ m0 mk mc mx my mf mp mq mb u)) (A)) ([.ref m0, .int p1, .int p2, .int p3, .int p4] : List Value).toArray s 0 0 (A)) (F0 m 13 ls []) := by
    intro n_13
    induction n_13 with
    | zero =>
      intro x5 N hs
      cases hs
    | succ n_13 ih_13 =>
      intro x5 N hs H locs hP hD hS ls hl
      rw [s_X4_boxed_13] at hs
      refine lv_iload hx hb dX4_boxed_13 (lv_at hl 5 rfl) ?_
      refine lv_aload_n hx hb dX4_boxed_15 rfl (lv_at hl 0 rfl) ?_
      refine va_get (D := D) (ci := 4) (v := .int (mo_n N)) (C := RX4) (T := TX4) (N := 15) hx hb hts in_X4 hown hK hP 0 rfl rfl 4 (by decide) lk_40 (fun _ h9 => h9) rfl dX4_boxed_16 ?_
      refine lv_icmp_ge (tgt := 86) hx hb dX4_boxed_19 (by decide) (fun c_19 => ?_) (fun c_19 => ?_)
      · replace hs := it_t c_19 hs
        refine lv_aload_n hx hb dX4_boxed_86 rfl (lv_at hl 0 rfl) ?_
        refine va_get (D := D) (ci := 4) (v := .int (mo_m N)) (C := RX4) (T := TX4) (N := 15) hx hb hts in_X4 hown hK hP 0 rfl rfl 8 (by decide) lk_150 (fun _ h9 => h9) rfl dX4_boxed_87 ?_
        obtain rfl := Option.some.inj hs
        exact W.iret hx hb hr (fun t ht hW => ⟨⟨_, _, rfl, ⟨rfl, rfl⟩, by rw [ht]; exact hP, hD⟩, hS.F ht⟩) hS.2.2 dX4_boxed_90
      · replace hs := it_f c_19 hs
        refine lv_iload_n hx hb dX4_boxed_22 rfl (lv_at hl 1 rfl) ?_
        refine lv_iload_n hx hb dX4_boxed_23 rfl (lv_at hl 3 rfl) ?_
        refine lv_icmp_gt (tgt := 86) hx hb dX4_boxed_24 (by decide) (fun c_24 => ?_) (fun c_24 => ?_)
        · replace hs := it_t c_24 hs
          refine lv_aload_n hx hb dX4_boxed_86 rfl (lv_at hl 0 rfl) ?_
          refine va_get (D := D) (ci := 4) (v := .int (mo_m N)) (C := RX4) (T := TX4) (N := 15) hx hb hts in_X4 hown hK hP 0 rfl rfl 8 (by decide) lk_150 (fun _ h9 => h9) rfl dX4_boxed_87 ?_
          obtain rfl := Option.some.inj hs
          exact W.iret hx hb hr (fun t ht hW => ⟨⟨_, _, rfl, ⟨rfl, rfl⟩, by rw [ht]; exact hP, hD⟩, hS.F ht⟩) hS.2.2 dX4_boxed_90
        · replace hs := it_f c_24 hs
          refine lv_iload_n hx hb dX4_boxed_27 rfl (lv_at hl 2 rfl) ?_
          refine lv_iload hx hb dX4_boxed_28 (lv_at hl 4 rfl) ?_
          refine lv_icmp_gt (tgt := 86) hx hb dX4_boxed_30 (by decide) (fun c_30 => ?_) (fun c_30 => ?_)
          · replace hs := it_t c_30 hs
            refine lv_aload_n hx hb dX4_boxed_86 rfl (lv_at hl 0 rfl) ?_
            refine va_get (D := D) (ci := 4) (v := .int (mo_m N)) (C := RX4) (T := TX4) (N := 15) hx hb hts in_X4 hown hK hP 0 rfl rfl 8 (by decide) lk_150 (fun _ h9 => h9) rfl dX4_boxed_87 ?_
            obtain rfl := Option.some.inj hs
            exact W.iret hx hb hr (fun t ht hW => ⟨⟨_, _, rfl, ⟨rfl, rfl⟩, by rw [ht]; exact hP, hD⟩, hS.F ht⟩) hS.2.2 dX4_boxed_90
          · replace hs := it_f c_30 hs
            refine lv_aload_n hx hb dX4_boxed_33 rfl (lv_at hl 0 rfl) ?_
            refine lv_iload hx hb dX4_boxed_34 (lv_at hl 5 rfl) ?_
            obtain ⟨v_36, hc_36, hs⟩ := op_bd hs
            have hFc := va_free (wc := mo_w cI cJ cZ m0 mk mc mx my mf mp mq mb N) hD hS hA [0, 1, 2, 3, 4, 5, 6, 7, 8] rfl
            refine gx_cMi (wf := fun u => mo_w cI cJ cZ m0 mk mc mx my mf mp mq mb u) (va_runV (As := [.int x5]) (rest := []) ⟨hx, hb, hml, hown, hts⟩ (c_X4_isRight l D cI cJ cZ cS ad m0 mk mc mx my mf mp mq mb _ N x5 F  v_36 hc_36) (cwV 1 hts gX4_boxed_X4_isRight rfl rfl rfl (by decide +kernel) ⟨Nat.le_of_ble_eq_true rfl, Nat.le_of_ble_eq_true rfl⟩) ⟨gm_blind, va_recv hK hP (ci := 4) (q0 := 0) rfl rfl, gm_ok hK hE hS hFc hP hD va_nil0 gx_nil⟩ rfl rfl hl.1 rfl (lv_room (Nat.le_of_ble_eq_true rfl)) dX4_boxed_36 ⟨Nat.le_of_ble_eq_true rfl, Nat.le_of_ble_eq_true rfl⟩) hS hFc (fun H locs hP hD hS => ?_)
            have hP : va_P D vwCl (mo_w cI cJ cZ m0 mk mc mx my mf mp mq mb v_36.2) H := hP
            have hD : va_D A (mo_w cI cJ cZ m0 mk mc mx my mf mp mq mb v_36.2) := hD
            refine lv_if_eq (tgt := 80) hx hb dX4_boxed_39 (by decide) (fun c_39 => ?_) (fun c_39 => ?_)
            · replace hs := it_t c_39 hs
              obtain ⟨e_80, hv_80, hs⟩ := op_bd hs
              refine lv_iinc (v := e_80) (lv' := [(5, .int e_80), (0, .ref m0), (1, .int p1), (2, .int p2), (3, .int p3), (4, .int p4)]) hx hb dX4_boxed_80 hl (k := 5) rfl (Option.some.inj hv_80) (by decide) rfl (fun ls hl => ?_)
              refine lv_goto (tgt := 13) hx hb dX4_boxed_83 (by decide) ?_
              exact ih_13 e_80 v_36.2 hs _ _ hP hD hS _ (lv_sub hl [1, 2, 3, 4, 5, 0] rfl)
            · replace hs := it_f c_39 hs
              refine lv_aload_n hx hb dX4_boxed_42 rfl (lv_at hl 0 rfl) ?_
              refine lv_iload hx hb dX4_boxed_43 (lv_at hl 5 rfl) ?_
              refine lv_iload_n hx hb dX4_boxed_45 rfl (lv_at hl 1 rfl) ?_
              refine lv_iload_n hx hb dX4_boxed_46 rfl (lv_at hl 2 rfl) ?_
              refine lv_iload_n hx hb dX4_boxed_47 rfl (lv_at hl 3 rfl) ?_
              refine lv_iload hx hb dX4_boxed_48 (lv_at hl 4 rfl) ?_
              obtain ⟨v_50, hc_50, hs⟩ := op_bd hs
              refine gx_cSi (va_Run.run (va_runV (As := [.int x5, .int p1, .int p2, .int p3, .int p4]) (rest := []) ⟨hx, hb, hml, hown, hts⟩ (c_X4_isIn l D cI cJ cZ cS ad m0 mk mc mx my mf mp mq mb v_36.2 x5 p1 p2 p3 p4 F  v_50 hc_50) (cwV 5 hts gX4_boxed_X4_isIn rfl rfl rfl (by decide +kernel) ⟨Nat.le_of_ble_eq_true rfl, Nat.le_of_ble_eq_true rfl⟩) ⟨gl_blind, va_recv hK hP (ci := 4) (q0 := 0) rfl rfl, gl_ok hK (gl_Ek hE hS) hP⟩ rfl rfl hl.1 rfl (lv_room (Nat.le_of_ble_eq_true rfl)) dX4_boxed_50 ⟨Nat.le_of_ble_eq_true rfl, Nat.le_of_ble_eq_true rfl⟩)) ?_
              refine lv_if_ne (tgt := 59) hx hb dX4_boxed_53 (by decide) (fun c_53 => ?_) (fun c_53 => ?_)
              · replace hs := it_f c_53 hs
                refine lv_aload_n hx hb dX4_boxed_59 rfl (lv_at hl 0 rfl) ?_
                refine va_get (D := D) (ci := 4) (v := .ref mf) (C := RX4) (T := TX4) (N := 15) hx hb hts in_X4 hown hK hP 0 rfl rfl 7 (by decide) lk_27 (fun _ h9 => h9) rfl dX4_boxed_60 ?_
                refine lv_aload_n hx hb dX4_boxed_63 rfl (lv_at hl 0 rfl) ?_
                refine va_get (D := D) (ci := 4) (v := .int (mo_m v_36.2)) (C := RX4) (T := TX4) (N := 15) hx hb hts in_X4 hown hK hP 0 rfl rfl 8 (by decide) lk_150 (fun _ h9 => h9) rfl dX4_boxed_64 ?_
                refine lv_iload hx hb dX4_boxed_67 (lv_at hl 5 rfl) ?_
                obtain ⟨_, hv_69, hs⟩ := op_bd hs
                refine va_iast hx hb hK hP hD hS 5 0 rfl rfl (wr_ok hv_69) dX4_boxed_69 (fun H locs hP hD hS => ?_)
                have hP : va_P D vwCl (mo_w cI cJ cZ m0 mk mc mx my mf mp mq mb (ms_f v_36.2 (upd (mo_f v_36.2) (mo_m v_36.2).toNatClampNeg x5))) H := hP
                have hD : va_D A (mo_w cI cJ cZ m0 mk mc mx my mf mp mq mb (ms_f v_36.2 (upd (mo_f v_36.2) (mo_m v_36.2).toNatClampNeg x5))) := hD
                refine lv_aload_n hx hb dX4_boxed_70 rfl (lv_at hl 0 rfl) ?_
                refine lv_dup hx hb dX4_boxed_71 rfl ?_
                refine va_get (D := D) (ci := 4) (v := .int (mo_m v_36.2)) (C := RX4) (T := TX4) (N := 15) hx hb hts in_X4 hown hK hP 0 rfl rfl 8 (by decide) lk_150 (fun _ h9 => h9) rfl dX4_boxed_72 ?_
                refine lv_iconst (v := 1) hx hb dX4_boxed_75 (by decide) ?_
                refine lv_iadd hx hb dX4_boxed_76 ?_
                obtain ⟨e_77, hv_77, hs⟩ := op_bd hs
                refine gx_ni (Option.some.inj hv_77) ?_
                refine va_put (D := D) (ci := 4) (v := .int e_77) (ty := .int) (C := RX4) (T := TX4) (N := 15) hx hb hts in_X4 tyX4 tyX4_ok nmX4 hown hK hP hD hS 0 rfl rfl 8 (by decide) lk_150 (fun _ h9 => h9) rfl (by decide +kernel) rfl rfl (Nat.le_of_ble_eq_true rfl) dX4_boxed_77 (fun H locs hP hD hS => ?_)
                have hP : va_P D vwCl (mo_w cI cJ cZ m0 mk mc mx my mf mp mq mb (ms_m (ms_f v_36.2 (upd (mo_f v_36.2) (mo_m v_36.2).toNatClampNeg x5)) e_77)) H := hP
                have hD : va_D A (mo_w cI cJ cZ m0 mk mc mx my mf mp mq mb (ms_m (ms_f v_36.2 (upd (mo_f v_36.2) (mo_m v_36.2).toNatClampNeg x5)) e_77)) := hD
                obtain ⟨e_80, hv_80, hs⟩ := op_bd hs
                refine lv_iinc (v := e_80) (lv' := [(5, .int e_80), (0, .ref m0), (1, .int p1), (2, .int p2), (3, .int p3), (4, .int p4)]) hx hb dX4_boxed_80 hl (k := 5) rfl (Option.some.inj hv_80) (by decide) rfl (fun ls hl => ?_)
                refine lv_goto (tgt := 13) hx hb dX4_boxed_83 (by decide) ?_
                exact ih_13 e_80 (ms_m (ms_f v_36.2 (upd (mo_f v_36.2) (mo_m v_36.2).toNatClampNeg x5)) e_77) hs _ _ hP hD hS _ (lv_sub hl [1, 2, 3, 4, 5, 0] rfl)
              · replace hs := it_t c_53 hs
                refine lv_goto (tgt := 80) hx hb dX4_boxed_56 (by decide) ?_
                obtain ⟨e_80, hv_80, hs⟩ := op_bd hs
                refine lv_iinc (v := e_80) (lv' := [(5, .int e_80), (0, .ref m0), (1, .int p1), (2, .int p2), (3, .int p3), (4, .int p4)]) hx hb dX4_boxed_80 hl (k := 5) rfl (Option.some.inj hv_80) (by decide) rfl (fun ls hl => ?_)
                refine lv_goto (tgt := 13) hx hb dX4_boxed_83 (by decide) ?_
                exact ih_13 e_80 v_36.2 hs _ _ hP hD hS _ (lv_sub hl [1, 2, 3, 4, 5, 0] rfl)
  have hl := lv_entry ([.ref m0, .int p1, .int p2, .int p3, .int p4]) (n := 6) (Nat.le_of_ble_eq_true rfl)
  rw [lg_entry_eq]
  generalize (lg_sl ([.ref m0, .int p1, .int p2, .int p3, .int p4]) ++ List.replicate (6 - (lg_sl ([.ref m0, .int p1, .int p2, .int p3, .int p4])).length) Slot.unset).toArray = ls at hl ⊢
  have hl : lv_has ls 6 [(0, .ref m0), (1, .int p1), (2, .int p2), (3, .int p3), (4, .int p4)] := hl
  rw [s_X4_boxed] at hs
  refine lv_aload_n hx hb dX4_boxed_0 rfl (lv_at hl 0 rfl) ?_
  refine lv_iconst (v := 0) hx hb dX4_boxed_1 (by decide) ?_
  refine va_put (D := D) (ci := 4) (v := .int 0) (ty := .int) (C := RX4) (T := TX4) (N := 15) hx hb hts in_X4 tyX4 tyX4_ok nmX4 hown hK hP hD hS 0 rfl rfl 11 (by decide) lk_1 (fun _ h9 => h9) rfl (by decide +kernel) rfl rfl (Nat.le_of_ble_eq_true rfl) dX4_boxed_2 (fun H locs hP hD hS => ?_)
  have hP : va_P D vwCl (mo_w cI cJ cZ m0 mk mc mx my mf mp mq mb (ms_t M 0)) H := hP
  have hD : va_D A (mo_w cI cJ cZ m0 mk mc mx my mf mp mq mb (ms_t M 0)) := hD
  refine lv_aload_n hx hb dX4_boxed_5 rfl (lv_at hl 0 rfl) ?_
  refine lv_iconst (v := 0) hx hb dX4_boxed_6 (by decide) ?_
  refine va_put (D := D) (ci := 4) (v := .int 0) (ty := .int) (C := RX4) (T := TX4) (N := 15) hx hb hts in_X4 tyX4 tyX4_ok nmX4 hown hK hP hD hS 0 rfl rfl 8 (by decide) lk_150 (fun _ h9 => h9) rfl (by decide +kernel) rfl rfl (Nat.le_of_ble_eq_true rfl) dX4_boxed_7 (fun H locs hP hD hS => ?_)
  have hP : va_P D vwCl (mo_w cI cJ cZ m0 mk mc mx my mf mp mq mb (ms_t (ms_m M 0) 0)) H := hP
  have hD : va_D A (mo_w cI cJ cZ m0 mk mc mx my mf mp mq mb (ms_t (ms_m M 0) 0)) := hD
  refine lv_iconst (v := 0) hx hb dX4_boxed_10 (by decide) ?_
  refine lv_istore (lv' := [(5, .int 0), (0, .ref m0), (1, .int p1), (2, .int p2), (3, .int p3), (4, .int p4)]) hx hb dX4_boxed_11 hl (by decide) rfl (fun ls hl => ?_)
  exact J_13 F 0 (ms_t (ms_m M 0) 0) hs _ _ hP hD hS _ (lv_sub hl [1, 2, 3, 4, 5, 0] rfl)
def s_X4_near_119 (F : Nat) (M : mo_T) (p1 : Int32) (p2 : Int32) (p3 : Int32) (kc_107 : Int32 → Int32 → mo_T → Option (Int32 × mo_T)) : Nat → Int32 → Int32 → Int32 → mo_T → Option (Int32 × mo_T)
  | 0, _, _, _, _ => none
  | n + 1, x4, x5, x6, N =>
    if (mo_n N) ≤ x6 then
      if 0 ≤ x4 then
        (wr_in 60 x4).bind fun _ =>
        (some (x5 + 1)).bind fun e_202 =>
        kc_107 x4 e_202 (ms_b N (upd (mo_b N) x4.toNatClampNeg 1))
      else
        some ((-1), N)
    else
      (rd_i 60 (mo_b N) x6).bind fun v_134 =>
      if v_134 = 0 then
        if x4 < 0 then
          (some (x6 + 1)).bind fun e_181 =>
          s_X4_near_119 F M p1 p2 p3 kc_107 n x6 x5 e_181 N
        else
          (rd_l 60 (mo_p N) x6).bind fun v_149 =>
          (rd_l 60 (mo_q N) x6).bind fun v_156 =>
          (rd_l 60 (mo_p N) x4).bind fun v_163 =>
          (rd_l 60 (mo_q N) x4).bind fun v_170 =>
          (s_X4_isLess F v_149 v_156 v_163 v_170).bind fun v_171 =>
          if v_171 = 0 then
            (some (x6 + 1)).bind fun e_181 =>
            s_X4_near_119 F M p1 p2 p3 kc_107 n x4 x5 e_181 N
          else
            (some (x6 + 1)).bind fun e_181 =>
            s_X4_near_119 F M p1 p2 p3 kc_107 n x6 x5 e_181 N
      else
        (some (x6 + 1)).bind fun e_181 =>
        s_X4_near_119 F M p1 p2 p3 kc_107 n x4 x5 e_181 N
def s_X4_near_51 (F : Nat) (M : mo_T) (p1 : Int32) (p2 : Int32) (p3 : Int32) (kc_22 : Int32 → mo_T → Option (Int32 × mo_T)) (x4 : Int32) (t0 : Int32) (t1 : Int32) (N : mo_T) : Option (Int32 × mo_T) :=
  (wr_in 60 t1).bind fun _ =>
  (rd_i 60 (upd (mo_b N) t1.toNatClampNeg (vp_nar .boolean t0)) x4).bind fun v_58 =>
  if v_58 = 0 then
    (s_X4_toPlace F (ms_b N (upd (mo_b N) t1.toNatClampNeg (vp_nar .boolean t0))) p1 p2 x4).bind fun v_70 =>
    (wr_in 60 x4).bind fun _ =>
    (wr_in 60 x4).bind fun _ =>
    (some (x4 + 1)).bind fun e_95 =>
    kc_22 e_95 (ms_q (ms_p v_70 (vp_updL (mo_p v_70) x4.toNatClampNeg (mo_u v_70))) (vp_updL (mo_q v_70) x4.toNatClampNeg (mo_l v_70)))
  else
    (some (x4 + 1)).bind fun e_95 =>
    kc_22 e_95 (ms_b N (upd (mo_b N) t1.toNatClampNeg (vp_nar .boolean t0)))
def s_X4_near_107 (F : Nat) (M : mo_T) (p1 : Int32) (p2 : Int32) (p3 : Int32) : Nat → Int32 → Int32 → mo_T → Option (Int32 × mo_T)
  | 0, _, _, _ => none
  | n + 1, x4, x5, N =>
    if p3 < x5 then
      some (x4, N)
    else
      s_X4_near_119 F M p1 p2 p3 (fun y0 y1 y2 => s_X4_near_107 F M p1 p2 p3 n y0 y1 y2) F (-1) x5 0 N
def s_X4_near_22 (F : Nat) (M : mo_T) (p1 : Int32) (p2 : Int32) (p3 : Int32) : Nat → Int32 → mo_T → Option (Int32 × mo_T)
  | 0, _, _ => none
  | n + 1, x4, N =>
    if (mo_n N) ≤ x4 then
      s_X4_near_107 F M p1 p2 p3 F (-1) 0 N
    else
      (s_X4_isRight F N x4).bind fun v_40 =>
      if v_40.1 = 0 then
        s_X4_near_51 F M p1 p2 p3 (fun y0 y1 => s_X4_near_22 F M p1 p2 p3 n y0 y1) x4 1 x4 v_40.2
      else
        s_X4_near_51 F M p1 p2 p3 (fun y0 y1 => s_X4_near_22 F M p1 p2 p3 n y0 y1) x4 0 x4 v_40.2
def s_X4_near (F : Nat) (M : mo_T) (p1 : Int32) (p2 : Int32) (p3 : Int32) : Option (Int32 × mo_T) :=
  (s_X4_isPlace F p1 p2).bind fun v_7 =>
  if v_7 = 0 then
    some ((-1), (ms_t M 0))
  else
    if 0 ≤ p3 then
      s_X4_near_22 F M p1 p2 p3 F 0 (ms_t M 0)
    else
      some ((-1), (ms_t M 0))
abbrev rm_X4_near : Room := { frames := 7, cells := 0, slots := 0, locals := 189 }
theorem in_X4_near_X4 : ∀ w ∈ wsX40, w ∈ wsX4_near := by decide +kernel
set_option maxHeartbeats 4000000 in
set_option maxRecDepth 100000 in
theorem c_X4_near (l : Launch) (D : va_G) (cI cJ cZ cS : ClassId) (ad : Nat → Nat) (m0 mk mc mx my mf mp mq mb : Nat) (sz : Nat) (M : mo_T) (p1 : Int32) (p2 : Int32) (p3 : Int32) (F : Nat)  (r : (Int32 × mo_T)) (hs : s_X4_near F M p1 p2 p3 = some r) : Met l yX4_near wsX4_near rm_X4_near (gm_P D cI cJ cZ cS ad sz (mo_w cI cJ cZ m0 mk mc mx my mf mp mq mb M) ([]) [.ref m0, .int p1, .int p2, .int p3]) (va_Qi (fun x (u : mo_T) => x = r.1 ∧ u = r.2) (fun u t => va_P D vwCl (mo_w cI cJ cZ m0 mk mc mx my mf mp mq mb u) t.heap ∧ va_D (va_A (mo_w cI cJ cZ m0 mk mc mx my mf mp mq mb M) sz) (mo_w cI cJ cZ m0 mk mc mx my mf mp mq mb u)) (va_A (mo_w cI cJ cZ m0 mk mc mx my mf mp mq mb M) sz)) 0 0 (va_A (mo_w cI cJ cZ m0 mk mc mx my mf mp mq mb M) sz) := by
  refine Met.ofW (cc := cX4_near) (maxL := 7) (ret := (some .int)) (by decide) rfl ?_
  intro p e s m args below meth c s₁ B hml hv
  obtain ⟨rfl, hsz, hK, hE, hP, hD0, hR, hRn0⟩ := hv
  have hx := B.exec
  have hb := B.bytes
  have hr := B.returns
  have hts := atoms_spec (ws := wsX4_near) B.pre
  have hown : s.vm.findClass RX4 = some m.cls := findClass_of_methodNamed B.named
  have hlocks := B.notSynchronized
  subst hsz
  have hD := hD0.self (sz := s.heap.size)
  have hRn := gx_rn0 hR hRn0
  generalize hAe : va_A (mo_w cI cJ cZ m0 mk mc mx my mf mp mq mb M) s.heap.size = A at hD hE hRn ⊢
  have hA : ∀ q : Nat, s.heap.size ≤ q → A q := fun q h => by rw [← hAe]; exact Or.inr h
  have hS : va_S A s.heap s.heap [] := va_S.rf
  have lk_1 := hts (.fieldLink RX4 1 "PlacePointsModel" "thrown" "I") (by decide +kernel)
  have lk_30 := hts (.fieldLink RX4 30 "PlacePointsModel" "uppers" "[J") (by decide +kernel)
  have lk_33 := hts (.fieldLink RX4 33 "PlacePointsModel" "lowers" "[J") (by decide +kernel)
  have lk_36 := hts (.fieldLink RX4 36 "PlacePointsModel" "taken" "[Z") (by decide +kernel)
  have lk_40 := hts (.fieldLink RX4 40 "PlacePointsModel" "count" "I") (by decide +kernel)
  have lk_115 := hts (.fieldLink RX4 115 "PlacePointsModel" "lower" "J") (by decide +kernel)
  have lk_119 := hts (.fieldLink RX4 119 "PlacePointsModel" "upper" "J") (by decide +kernel)
  have in_X4 := in_X4_near_X4
  have J_107 : ∀ (n_107 : Nat) (x4 : Int32) (x5 : Int32) (N : mo_T), s_X4_near_107 F M p1 p2 p3 n_107 x4 x5 N = some r → ∀ (H : Heap) (locs : List Loc), va_P D vwCl (mo_w cI cJ cZ m0 mk mc mx my mf mp mq mb N) H → va_D A (mo_w cI cJ cZ m0 mk mc mx my mf mp mq mb N) → va_S A s.heap H locs → ∀ ls : Array Slot, lv_has ls 7 [(0, .ref m0), (3, .int p3), (4, .int x4), (5, .int x5)] → W p l e (headSpec wsX4_near rm_X4_near).room s m ([.ref m0, .int p1, .int p2, .int p3] : List Value).toArray below meth c H locs 0 0 (MQ below (va_Qi (fun x (u : mo_T) => x = r.1 ∧ u = r.2) (fun u t => va_P D vwCl (mo_w cI cJ cZ m0 mk mc mx my mf mp mq mb u) t.heap ∧ va_D (A) (mo_w cI cJ cZ m0 mk mc mx my mf mp mq mb u)) (A)) ([.ref m0, .int p1, .int p2, .int p3] : List Value).toArray s 0 0 (A)) (F0 m 107 ls []) := by
    intro n_107
    induction n_107 with
    | zero =>
      intro x4 x5 N hs
      cases hs
    | succ n_107 ih_107 =>
      have J_119 : ∀ (n_119 : Nat) (x4 : Int32) (x5 : Int32) (x6 : Int32) (N : mo_T), s_X4_near_119 F M p1 p2 p3 (fun y0 y1 y2 => s_X4_near_107 F M p1 p2 p3 n_107 y0 y1 y2) n_119 x4 x5 x6 N = some r → ∀ (H : Heap) (locs : List Loc), va_P D vwCl (mo_w cI cJ cZ m0 mk mc mx my mf mp mq mb N) H → va_D A (mo_w cI cJ cZ m0 mk mc mx my mf mp mq mb N) → va_S A s.heap H locs → ∀ ls : Array Slot, lv_has ls 7 [(0, .ref m0), (3, .int p3), (4, .int x4), (5, .int x5), (6, .int x6)] → W p l e (headSpec wsX4_near rm_X4_near).room s m ([.ref m0, .int p1, .int p2, .int p3] : List Value).toArray below meth c H locs 0 0 (MQ below (va_Qi (fun x (u : mo_T) => x = r.1 ∧ u = r.2) (fun u t => va_P D vwCl (mo_w cI cJ cZ m0 mk mc mx my mf mp mq mb u) t.heap ∧ va_D (A) (mo_w cI cJ cZ m0 mk mc mx my mf mp mq mb u)) (A)) ([.ref m0, .int p1, .int p2, .int p3] : List Value).toArray s 0 0 (A)) (F0 m 119 ls []) := by
        intro n_119
        induction n_119 with
        | zero =>
          intro x4 x5 x6 N hs
          cases hs
        | succ n_119 ih_119 =>
          intro x4 x5 x6 N hs H locs hP hD hS ls hl
          rw [s_X4_near_119] at hs
          refine lv_iload hx hb dX4_near_119 (lv_at hl 4 rfl) ?_
          refine lv_aload_n hx hb dX4_near_121 rfl (lv_at hl 0 rfl) ?_
          refine va_get (D := D) (ci := 4) (v := .int (mo_n N)) (C := RX4) (T := TX4) (N := 15) hx hb hts in_X4 hown hK hP 0 rfl rfl 4 (by decide) lk_40 (fun _ h9 => h9) rfl dX4_near_122 ?_
          refine lv_icmp_ge (tgt := 187) hx hb dX4_near_125 (by decide) (fun c_125 => ?_) (fun c_125 => ?_)
          · replace hs := it_t c_125 hs
            refine lv_iload hx hb dX4_near_187 (lv_at hl 2 rfl) ?_
            refine lv_if_ge (tgt := 194) hx hb dX4_near_189 (by decide) (fun c_189 => ?_) (fun c_189 => ?_)
            · replace hs := it_t c_189 hs
              refine lv_aload_n hx hb dX4_near_194 rfl (lv_at hl 0 rfl) ?_
              refine va_get (D := D) (ci := 4) (v := .ref mb) (C := RX4) (T := TX4) (N := 15) hx hb hts in_X4 hown hK hP 0 rfl rfl 14 (by decide) lk_36 (fun _ h9 => h9) rfl dX4_near_195 ?_
              refine lv_iload hx hb dX4_near_198 (lv_at hl 2 rfl) ?_
              refine lv_iconst (v := 1) hx hb dX4_near_200 (by decide) ?_
              obtain ⟨_, hv_201, hs⟩ := op_bd hs
              refine va_zast hx hb hK hP hD hS 8 2 rfl rfl (wr_ok hv_201) dX4_near_201 (fun H locs hP hD hS => ?_)
              have hP : va_P D vwCl (mo_w cI cJ cZ m0 mk mc mx my mf mp mq mb (ms_b N (upd (mo_b N) x4.toNatClampNeg 1))) H := hP
              have hD : va_D A (mo_w cI cJ cZ m0 mk mc mx my mf mp mq mb (ms_b N (upd (mo_b N) x4.toNatClampNeg 1))) := hD
              obtain ⟨e_202, hv_202, hs⟩ := op_bd hs
              refine lv_iinc (v := e_202) (lv' := [(5, .int e_202), (0, .ref m0), (3, .int p3), (4, .int x4), (6, .int x6)]) hx hb dX4_near_202 hl (k := 3) rfl (Option.some.inj hv_202) (by decide) rfl (fun ls hl => ?_)
              refine lv_goto (tgt := 107) hx hb dX4_near_205 (by decide) ?_
              exact ih_107 x4 e_202 (ms_b N (upd (mo_b N) x4.toNatClampNeg 1)) hs _ _ hP hD hS _ (lv_sub hl [1, 2, 3, 0] rfl)
            · replace hs := it_f c_189 hs
              refine lv_iconst (v := -1) hx hb dX4_near_192 (by decide) ?_
              obtain rfl := Option.some.inj hs
              exact W.iret hx hb hr (fun t ht hW => ⟨⟨_, _, rfl, ⟨rfl, rfl⟩, by rw [ht]; exact hP, hD⟩, hS.F ht⟩) hS.2.2 dX4_near_193
          · replace hs := it_f c_125 hs
            refine lv_aload_n hx hb dX4_near_128 rfl (lv_at hl 0 rfl) ?_
            refine va_get (D := D) (ci := 4) (v := .ref mb) (C := RX4) (T := TX4) (N := 15) hx hb hts in_X4 hown hK hP 0 rfl rfl 14 (by decide) lk_36 (fun _ h9 => h9) rfl dX4_near_129 ?_
            refine lv_iload hx hb dX4_near_132 (lv_at hl 4 rfl) ?_
            obtain ⟨v_134, hv_134, hs⟩ := op_bd hs
            refine gx_zald hx hb hK hP 8 2 rfl rfl hv_134 dX4_near_134 ?_
            refine lv_if_ne (tgt := 181) hx hb dX4_near_135 (by decide) (fun c_135 => ?_) (fun c_135 => ?_)
            · replace hs := it_f c_135 hs
              obtain ⟨e_181, hv_181, hs⟩ := op_bd hs
              refine lv_iinc (v := e_181) (lv' := [(6, .int e_181), (0, .ref m0), (3, .int p3), (4, .int x4), (5, .int x5)]) hx hb dX4_near_181 hl (k := 4) rfl (Option.some.inj hv_181) (by decide) rfl (fun ls hl => ?_)
              refine lv_goto (tgt := 119) hx hb dX4_near_184 (by decide) ?_
              exact ih_119 x4 x5 e_181 N hs _ _ hP hD hS _ (lv_sub hl [1, 2, 3, 4, 0] rfl)
            · replace hs := it_t c_135 hs
              refine lv_iload hx hb dX4_near_138 (lv_at hl 2 rfl) ?_
              refine lv_if_lt (tgt := 177) hx hb dX4_near_140 (by decide) (fun c_140 => ?_) (fun c_140 => ?_)
              · replace hs := it_t c_140 hs
                refine lv_iload hx hb dX4_near_177 (lv_at hl 4 rfl) ?_
                refine lv_istore (lv' := [(4, .int x6), (0, .ref m0), (3, .int p3), (5, .int x5), (6, .int x6)]) hx hb dX4_near_179 hl (by decide) rfl (fun ls hl => ?_)
                obtain ⟨e_181, hv_181, hs⟩ := op_bd hs
                refine lv_iinc (v := e_181) (lv' := [(6, .int e_181), (4, .int x6), (0, .ref m0), (3, .int p3), (5, .int x5)]) hx hb dX4_near_181 hl (k := 4) rfl (Option.some.inj hv_181) (by decide) rfl (fun ls hl => ?_)
                refine lv_goto (tgt := 119) hx hb dX4_near_184 (by decide) ?_
                exact ih_119 x6 x5 e_181 N hs _ _ hP hD hS _ (lv_sub hl [2, 3, 1, 4, 0] rfl)
              · replace hs := it_f c_140 hs
                refine lv_aload_n hx hb dX4_near_143 rfl (lv_at hl 0 rfl) ?_
                refine va_get (D := D) (ci := 4) (v := .ref mp) (C := RX4) (T := TX4) (N := 15) hx hb hts in_X4 hown hK hP 0 rfl rfl 12 (by decide) lk_30 (fun _ h9 => h9) rfl dX4_near_144 ?_
                refine lv_iload hx hb dX4_near_147 (lv_at hl 4 rfl) ?_
                obtain ⟨v_149, hv_149, hs⟩ := op_bd hs
                refine gx_lald hx hb hK hP 6 1 rfl rfl hv_149 dX4_near_149 ?_
                refine lv_aload_n hx hb dX4_near_150 rfl (lv_at hl 0 rfl) ?_
                refine va_get (D := D) (ci := 4) (v := .ref mq) (C := RX4) (T := TX4) (N := 15) hx hb hts in_X4 hown hK hP 0 rfl rfl 13 (by decide) lk_33 (fun _ h9 => h9) rfl dX4_near_151 ?_
                refine lv_iload hx hb dX4_near_154 (lv_at hl 4 rfl) ?_
                obtain ⟨v_156, hv_156, hs⟩ := op_bd hs
                refine gx_lald hx hb hK hP 7 1 rfl rfl hv_156 dX4_near_156 ?_
                refine lv_aload_n hx hb dX4_near_157 rfl (lv_at hl 0 rfl) ?_
                refine va_get (D := D) (ci := 4) (v := .ref mp) (C := RX4) (T := TX4) (N := 15) hx hb hts in_X4 hown hK hP 0 rfl rfl 12 (by decide) lk_30 (fun _ h9 => h9) rfl dX4_near_158 ?_
                refine lv_iload hx hb dX4_near_161 (lv_at hl 2 rfl) ?_
                obtain ⟨v_163, hv_163, hs⟩ := op_bd hs
                refine gx_lald hx hb hK hP 6 1 rfl rfl hv_163 dX4_near_163 ?_
                refine lv_aload_n hx hb dX4_near_164 rfl (lv_at hl 0 rfl) ?_
                refine va_get (D := D) (ci := 4) (v := .ref mq) (C := RX4) (T := TX4) (N := 15) hx hb hts in_X4 hown hK hP 0 rfl rfl 13 (by decide) lk_33 (fun _ h9 => h9) rfl dX4_near_165 ?_
                refine lv_iload hx hb dX4_near_168 (lv_at hl 2 rfl) ?_
                obtain ⟨v_170, hv_170, hs⟩ := op_bd hs
                refine gx_lald hx hb hK hP 7 1 rfl rfl hv_170 dX4_near_170 ?_
                obtain ⟨v_171, hc_171, hs⟩ := op_bd hs
                refine gx_cSi (va_Run.run (va_runS (As := [.long v_149, .long v_156, .long v_163, .long v_170]) (rest := []) ⟨hx, hb, hml, hown, hts⟩ (c_X4_isLess l D cI cJ cZ cS ad v_149 v_156 v_163 v_170 F  v_171 hc_171) (va_cwS 4 hts gX4_near_X4_isLess rfl rfl rfl (by decide +kernel) ⟨Nat.le_of_ble_eq_true rfl, Nat.le_of_ble_eq_true rfl⟩) ⟨gl_blind, gl_ok hK (gl_Ek hE hS) trivial⟩ rfl rfl hl.1 rfl (lv_room (Nat.le_of_ble_eq_true rfl)) dX4_near_171 ⟨Nat.le_of_ble_eq_true rfl, Nat.le_of_ble_eq_true rfl⟩)) ?_
                refine lv_if_eq (tgt := 181) hx hb dX4_near_174 (by decide) (fun c_174 => ?_) (fun c_174 => ?_)
                · replace hs := it_t c_174 hs
                  obtain ⟨e_181, hv_181, hs⟩ := op_bd hs
                  refine lv_iinc (v := e_181) (lv' := [(6, .int e_181), (0, .ref m0), (3, .int p3), (4, .int x4), (5, .int x5)]) hx hb dX4_near_181 hl (k := 4) rfl (Option.some.inj hv_181) (by decide) rfl (fun ls hl => ?_)
                  refine lv_goto (tgt := 119) hx hb dX4_near_184 (by decide) ?_
                  exact ih_119 x4 x5 e_181 N hs _ _ hP hD hS _ (lv_sub hl [1, 2, 3, 4, 0] rfl)
                · replace hs := it_f c_174 hs
                  refine lv_iload hx hb dX4_near_177 (lv_at hl 4 rfl) ?_
                  refine lv_istore (lv' := [(4, .int x6), (0, .ref m0), (3, .int p3), (5, .int x5), (6, .int x6)]) hx hb dX4_near_179 hl (by decide) rfl (fun ls hl => ?_)
                  obtain ⟨e_181, hv_181, hs⟩ := op_bd hs
                  refine lv_iinc (v := e_181) (lv' := [(6, .int e_181), (4, .int x6), (0, .ref m0), (3, .int p3), (5, .int x5)]) hx hb dX4_near_181 hl (k := 4) rfl (Option.some.inj hv_181) (by decide) rfl (fun ls hl => ?_)
                  refine lv_goto (tgt := 119) hx hb dX4_near_184 (by decide) ?_
                  exact ih_119 x6 x5 e_181 N hs _ _ hP hD hS _ (lv_sub hl [2, 3, 1, 4, 0] rfl)
      intro x4 x5 N hs H locs hP hD hS ls hl
      rw [s_X4_near_107] at hs
      refine lv_iload hx hb dX4_near_107 (lv_at hl 3 rfl) ?_
      refine lv_iload_n hx hb dX4_near_109 rfl (lv_at hl 1 rfl) ?_
      refine lv_icmp_gt (tgt := 208) hx hb dX4_near_110 (by decide) (fun c_110 => ?_) (fun c_110 => ?_)
      · replace hs := it_t c_110 hs
        refine lv_iload hx hb dX4_near_208 (lv_at hl 2 rfl) ?_
        obtain rfl := Option.some.inj hs
        exact W.iret hx hb hr (fun t ht hW => ⟨⟨_, _, rfl, ⟨rfl, rfl⟩, by rw [ht]; exact hP, hD⟩, hS.F ht⟩) hS.2.2 dX4_near_210
      · replace hs := it_f c_110 hs
        refine lv_iconst (v := -1) hx hb dX4_near_113 (by decide) ?_
        refine lv_istore (lv' := [(4, .int (-1)), (0, .ref m0), (3, .int p3), (5, .int x5)]) hx hb dX4_near_114 hl (by decide) rfl (fun ls hl => ?_)
        refine lv_iconst (v := 0) hx hb dX4_near_116 (by decide) ?_
        refine lv_istore (lv' := [(6, .int 0), (4, .int (-1)), (0, .ref m0), (3, .int p3), (5, .int x5)]) hx hb dX4_near_117 hl (by decide) rfl (fun ls hl => ?_)
        exact J_119 F (-1) x5 0 N hs _ _ hP hD hS _ (lv_sub hl [2, 3, 1, 4, 0] rfl)
  have J_22 : ∀ (n_22 : Nat) (x4 : Int32) (N : mo_T), s_X4_near_22 F M p1 p2 p3 n_22 x4 N = some r → ∀ (H : Heap) (locs : List Loc), va_P D vwCl (mo_w cI cJ cZ m0 mk mc mx my mf mp mq mb N) H → va_D A (mo_w cI cJ cZ m0 mk mc mx my mf mp mq mb N) → va_S A s.heap H locs → ∀ ls : Array Slot, lv_has ls 7 [(0, .ref m0), (1, .int p1), (2, .int p2), (3, .int p3), (4, .int x4)] → W p l e (headSpec wsX4_near rm_X4_near).room s m ([.ref m0, .int p1, .int p2, .int p3] : List Value).toArray below meth c H locs 0 0 (MQ below (va_Qi (fun x (u : mo_T) => x = r.1 ∧ u = r.2) (fun u t => va_P D vwCl (mo_w cI cJ cZ m0 mk mc mx my mf mp mq mb u) t.heap ∧ va_D (A) (mo_w cI cJ cZ m0 mk mc mx my mf mp mq mb u)) (A)) ([.ref m0, .int p1, .int p2, .int p3] : List Value).toArray s 0 0 (A)) (F0 m 22 ls []) := by
    intro n_22
    induction n_22 with
    | zero =>
      intro x4 N hs
      cases hs
    | succ n_22 ih_22 =>
      have J_51 : ∀ (x4 : Int32) (t0 : Int32) (t1 : Int32) (N : mo_T), s_X4_near_51 F M p1 p2 p3 (fun y0 y1 => s_X4_near_22 F M p1 p2 p3 n_22 y0 y1) x4 t0 t1 N = some r → ∀ (H : Heap) (locs : List Loc), va_P D vwCl (mo_w cI cJ cZ m0 mk mc mx my mf mp mq mb N) H → va_D A (mo_w cI cJ cZ m0 mk mc mx my mf mp mq mb N) → va_S A s.heap H locs → ∀ ls : Array Slot, lv_has ls 7 [(0, .ref m0), (1, .int p1), (2, .int p2), (3, .int p3), (4, .int x4)] → W p l e (headSpec wsX4_near rm_X4_near).room s m ([.ref m0, .int p1, .int p2, .int p3] : List Value).toArray below meth c H locs 0 0 (MQ below (va_Qi (fun x (u : mo_T) => x = r.1 ∧ u = r.2) (fun u t => va_P D vwCl (mo_w cI cJ cZ m0 mk mc mx my mf mp mq mb u) t.heap ∧ va_D (A) (mo_w cI cJ cZ m0 mk mc mx my mf mp mq mb u)) (A)) ([.ref m0, .int p1, .int p2, .int p3] : List Value).toArray s 0 0 (A)) (F0 m 51 ls [.int t0, .int t1, .ref mb]) := by
        intro x4 t0 t1 N hs H locs hP hD hS ls hl
        rw [s_X4_near_51] at hs
        obtain ⟨_, hv_51, hs⟩ := op_bd hs
        refine va_zast hx hb hK hP hD hS 8 2 rfl rfl (wr_ok hv_51) dX4_near_51 (fun H locs hP hD hS => ?_)
        have hP : va_P D vwCl (mo_w cI cJ cZ m0 mk mc mx my mf mp mq mb (ms_b N (upd (mo_b N) t1.toNatClampNeg (vp_nar .boolean t0)))) H := hP
        have hD : va_D A (mo_w cI cJ cZ m0 mk mc mx my mf mp mq mb (ms_b N (upd (mo_b N) t1.toNatClampNeg (vp_nar .boolean t0)))) := hD
        refine lv_aload_n hx hb dX4_near_52 rfl (lv_at hl 0 rfl) ?_
        refine va_get (D := D) (ci := 4) (v := .ref mb) (C := RX4) (T := TX4) (N := 15) hx hb hts in_X4 hown hK hP 0 rfl rfl 14 (by decide) lk_36 (fun _ h9 => h9) rfl dX4_near_53 ?_
        refine lv_iload hx hb dX4_near_56 (lv_at hl 4 rfl) ?_
        obtain ⟨v_58, hv_58, hs⟩ := op_bd hs
        refine gx_zald hx hb hK hP 8 2 rfl rfl hv_58 dX4_near_58 ?_
        refine lv_if_eq (tgt := 65) hx hb dX4_near_59 (by decide) (fun c_59 => ?_) (fun c_59 => ?_)
        · replace hs := it_t c_59 hs
          refine lv_aload_n hx hb dX4_near_65 rfl (lv_at hl 0 rfl) ?_
          refine lv_iload_n hx hb dX4_near_66 rfl (lv_at hl 1 rfl) ?_
          refine lv_iload_n hx hb dX4_near_67 rfl (lv_at hl 2 rfl) ?_
          refine lv_iload hx hb dX4_near_68 (lv_at hl 4 rfl) ?_
          obtain ⟨v_70, hc_70, hs⟩ := op_bd hs
          have hFc := va_free (wc := mo_w cI cJ cZ m0 mk mc mx my mf mp mq mb (ms_b N (upd (mo_b N) t1.toNatClampNeg (vp_nar .boolean t0)))) hD hS hA [0, 1, 2, 3, 4, 5, 6, 7, 8] rfl
          refine gx_cMv (wf := fun u => mo_w cI cJ cZ m0 mk mc mx my mf mp mq mb u) (va_runV (As := [.int p1, .int p2, .int x4]) (rest := []) ⟨hx, hb, hml, hown, hts⟩ (c_X4_toPlace l D cI cJ cZ cS ad m0 mk mc mx my mf mp mq mb _ (ms_b N (upd (mo_b N) t1.toNatClampNeg (vp_nar .boolean t0))) p1 p2 x4 F  v_70 hc_70) (cwV 3 hts gX4_near_X4_toPlace rfl rfl rfl (by decide +kernel) ⟨Nat.le_of_ble_eq_true rfl, Nat.le_of_ble_eq_true rfl⟩) ⟨gm_blind, va_recv hK hP (ci := 4) (q0 := 0) rfl rfl, gm_ok hK hE hS hFc hP hD va_nil0 gx_nil⟩ rfl rfl hl.1 rfl (lv_room (Nat.le_of_ble_eq_true rfl)) dX4_near_70 ⟨Nat.le_of_ble_eq_true rfl, Nat.le_of_ble_eq_true rfl⟩) hS hFc (fun H locs hP hD hS => ?_)
          have hP : va_P D vwCl (mo_w cI cJ cZ m0 mk mc mx my mf mp mq mb v_70) H := hP
          have hD : va_D A (mo_w cI cJ cZ m0 mk mc mx my mf mp mq mb v_70) := hD
          refine lv_aload_n hx hb dX4_near_73 rfl (lv_at hl 0 rfl) ?_
          refine va_get (D := D) (ci := 4) (v := .ref mp) (C := RX4) (T := TX4) (N := 15) hx hb hts in_X4 hown hK hP 0 rfl rfl 12 (by decide) lk_30 (fun _ h9 => h9) rfl dX4_near_74 ?_
          refine lv_iload hx hb dX4_near_77 (lv_at hl 4 rfl) ?_
          refine lv_aload_n hx hb dX4_near_79 rfl (lv_at hl 0 rfl) ?_
          refine va_get (D := D) (ci := 4) (v := .long (mo_u v_70)) (C := RX4) (T := TX4) (N := 15) hx hb hts in_X4 hown hK hP 0 rfl rfl 9 (by decide) lk_119 (fun _ h9 => h9) rfl dX4_near_80 ?_
          obtain ⟨_, hv_83, hs⟩ := op_bd hs
          refine va_last hx hb hK hP hD hS 6 1 rfl rfl (wr_ok hv_83) dX4_near_83 (fun H locs hP hD hS => ?_)
          have hP : va_P D vwCl (mo_w cI cJ cZ m0 mk mc mx my mf mp mq mb (ms_p v_70 (vp_updL (mo_p v_70) x4.toNatClampNeg (mo_u v_70)))) H := hP
          have hD : va_D A (mo_w cI cJ cZ m0 mk mc mx my mf mp mq mb (ms_p v_70 (vp_updL (mo_p v_70) x4.toNatClampNeg (mo_u v_70)))) := hD
          refine lv_aload_n hx hb dX4_near_84 rfl (lv_at hl 0 rfl) ?_
          refine va_get (D := D) (ci := 4) (v := .ref mq) (C := RX4) (T := TX4) (N := 15) hx hb hts in_X4 hown hK hP 0 rfl rfl 13 (by decide) lk_33 (fun _ h9 => h9) rfl dX4_near_85 ?_
          refine lv_iload hx hb dX4_near_88 (lv_at hl 4 rfl) ?_
          refine lv_aload_n hx hb dX4_near_90 rfl (lv_at hl 0 rfl) ?_
          refine va_get (D := D) (ci := 4) (v := .long (mo_l v_70)) (C := RX4) (T := TX4) (N := 15) hx hb hts in_X4 hown hK hP 0 rfl rfl 10 (by decide) lk_115 (fun _ h9 => h9) rfl dX4_near_91 ?_
          obtain ⟨_, hv_94, hs⟩ := op_bd hs
          refine va_last hx hb hK hP hD hS 7 1 rfl rfl (wr_ok hv_94) dX4_near_94 (fun H locs hP hD hS => ?_)
          have hP : va_P D vwCl (mo_w cI cJ cZ m0 mk mc mx my mf mp mq mb (ms_q (ms_p v_70 (vp_updL (mo_p v_70) x4.toNatClampNeg (mo_u v_70))) (vp_updL (mo_q v_70) x4.toNatClampNeg (mo_l v_70)))) H := hP
          have hD : va_D A (mo_w cI cJ cZ m0 mk mc mx my mf mp mq mb (ms_q (ms_p v_70 (vp_updL (mo_p v_70) x4.toNatClampNeg (mo_u v_70))) (vp_updL (mo_q v_70) x4.toNatClampNeg (mo_l v_70)))) := hD
          obtain ⟨e_95, hv_95, hs⟩ := op_bd hs
          refine lv_iinc (v := e_95) (lv' := [(4, .int e_95), (0, .ref m0), (1, .int p1), (2, .int p2), (3, .int p3)]) hx hb dX4_near_95 hl (k := 4) rfl (Option.some.inj hv_95) (by decide) rfl (fun ls hl => ?_)
          refine lv_goto (tgt := 22) hx hb dX4_near_98 (by decide) ?_
          exact ih_22 e_95 (ms_q (ms_p v_70 (vp_updL (mo_p v_70) x4.toNatClampNeg (mo_u v_70))) (vp_updL (mo_q v_70) x4.toNatClampNeg (mo_l v_70))) hs _ _ hP hD hS _ (lv_sub hl [1, 2, 3, 4, 0] rfl)
        · replace hs := it_f c_59 hs
          refine lv_goto (tgt := 95) hx hb dX4_near_62 (by decide) ?_
          obtain ⟨e_95, hv_95, hs⟩ := op_bd hs
          refine lv_iinc (v := e_95) (lv' := [(4, .int e_95), (0, .ref m0), (1, .int p1), (2, .int p2), (3, .int p3)]) hx hb dX4_near_95 hl (k := 4) rfl (Option.some.inj hv_95) (by decide) rfl (fun ls hl => ?_)
          refine lv_goto (tgt := 22) hx hb dX4_near_98 (by decide) ?_
          exact ih_22 e_95 (ms_b N (upd (mo_b N) t1.toNatClampNeg (vp_nar .boolean t0))) hs _ _ hP hD hS _ (lv_sub hl [1, 2, 3, 4, 0] rfl)
      intro x4 N hs H locs hP hD hS ls hl
      rw [s_X4_near_22] at hs
      refine lv_iload hx hb dX4_near_22 (lv_at hl 4 rfl) ?_
      refine lv_aload_n hx hb dX4_near_24 rfl (lv_at hl 0 rfl) ?_
      refine va_get (D := D) (ci := 4) (v := .int (mo_n N)) (C := RX4) (T := TX4) (N := 15) hx hb hts in_X4 hown hK hP 0 rfl rfl 4 (by decide) lk_40 (fun _ h9 => h9) rfl dX4_near_25 ?_
      refine lv_icmp_ge (tgt := 101) hx hb dX4_near_28 (by decide) (fun c_28 => ?_) (fun c_28 => ?_)
      · replace hs := it_t c_28 hs
        refine lv_iconst (v := -1) hx hb dX4_near_101 (by decide) ?_
        refine lv_istore (lv' := [(4, .int (-1)), (0, .ref m0), (1, .int p1), (2, .int p2), (3, .int p3)]) hx hb dX4_near_102 hl (by decide) rfl (fun ls hl => ?_)
        refine lv_iconst (v := 0) hx hb dX4_near_104 (by decide) ?_
        refine lv_istore (lv' := [(5, .int 0), (4, .int (-1)), (0, .ref m0), (1, .int p1), (2, .int p2), (3, .int p3)]) hx hb dX4_near_105 hl (by decide) rfl (fun ls hl => ?_)
        exact J_107 F (-1) 0 N hs _ _ hP hD hS _ (lv_sub hl [2, 5, 1, 0] rfl)
      · replace hs := it_f c_28 hs
        refine lv_aload_n hx hb dX4_near_31 rfl (lv_at hl 0 rfl) ?_
        refine va_get (D := D) (ci := 4) (v := .ref mb) (C := RX4) (T := TX4) (N := 15) hx hb hts in_X4 hown hK hP 0 rfl rfl 14 (by decide) lk_36 (fun _ h9 => h9) rfl dX4_near_32 ?_
        refine lv_iload hx hb dX4_near_35 (lv_at hl 4 rfl) ?_
        refine lv_aload_n hx hb dX4_near_37 rfl (lv_at hl 0 rfl) ?_
        refine lv_iload hx hb dX4_near_38 (lv_at hl 4 rfl) ?_
        obtain ⟨v_40, hc_40, hs⟩ := op_bd hs
        have hFc := va_free (wc := mo_w cI cJ cZ m0 mk mc mx my mf mp mq mb N) hD hS hA [0, 1, 2, 3, 4, 5, 6, 7, 8] rfl
        refine gx_cMi (wf := fun u => mo_w cI cJ cZ m0 mk mc mx my mf mp mq mb u) (va_runV (As := [.int x4]) (rest := [.int x4, .ref mb]) ⟨hx, hb, hml, hown, hts⟩ (c_X4_isRight l D cI cJ cZ cS ad m0 mk mc mx my mf mp mq mb _ N x4 F  v_40 hc_40) (cwV 1 hts gX4_near_X4_isRight rfl rfl rfl (by decide +kernel) ⟨Nat.le_of_ble_eq_true rfl, Nat.le_of_ble_eq_true rfl⟩) ⟨gm_blind, va_recv hK hP (ci := 4) (q0 := 0) rfl rfl, gm_ok hK hE hS hFc hP hD va_nil0 gx_nil⟩ rfl rfl hl.1 rfl (lv_room (Nat.le_of_ble_eq_true rfl)) dX4_near_40 ⟨Nat.le_of_ble_eq_true rfl, Nat.le_of_ble_eq_true rfl⟩) hS hFc (fun H locs hP hD hS => ?_)
        have hP : va_P D vwCl (mo_w cI cJ cZ m0 mk mc mx my mf mp mq mb v_40.2) H := hP
        have hD : va_D A (mo_w cI cJ cZ m0 mk mc mx my mf mp mq mb v_40.2) := hD
        refine lv_if_ne (tgt := 50) hx hb dX4_near_43 (by decide) (fun c_43 => ?_) (fun c_43 => ?_)
        · replace hs := it_f c_43 hs
          refine lv_iconst (v := 0) hx hb dX4_near_50 (by decide) ?_
          exact J_51 x4 0 x4 v_40.2 hs _ _ hP hD hS _ (lv_sub hl [0, 1, 2, 3, 4] rfl)
        · replace hs := it_t c_43 hs
          refine lv_iconst (v := 1) hx hb dX4_near_46 (by decide) ?_
          refine lv_goto (tgt := 51) hx hb dX4_near_47 (by decide) ?_
          exact J_51 x4 1 x4 v_40.2 hs _ _ hP hD hS _ (lv_sub hl [0, 1, 2, 3, 4] rfl)
  have hl := lv_entry ([.ref m0, .int p1, .int p2, .int p3]) (n := 7) (Nat.le_of_ble_eq_true rfl)
  rw [lg_entry_eq]
  generalize (lg_sl ([.ref m0, .int p1, .int p2, .int p3]) ++ List.replicate (7 - (lg_sl ([.ref m0, .int p1, .int p2, .int p3])).length) Slot.unset).toArray = ls at hl ⊢
  have hl : lv_has ls 7 [(0, .ref m0), (1, .int p1), (2, .int p2), (3, .int p3)] := hl
  rw [s_X4_near] at hs
  refine lv_aload_n hx hb dX4_near_0 rfl (lv_at hl 0 rfl) ?_
  refine lv_iconst (v := 0) hx hb dX4_near_1 (by decide) ?_
  refine va_put (D := D) (ci := 4) (v := .int 0) (ty := .int) (C := RX4) (T := TX4) (N := 15) hx hb hts in_X4 tyX4 tyX4_ok nmX4 hown hK hP hD hS 0 rfl rfl 11 (by decide) lk_1 (fun _ h9 => h9) rfl (by decide +kernel) rfl rfl (Nat.le_of_ble_eq_true rfl) dX4_near_2 (fun H locs hP hD hS => ?_)
  have hP : va_P D vwCl (mo_w cI cJ cZ m0 mk mc mx my mf mp mq mb (ms_t M 0)) H := hP
  have hD : va_D A (mo_w cI cJ cZ m0 mk mc mx my mf mp mq mb (ms_t M 0)) := hD
  refine lv_iload_n hx hb dX4_near_5 rfl (lv_at hl 1 rfl) ?_
  refine lv_iload_n hx hb dX4_near_6 rfl (lv_at hl 2 rfl) ?_
  obtain ⟨v_7, hc_7, hs⟩ := op_bd hs
  refine gx_cSi (va_Run.run (va_runS (As := [.int p1, .int p2]) (rest := []) ⟨hx, hb, hml, hown, hts⟩ (c_X4_isPlace l D cI cJ cZ cS ad p1 p2 F  v_7 hc_7) (va_cwS 2 hts gX4_near_X4_isPlace rfl rfl rfl (by decide +kernel) ⟨Nat.le_of_ble_eq_true rfl, Nat.le_of_ble_eq_true rfl⟩) ⟨gl_blind, gl_ok hK (gl_Ek hE hS) trivial⟩ rfl rfl hl.1 rfl (lv_room (Nat.le_of_ble_eq_true rfl)) dX4_near_7 ⟨Nat.le_of_ble_eq_true rfl, Nat.le_of_ble_eq_true rfl⟩)) ?_
  refine lv_if_eq (tgt := 17) hx hb dX4_near_10 (by decide) (fun c_10 => ?_) (fun c_10 => ?_)
  · replace hs := it_t c_10 hs
    refine lv_iconst (v := -1) hx hb dX4_near_17 (by decide) ?_
    obtain rfl := Option.some.inj hs
    exact W.iret hx hb hr (fun t ht hW => ⟨⟨_, _, rfl, ⟨rfl, rfl⟩, by rw [ht]; exact hP, hD⟩, hS.F ht⟩) hS.2.2 dX4_near_18
  · replace hs := it_f c_10 hs
    refine lv_iload_n hx hb dX4_near_13 rfl (lv_at hl 3 rfl) ?_
    refine lv_if_ge (tgt := 19) hx hb dX4_near_14 (by decide) (fun c_14 => ?_) (fun c_14 => ?_)
    · replace hs := it_t c_14 hs
      refine lv_iconst (v := 0) hx hb dX4_near_19 (by decide) ?_
      refine lv_istore (lv' := [(4, .int 0), (0, .ref m0), (1, .int p1), (2, .int p2), (3, .int p3)]) hx hb dX4_near_20 hl (by decide) rfl (fun ls hl => ?_)
      exact J_22 F 0 (ms_t M 0) hs _ _ hP hD hS _ (lv_sub hl [1, 2, 3, 4, 0] rfl)
    · replace hs := it_f c_14 hs
      refine lv_iconst (v := -1) hx hb dX4_near_17 (by decide) ?_
      obtain rfl := Option.some.inj hs
      exact W.iret hx hb hr (fun t ht hW => ⟨⟨_, _, rfl, ⟨rfl, rfl⟩, by rw [ht]; exact hP, hD⟩, hS.F ht⟩) hS.2.2 dX4_near_18
