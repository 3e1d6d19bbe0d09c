def s_X2_boxMeets (F : Nat) (S : sh_T) (p1 : Int32) (p2 : Int32) (p3 : Int32) (p4 : Int32) : Option Int32 :=
  if p3 < (sh_a S) then
    some 0
  else
    if (sh_c S) < p1 then
      some 0
    else
      if p4 < (sh_b S) then
        some 0
      else
        if (sh_d S) < p2 then
          some 0
        else
          some 1
abbrev rm_X2_boxMeets : Room := { frames := 0, cells := 0, slots := 0, locals := 0 }
theorem in_X2_boxMeets_X2 : ∀ w ∈ wsX20, w ∈ wsX2_boxMeets := by decide +kernel
set_option maxHeartbeats 4000000 in
set_option maxRecDepth 100000 in
theorem c_X2_boxMeets (l : Launch) (D : va_G) (cI cJ cZ cS : ClassId) (ad : Nat → Nat) (h0 sx sy : Nat) (S : sh_T) (p1 : Int32) (p2 : Int32) (p3 : Int32) (p4 : Int32) (F : Nat) (hkS : sh_k S < 3) (r : Int32) (hs : s_X2_boxMeets F S p1 p2 p3 p4 = some r) : Met l yX2_boxMeets wsX2_boxMeets rm_X2_boxMeets (gl_P D cI cJ cZ cS ad [.ref h0, .int p1, .int p2, .int p3, .int p4] (fun H => va_P D vwCl (sh_w cI ad h0 sx sy S) H)) (vp_Si (fun v => v = r)) 0 0 (fun _ => False) := by
  refine Met.ofW (cc := cX2_boxMeets) (maxL := 5) (ret := (some .boolean)) (by decide) rfl ?_
  intro p e s m args below meth c s₁ B hml hv
  obtain ⟨rfl, hK, hE, hP⟩ := hv
  have hx := B.exec
  have hb := B.bytes
  have hr := B.returns
  have hts := atoms_spec (ws := wsX2_boxMeets) B.pre
  have hown : s.vm.findClass RX2 = some m.cls := findClass_of_methodNamed B.named
  have hlocks := B.notSynchronized
  have lk_18 := hts (.fieldLink RX2 18 "PlacePoints$Shape" "lowX" "I") (by decide +kernel)
  have lk_21 := hts (.fieldLink RX2 21 "PlacePoints$Shape" "lowY" "I") (by decide +kernel)
  have lk_24 := hts (.fieldLink RX2 24 "PlacePoints$Shape" "highX" "I") (by decide +kernel)
  have lk_27 := hts (.fieldLink RX2 27 "PlacePoints$Shape" "highY" "I") (by decide +kernel)
  have in_X2 := in_X2_boxMeets_X2
  have hl := lv_entry ([.ref h0, .int p1, .int p2, .int p3, .int p4]) (n := 5) (Nat.le_of_ble_eq_true rfl)
  rw [lg_entry_eq]
  generalize (lg_sl ([.ref h0, .int p1, .int p2, .int p3, .int p4]) ++ List.replicate (5 - (lg_sl ([.ref h0, .int p1, .int p2, .int p3, .int p4])).length) Slot.unset).toArray = ls at hl ⊢
  have hl : lv_has ls 5 [(0, .ref h0), (1, .int p1), (2, .int p2), (3, .int p3), (4, .int p4)] := hl
  rw [s_X2_boxMeets] at hs
  refine lv_aload_n hx hb dX2_boxMeets_0 rfl (lv_at hl 0 rfl) ?_
  refine va_get (D := D) (ci := 2) (v := .int (sh_a S)) (C := RX2) (T := TX2) (N := 9) hx hb hts in_X2 hown hK hP 0 rfl rfl 5 (by decide) lk_18 (fun _ h9 => h9) rfl dX2_boxMeets_1 ?_
  refine lv_iload_n hx hb dX2_boxMeets_4 rfl (lv_at hl 3 rfl) ?_
  refine lv_icmp_gt (tgt := 37) hx hb dX2_boxMeets_5 (by decide) (fun c_5 => ?_) (fun c_5 => ?_)
  · replace hs := it_t c_5 hs
    refine lv_iconst (v := 0) hx hb dX2_boxMeets_37 (by decide) ?_
    obtain rfl := Option.some.inj hs
    exact W.zret hx hb hr rfl (fun t ht hW => ⟨_, rfl, rfl, ht⟩) (fun _ h => by cases h) dX2_boxMeets_38
  · replace hs := it_f c_5 hs
    refine lv_aload_n hx hb dX2_boxMeets_8 rfl (lv_at hl 0 rfl) ?_
    refine va_get (D := D) (ci := 2) (v := .int (sh_c S)) (C := RX2) (T := TX2) (N := 9) hx hb hts in_X2 hown hK hP 0 rfl rfl 7 (by decide) lk_24 (fun _ h9 => h9) rfl dX2_boxMeets_9 ?_
    refine lv_iload_n hx hb dX2_boxMeets_12 rfl (lv_at hl 1 rfl) ?_
    refine lv_icmp_lt (tgt := 37) hx hb dX2_boxMeets_13 (by decide) (fun c_13 => ?_) (fun c_13 => ?_)
    · replace hs := it_t c_13 hs
      refine lv_iconst (v := 0) hx hb dX2_boxMeets_37 (by decide) ?_
      obtain rfl := Option.some.inj hs
      exact W.zret hx hb hr rfl (fun t ht hW => ⟨_, rfl, rfl, ht⟩) (fun _ h => by cases h) dX2_boxMeets_38
    · replace hs := it_f c_13 hs
      refine lv_aload_n hx hb dX2_boxMeets_16 rfl (lv_at hl 0 rfl) ?_
      refine va_get (D := D) (ci := 2) (v := .int (sh_b S)) (C := RX2) (T := TX2) (N := 9) hx hb hts in_X2 hown hK hP 0 rfl rfl 6 (by decide) lk_21 (fun _ h9 => h9) rfl dX2_boxMeets_17 ?_
      refine lv_iload hx hb dX2_boxMeets_20 (lv_at hl 4 rfl) ?_
      refine lv_icmp_gt (tgt := 37) hx hb dX2_boxMeets_22 (by decide) (fun c_22 => ?_) (fun c_22 => ?_)
      · replace hs := it_t c_22 hs
        refine lv_iconst (v := 0) hx hb dX2_boxMeets_37 (by decide) ?_
        obtain rfl := Option.some.inj hs
        exact W.zret hx hb hr rfl (fun t ht hW => ⟨_, rfl, rfl, ht⟩) (fun _ h => by cases h) dX2_boxMeets_38
      · replace hs := it_f c_22 hs
        refine lv_aload_n hx hb dX2_boxMeets_25 rfl (lv_at hl 0 rfl) ?_
        refine va_get (D := D) (ci := 2) (v := .int (sh_d S)) (C := RX2) (T := TX2) (N := 9) hx hb hts in_X2 hown hK hP 0 rfl rfl 8 (by decide) lk_27 (fun _ h9 => h9) rfl dX2_boxMeets_26 ?_
        refine lv_iload_n hx hb dX2_boxMeets_29 rfl (lv_at hl 2 rfl) ?_
        refine lv_icmp_lt (tgt := 37) hx hb dX2_boxMeets_30 (by decide) (fun c_30 => ?_) (fun c_30 => ?_)
        · replace hs := it_t c_30 hs
          refine lv_iconst (v := 0) hx hb dX2_boxMeets_37 (by decide) ?_
          obtain rfl := Option.some.inj hs
          exact W.zret hx hb hr rfl (fun t ht hW => ⟨_, rfl, rfl, ht⟩) (fun _ h => by cases h) dX2_boxMeets_38
        · replace hs := it_f c_30 hs
          refine lv_iconst (v := 1) hx hb dX2_boxMeets_33 (by decide) ?_
          refine lv_goto (tgt := 38) hx hb dX2_boxMeets_34 (by decide) ?_
          obtain rfl := Option.some.inj hs
          exact W.zret hx hb hr rfl (fun t ht hW => ⟨_, rfl, rfl, ht⟩) (fun _ h => by cases h) dX2_boxMeets_38
def s_X2_twiceEnclosed_4 (F : Nat) (S : sh_T) : Nat → Int64 → Int32 → Option Int64
  | 0, _, _ => none
  | n + 1, x1, x3 =>
    if (sh_z S) ≤ x3 then
      some x1
    else
      (rd_i (sh_n S) (sh_x S) x3).bind fun v_18 =>
      (rd_i (sh_n S) (sh_y S) (x3 + 1)).bind fun v_27 =>
      (rd_i (sh_n S) (sh_x S) (x3 + 1)).bind fun v_37 =>
      (rd_i (sh_n S) (sh_y S) x3).bind fun v_44 =>
      (some ((x1 + ((v_18.toInt64 * v_27.toInt64) - (v_37.toInt64 * v_44.toInt64))))).bind fun e_49 =>
      (some (x3 + 1)).bind fun e_50 =>
      s_X2_twiceEnclosed_4 F S n e_49 e_50
def s_X2_twiceEnclosed (F : Nat) (S : sh_T) : Option Int64 :=
  s_X2_twiceEnclosed_4 F S F 0 0
abbrev rm_X2_twiceEnclosed : Room := { frames := 0, cells := 0, slots := 0, locals := 0 }
theorem in_X2_twiceEnclosed_X2 : ∀ w ∈ wsX20, w ∈ wsX2_twiceEnclosed := by decide +kernel
set_option maxHeartbeats 4000000 in
set_option maxRecDepth 100000 in
theorem c_X2_twiceEnclosed (l : Launch) (D : va_G) (cI cJ cZ cS : ClassId) (ad : Nat → Nat) (h0 sx sy : Nat) (S : sh_T) (F : Nat) (hkS : sh_k S < 3) (r : Int64) (hs : s_X2_twiceEnclosed F S = some r) : Met l yX2_twiceEnclosed wsX2_twiceEnclosed rm_X2_twiceEnclosed (gl_P D cI cJ cZ cS ad [.ref h0] (fun H => va_P D vwCl (sh_w cI ad h0 sx sy S) H)) (vp_Sl (fun v => v = r)) 0 0 (fun _ => False) := by
  refine Met.ofW (cc := cX2_twiceEnclosed) (maxL := 4) (ret := (some .long)) (by decide) rfl ?_
  intro p e s m args below meth c s₁ B hml hv
  obtain ⟨rfl, hK, hE, hP⟩ := hv
  have hx := B.exec
  have hb := B.bytes
  have hr := B.returns
  have hts := atoms_spec (ws := wsX2_twiceEnclosed) B.pre
  have hown : s.vm.findClass RX2 = some m.cls := findClass_of_methodNamed B.named
  have hlocks := B.notSynchronized
  have lk_9 := hts (.fieldLink RX2 9 "PlacePoints$Shape" "size" "I") (by decide +kernel)
  have lk_39 := hts (.fieldLink RX2 39 "PlacePoints$Shape" "xs" "[I") (by decide +kernel)
  have lk_43 := hts (.fieldLink RX2 43 "PlacePoints$Shape" "ys" "[I") (by decide +kernel)
  have in_X2 := in_X2_twiceEnclosed_X2
  have J_4 : ∀ (n_4 : Nat) (x1 : Int64) (x3 : Int32), s_X2_twiceEnclosed_4 F S n_4 x1 x3 = some r → ∀ ls : Array Slot, lv_has ls 4 [(0, .ref h0), (1, .long x1), (3, .int x3)] → W p l e (headSpec wsX2_twiceEnclosed rm_X2_twiceEnclosed).room s m ([.ref h0] : List Value).toArray below meth c s.heap [] 0 0 (MQ below (vp_Sl (fun v => v = r)) ([.ref h0] : List Value).toArray s 0 0 (fun _ => False)) (F0 m 4 ls []) := by
    intro n_4
    induction n_4 with
    | zero =>
      intro x1 x3 hs
      cases hs
    | succ n_4 ih_4 =>
      intro x1 x3 hs ls hl
      rw [s_X2_twiceEnclosed_4] at hs
      refine lv_iload_n hx hb dX2_twiceEnclosed_4 rfl (lv_at hl 2 rfl) ?_
      refine lv_aload_n hx hb dX2_twiceEnclosed_5 rfl (lv_at hl 0 rfl) ?_
      refine va_get (D := D) (ci := 2) (v := .int (sh_z S)) (C := RX2) (T := TX2) (N := 9) hx hb hts in_X2 hown hK hP 0 rfl rfl 1 (by decide) lk_9 (fun _ h9 => h9) rfl dX2_twiceEnclosed_6 ?_
      refine lv_icmp_ge (tgt := 56) hx hb dX2_twiceEnclosed_9 (by decide) (fun c_9 => ?_) (fun c_9 => ?_)
      · replace hs := it_t c_9 hs
        refine lv_lload_n hx hb dX2_twiceEnclosed_56 rfl (lv_at hl 1 rfl) ?_
        obtain rfl := Option.some.inj hs
        exact W.lret hx hb hr (fun t ht hW => ⟨_, rfl, rfl, ht⟩) (fun _ h => by cases h) dX2_twiceEnclosed_57
      · replace hs := it_f c_9 hs
        refine lv_lload_n hx hb dX2_twiceEnclosed_12 rfl (lv_at hl 1 rfl) ?_
        refine lv_aload_n hx hb dX2_twiceEnclosed_13 rfl (lv_at hl 0 rfl) ?_
        refine va_get (D := D) (ci := 2) (v := .ref sx) (C := RX2) (T := TX2) (N := 9) hx hb hts in_X2 hown hK hP 0 rfl rfl 3 (by decide) lk_39 (fun _ h9 => h9) rfl dX2_twiceEnclosed_14 ?_
        refine lv_iload_n hx hb dX2_twiceEnclosed_17 rfl (lv_at hl 2 rfl) ?_
        obtain ⟨v_18, hv_18, hs⟩ := op_bd hs
        refine gx_iald hx hb hK hP 1 0 rfl rfl hv_18 dX2_twiceEnclosed_18 ?_
        refine lv_i2l hx hb dX2_twiceEnclosed_19 rfl ?_
        refine lv_aload_n hx hb dX2_twiceEnclosed_20 rfl (lv_at hl 0 rfl) ?_
        refine va_get (D := D) (ci := 2) (v := .ref sy) (C := RX2) (T := TX2) (N := 9) hx hb hts in_X2 hown hK hP 0 rfl rfl 4 (by decide) lk_43 (fun _ h9 => h9) rfl dX2_twiceEnclosed_21 ?_
        refine lv_iload_n hx hb dX2_twiceEnclosed_24 rfl (lv_at hl 2 rfl) ?_
        refine lv_iconst (v := 1) hx hb dX2_twiceEnclosed_25 (by decide) ?_
        refine lv_iadd hx hb dX2_twiceEnclosed_26 ?_
        obtain ⟨v_27, hv_27, hs⟩ := op_bd hs
        refine gx_iald hx hb hK hP 2 0 rfl rfl hv_27 dX2_twiceEnclosed_27 ?_
        refine lv_i2l hx hb dX2_twiceEnclosed_28 rfl ?_
        refine lv_lmul hx hb dX2_twiceEnclosed_29 ?_
        refine lv_aload_n hx hb dX2_twiceEnclosed_30 rfl (lv_at hl 0 rfl) ?_
        refine va_get (D := D) (ci := 2) (v := .ref sx) (C := RX2) (T := TX2) (N := 9) hx hb hts in_X2 hown hK hP 0 rfl rfl 3 (by decide) lk_39 (fun _ h9 => h9) rfl dX2_twiceEnclosed_31 ?_
        refine lv_iload_n hx hb dX2_twiceEnclosed_34 rfl (lv_at hl 2 rfl) ?_
        refine lv_iconst (v := 1) hx hb dX2_twiceEnclosed_35 (by decide) ?_
        refine lv_iadd hx hb dX2_twiceEnclosed_36 ?_
        obtain ⟨v_37, hv_37, hs⟩ := op_bd hs
        refine gx_iald hx hb hK hP 1 0 rfl rfl hv_37 dX2_twiceEnclosed_37 ?_
        refine lv_i2l hx hb dX2_twiceEnclosed_38 rfl ?_
        refine lv_aload_n hx hb dX2_twiceEnclosed_39 rfl (lv_at hl 0 rfl) ?_
        refine va_get (D := D) (ci := 2) (v := .ref sy) (C := RX2) (T := TX2) (N := 9) hx hb hts in_X2 hown hK hP 0 rfl rfl 4 (by decide) lk_43 (fun _ h9 => h9) rfl dX2_twiceEnclosed_40 ?_
        refine lv_iload_n hx hb dX2_twiceEnclosed_43 rfl (lv_at hl 2 rfl) ?_
        obtain ⟨v_44, hv_44, hs⟩ := op_bd hs
        refine gx_iald hx hb hK hP 2 0 rfl rfl hv_44 dX2_twiceEnclosed_44 ?_
        refine lv_i2l hx hb dX2_twiceEnclosed_45 rfl ?_
        refine lv_lmul hx hb dX2_twiceEnclosed_46 ?_
        refine lv_lsub hx hb dX2_twiceEnclosed_47 ?_
        refine lv_ladd hx hb dX2_twiceEnclosed_48 ?_
        obtain ⟨e_49, hv_49, hs⟩ := op_bd hs
        refine gx_nj (Option.some.inj hv_49) ?_
        refine lv_lstore_n (lv' := [(1, .long e_49), (0, .ref h0), (3, .int x3)]) hx hb dX2_twiceEnclosed_49 rfl hl (by decide) rfl (fun ls hl => ?_)
        obtain ⟨e_50, hv_50, hs⟩ := op_bd hs
        refine lv_iinc (v := e_50) (lv' := [(3, .int e_50), (1, .long e_49), (0, .ref h0)]) hx hb dX2_twiceEnclosed_50 hl (k := 2) rfl (Option.some.inj hv_50) (by decide) rfl (fun ls hl => ?_)
        refine lv_goto (tgt := 4) hx hb dX2_twiceEnclosed_53 (by decide) ?_
        exact ih_4 e_49 e_50 hs _ (lv_sub hl [2, 1, 0] rfl)
  have hl := lv_entry ([.ref h0]) (n := 4) (Nat.le_of_ble_eq_true rfl)
  rw [lg_entry_eq]
  generalize (lg_sl ([.ref h0]) ++ List.replicate (4 - (lg_sl ([.ref h0])).length) Slot.unset).toArray = ls at hl ⊢
  have hl : lv_has ls 4 [(0, .ref h0)] := hl
  rw [s_X2_twiceEnclosed] at hs
  refine lv_lconst (v := 0) hx hb dX2_twiceEnclosed_0 (by decide) ?_
  refine lv_lstore_n (lv' := [(1, .long 0), (0, .ref h0)]) hx hb dX2_twiceEnclosed_1 rfl hl (by decide) rfl (fun ls hl => ?_)
  refine lv_iconst (v := 0) hx hb dX2_twiceEnclosed_2 (by decide) ?_
  refine lv_istore_n (lv' := [(3, .int 0), (1, .long 0), (0, .ref h0)]) hx hb dX2_twiceEnclosed_3 rfl hl (by decide) rfl (fun ls hl => ?_)
  exact J_4 F 0 0 hs _ (lv_sub hl [2, 1, 0] rfl)
def s_X2_foldsBack (F : Nat) (S : sh_T) (p1 : Int32) (p2 : Int32) : Option Int32 :=
  (rd_i (sh_n S) (sh_x S) p1).bind fun v_5 =>
  (rd_i (sh_n S) (sh_x S) p2).bind fun v_11 =>
  (some (((v_5 - v_11)).toInt64)).bind fun e_14 =>
  (rd_i (sh_n S) (sh_y S) p1).bind fun v_20 =>
  (rd_i (sh_n S) (sh_y S) p2).bind fun v_26 =>
  (some (((v_20 - v_26)).toInt64)).bind fun e_29 =>
  (rd_i (sh_n S) (sh_x S) (p2 + 1)).bind fun v_38 =>
  (rd_i (sh_n S) (sh_x S) p2).bind fun v_44 =>
  (some (((v_38 - v_44)).toInt64)).bind fun e_47 =>
  (rd_i (sh_n S) (sh_y S) (p2 + 1)).bind fun v_56 =>
  (rd_i (sh_n S) (sh_y S) p2).bind fun v_62 =>
  (some (((v_56 - v_62)).toInt64)).bind fun e_65 =>
  if (lg_cmp (e_14 * e_65) (e_29 * e_47)) = 0 then
    if (lg_cmp ((e_14 * e_47) + (e_29 * e_65)) 0) ≤ 0 then
      some 0
    else
      some 1
  else
    some 0
abbrev rm_X2_foldsBack : Room := { frames := 0, cells := 0, slots := 0, locals := 0 }
theorem in_X2_foldsBack_X2 : ∀ w ∈ wsX20, w ∈ wsX2_foldsBack := by decide +kernel
set_option maxHeartbeats 4000000 in
set_option maxRecDepth 100000 in
theorem c_X2_foldsBack (l : Launch) (D : va_G) (cI cJ cZ cS : ClassId) (ad : Nat → Nat) (h0 sx sy : Nat) (S : sh_T) (p1 : Int32) (p2 : Int32) (F : Nat) (hkS : sh_k S < 3) (r : Int32) (hs : s_X2_foldsBack F S p1 p2 = some r) : Met l yX2_foldsBack wsX2_foldsBack rm_X2_foldsBack (gl_P D cI cJ cZ cS ad [.ref h0, .int p1, .int p2] (fun H => va_P D vwCl (sh_w cI ad h0 sx sy S) H)) (vp_Si (fun v => v = r)) 0 0 (fun _ => False) := by
  refine Met.ofW (cc := cX2_foldsBack) (maxL := 11) (ret := (some .boolean)) (by decide) rfl ?_
  intro p e s m args below meth c s₁ B hml hv
  obtain ⟨rfl, hK, hE, hP⟩ := hv
  have hx := B.exec
  have hb := B.bytes
  have hr := B.returns
  have hts := atoms_spec (ws := wsX2_foldsBack) B.pre
  have hown : s.vm.findClass RX2 = some m.cls := findClass_of_methodNamed B.named
  have hlocks := B.notSynchronized
  have lk_39 := hts (.fieldLink RX2 39 "PlacePoints$Shape" "xs" "[I") (by decide +kernel)
  have lk_43 := hts (.fieldLink RX2 43 "PlacePoints$Shape" "ys" "[I") (by decide +kernel)
  have in_X2 := in_X2_foldsBack_X2
  have hl := lv_entry ([.ref h0, .int p1, .int p2]) (n := 11) (Nat.le_of_ble_eq_true rfl)
  rw [lg_entry_eq]
  generalize (lg_sl ([.ref h0, .int p1, .int p2]) ++ List.replicate (11 - (lg_sl ([.ref h0, .int p1, .int p2])).length) Slot.unset).toArray = ls at hl ⊢
  have hl : lv_has ls 11 [(0, .ref h0), (1, .int p1), (2, .int p2)] := hl
  rw [s_X2_foldsBack] at hs
  refine lv_aload_n hx hb dX2_foldsBack_0 rfl (lv_at hl 0 rfl) ?_
  refine va_get (D := D) (ci := 2) (v := .ref sx) (C := RX2) (T := TX2) (N := 9) hx hb hts in_X2 hown hK hP 0 rfl rfl 3 (by decide) lk_39 (fun _ h9 => h9) rfl dX2_foldsBack_1 ?_
  refine lv_iload_n hx hb dX2_foldsBack_4 rfl (lv_at hl 1 rfl) ?_
  obtain ⟨v_5, hv_5, hs⟩ := op_bd hs
  refine gx_iald hx hb hK hP 1 0 rfl rfl hv_5 dX2_foldsBack_5 ?_
  refine lv_aload_n hx hb dX2_foldsBack_6 rfl (lv_at hl 0 rfl) ?_
  refine va_get (D := D) (ci := 2) (v := .ref sx) (C := RX2) (T := TX2) (N := 9) hx hb hts in_X2 hown hK hP 0 rfl rfl 3 (by decide) lk_39 (fun _ h9 => h9) rfl dX2_foldsBack_7 ?_
  refine lv_iload_n hx hb dX2_foldsBack_10 rfl (lv_at hl 2 rfl) ?_
  obtain ⟨v_11, hv_11, hs⟩ := op_bd hs
  refine gx_iald hx hb hK hP 1 0 rfl rfl hv_11 dX2_foldsBack_11 ?_
  refine lv_isub hx hb dX2_foldsBack_12 ?_
  refine lv_i2l hx hb dX2_foldsBack_13 rfl ?_
  obtain ⟨e_14, hv_14, hs⟩ := op_bd hs
  refine gx_nj (Option.some.inj hv_14) ?_
  refine lv_lstore_n (lv' := [(3, .long e_14), (0, .ref h0), (1, .int p1), (2, .int p2)]) hx hb dX2_foldsBack_14 rfl hl (by decide) rfl (fun ls hl => ?_)
  refine lv_aload_n hx hb dX2_foldsBack_15 rfl (lv_at hl 1 rfl) ?_
  refine va_get (D := D) (ci := 2) (v := .ref sy) (C := RX2) (T := TX2) (N := 9) hx hb hts in_X2 hown hK hP 0 rfl rfl 4 (by decide) lk_43 (fun _ h9 => h9) rfl dX2_foldsBack_16 ?_
  refine lv_iload_n hx hb dX2_foldsBack_19 rfl (lv_at hl 2 rfl) ?_
  obtain ⟨v_20, hv_20, hs⟩ := op_bd hs
  refine gx_iald hx hb hK hP 2 0 rfl rfl hv_20 dX2_foldsBack_20 ?_
  refine lv_aload_n hx hb dX2_foldsBack_21 rfl (lv_at hl 1 rfl) ?_
  refine va_get (D := D) (ci := 2) (v := .ref sy) (C := RX2) (T := TX2) (N := 9) hx hb hts in_X2 hown hK hP 0 rfl rfl 4 (by decide) lk_43 (fun _ h9 => h9) rfl dX2_foldsBack_22 ?_
  refine lv_iload_n hx hb dX2_foldsBack_25 rfl (lv_at hl 3 rfl) ?_
  obtain ⟨v_26, hv_26, hs⟩ := op_bd hs
  refine gx_iald hx hb hK hP 2 0 rfl rfl hv_26 dX2_foldsBack_26 ?_
  refine lv_isub hx hb dX2_foldsBack_27 ?_
  refine lv_i2l hx hb dX2_foldsBack_28 rfl ?_
  obtain ⟨e_29, hv_29, hs⟩ := op_bd hs
  refine gx_nj (Option.some.inj hv_29) ?_
  refine lv_lstore (lv' := [(5, .long e_29), (3, .long e_14), (0, .ref h0), (1, .int p1), (2, .int p2)]) hx hb dX2_foldsBack_29 hl (by decide) rfl (fun ls hl => ?_)
  refine lv_aload_n hx hb dX2_foldsBack_31 rfl (lv_at hl 2 rfl) ?_
  refine va_get (D := D) (ci := 2) (v := .ref sx) (C := RX2) (T := TX2) (N := 9) hx hb hts in_X2 hown hK hP 0 rfl rfl 3 (by decide) lk_39 (fun _ h9 => h9) rfl dX2_foldsBack_32 ?_
  refine lv_iload_n hx hb dX2_foldsBack_35 rfl (lv_at hl 4 rfl) ?_
  refine lv_iconst (v := 1) hx hb dX2_foldsBack_36 (by decide) ?_
  refine lv_iadd hx hb dX2_foldsBack_37 ?_
  obtain ⟨v_38, hv_38, hs⟩ := op_bd hs
  refine gx_iald hx hb hK hP 1 0 rfl rfl hv_38 dX2_foldsBack_38 ?_
  refine lv_aload_n hx hb dX2_foldsBack_39 rfl (lv_at hl 2 rfl) ?_
  refine va_get (D := D) (ci := 2) (v := .ref sx) (C := RX2) (T := TX2) (N := 9) hx hb hts in_X2 hown hK hP 0 rfl rfl 3 (by decide) lk_39 (fun _ h9 => h9) rfl dX2_foldsBack_40 ?_
  refine lv_iload_n hx hb dX2_foldsBack_43 rfl (lv_at hl 4 rfl) ?_
  obtain ⟨v_44, hv_44, hs⟩ := op_bd hs
  refine gx_iald hx hb hK hP 1 0 rfl rfl hv_44 dX2_foldsBack_44 ?_
  refine lv_isub hx hb dX2_foldsBack_45 ?_
  refine lv_i2l hx hb dX2_foldsBack_46 rfl ?_
  obtain ⟨e_47, hv_47, hs⟩ := op_bd hs
  refine gx_nj (Option.some.inj hv_47) ?_
  refine lv_lstore (lv' := [(7, .long e_47), (5, .long e_29), (3, .long e_14), (0, .ref h0), (1, .int p1), (2, .int p2)]) hx hb dX2_foldsBack_47 hl (by decide) rfl (fun ls hl => ?_)
  refine lv_aload_n hx hb dX2_foldsBack_49 rfl (lv_at hl 3 rfl) ?_
  refine va_get (D := D) (ci := 2) (v := .ref sy) (C := RX2) (T := TX2) (N := 9) hx hb hts in_X2 hown hK hP 0 rfl rfl 4 (by decide) lk_43 (fun _ h9 => h9) rfl dX2_foldsBack_50 ?_
  refine lv_iload_n hx hb dX2_foldsBack_53 rfl (lv_at hl 5 rfl) ?_
  refine lv_iconst (v := 1) hx hb dX2_foldsBack_54 (by decide) ?_
  refine lv_iadd hx hb dX2_foldsBack_55 ?_
  obtain ⟨v_56, hv_56, hs⟩ := op_bd hs
  refine gx_iald hx hb hK hP 2 0 rfl rfl hv_56 dX2_foldsBack_56 ?_
  refine lv_aload_n hx hb dX2_foldsBack_57 rfl (lv_at hl 3 rfl) ?_
  refine va_get (D := D) (ci := 2) (v := .ref sy) (C := RX2) (T := TX2) (N := 9) hx hb hts in_X2 hown hK hP 0 rfl rfl 4 (by decide) lk_43 (fun _ h9 => h9) rfl dX2_foldsBack_58 ?_
  refine lv_iload_n hx hb dX2_foldsBack_61 rfl (lv_at hl 5 rfl) ?_
  obtain ⟨v_62, hv_62, hs⟩ := op_bd hs
  refine gx_iald hx hb hK hP 2 0 rfl rfl hv_62 dX2_foldsBack_62 ?_
  refine lv_isub hx hb dX2_foldsBack_63 ?_
  refine lv_i2l hx hb dX2_foldsBack_64 rfl ?_
  obtain ⟨e_65, hv_65, hs⟩ := op_bd hs
  refine gx_nj (Option.some.inj hv_65) ?_
  refine lv_lstore (lv' := [(9, .long e_65), (7, .long e_47), (5, .long e_29), (3, .long e_14), (0, .ref h0), (1, .int p1), (2, .int p2)]) hx hb dX2_foldsBack_65 hl (by decide) rfl (fun ls hl => ?_)
  refine lv_lload_n hx hb dX2_foldsBack_67 rfl (lv_at hl 3 rfl) ?_
  refine lv_lload hx hb dX2_foldsBack_68 (lv_at hl 0 rfl) ?_
  refine lv_lmul hx hb dX2_foldsBack_70 ?_
  refine lv_lload hx hb dX2_foldsBack_71 (lv_at hl 2 rfl) ?_
  refine lv_lload hx hb dX2_foldsBack_73 (lv_at hl 1 rfl) ?_
  refine lv_lmul hx hb dX2_foldsBack_75 ?_
  refine W.lcmp hx hb dX2_foldsBack_76 ?_
  refine lv_if_ne (tgt := 99) hx hb dX2_foldsBack_77 (by decide) (fun c_77 => ?_) (fun c_77 => ?_)
  · replace hs := it_f c_77 hs
    refine lv_iconst (v := 0) hx hb dX2_foldsBack_99 (by decide) ?_
    obtain rfl := Option.some.inj hs
    exact W.zret hx hb hr rfl (fun t ht hW => ⟨_, rfl, rfl, ht⟩) (fun _ h => by cases h) dX2_foldsBack_100
  · replace hs := it_t c_77 hs
    refine lv_lload_n hx hb dX2_foldsBack_80 rfl (lv_at hl 3 rfl) ?_
    refine lv_lload hx hb dX2_foldsBack_81 (lv_at hl 1 rfl) ?_
    refine lv_lmul hx hb dX2_foldsBack_83 ?_
    refine lv_lload hx hb dX2_foldsBack_84 (lv_at hl 2 rfl) ?_
    refine lv_lload hx hb dX2_foldsBack_86 (lv_at hl 0 rfl) ?_
    refine lv_lmul hx hb dX2_foldsBack_88 ?_
    refine lv_ladd hx hb dX2_foldsBack_89 ?_
    refine lv_lconst (v := 0) hx hb dX2_foldsBack_90 (by decide) ?_
    refine W.lcmp hx hb dX2_foldsBack_91 ?_
    refine lv_if_le (tgt := 99) hx hb dX2_foldsBack_92 (by decide) (fun c_92 => ?_) (fun c_92 => ?_)
    · replace hs := it_t c_92 hs
      refine lv_iconst (v := 0) hx hb dX2_foldsBack_99 (by decide) ?_
      obtain rfl := Option.some.inj hs
      exact W.zret hx hb hr rfl (fun t ht hW => ⟨_, rfl, rfl, ht⟩) (fun _ h => by cases h) dX2_foldsBack_100
    · replace hs := it_f c_92 hs
      refine lv_iconst (v := 1) hx hb dX2_foldsBack_95 (by decide) ?_
      refine lv_goto (tgt := 100) hx hb dX2_foldsBack_96 (by decide) ?_
      obtain rfl := Option.some.inj hs
      exact W.zret hx hb hr rfl (fun t ht hW => ⟨_, rfl, rfl, ht⟩) (fun _ h => by cases h) dX2_foldsBack_100
def s_X2_sideTouches (F : Nat) (S : sh_T) (p1 : Int32) (T : sh_T) (p3 : Int32) : Option Int32 :=
  (rd_i (sh_n S) (sh_x S) p1).bind fun v_17 =>
  (rd_i (sh_n S) (sh_x S) (p1 + 1)).bind fun v_25 =>
  (rd_i (sh_n T) (sh_x T) p3).bind fun v_29 =>
  (rd_i (sh_n T) (sh_x T) (p3 + 1)).bind fun v_35 =>
  (s_X2_overlap F v_17 v_25 v_29 v_35).bind fun v_36 =>
  if v_36 = 0 then
    some 0
  else
    (rd_i (sh_n S) (sh_y S) p1).bind fun v_47 =>
    (rd_i (sh_n S) (sh_y S) (p1 + 1)).bind fun v_55 =>
    (rd_i (sh_n T) (sh_y T) p3).bind fun v_59 =>
    (rd_i (sh_n T) (sh_y T) (p3 + 1)).bind fun v_65 =>
    (s_X2_overlap F v_47 v_55 v_59 v_65).bind fun v_66 =>
    if v_66 = 0 then
      some 0
    else
      (rd_i (sh_n T) (sh_x T) p3).bind fun v_77 =>
      (rd_i (sh_n T) (sh_y T) p3).bind fun v_81 =>
      (s_X2_turn F S p1 v_77 v_81).bind fun v_82 =>
      (rd_i (sh_n T) (sh_x T) (p3 + 1)).bind fun v_92 =>
      (rd_i (sh_n T) (sh_y T) (p3 + 1)).bind fun v_98 =>
      (s_X2_turn F S p1 v_92 v_98).bind fun v_99 =>
      if 0 < (lg_cmp (v_82 * v_99) 0) then
        some 0
      else
        (rd_i (sh_n S) (sh_x S) p1).bind fun v_115 =>
        (rd_i (sh_n S) (sh_y S) p1).bind fun v_121 =>
        (s_X2_turn F T p3 v_115 v_121).bind fun v_122 =>
        (rd_i (sh_n S) (sh_x S) (p1 + 1)).bind fun v_134 =>
        (rd_i (sh_n S) (sh_y S) (p1 + 1)).bind fun v_142 =>
        (s_X2_turn F T p3 v_134 v_142).bind fun v_143 =>
        if 0 < (lg_cmp (v_122 * v_143) 0) then
          some 0
        else
          some 1
abbrev rm_X2_sideTouches : Room := { frames := 2, cells := 0, slots := 0, locals := 44 }
theorem in_X2_sideTouches_X2 : ∀ w ∈ wsX20, w ∈ wsX2_sideTouches := by decide +kernel
set_option maxHeartbeats 4000000 in
set_option maxRecDepth 100000 in
theorem c_X2_sideTouches (l : Launch) (D : va_G) (cI cJ cZ cS : ClassId) (ad : Nat → Nat) (h0 sx sy k0 kx ky : Nat) (S : sh_T) (p1 : Int32) (T : sh_T) (p3 : Int32) (F : Nat) (hkS : sh_k S < 3) (hkT : sh_k T < 3) (r : Int32) (hs : s_X2_sideTouches F S p1 T p3 = some r) : Met l yX2_sideTouches wsX2_sideTouches rm_X2_sideTouches (gl_P D cI cJ cZ cS ad [.ref h0, .int p1, .ref k0, .int p3] (fun H => va_P D vwCl (sh_w cI ad h0 sx sy S ++ sh_w cI ad k0 kx ky T) H)) (vp_Si (fun v => v = r)) 0 0 (fun _ => False) := by
  refine Met.ofW (cc := cX2_sideTouches) (maxL := 6) (ret := (some .boolean)) (by decide) rfl ?_
  intro p e s m args below meth c s₁ B hml hv
  obtain ⟨rfl, hK, hE, hP⟩ := hv
  have hx := B.exec
  have hb := B.bytes
  have hr := B.returns
  have hts := atoms_spec (ws := wsX2_sideTouches) B.pre
  have hown : s.vm.findClass RX2 = some m.cls := findClass_of_methodNamed B.named
  have hlocks := B.notSynchronized
  have lk_39 := hts (.fieldLink RX2 39 "PlacePoints$Shape" "xs" "[I") (by decide +kernel)
  have lk_43 := hts (.fieldLink RX2 43 "PlacePoints$Shape" "ys" "[I") (by decide +kernel)
  have in_X2 := in_X2_sideTouches_X2
  have hl := lv_entry ([.ref h0, .int p1, .ref k0, .int p3]) (n := 6) (Nat.le_of_ble_eq_true rfl)
  rw [lg_entry_eq]
  generalize (lg_sl ([.ref h0, .int p1, .ref k0, .int p3]) ++ List.replicate (6 - (lg_sl ([.ref h0, .int p1, .ref k0, .int p3])).length) Slot.unset).toArray = ls at hl ⊢
  have hl : lv_has ls 6 [(0, .ref h0), (1, .int p1), (2, .ref k0), (3, .int p3)] := hl
  rw [s_X2_sideTouches] at hs
  refine lv_aload_n hx hb dX2_sideTouches_0 rfl (lv_at hl 2 rfl) ?_
  refine va_get (D := D) (ci := 2) (v := .ref kx) (C := RX2) (T := TX2) (N := 9) hx hb hts in_X2 hown hK hP 3 rfl rfl 3 (by decide) lk_39 (fun _ h9 => h9) rfl dX2_sideTouches_1 ?_
  refine lv_astore (lv' := [(4, .ref kx), (0, .ref h0), (1, .int p1), (2, .ref k0), (3, .int p3)]) hx hb dX2_sideTouches_4 hl (by decide) rfl (fun ls hl => ?_)
  refine lv_aload_n hx hb dX2_sideTouches_6 rfl (lv_at hl 3 rfl) ?_
  refine va_get (D := D) (ci := 2) (v := .ref ky) (C := RX2) (T := TX2) (N := 9) hx hb hts in_X2 hown hK hP 3 rfl rfl 4 (by decide) lk_43 (fun _ h9 => h9) rfl dX2_sideTouches_7 ?_
  refine lv_astore (lv' := [(5, .ref ky), (4, .ref kx), (0, .ref h0), (1, .int p1), (2, .ref k0), (3, .int p3)]) hx hb dX2_sideTouches_10 hl (by decide) rfl (fun ls hl => ?_)
  refine lv_aload_n hx hb dX2_sideTouches_12 rfl (lv_at hl 2 rfl) ?_
  refine va_get (D := D) (ci := 2) (v := .ref sx) (C := RX2) (T := TX2) (N := 9) hx hb hts in_X2 hown hK hP 0 rfl rfl 3 (by decide) lk_39 (fun _ h9 => h9) rfl dX2_sideTouches_13 ?_
  refine lv_iload_n hx hb dX2_sideTouches_16 rfl (lv_at hl 3 rfl) ?_
  obtain ⟨v_17, hv_17, hs⟩ := op_bd hs
  refine gx_iald hx hb hK hP 1 0 rfl rfl hv_17 dX2_sideTouches_17 ?_
  refine lv_aload_n hx hb dX2_sideTouches_18 rfl (lv_at hl 2 rfl) ?_
  refine va_get (D := D) (ci := 2) (v := .ref sx) (C := RX2) (T := TX2) (N := 9) hx hb hts in_X2 hown hK hP 0 rfl rfl 3 (by decide) lk_39 (fun _ h9 => h9) rfl dX2_sideTouches_19 ?_
  refine lv_iload_n hx hb dX2_sideTouches_22 rfl (lv_at hl 3 rfl) ?_
  refine lv_iconst (v := 1) hx hb dX2_sideTouches_23 (by decide) ?_
  refine lv_iadd hx hb dX2_sideTouches_24 ?_
  obtain ⟨v_25, hv_25, hs⟩ := op_bd hs
  refine gx_iald hx hb hK hP 1 0 rfl rfl hv_25 dX2_sideTouches_25 ?_
  refine lv_aload hx hb dX2_sideTouches_26 (lv_at hl 1 rfl) ?_
  refine lv_iload_n hx hb dX2_sideTouches_28 rfl (lv_at hl 5 rfl) ?_
  obtain ⟨v_29, hv_29, hs⟩ := op_bd hs
  refine gx_iald hx hb hK hP 4 0 rfl rfl hv_29 dX2_sideTouches_29 ?_
  refine lv_aload hx hb dX2_sideTouches_30 (lv_at hl 1 rfl) ?_
  refine lv_iload_n hx hb dX2_sideTouches_32 rfl (lv_at hl 5 rfl) ?_
  refine lv_iconst (v := 1) hx hb dX2_sideTouches_33 (by decide) ?_
  refine lv_iadd hx hb dX2_sideTouches_34 ?_
  obtain ⟨v_35, hv_35, hs⟩ := op_bd hs
  refine gx_iald hx hb hK hP 4 0 rfl rfl hv_35 dX2_sideTouches_35 ?_
  obtain ⟨v_36, hc_36, hs⟩ := op_bd hs
  refine gx_cSi (va_Run.run (va_runS (As := [.int v_17, .int v_25, .int v_29, .int v_35]) (rest := []) ⟨hx, hb, hml, hown, hts⟩ (c_X2_overlap l D cI cJ cZ cS ad v_17 v_25 v_29 v_35 F  v_36 hc_36) (va_cwS 4 hts gX2_sideTouches_X2_overlap rfl rfl rfl (by decide +kernel) ⟨Nat.le_of_ble_eq_true rfl, Nat.le_of_ble_eq_true rfl⟩) ⟨gl_blind, gl_ok hK hE trivial⟩ rfl rfl hl.1 rfl (lv_room (Nat.le_of_ble_eq_true rfl)) dX2_sideTouches_36 ⟨Nat.le_of_ble_eq_true rfl, Nat.le_of_ble_eq_true rfl⟩)) ?_
  refine lv_if_eq (tgt := 156) hx hb dX2_sideTouches_39 (by decide) (fun c_39 => ?_) (fun c_39 => ?_)
  · replace hs := it_t c_39 hs
    refine lv_iconst (v := 0) hx hb dX2_sideTouches_156 (by decide) ?_
    obtain rfl := Option.some.inj hs
    exact W.zret hx hb hr rfl (fun t ht hW => ⟨_, rfl, rfl, ht⟩) (fun _ h => by cases h) dX2_sideTouches_157
  · replace hs := it_f c_39 hs
    refine lv_aload_n hx hb dX2_sideTouches_42 rfl (lv_at hl 2 rfl) ?_
    refine va_get (D := D) (ci := 2) (v := .ref sy) (C := RX2) (T := TX2) (N := 9) hx hb hts in_X2 hown hK hP 0 rfl rfl 4 (by decide) lk_43 (fun _ h9 => h9) rfl dX2_sideTouches_43 ?_
    refine lv_iload_n hx hb dX2_sideTouches_46 rfl (lv_at hl 3 rfl) ?_
    obtain ⟨v_47, hv_47, hs⟩ := op_bd hs
    refine gx_iald hx hb hK hP 2 0 rfl rfl hv_47 dX2_sideTouches_47 ?_
    refine lv_aload_n hx hb dX2_sideTouches_48 rfl (lv_at hl 2 rfl) ?_
    refine va_get (D := D) (ci := 2) (v := .ref sy) (C := RX2) (T := TX2) (N := 9) hx hb hts in_X2 hown hK hP 0 rfl rfl 4 (by decide) lk_43 (fun _ h9 => h9) rfl dX2_sideTouches_49 ?_
    refine lv_iload_n hx hb dX2_sideTouches_52 rfl (lv_at hl 3 rfl) ?_
    refine lv_iconst (v := 1) hx hb dX2_sideTouches_53 (by decide) ?_
    refine lv_iadd hx hb dX2_sideTouches_54 ?_
    obtain ⟨v_55, hv_55, hs⟩ := op_bd hs
    refine gx_iald hx hb hK hP 2 0 rfl rfl hv_55 dX2_sideTouches_55 ?_
    refine lv_aload hx hb dX2_sideTouches_56 (lv_at hl 0 rfl) ?_
    refine lv_iload_n hx hb dX2_sideTouches_58 rfl (lv_at hl 5 rfl) ?_
    obtain ⟨v_59, hv_59, hs⟩ := op_bd hs
    refine gx_iald hx hb hK hP 5 0 rfl rfl hv_59 dX2_sideTouches_59 ?_
    refine lv_aload hx hb dX2_sideTouches_60 (lv_at hl 0 rfl) ?_
    refine lv_iload_n hx hb dX2_sideTouches_62 rfl (lv_at hl 5 rfl) ?_
    refine lv_iconst (v := 1) hx hb dX2_sideTouches_63 (by decide) ?_
    refine lv_iadd hx hb dX2_sideTouches_64 ?_
    obtain ⟨v_65, hv_65, hs⟩ := op_bd hs
    refine gx_iald hx hb hK hP 5 0 rfl rfl hv_65 dX2_sideTouches_65 ?_
    obtain ⟨v_66, hc_66, hs⟩ := op_bd hs
    refine gx_cSi (va_Run.run (va_runS (As := [.int v_47, .int v_55, .int v_59, .int v_65]) (rest := []) ⟨hx, hb, hml, hown, hts⟩ (c_X2_overlap l D cI cJ cZ cS ad v_47 v_55 v_59 v_65 F  v_66 hc_66) (va_cwS 4 hts gX2_sideTouches_X2_overlap rfl rfl rfl (by decide +kernel) ⟨Nat.le_of_ble_eq_true rfl, Nat.le_of_ble_eq_true rfl⟩) ⟨gl_blind, gl_ok hK hE trivial⟩ rfl rfl hl.1 rfl (lv_room (Nat.le_of_ble_eq_true rfl)) dX2_sideTouches_66 ⟨Nat.le_of_ble_eq_true rfl, Nat.le_of_ble_eq_true rfl⟩)) ?_
    refine lv_if_eq (tgt := 156) hx hb dX2_sideTouches_69 (by decide) (fun c_69 => ?_) (fun c_69 => ?_)
    · replace hs := it_t c_69 hs
      refine lv_iconst (v := 0) hx hb dX2_sideTouches_156 (by decide) ?_
      obtain rfl := Option.some.inj hs
      exact W.zret hx hb hr rfl (fun t ht hW => ⟨_, rfl, rfl, ht⟩) (fun _ h => by cases h) dX2_sideTouches_157
    · replace hs := it_f c_69 hs
      refine lv_aload_n hx hb dX2_sideTouches_72 rfl (lv_at hl 2 rfl) ?_
      refine lv_iload_n hx hb dX2_sideTouches_73 rfl (lv_at hl 3 rfl) ?_
      refine lv_aload hx hb dX2_sideTouches_74 (lv_at hl 1 rfl) ?_
      refine lv_iload_n hx hb dX2_sideTouches_76 rfl (lv_at hl 5 rfl) ?_
      obtain ⟨v_77, hv_77, hs⟩ := op_bd hs
      refine gx_iald hx hb hK hP 4 0 rfl rfl hv_77 dX2_sideTouches_77 ?_
      refine lv_aload hx hb dX2_sideTouches_78 (lv_at hl 0 rfl) ?_
      refine lv_iload_n hx hb dX2_sideTouches_80 rfl (lv_at hl 5 rfl) ?_
      obtain ⟨v_81, hv_81, hs⟩ := op_bd hs
      refine gx_iald hx hb hK hP 5 0 rfl rfl hv_81 dX2_sideTouches_81 ?_
      obtain ⟨v_82, hc_82, hs⟩ := op_bd hs
      refine gx_cSl (va_Run.run (va_runV (As := [.int p1, .int v_77, .int v_81]) (rest := []) ⟨hx, hb, hml, hown, hts⟩ (c_X2_turn l D cI cJ cZ cS ad h0 sx sy S p1 v_77 v_81 F hkS v_82 hc_82) (cwV 3 hts gX2_sideTouches_X2_turn rfl rfl rfl (by decide +kernel) ⟨Nat.le_of_ble_eq_true rfl, Nat.le_of_ble_eq_true rfl⟩) ⟨gl_blind, va_recv hK hP (ci := 2) (q0 := 0) rfl rfl, gl_ok hK hE (hP.sub [0, 1, 2] rfl)⟩ rfl rfl hl.1 rfl (lv_room (Nat.le_of_ble_eq_true rfl)) dX2_sideTouches_82 ⟨Nat.le_of_ble_eq_true rfl, Nat.le_of_ble_eq_true rfl⟩)) ?_
      refine lv_aload_n hx hb dX2_sideTouches_85 rfl (lv_at hl 2 rfl) ?_
      refine lv_iload_n hx hb dX2_sideTouches_86 rfl (lv_at hl 3 rfl) ?_
      refine lv_aload hx hb dX2_sideTouches_87 (lv_at hl 1 rfl) ?_
      refine lv_iload_n hx hb dX2_sideTouches_89 rfl (lv_at hl 5 rfl) ?_
      refine lv_iconst (v := 1) hx hb dX2_sideTouches_90 (by decide) ?_
      refine lv_iadd hx hb dX2_sideTouches_91 ?_
      obtain ⟨v_92, hv_92, hs⟩ := op_bd hs
      refine gx_iald hx hb hK hP 4 0 rfl rfl hv_92 dX2_sideTouches_92 ?_
      refine lv_aload hx hb dX2_sideTouches_93 (lv_at hl 0 rfl) ?_
      refine lv_iload_n hx hb dX2_sideTouches_95 rfl (lv_at hl 5 rfl) ?_
      refine lv_iconst (v := 1) hx hb dX2_sideTouches_96 (by decide) ?_
      refine lv_iadd hx hb dX2_sideTouches_97 ?_
      obtain ⟨v_98, hv_98, hs⟩ := op_bd hs
      refine gx_iald hx hb hK hP 5 0 rfl rfl hv_98 dX2_sideTouches_98 ?_
      obtain ⟨v_99, hc_99, hs⟩ := op_bd hs
      refine gx_cSl (va_Run.run (va_runV (As := [.int p1, .int v_92, .int v_98]) (rest := [.long v_82]) ⟨hx, hb, hml, hown, hts⟩ (c_X2_turn l D cI cJ cZ cS ad h0 sx sy S p1 v_92 v_98 F hkS v_99 hc_99) (cwV 3 hts gX2_sideTouches_X2_turn rfl rfl rfl (by decide +kernel) ⟨Nat.le_of_ble_eq_true rfl, Nat.le_of_ble_eq_true rfl⟩) ⟨gl_blind, va_recv hK hP (ci := 2) (q0 := 0) rfl rfl, gl_ok hK hE (hP.sub [0, 1, 2] rfl)⟩ rfl rfl hl.1 rfl (lv_room (Nat.le_of_ble_eq_true rfl)) dX2_sideTouches_99 ⟨Nat.le_of_ble_eq_true rfl, Nat.le_of_ble_eq_true rfl⟩)) ?_
      refine lv_lmul hx hb dX2_sideTouches_102 ?_
      refine lv_lconst (v := 0) hx hb dX2_sideTouches_103 (by decide) ?_
      refine W.lcmp hx hb dX2_sideTouches_104 ?_
      refine lv_if_gt (tgt := 156) hx hb dX2_sideTouches_105 (by decide) (fun c_105 => ?_) (fun c_105 => ?_)
      · replace hs := it_t c_105 hs
        refine lv_iconst (v := 0) hx hb dX2_sideTouches_156 (by decide) ?_
        obtain rfl := Option.some.inj hs
        exact W.zret hx hb hr rfl (fun t ht hW => ⟨_, rfl, rfl, ht⟩) (fun _ h => by cases h) dX2_sideTouches_157
      · replace hs := it_f c_105 hs
        refine lv_aload_n hx hb dX2_sideTouches_108 rfl (lv_at hl 4 rfl) ?_
        refine lv_iload_n hx hb dX2_sideTouches_109 rfl (lv_at hl 5 rfl) ?_
        refine lv_aload_n hx hb dX2_sideTouches_110 rfl (lv_at hl 2 rfl) ?_
        refine va_get (D := D) (ci := 2) (v := .ref sx) (C := RX2) (T := TX2) (N := 9) hx hb hts in_X2 hown hK hP 0 rfl rfl 3 (by decide) lk_39 (fun _ h9 => h9) rfl dX2_sideTouches_111 ?_
        refine lv_iload_n hx hb dX2_sideTouches_114 rfl (lv_at hl 3 rfl) ?_
        obtain ⟨v_115, hv_115, hs⟩ := op_bd hs
        refine gx_iald hx hb hK hP 1 0 rfl rfl hv_115 dX2_sideTouches_115 ?_
        refine lv_aload_n hx hb dX2_sideTouches_116 rfl (lv_at hl 2 rfl) ?_
        refine va_get (D := D) (ci := 2) (v := .ref sy) (C := RX2) (T := TX2) (N := 9) hx hb hts in_X2 hown hK hP 0 rfl rfl 4 (by decide) lk_43 (fun _ h9 => h9) rfl dX2_sideTouches_117 ?_
        refine lv_iload_n hx hb dX2_sideTouches_120 rfl (lv_at hl 3 rfl) ?_
        obtain ⟨v_121, hv_121, hs⟩ := op_bd hs
        refine gx_iald hx hb hK hP 2 0 rfl rfl hv_121 dX2_sideTouches_121 ?_
        obtain ⟨v_122, hc_122, hs⟩ := op_bd hs
        refine gx_cSl (va_Run.run (va_runV (As := [.int p3, .int v_115, .int v_121]) (rest := []) ⟨hx, hb, hml, hown, hts⟩ (c_X2_turn l D cI cJ cZ cS ad k0 kx ky T p3 v_115 v_121 F hkT v_122 hc_122) (cwV 3 hts gX2_sideTouches_X2_turn rfl rfl rfl (by decide +kernel) ⟨Nat.le_of_ble_eq_true rfl, Nat.le_of_ble_eq_true rfl⟩) ⟨gl_blind, va_recv hK hP (ci := 2) (q0 := 3) rfl rfl, gl_ok hK hE (hP.sub [3, 4, 5] rfl)⟩ rfl rfl hl.1 rfl (lv_room (Nat.le_of_ble_eq_true rfl)) dX2_sideTouches_122 ⟨Nat.le_of_ble_eq_true rfl, Nat.le_of_ble_eq_true rfl⟩)) ?_
        refine lv_aload_n hx hb dX2_sideTouches_125 rfl (lv_at hl 4 rfl) ?_
        refine lv_iload_n hx hb dX2_sideTouches_126 rfl (lv_at hl 5 rfl) ?_
        refine lv_aload_n hx hb dX2_sideTouches_127 rfl (lv_at hl 2 rfl) ?_
        refine va_get (D := D) (ci := 2) (v := .ref sx) (C := RX2) (T := TX2) (N := 9) hx hb hts in_X2 hown hK hP 0 rfl rfl 3 (by decide) lk_39 (fun _ h9 => h9) rfl dX2_sideTouches_128 ?_
        refine lv_iload_n hx hb dX2_sideTouches_131 rfl (lv_at hl 3 rfl) ?_
        refine lv_iconst (v := 1) hx hb dX2_sideTouches_132 (by decide) ?_
        refine lv_iadd hx hb dX2_sideTouches_133 ?_
        obtain ⟨v_134, hv_134, hs⟩ := op_bd hs
        refine gx_iald hx hb hK hP 1 0 rfl rfl hv_134 dX2_sideTouches_134 ?_
        refine lv_aload_n hx hb dX2_sideTouches_135 rfl (lv_at hl 2 rfl) ?_
        refine va_get (D := D) (ci := 2) (v := .ref sy) (C := RX2) (T := TX2) (N := 9) hx hb hts in_X2 hown hK hP 0 rfl rfl 4 (by decide) lk_43 (fun _ h9 => h9) rfl dX2_sideTouches_136 ?_
        refine lv_iload_n hx hb dX2_sideTouches_139 rfl (lv_at hl 3 rfl) ?_
        refine lv_iconst (v := 1) hx hb dX2_sideTouches_140 (by decide) ?_
        refine lv_iadd hx hb dX2_sideTouches_141 ?_
        obtain ⟨v_142, hv_142, hs⟩ := op_bd hs
        refine gx_iald hx hb hK hP 2 0 rfl rfl hv_142 dX2_sideTouches_142 ?_
        obtain ⟨v_143, hc_143, hs⟩ := op_bd hs
        refine gx_cSl (va_Run.run (va_runV (As := [.int p3, .int v_134, .int v_142]) (rest := [.long v_122]) ⟨hx, hb, hml, hown, hts⟩ (c_X2_turn l D cI cJ cZ cS ad k0 kx ky T p3 v_134 v_142 F hkT v_143 hc_143) (cwV 3 hts gX2_sideTouches_X2_turn rfl rfl rfl (by decide +kernel) ⟨Nat.le_of_ble_eq_true rfl, Nat.le_of_ble_eq_true rfl⟩) ⟨gl_blind, va_recv hK hP (ci := 2) (q0 := 3) rfl rfl, gl_ok hK hE (hP.sub [3, 4, 5] rfl)⟩ rfl rfl hl.1 rfl (lv_room (Nat.le_of_ble_eq_true rfl)) dX2_sideTouches_143 ⟨Nat.le_of_ble_eq_true rfl, Nat.le_of_ble_eq_true rfl⟩)) ?_
        refine lv_lmul hx hb dX2_sideTouches_146 ?_
        refine lv_lconst (v := 0) hx hb dX2_sideTouches_147 (by decide) ?_
        refine W.lcmp hx hb dX2_sideTouches_148 ?_
        refine lv_if_gt (tgt := 156) hx hb dX2_sideTouches_149 (by decide) (fun c_149 => ?_) (fun c_149 => ?_)
        · replace hs := it_t c_149 hs
          refine lv_iconst (v := 0) hx hb dX2_sideTouches_156 (by decide) ?_
          obtain rfl := Option.some.inj hs
          exact W.zret hx hb hr rfl (fun t ht hW => ⟨_, rfl, rfl, ht⟩) (fun _ h => by cases h) dX2_sideTouches_157
        · replace hs := it_f c_149 hs
          refine lv_iconst (v := 1) hx hb dX2_sideTouches_152 (by decide) ?_
          refine lv_goto (tgt := 157) hx hb dX2_sideTouches_153 (by decide) ?_
          obtain rfl := Option.some.inj hs
          exact W.zret hx hb hr rfl (fun t ht hW => ⟨_, rfl, rfl, ht⟩) (fun _ h => by cases h) dX2_sideTouches_157
def s_X2_clash_35 (F : Nat) (S : sh_T) (p1 : Int32) (p2 : Int32) : Option Int32 :=
  (s_X2_sideTouches F S p1 S p2).bind fun v_39 =>
  (bz_i v_39).bind fun _ =>
  some v_39
def s_X2_clash (F : Nat) (S : sh_T) (p1 : Int32) (p2 : Int32) : Option Int32 :=
  if p2 = (p1 + 1) then
    (s_X2_foldsBack F S p1 p2).bind fun v_10 =>
    (bz_i v_10).bind fun _ =>
    some v_10
  else
    if p1 = 0 then
      if p2 = ((sh_z S) - 1) then
        (s_X2_foldsBack F S p2 p1).bind fun v_31 =>
        (bz_i v_31).bind fun _ =>
        some v_31
      else
        s_X2_clash_35 F S p1 p2 
    else
      s_X2_clash_35 F S p1 p2 
abbrev rm_X2_clash : Room := { frames := 3, cells := 0, slots := 0, locals := 69 }
theorem in_X2_clash_X2 : ∀ w ∈ wsX20, w ∈ wsX2_clash := by decide +kernel
set_option maxHeartbeats 4000000 in
set_option maxRecDepth 100000 in
theorem c_X2_clash (l : Launch) (D : va_G) (cI cJ cZ cS : ClassId) (ad : Nat → Nat) (h0 sx sy : Nat) (S : sh_T) (p1 : Int32) (p2 : Int32) (F : Nat) (hkS : sh_k S < 3) (r : Int32) (hs : s_X2_clash F S p1 p2 = some r) : Met l yX2_clash wsX2_clash rm_X2_clash (gl_P D cI cJ cZ cS ad [.ref h0, .int p1, .int p2] (fun H => va_P D vwCl (sh_w cI ad h0 sx sy S) H)) (vp_Si (fun v => v = r)) 0 0 (fun _ => False) := by
  refine Met.ofW (cc := cX2_clash) (maxL := 3) (ret := (some .boolean)) (by decide) rfl ?_
  intro p e s m args below meth c s₁ B hml hv
  obtain ⟨rfl, hK, hE, hP⟩ := hv
  have hx := B.exec
  have hb := B.bytes
  have hr := B.returns
  have hts := atoms_spec (ws := wsX2_clash) B.pre
  have hown : s.vm.findClass RX2 = some m.cls := findClass_of_methodNamed B.named
  have hlocks := B.notSynchronized
  have lk_9 := hts (.fieldLink RX2 9 "PlacePoints$Shape" "size" "I") (by decide +kernel)
  have in_X2 := in_X2_clash_X2
  have J_35 : s_X2_clash_35 F S p1 p2 = some r → ∀ ls : Array Slot, lv_has ls 3 [(0, .ref h0), (1, .int p1), (2, .int p2)] → W p l e (headSpec wsX2_clash rm_X2_clash).room s m ([.ref h0, .int p1, .int p2] : List Value).toArray below meth c s.heap [] 0 0 (MQ below (vp_Si (fun v => v = r)) ([.ref h0, .int p1, .int p2] : List Value).toArray s 0 0 (fun _ => False)) (F0 m 35 ls []) := by
    intro  hs ls hl
    rw [s_X2_clash_35] at hs
    refine lv_aload_n hx hb dX2_clash_35 rfl (lv_at hl 0 rfl) ?_
    refine lv_iload_n hx hb dX2_clash_36 rfl (lv_at hl 1 rfl) ?_
    refine lv_aload_n hx hb dX2_clash_37 rfl (lv_at hl 0 rfl) ?_
    refine lv_iload_n hx hb dX2_clash_38 rfl (lv_at hl 2 rfl) ?_
    obtain ⟨v_39, hc_39, hs⟩ := op_bd hs
    refine gx_cSi (va_Run.run (va_runV (As := [.int p1, .ref h0, .int p2]) (rest := []) ⟨hx, hb, hml, hown, hts⟩ (c_X2_sideTouches l D cI cJ cZ cS ad h0 sx sy h0 sx sy S p1 S p2 F hkS hkS v_39 hc_39) (cwV 3 hts gX2_clash_X2_sideTouches rfl rfl rfl (by decide +kernel) ⟨Nat.le_of_ble_eq_true rfl, Nat.le_of_ble_eq_true rfl⟩) ⟨gl_blind, va_recv hK hP (ci := 2) (q0 := 0) rfl rfl, gl_ok hK hE (hP.sub [0, 1, 2, 0, 1, 2] rfl)⟩ rfl rfl hl.1 rfl (lv_room (Nat.le_of_ble_eq_true rfl)) dX2_clash_39 ⟨Nat.le_of_ble_eq_true rfl, Nat.le_of_ble_eq_true rfl⟩)) ?_
    obtain ⟨_, hz_42, hs⟩ := op_bd hs
    obtain rfl := Option.some.inj hs
    exact W.zret hx hb hr (bz_nar hz_42) (fun t ht hW => ⟨_, rfl, rfl, ht⟩) (fun _ h => by cases h) dX2_clash_42
  have hl := lv_entry ([.ref h0, .int p1, .int p2]) (n := 3) (Nat.le_of_ble_eq_true rfl)
  rw [lg_entry_eq]
  generalize (lg_sl ([.ref h0, .int p1, .int p2]) ++ List.replicate (3 - (lg_sl ([.ref h0, .int p1, .int p2])).length) Slot.unset).toArray = ls at hl ⊢
  have hl : lv_has ls 3 [(0, .ref h0), (1, .int p1), (2, .int p2)] := hl
  rw [s_X2_clash] at hs
  refine lv_iload_n hx hb dX2_clash_0 rfl (lv_at hl 2 rfl) ?_
  refine lv_iload_n hx hb dX2_clash_1 rfl (lv_at hl 1 rfl) ?_
  refine lv_iconst (v := 1) hx hb dX2_clash_2 (by decide) ?_
  refine lv_iadd hx hb dX2_clash_3 ?_
  refine lv_icmp_ne (tgt := 14) hx hb dX2_clash_4 (by decide) (fun c_4 => ?_) (fun c_4 => ?_)
  · replace hs := it_f c_4 hs
    refine lv_iload_n hx hb dX2_clash_14 rfl (lv_at hl 1 rfl) ?_
    refine lv_if_ne (tgt := 35) hx hb dX2_clash_15 (by decide) (fun c_15 => ?_) (fun c_15 => ?_)
    · replace hs := it_f c_15 hs
      exact J_35  hs _ (lv_sub hl [0, 1, 2] rfl)
    · replace hs := it_t c_15 hs
      refine lv_iload_n hx hb dX2_clash_18 rfl (lv_at hl 2 rfl) ?_
      refine lv_aload_n hx hb dX2_clash_19 rfl (lv_at hl 0 rfl) ?_
      refine va_get (D := D) (ci := 2) (v := .int (sh_z S)) (C := RX2) (T := TX2) (N := 9) hx hb hts in_X2 hown hK hP 0 rfl rfl 1 (by decide) lk_9 (fun _ h9 => h9) rfl dX2_clash_20 ?_
      refine lv_iconst (v := 1) hx hb dX2_clash_23 (by decide) ?_
      refine lv_isub hx hb dX2_clash_24 ?_
      refine lv_icmp_ne (tgt := 35) hx hb dX2_clash_25 (by decide) (fun c_25 => ?_) (fun c_25 => ?_)
      · replace hs := it_f c_25 hs
        exact J_35  hs _ (lv_sub hl [0, 1, 2] rfl)
      · replace hs := it_t c_25 hs
        refine lv_aload_n hx hb dX2_clash_28 rfl (lv_at hl 0 rfl) ?_
        refine lv_iload_n hx hb dX2_clash_29 rfl (lv_at hl 2 rfl) ?_
        refine lv_iload_n hx hb dX2_clash_30 rfl (lv_at hl 1 rfl) ?_
        obtain ⟨v_31, hc_31, hs⟩ := op_bd hs
        refine gx_cSi (va_Run.run (va_runV (As := [.int p2, .int p1]) (rest := []) ⟨hx, hb, hml, hown, hts⟩ (c_X2_foldsBack l D cI cJ cZ cS ad h0 sx sy S p2 p1 F hkS v_31 hc_31) (cwV 2 hts gX2_clash_X2_foldsBack rfl rfl rfl (by decide +kernel) ⟨Nat.le_of_ble_eq_true rfl, Nat.le_of_ble_eq_true rfl⟩) ⟨gl_blind, va_recv hK hP (ci := 2) (q0 := 0) rfl rfl, gl_ok hK hE (hP.sub [0, 1, 2] rfl)⟩ rfl rfl hl.1 rfl (lv_room (Nat.le_of_ble_eq_true rfl)) dX2_clash_31 ⟨Nat.le_of_ble_eq_true rfl, Nat.le_of_ble_eq_true rfl⟩)) ?_
        obtain ⟨_, hz_34, hs⟩ := op_bd hs
        obtain rfl := Option.some.inj hs
        exact W.zret hx hb hr (bz_nar hz_34) (fun t ht hW => ⟨_, rfl, rfl, ht⟩) (fun _ h => by cases h) dX2_clash_34
  · replace hs := it_t c_4 hs
    refine lv_aload_n hx hb dX2_clash_7 rfl (lv_at hl 0 rfl) ?_
    refine lv_iload_n hx hb dX2_clash_8 rfl (lv_at hl 1 rfl) ?_
    refine lv_iload_n hx hb dX2_clash_9 rfl (lv_at hl 2 rfl) ?_
    obtain ⟨v_10, hc_10, hs⟩ := op_bd hs
    refine gx_cSi (va_Run.run (va_runV (As := [.int p1, .int p2]) (rest := []) ⟨hx, hb, hml, hown, hts⟩ (c_X2_foldsBack l D cI cJ cZ cS ad h0 sx sy S p1 p2 F hkS v_10 hc_10) (cwV 2 hts gX2_clash_X2_foldsBack rfl rfl rfl (by decide +kernel) ⟨Nat.le_of_ble_eq_true rfl, Nat.le_of_ble_eq_true rfl⟩) ⟨gl_blind, va_recv hK hP (ci := 2) (q0 := 0) rfl rfl, gl_ok hK hE (hP.sub [0, 1, 2] rfl)⟩ rfl rfl hl.1 rfl (lv_room (Nat.le_of_ble_eq_true rfl)) dX2_clash_10 ⟨Nat.le_of_ble_eq_true rfl, Nat.le_of_ble_eq_true rfl⟩)) ?_
    obtain ⟨_, hz_13, hs⟩ := op_bd hs
    obtain rfl := Option.some.inj hs
    exact W.zret hx hb hr (bz_nar hz_13) (fun t ht hW => ⟨_, rfl, rfl, ht⟩) (fun _ h => by cases h) dX2_clash_13
