def s_X4_isPlace (F : Nat) (p1 : Int32) (p2 : Int32) : Option Int32 :=
  if p1 < (-10000) then
    some 0
  else
    if 10000 < p1 then
      some 0
    else
      if p2 < (-10000) then
        some 0
      else
        if 10000 < p2 then
          some 0
        else
          some 1
abbrev rm_X4_isPlace : Room := { frames := 0, cells := 0, slots := 0, locals := 0 }
set_option maxHeartbeats 4000000 in
set_option maxRecDepth 100000 in
theorem c_X4_isPlace (l : Launch) (D : va_G) (cI cJ cZ cS : ClassId) (ad : Nat → Nat) (p1 : Int32) (p2 : Int32) (F : Nat)  (r : Int32) (hs : s_X4_isPlace F p1 p2 = some r) : Met l yX4_isPlace wsX4_isPlace rm_X4_isPlace (gl_P D cI cJ cZ cS ad [.int p1, .int p2] (fun _ => True)) (vp_Si (fun v => v = r)) 0 0 (fun _ => False) := by
  refine Met.ofW (cc := cX4_isPlace) (maxL := 2) (ret := (some .boolean)) (by decide) rfl ?_
  intro p e s m args below meth c s₁ B hml hv
  obtain ⟨rfl, hK, hE, hP⟩ := hv
  have hx := B.exec
  have hb := B.bytes
  have hr := B.returns
  have hts := atoms_spec (ws := wsX4_isPlace) B.pre
  have hown : s.vm.findClass RX4 = some m.cls := findClass_of_methodNamed B.named
  have hlocks := B.notSynchronized
  have hl := lv_entry ([.int p1, .int p2]) (n := 2) (Nat.le_of_ble_eq_true rfl)
  rw [lg_entry_eq]
  generalize (lg_sl ([.int p1, .int p2]) ++ List.replicate (2 - (lg_sl ([.int p1, .int p2])).length) Slot.unset).toArray = ls at hl ⊢
  have hl : lv_has ls 2 [(0, .int p1), (1, .int p2)] := hl
  rw [s_X4_isPlace] at hs
  refine lv_iload_n hx hb dX4_isPlace_0 rfl (lv_at hl 0 rfl) ?_
  refine lv_sipush (v := -10000) hx hb dX4_isPlace_1 (by decide) ?_
  refine lv_icmp_lt (tgt := 32) hx hb dX4_isPlace_4 (by decide) (fun c_4 => ?_) (fun c_4 => ?_)
  · replace hs := it_t c_4 hs
    refine lv_iconst (v := 0) hx hb dX4_isPlace_32 (by decide) ?_
    obtain rfl := Option.some.inj hs
    exact W.zret hx hb hr rfl (fun t ht hW => ⟨_, rfl, rfl, ht⟩) (fun _ h => by cases h) dX4_isPlace_33
  · replace hs := it_f c_4 hs
    refine lv_iload_n hx hb dX4_isPlace_7 rfl (lv_at hl 0 rfl) ?_
    refine lv_sipush (v := 10000) hx hb dX4_isPlace_8 (by decide) ?_
    refine lv_icmp_gt (tgt := 32) hx hb dX4_isPlace_11 (by decide) (fun c_11 => ?_) (fun c_11 => ?_)
    · replace hs := it_t c_11 hs
      refine lv_iconst (v := 0) hx hb dX4_isPlace_32 (by decide) ?_
      obtain rfl := Option.some.inj hs
      exact W.zret hx hb hr rfl (fun t ht hW => ⟨_, rfl, rfl, ht⟩) (fun _ h => by cases h) dX4_isPlace_33
    · replace hs := it_f c_11 hs
      refine lv_iload_n hx hb dX4_isPlace_14 rfl (lv_at hl 1 rfl) ?_
      refine lv_sipush (v := -10000) hx hb dX4_isPlace_15 (by decide) ?_
      refine lv_icmp_lt (tgt := 32) hx hb dX4_isPlace_18 (by decide) (fun c_18 => ?_) (fun c_18 => ?_)
      · replace hs := it_t c_18 hs
        refine lv_iconst (v := 0) hx hb dX4_isPlace_32 (by decide) ?_
        obtain rfl := Option.some.inj hs
        exact W.zret hx hb hr rfl (fun t ht hW => ⟨_, rfl, rfl, ht⟩) (fun _ h => by cases h) dX4_isPlace_33
      · replace hs := it_f c_18 hs
        refine lv_iload_n hx hb dX4_isPlace_21 rfl (lv_at hl 1 rfl) ?_
        refine lv_sipush (v := 10000) hx hb dX4_isPlace_22 (by decide) ?_
        refine lv_icmp_gt (tgt := 32) hx hb dX4_isPlace_25 (by decide) (fun c_25 => ?_) (fun c_25 => ?_)
        · replace hs := it_t c_25 hs
          refine lv_iconst (v := 0) hx hb dX4_isPlace_32 (by decide) ?_
          obtain rfl := Option.some.inj hs
          exact W.zret hx hb hr rfl (fun t ht hW => ⟨_, rfl, rfl, ht⟩) (fun _ h => by cases h) dX4_isPlace_33
        · replace hs := it_f c_25 hs
          refine lv_iconst (v := 1) hx hb dX4_isPlace_28 (by decide) ?_
          refine lv_goto (tgt := 33) hx hb dX4_isPlace_29 (by decide) ?_
          obtain rfl := Option.some.inj hs
          exact W.zret hx hb hr rfl (fun t ht hW => ⟨_, rfl, rfl, ht⟩) (fun _ h => by cases h) dX4_isPlace_33
def s_X4_cross (F : Nat) (p1 : Int64) (p2 : Int64) (p3 : Int64) (p4 : Int64) : Option Int64 :=
  some ((p1 * p4) - (p2 * p3))
abbrev rm_X4_cross : Room := { frames := 0, cells := 0, slots := 0, locals := 0 }
set_option maxHeartbeats 4000000 in
set_option maxRecDepth 100000 in
theorem c_X4_cross (l : Launch) (D : va_G) (cI cJ cZ cS : ClassId) (ad : Nat → Nat) (p1 : Int64) (p2 : Int64) (p3 : Int64) (p4 : Int64) (F : Nat)  (r : Int64) (hs : s_X4_cross F p1 p2 p3 p4 = some r) : Met l yX4_cross wsX4_cross rm_X4_cross (gl_P D cI cJ cZ cS ad [.long p1, .long p2, .long p3, .long p4] (fun _ => True)) (vp_Sl (fun v => v = r)) 0 0 (fun _ => False) := by
  refine Met.ofW (cc := cX4_cross) (maxL := 8) (ret := (some .long)) (by decide) rfl ?_
  intro p e s m args below meth c s₁ B hml hv
  obtain ⟨rfl, hK, hE, hP⟩ := hv
  have hx := B.exec
  have hb := B.bytes
  have hr := B.returns
  have hts := atoms_spec (ws := wsX4_cross) B.pre
  have hown : s.vm.findClass RX4 = some m.cls := findClass_of_methodNamed B.named
  have hlocks := B.notSynchronized
  have hl := lv_entry ([.long p1, .long p2, .long p3, .long p4]) (n := 8) (Nat.le_of_ble_eq_true rfl)
  rw [lg_entry_eq]
  generalize (lg_sl ([.long p1, .long p2, .long p3, .long p4]) ++ List.replicate (8 - (lg_sl ([.long p1, .long p2, .long p3, .long p4])).length) Slot.unset).toArray = ls at hl ⊢
  have hl : lv_has ls 8 [(0, .long p1), (2, .long p2), (4, .long p3), (6, .long p4)] := hl
  rw [s_X4_cross] at hs
  refine lv_lload_n hx hb dX4_cross_0 rfl (lv_at hl 0 rfl) ?_
  refine lv_lload hx hb dX4_cross_1 (lv_at hl 3 rfl) ?_
  refine lv_lmul hx hb dX4_cross_3 ?_
  refine lv_lload_n hx hb dX4_cross_4 rfl (lv_at hl 1 rfl) ?_
  refine lv_lload hx hb dX4_cross_5 (lv_at hl 2 rfl) ?_
  refine lv_lmul hx hb dX4_cross_7 ?_
  refine lv_lsub hx hb dX4_cross_8 ?_
  obtain rfl := Option.some.inj hs
  exact W.lret hx hb hr (fun t ht hW => ⟨_, rfl, rfl, ht⟩) (fun _ h => by cases h) dX4_cross_9
def s_X4_hand (F : Nat) (p1 : Int64) (p2 : Int64) (p3 : Int64) (p4 : Int64) (p5 : Int64) (p6 : Int64) : Option Int32 :=
  (s_X4_cross F (p3 - p1) (p4 - p2) (p5 - p1) (p6 - p2)).bind fun v_16 =>
  if 0 ≤ (lg_cmp v_16 0) then
    if (lg_cmp v_16 0) ≤ 0 then
      some 0
    else
      some 1
  else
    some (-1)
abbrev rm_X4_hand : Room := { frames := 1, cells := 0, slots := 0, locals := 27 }
set_option maxHeartbeats 4000000 in
set_option maxRecDepth 100000 in
theorem c_X4_hand (l : Launch) (D : va_G) (cI cJ cZ cS : ClassId) (ad : Nat → Nat) (p1 : Int64) (p2 : Int64) (p3 : Int64) (p4 : Int64) (p5 : Int64) (p6 : Int64) (F : Nat)  (r : Int32) (hs : s_X4_hand F p1 p2 p3 p4 p5 p6 = some r) : Met l yX4_hand wsX4_hand rm_X4_hand (gl_P D cI cJ cZ cS ad [.long p1, .long p2, .long p3, .long p4, .long p5, .long p6] (fun _ => True)) (vp_Si (fun v => v = r)) 0 0 (fun _ => False) := by
  refine Met.ofW (cc := cX4_hand) (maxL := 14) (ret := (some .int)) (by decide) rfl ?_
  intro p e s m args below meth c s₁ B hml hv
  obtain ⟨rfl, hK, hE, hP⟩ := hv
  have hx := B.exec
  have hb := B.bytes
  have hr := B.returns
  have hts := atoms_spec (ws := wsX4_hand) B.pre
  have hown : s.vm.findClass RX4 = some m.cls := findClass_of_methodNamed B.named
  have hlocks := B.notSynchronized
  have hl := lv_entry ([.long p1, .long p2, .long p3, .long p4, .long p5, .long p6]) (n := 14) (Nat.le_of_ble_eq_true rfl)
  rw [lg_entry_eq]
  generalize (lg_sl ([.long p1, .long p2, .long p3, .long p4, .long p5, .long p6]) ++ List.replicate (14 - (lg_sl ([.long p1, .long p2, .long p3, .long p4, .long p5, .long p6])).length) Slot.unset).toArray = ls at hl ⊢
  have hl : lv_has ls 14 [(0, .long p1), (2, .long p2), (4, .long p3), (6, .long p4), (8, .long p5), (10, .long p6)] := hl
  rw [s_X4_hand] at hs
  refine lv_lload hx hb dX4_hand_0 (lv_at hl 2 rfl) ?_
  refine lv_lload_n hx hb dX4_hand_2 rfl (lv_at hl 0 rfl) ?_
  refine lv_lsub hx hb dX4_hand_3 ?_
  refine lv_lload hx hb dX4_hand_4 (lv_at hl 3 rfl) ?_
  refine lv_lload_n hx hb dX4_hand_6 rfl (lv_at hl 1 rfl) ?_
  refine lv_lsub hx hb dX4_hand_7 ?_
  refine lv_lload hx hb dX4_hand_8 (lv_at hl 4 rfl) ?_
  refine lv_lload_n hx hb dX4_hand_10 rfl (lv_at hl 0 rfl) ?_
  refine lv_lsub hx hb dX4_hand_11 ?_
  refine lv_lload hx hb dX4_hand_12 (lv_at hl 5 rfl) ?_
  refine lv_lload_n hx hb dX4_hand_14 rfl (lv_at hl 1 rfl) ?_
  refine lv_lsub hx hb dX4_hand_15 ?_
  obtain ⟨v_16, hc_16, hs⟩ := op_bd hs
  refine gx_cSl (va_Run.run (va_runS (As := [.long (p3 - p1), .long (p4 - p2), .long (p5 - p1), .long (p6 - p2)]) (rest := []) ⟨hx, hb, hml, hown, hts⟩ (c_X4_cross l D cI cJ cZ cS ad (p3 - p1) (p4 - p2) (p5 - p1) (p6 - p2) F  v_16 hc_16) (va_cwS 4 hts gX4_hand_X4_cross rfl rfl rfl (by decide +kernel) ⟨Nat.le_of_ble_eq_true rfl, Nat.le_of_ble_eq_true rfl⟩) ⟨gl_blind, gl_ok hK hE trivial⟩ rfl rfl hl.1 rfl (lv_room (Nat.le_of_ble_eq_true rfl)) dX4_hand_16 ⟨Nat.le_of_ble_eq_true rfl, Nat.le_of_ble_eq_true rfl⟩)) ?_
  refine lv_lstore (lv' := [(12, .long v_16), (0, .long p1), (2, .long p2), (4, .long p3), (6, .long p4), (8, .long p5), (10, .long p6)]) hx hb dX4_hand_19 hl (by decide) rfl (fun ls hl => ?_)
  refine lv_lload hx hb dX4_hand_21 (lv_at hl 0 rfl) ?_
  refine lv_lconst (v := 0) hx hb dX4_hand_23 (by decide) ?_
  refine W.lcmp hx hb dX4_hand_24 ?_
  refine lv_if_ge (tgt := 32) hx hb dX4_hand_25 (by decide) (fun c_25 => ?_) (fun c_25 => ?_)
  · replace hs := it_t c_25 hs
    refine lv_lload hx hb dX4_hand_32 (lv_at hl 0 rfl) ?_
    refine lv_lconst (v := 0) hx hb dX4_hand_34 (by decide) ?_
    refine W.lcmp hx hb dX4_hand_35 ?_
    refine lv_if_le (tgt := 43) hx hb dX4_hand_36 (by decide) (fun c_36 => ?_) (fun c_36 => ?_)
    · replace hs := it_t c_36 hs
      refine lv_iconst (v := 0) hx hb dX4_hand_43 (by decide) ?_
      obtain rfl := Option.some.inj hs
      exact W.iret hx hb hr (fun t ht hW => ⟨_, rfl, rfl, ht⟩) (fun _ h => by cases h) dX4_hand_44
    · replace hs := it_f c_36 hs
      refine lv_iconst (v := 1) hx hb dX4_hand_39 (by decide) ?_
      refine lv_goto (tgt := 44) hx hb dX4_hand_40 (by decide) ?_
      obtain rfl := Option.some.inj hs
      exact W.iret hx hb hr (fun t ht hW => ⟨_, rfl, rfl, ht⟩) (fun _ h => by cases h) dX4_hand_44
  · replace hs := it_f c_25 hs
    refine lv_iconst (v := -1) hx hb dX4_hand_28 (by decide) ?_
    refine lv_goto (tgt := 44) hx hb dX4_hand_29 (by decide) ?_
    obtain rfl := Option.some.inj hs
    exact W.iret hx hb hr (fun t ht hW => ⟨_, rfl, rfl, ht⟩) (fun _ h => by cases h) dX4_hand_44
def s_X4_isBetween_14 (F : Nat) (p1 : Int64) (p2 : Int64) (p3 : Int64) : Option Int32 :=
  if 0 < (lg_cmp p2 p3) then
    some 0
  else
    if 0 < (lg_cmp p3 p1) then
      some 0
    else
      some 1
def s_X4_isBetween (F : Nat) (p1 : Int64) (p2 : Int64) (p3 : Int64) : Option Int32 :=
  if 0 < (lg_cmp p1 p3) then
    s_X4_isBetween_14 F p1 p2 p3 
  else
    if (lg_cmp p3 p2) ≤ 0 then
      some 1
    else
      s_X4_isBetween_14 F p1 p2 p3 
abbrev rm_X4_isBetween : Room := { frames := 0, cells := 0, slots := 0, locals := 0 }
set_option maxHeartbeats 4000000 in
set_option maxRecDepth 100000 in
theorem c_X4_isBetween (l : Launch) (D : va_G) (cI cJ cZ cS : ClassId) (ad : Nat → Nat) (p1 : Int64) (p2 : Int64) (p3 : Int64) (F : Nat)  (r : Int32) (hs : s_X4_isBetween F p1 p2 p3 = some r) : Met l yX4_isBetween wsX4_isBetween rm_X4_isBetween (gl_P D cI cJ cZ cS ad [.long p1, .long p2, .long p3] (fun _ => True)) (vp_Si (fun v => v = r)) 0 0 (fun _ => False) := by
  refine Met.ofW (cc := cX4_isBetween) (maxL := 6) (ret := (some .boolean)) (by decide) rfl ?_
  intro p e s m args below meth c s₁ B hml hv
  obtain ⟨rfl, hK, hE, hP⟩ := hv
  have hx := B.exec
  have hb := B.bytes
  have hr := B.returns
  have hts := atoms_spec (ws := wsX4_isBetween) B.pre
  have hown : s.vm.findClass RX4 = some m.cls := findClass_of_methodNamed B.named
  have hlocks := B.notSynchronized
  have J_14 : s_X4_isBetween_14 F p1 p2 p3 = some r → ∀ ls : Array Slot, lv_has ls 6 [(0, .long p1), (2, .long p2), (4, .long p3)] → W p l e (headSpec wsX4_isBetween rm_X4_isBetween).room s m ([.long p1, .long p2, .long p3] : List Value).toArray below meth c s.heap [] 0 0 (MQ below (vp_Si (fun v => v = r)) ([.long p1, .long p2, .long p3] : List Value).toArray s 0 0 (fun _ => False)) (F0 m 14 ls []) := by
    intro  hs ls hl
    rw [s_X4_isBetween_14] at hs
    refine lv_lload_n hx hb dX4_isBetween_14 rfl (lv_at hl 1 rfl) ?_
    refine lv_lload hx hb dX4_isBetween_15 (lv_at hl 2 rfl) ?_
    refine W.lcmp hx hb dX4_isBetween_17 ?_
    refine lv_if_gt (tgt := 32) hx hb dX4_isBetween_18 (by decide) (fun c_18 => ?_) (fun c_18 => ?_)
    · replace hs := it_t c_18 hs
      refine lv_iconst (v := 0) hx hb dX4_isBetween_32 (by decide) ?_
      obtain rfl := Option.some.inj hs
      exact W.zret hx hb hr rfl (fun t ht hW => ⟨_, rfl, rfl, ht⟩) (fun _ h => by cases h) dX4_isBetween_33
    · replace hs := it_f c_18 hs
      refine lv_lload hx hb dX4_isBetween_21 (lv_at hl 2 rfl) ?_
      refine lv_lload_n hx hb dX4_isBetween_23 rfl (lv_at hl 0 rfl) ?_
      refine W.lcmp hx hb dX4_isBetween_24 ?_
      refine lv_if_gt (tgt := 32) hx hb dX4_isBetween_25 (by decide) (fun c_25 => ?_) (fun c_25 => ?_)
      · replace hs := it_t c_25 hs
        refine lv_iconst (v := 0) hx hb dX4_isBetween_32 (by decide) ?_
        obtain rfl := Option.some.inj hs
        exact W.zret hx hb hr rfl (fun t ht hW => ⟨_, rfl, rfl, ht⟩) (fun _ h => by cases h) dX4_isBetween_33
      · replace hs := it_f c_25 hs
        refine lv_iconst (v := 1) hx hb dX4_isBetween_28 (by decide) ?_
        refine lv_goto (tgt := 33) hx hb dX4_isBetween_29 (by decide) ?_
        obtain rfl := Option.some.inj hs
        exact W.zret hx hb hr rfl (fun t ht hW => ⟨_, rfl, rfl, ht⟩) (fun _ h => by cases h) dX4_isBetween_33
  have hl := lv_entry ([.long p1, .long p2, .long p3]) (n := 6) (Nat.le_of_ble_eq_true rfl)
  rw [lg_entry_eq]
  generalize (lg_sl ([.long p1, .long p2, .long p3]) ++ List.replicate (6 - (lg_sl ([.long p1, .long p2, .long p3])).length) Slot.unset).toArray = ls at hl ⊢
  have hl : lv_has ls 6 [(0, .long p1), (2, .long p2), (4, .long p3)] := hl
  rw [s_X4_isBetween] at hs
  refine lv_lload_n hx hb dX4_isBetween_0 rfl (lv_at hl 0 rfl) ?_
  refine lv_lload hx hb dX4_isBetween_1 (lv_at hl 2 rfl) ?_
  refine W.lcmp hx hb dX4_isBetween_3 ?_
  refine lv_if_gt (tgt := 14) hx hb dX4_isBetween_4 (by decide) (fun c_4 => ?_) (fun c_4 => ?_)
  · replace hs := it_t c_4 hs
    exact J_14  hs _ (lv_sub hl [0, 1, 2] rfl)
  · replace hs := it_f c_4 hs
    refine lv_lload hx hb dX4_isBetween_7 (lv_at hl 2 rfl) ?_
    refine lv_lload_n hx hb dX4_isBetween_9 rfl (lv_at hl 1 rfl) ?_
    refine W.lcmp hx hb dX4_isBetween_10 ?_
    refine lv_if_le (tgt := 28) hx hb dX4_isBetween_11 (by decide) (fun c_11 => ?_) (fun c_11 => ?_)
    · replace hs := it_t c_11 hs
      refine lv_iconst (v := 1) hx hb dX4_isBetween_28 (by decide) ?_
      refine lv_goto (tgt := 33) hx hb dX4_isBetween_29 (by decide) ?_
      obtain rfl := Option.some.inj hs
      exact W.zret hx hb hr rfl (fun t ht hW => ⟨_, rfl, rfl, ht⟩) (fun _ h => by cases h) dX4_isBetween_33
    · replace hs := it_f c_11 hs
      exact J_14  hs _ (lv_sub hl [0, 1, 2] rfl)
def s_X4_isOn (F : Nat) (p1 : Int64) (p2 : Int64) (p3 : Int64) (p4 : Int64) (p5 : Int64) (p6 : Int64) : Option Int32 :=
  (s_X4_hand F p1 p2 p3 p4 p5 p6).bind fun v_10 =>
  if v_10 = 0 then
    (s_X4_isBetween F p1 p3 p5).bind fun v_21 =>
    if v_21 = 0 then
      some 0
    else
      (s_X4_isBetween F p2 p4 p6).bind fun v_32 =>
      if v_32 = 0 then
        some 0
      else
        some 1
  else
    some 0
abbrev rm_X4_isOn : Room := { frames := 2, cells := 0, slots := 0, locals := 60 }
set_option maxHeartbeats 4000000 in
set_option maxRecDepth 100000 in
theorem c_X4_isOn (l : Launch) (D : va_G) (cI cJ cZ cS : ClassId) (ad : Nat → Nat) (p1 : Int64) (p2 : Int64) (p3 : Int64) (p4 : Int64) (p5 : Int64) (p6 : Int64) (F : Nat)  (r : Int32) (hs : s_X4_isOn F p1 p2 p3 p4 p5 p6 = some r) : Met l yX4_isOn wsX4_isOn rm_X4_isOn (gl_P D cI cJ cZ cS ad [.long p1, .long p2, .long p3, .long p4, .long p5, .long p6] (fun _ => True)) (vp_Si (fun v => v = r)) 0 0 (fun _ => False) := by
  refine Met.ofW (cc := cX4_isOn) (maxL := 12) (ret := (some .boolean)) (by decide) rfl ?_
  intro p e s m args below meth c s₁ B hml hv
  obtain ⟨rfl, hK, hE, hP⟩ := hv
  have hx := B.exec
  have hb := B.bytes
  have hr := B.returns
  have hts := atoms_spec (ws := wsX4_isOn) B.pre
  have hown : s.vm.findClass RX4 = some m.cls := findClass_of_methodNamed B.named
  have hlocks := B.notSynchronized
  have hl := lv_entry ([.long p1, .long p2, .long p3, .long p4, .long p5, .long p6]) (n := 12) (Nat.le_of_ble_eq_true rfl)
  rw [lg_entry_eq]
  generalize (lg_sl ([.long p1, .long p2, .long p3, .long p4, .long p5, .long p6]) ++ List.replicate (12 - (lg_sl ([.long p1, .long p2, .long p3, .long p4, .long p5, .long p6])).length) Slot.unset).toArray = ls at hl ⊢
  have hl : lv_has ls 12 [(0, .long p1), (2, .long p2), (4, .long p3), (6, .long p4), (8, .long p5), (10, .long p6)] := hl
  rw [s_X4_isOn] at hs
  refine lv_lload_n hx hb dX4_isOn_0 rfl (lv_at hl 0 rfl) ?_
  refine lv_lload_n hx hb dX4_isOn_1 rfl (lv_at hl 1 rfl) ?_
  refine lv_lload hx hb dX4_isOn_2 (lv_at hl 2 rfl) ?_
  refine lv_lload hx hb dX4_isOn_4 (lv_at hl 3 rfl) ?_
  refine lv_lload hx hb dX4_isOn_6 (lv_at hl 4 rfl) ?_
  refine lv_lload hx hb dX4_isOn_8 (lv_at hl 5 rfl) ?_
  obtain ⟨v_10, hc_10, hs⟩ := op_bd hs
  refine gx_cSi (va_Run.run (va_runS (As := [.long p1, .long p2, .long p3, .long p4, .long p5, .long p6]) (rest := []) ⟨hx, hb, hml, hown, hts⟩ (c_X4_hand l D cI cJ cZ cS ad p1 p2 p3 p4 p5 p6 F  v_10 hc_10) (va_cwS 6 hts gX4_isOn_X4_hand rfl rfl rfl (by decide +kernel) ⟨Nat.le_of_ble_eq_true rfl, Nat.le_of_ble_eq_true rfl⟩) ⟨gl_blind, gl_ok hK hE trivial⟩ rfl rfl hl.1 rfl (lv_room (Nat.le_of_ble_eq_true rfl)) dX4_isOn_10 ⟨Nat.le_of_ble_eq_true rfl, Nat.le_of_ble_eq_true rfl⟩)) ?_
  refine lv_if_ne (tgt := 42) hx hb dX4_isOn_13 (by decide) (fun c_13 => ?_) (fun c_13 => ?_)
  · replace hs := it_f c_13 hs
    refine lv_iconst (v := 0) hx hb dX4_isOn_42 (by decide) ?_
    obtain rfl := Option.some.inj hs
    exact W.zret hx hb hr rfl (fun t ht hW => ⟨_, rfl, rfl, ht⟩) (fun _ h => by cases h) dX4_isOn_43
  · replace hs := it_t c_13 hs
    refine lv_lload_n hx hb dX4_isOn_16 rfl (lv_at hl 0 rfl) ?_
    refine lv_lload hx hb dX4_isOn_17 (lv_at hl 2 rfl) ?_
    refine lv_lload hx hb dX4_isOn_19 (lv_at hl 4 rfl) ?_
    obtain ⟨v_21, hc_21, hs⟩ := op_bd hs
    refine gx_cSi (va_Run.run (va_runS (As := [.long p1, .long p3, .long p5]) (rest := []) ⟨hx, hb, hml, hown, hts⟩ (c_X4_isBetween l D cI cJ cZ cS ad p1 p3 p5 F  v_21 hc_21) (va_cwS 3 hts gX4_isOn_X4_isBetween rfl rfl rfl (by decide +kernel) ⟨Nat.le_of_ble_eq_true rfl, Nat.le_of_ble_eq_true rfl⟩) ⟨gl_blind, gl_ok hK hE trivial⟩ rfl rfl hl.1 rfl (lv_room (Nat.le_of_ble_eq_true rfl)) dX4_isOn_21 ⟨Nat.le_of_ble_eq_true rfl, Nat.le_of_ble_eq_true rfl⟩)) ?_
    refine lv_if_eq (tgt := 42) hx hb dX4_isOn_24 (by decide) (fun c_24 => ?_) (fun c_24 => ?_)
    · replace hs := it_t c_24 hs
      refine lv_iconst (v := 0) hx hb dX4_isOn_42 (by decide) ?_
      obtain rfl := Option.some.inj hs
      exact W.zret hx hb hr rfl (fun t ht hW => ⟨_, rfl, rfl, ht⟩) (fun _ h => by cases h) dX4_isOn_43
    · replace hs := it_f c_24 hs
      refine lv_lload_n hx hb dX4_isOn_27 rfl (lv_at hl 1 rfl) ?_
      refine lv_lload hx hb dX4_isOn_28 (lv_at hl 3 rfl) ?_
      refine lv_lload hx hb dX4_isOn_30 (lv_at hl 5 rfl) ?_
      obtain ⟨v_32, hc_32, hs⟩ := op_bd hs
      refine gx_cSi (va_Run.run (va_runS (As := [.long p2, .long p4, .long p6]) (rest := []) ⟨hx, hb, hml, hown, hts⟩ (c_X4_isBetween l D cI cJ cZ cS ad p2 p4 p6 F  v_32 hc_32) (va_cwS 3 hts gX4_isOn_X4_isBetween rfl rfl rfl (by decide +kernel) ⟨Nat.le_of_ble_eq_true rfl, Nat.le_of_ble_eq_true rfl⟩) ⟨gl_blind, gl_ok hK hE trivial⟩ rfl rfl hl.1 rfl (lv_room (Nat.le_of_ble_eq_true rfl)) dX4_isOn_32 ⟨Nat.le_of_ble_eq_true rfl, Nat.le_of_ble_eq_true rfl⟩)) ?_
      refine lv_if_eq (tgt := 42) hx hb dX4_isOn_35 (by decide) (fun c_35 => ?_) (fun c_35 => ?_)
      · replace hs := it_t c_35 hs
        refine lv_iconst (v := 0) hx hb dX4_isOn_42 (by decide) ?_
        obtain rfl := Option.some.inj hs
        exact W.zret hx hb hr rfl (fun t ht hW => ⟨_, rfl, rfl, ht⟩) (fun _ h => by cases h) dX4_isOn_43
      · replace hs := it_f c_35 hs
        refine lv_iconst (v := 1) hx hb dX4_isOn_38 (by decide) ?_
        refine lv_goto (tgt := 43) hx hb dX4_isOn_39 (by decide) ?_
        obtain rfl := Option.some.inj hs
        exact W.zret hx hb hr rfl (fun t ht hW => ⟨_, rfl, rfl, ht⟩) (fun _ h => by cases h) dX4_isOn_43
def s_X4_sides (F : Nat) (M : mo_T) (p1 : Int32) : Option Int32 :=
  (rd_i 60 (mo_k M) p1).bind fun v_5 =>
  if v_5 = 2 then
    (rd_i 60 (mo_c M) p1).bind fun v_15 =>
    some (v_15 - 1)
  else
    (rd_i 60 (mo_c M) p1).bind fun v_26 =>
    some v_26
abbrev rm_X4_sides : Room := { frames := 0, cells := 0, slots := 0, locals := 0 }
theorem in_X4_sides_X4 : ∀ w ∈ wsX40, w ∈ wsX4_sides := by decide +kernel
set_option maxHeartbeats 4000000 in
set_option maxRecDepth 100000 in
theorem c_X4_sides (l : Launch) (D : va_G) (cI cJ cZ cS : ClassId) (ad : Nat → Nat) (m0 mk mc mx my mf mp mq mb : Nat) (M : mo_T) (p1 : Int32) (F : Nat)  (r : Int32) (hs : s_X4_sides F M p1 = some r) : Met l yX4_sides wsX4_sides rm_X4_sides (gl_P D cI cJ cZ cS ad [.ref m0, .int p1] (fun H => va_P D vwCl (mo_w cI cJ cZ m0 mk mc mx my mf mp mq mb M) H)) (vp_Si (fun v => v = r)) 0 0 (fun _ => False) := by
  refine Met.ofW (cc := cX4_sides) (maxL := 2) (ret := (some .int)) (by decide) rfl ?_
  intro p e s m args below meth c s₁ B hml hv
  obtain ⟨rfl, hK, hE, hP⟩ := hv
  have hx := B.exec
  have hb := B.bytes
  have hr := B.returns
  have hts := atoms_spec (ws := wsX4_sides) B.pre
  have hown : s.vm.findClass RX4 = some m.cls := findClass_of_methodNamed B.named
  have hlocks := B.notSynchronized
  have lk_13 := hts (.fieldLink RX4 13 "PlacePointsModel" "kinds" "[I") (by decide +kernel)
  have lk_17 := hts (.fieldLink RX4 17 "PlacePointsModel" "counts" "[I") (by decide +kernel)
  have in_X4 := in_X4_sides_X4
  have hl := lv_entry ([.ref m0, .int p1]) (n := 2) (Nat.le_of_ble_eq_true rfl)
  rw [lg_entry_eq]
  generalize (lg_sl ([.ref m0, .int p1]) ++ List.replicate (2 - (lg_sl ([.ref m0, .int p1])).length) Slot.unset).toArray = ls at hl ⊢
  have hl : lv_has ls 2 [(0, .ref m0), (1, .int p1)] := hl
  rw [s_X4_sides] at hs
  refine lv_aload_n hx hb dX4_sides_0 rfl (lv_at hl 0 rfl) ?_
  refine va_get (D := D) (ci := 4) (v := .ref mk) (C := RX4) (T := TX4) (N := 15) hx hb hts in_X4 hown hK hP 0 rfl rfl 0 (by decide) lk_13 (fun _ h9 => h9) rfl dX4_sides_1 ?_
  refine lv_iload_n hx hb dX4_sides_4 rfl (lv_at hl 1 rfl) ?_
  obtain ⟨v_5, hv_5, hs⟩ := op_bd hs
  refine gx_iald hx hb hK hP 1 0 rfl rfl hv_5 dX4_sides_5 ?_
  refine lv_iconst (v := 2) hx hb dX4_sides_6 (by decide) ?_
  refine lv_icmp_ne (tgt := 21) hx hb dX4_sides_7 (by decide) (fun c_7 => ?_) (fun c_7 => ?_)
  · replace hs := it_f c_7 hs
    refine lv_aload_n hx hb dX4_sides_21 rfl (lv_at hl 0 rfl) ?_
    refine va_get (D := D) (ci := 4) (v := .ref mc) (C := RX4) (T := TX4) (N := 15) hx hb hts in_X4 hown hK hP 0 rfl rfl 1 (by decide) lk_17 (fun _ h9 => h9) rfl dX4_sides_22 ?_
    refine lv_iload_n hx hb dX4_sides_25 rfl (lv_at hl 1 rfl) ?_
    obtain ⟨v_26, hv_26, hs⟩ := op_bd hs
    refine gx_iald hx hb hK hP 2 0 rfl rfl hv_26 dX4_sides_26 ?_
    obtain rfl := Option.some.inj hs
    exact W.iret hx hb hr (fun t ht hW => ⟨_, rfl, rfl, ht⟩) (fun _ h => by cases h) dX4_sides_27
  · replace hs := it_t c_7 hs
    refine lv_aload_n hx hb dX4_sides_10 rfl (lv_at hl 0 rfl) ?_
    refine va_get (D := D) (ci := 4) (v := .ref mc) (C := RX4) (T := TX4) (N := 15) hx hb hts in_X4 hown hK hP 0 rfl rfl 1 (by decide) lk_17 (fun _ h9 => h9) rfl dX4_sides_11 ?_
    refine lv_iload_n hx hb dX4_sides_14 rfl (lv_at hl 1 rfl) ?_
    obtain ⟨v_15, hv_15, hs⟩ := op_bd hs
    refine gx_iald hx hb hK hP 2 0 rfl rfl hv_15 dX4_sides_15 ?_
    refine lv_iconst (v := 1) hx hb dX4_sides_16 (by decide) ?_
    refine lv_isub hx hb dX4_sides_17 ?_
    refine lv_goto (tgt := 27) hx hb dX4_sides_18 (by decide) ?_
    obtain rfl := Option.some.inj hs
    exact W.iret hx hb hr (fun t ht hW => ⟨_, rfl, rfl, ht⟩) (fun _ h => by cases h) dX4_sides_27
def s_X4_from (F : Nat) (M : mo_T) (p1 : Int32) (p2 : Int32) : Option Int32 :=
  some ((24 * p1) + p2)
abbrev rm_X4_from : Room := { frames := 0, cells := 0, slots := 0, locals := 0 }
set_option maxHeartbeats 4000000 in
set_option maxRecDepth 100000 in
theorem c_X4_from (l : Launch) (D : va_G) (cI cJ cZ cS : ClassId) (ad : Nat → Nat) (m0 mk mc mx my mf mp mq mb : Nat) (M : mo_T) (p1 : Int32) (p2 : Int32) (F : Nat)  (r : Int32) (hs : s_X4_from F M p1 p2 = some r) : Met l yX4_from wsX4_from rm_X4_from (gl_P D cI cJ cZ cS ad [.ref m0, .int p1, .int p2] (fun H => va_P D vwCl (mo_w cI cJ cZ m0 mk mc mx my mf mp mq mb M) H)) (vp_Si (fun v => v = r)) 0 0 (fun _ => False) := by
  refine Met.ofW (cc := cX4_from) (maxL := 3) (ret := (some .int)) (by decide) rfl ?_
  intro p e s m args below meth c s₁ B hml hv
  obtain ⟨rfl, hK, hE, hP⟩ := hv
  have hx := B.exec
  have hb := B.bytes
  have hr := B.returns
  have hts := atoms_spec (ws := wsX4_from) B.pre
  have hown : s.vm.findClass RX4 = some m.cls := findClass_of_methodNamed B.named
  have hlocks := B.notSynchronized
  have hl := lv_entry ([.ref m0, .int p1, .int p2]) (n := 3) (Nat.le_of_ble_eq_true rfl)
  rw [lg_entry_eq]
  generalize (lg_sl ([.ref m0, .int p1, .int p2]) ++ List.replicate (3 - (lg_sl ([.ref m0, .int p1, .int p2])).length) Slot.unset).toArray = ls at hl ⊢
  have hl : lv_has ls 3 [(0, .ref m0), (1, .int p1), (2, .int p2)] := hl
  rw [s_X4_from] at hs
  refine lv_bipush (v := 24) hx hb dX4_from_0 (by decide) ?_
  refine lv_iload_n hx hb dX4_from_2 rfl (lv_at hl 1 rfl) ?_
  refine lv_imul hx hb dX4_from_3 ?_
  refine lv_iload_n hx hb dX4_from_4 rfl (lv_at hl 2 rfl) ?_
  refine lv_iadd hx hb dX4_from_5 ?_
  obtain rfl := Option.some.inj hs
  exact W.iret hx hb hr (fun t ht hW => ⟨_, rfl, rfl, ht⟩) (fun _ h => by cases h) dX4_from_6
def s_X4_to (F : Nat) (M : mo_T) (p1 : Int32) (p2 : Int32) : Option Int32 :=
  (rd_i 60 (mo_k M) p1).bind fun v_9 =>
  if v_9 = 1 then
    some ((24 * p1) + 0)
  else
    (rd_i 60 (mo_c M) p1).bind fun v_26 =>
    (nz_i v_26).bind fun _ =>
    some ((24 * p1) + ((p2 + 1) - (p2 + 1) / v_26 * v_26))
abbrev rm_X4_to : Room := { frames := 0, cells := 0, slots := 0, locals := 0 }
theorem in_X4_to_X4 : ∀ w ∈ wsX40, w ∈ wsX4_to := by decide +kernel
set_option maxHeartbeats 4000000 in
set_option maxRecDepth 100000 in
theorem c_X4_to (l : Launch) (D : va_G) (cI cJ cZ cS : ClassId) (ad : Nat → Nat) (m0 mk mc mx my mf mp mq mb : Nat) (M : mo_T) (p1 : Int32) (p2 : Int32) (F : Nat)  (r : Int32) (hs : s_X4_to F M p1 p2 = some r) : Met l yX4_to wsX4_to rm_X4_to (gl_P D cI cJ cZ cS ad [.ref m0, .int p1, .int p2] (fun H => va_P D vwCl (mo_w cI cJ cZ m0 mk mc mx my mf mp mq mb M) H)) (vp_Si (fun v => v = r)) 0 0 (fun _ => False) := by
  refine Met.ofW (cc := cX4_to) (maxL := 3) (ret := (some .int)) (by decide) rfl ?_
  intro p e s m args below meth c s₁ B hml hv
  obtain ⟨rfl, hK, hE, hP⟩ := hv
  have hx := B.exec
  have hb := B.bytes
  have hr := B.returns
  have hts := atoms_spec (ws := wsX4_to) B.pre
  have hown : s.vm.findClass RX4 = some m.cls := findClass_of_methodNamed B.named
  have hlocks := B.notSynchronized
  have lk_13 := hts (.fieldLink RX4 13 "PlacePointsModel" "kinds" "[I") (by decide +kernel)
  have lk_17 := hts (.fieldLink RX4 17 "PlacePointsModel" "counts" "[I") (by decide +kernel)
  have in_X4 := in_X4_to_X4
  have hl := lv_entry ([.ref m0, .int p1, .int p2]) (n := 3) (Nat.le_of_ble_eq_true rfl)
  rw [lg_entry_eq]
  generalize (lg_sl ([.ref m0, .int p1, .int p2]) ++ List.replicate (3 - (lg_sl ([.ref m0, .int p1, .int p2])).length) Slot.unset).toArray = ls at hl ⊢
  have hl : lv_has ls 3 [(0, .ref m0), (1, .int p1), (2, .int p2)] := hl
  rw [s_X4_to] at hs
  refine lv_bipush (v := 24) hx hb dX4_to_0 (by decide) ?_
  refine lv_iload_n hx hb dX4_to_2 rfl (lv_at hl 1 rfl) ?_
  refine lv_imul hx hb dX4_to_3 ?_
  refine lv_aload_n hx hb dX4_to_4 rfl (lv_at hl 0 rfl) ?_
  refine va_get (D := D) (ci := 4) (v := .ref mk) (C := RX4) (T := TX4) (N := 15) hx hb hts in_X4 hown hK hP 0 rfl rfl 0 (by decide) lk_13 (fun _ h9 => h9) rfl dX4_to_5 ?_
  refine lv_iload_n hx hb dX4_to_8 rfl (lv_at hl 1 rfl) ?_
  obtain ⟨v_9, hv_9, hs⟩ := op_bd hs
  refine gx_iald hx hb hK hP 1 0 rfl rfl hv_9 dX4_to_9 ?_
  refine lv_iconst (v := 1) hx hb dX4_to_10 (by decide) ?_
  refine lv_icmp_ne (tgt := 18) hx hb dX4_to_11 (by decide) (fun c_11 => ?_) (fun c_11 => ?_)
  · replace hs := it_f c_11 hs
    refine lv_iload_n hx hb dX4_to_18 rfl (lv_at hl 2 rfl) ?_
    refine lv_iconst (v := 1) hx hb dX4_to_19 (by decide) ?_
    refine lv_iadd hx hb dX4_to_20 ?_
    refine lv_aload_n hx hb dX4_to_21 rfl (lv_at hl 0 rfl) ?_
    refine va_get (D := D) (ci := 4) (v := .ref mc) (C := RX4) (T := TX4) (N := 15) hx hb hts in_X4 hown hK hP 0 rfl rfl 1 (by decide) lk_17 (fun _ h9 => h9) rfl dX4_to_22 ?_
    refine lv_iload_n hx hb dX4_to_25 rfl (lv_at hl 1 rfl) ?_
    obtain ⟨v_26, hv_26, hs⟩ := op_bd hs
    refine gx_iald hx hb hK hP 2 0 rfl rfl hv_26 dX4_to_26 ?_
    obtain ⟨_, hz_27, hs⟩ := op_bd hs
    refine lv_irem hx hb dX4_to_27 (nz_i_ne hz_27) ?_
    refine lv_iadd hx hb dX4_to_28 ?_
    obtain rfl := Option.some.inj hs
    exact W.iret hx hb hr (fun t ht hW => ⟨_, rfl, rfl, ht⟩) (fun _ h => by cases h) dX4_to_29
  · replace hs := it_t c_11 hs
    refine lv_iconst (v := 0) hx hb dX4_to_14 (by decide) ?_
    refine lv_goto (tgt := 28) hx hb dX4_to_15 (by decide) ?_
    refine lv_iadd hx hb dX4_to_28 ?_
    obtain rfl := Option.some.inj hs
    exact W.iret hx hb hr (fun t ht hW => ⟨_, rfl, rfl, ht⟩) (fun _ h => by cases h) dX4_to_29
def s_X4_isShape (F : Nat) (M : mo_T) (p1 : Int32) : Option Int32 :=
  if p1 < 0 then
    some 0
  else
    if (mo_n M) ≤ p1 then
      some 0
    else
      (rd_i 60 (mo_k M) p1).bind fun v_17 =>
      if v_17 = 0 then
        some 0
      else
        some 1
abbrev rm_X4_isShape : Room := { frames := 0, cells := 0, slots := 0, locals := 0 }
theorem in_X4_isShape_X4 : ∀ w ∈ wsX40, w ∈ wsX4_isShape := by decide +kernel
set_option maxHeartbeats 4000000 in
set_option maxRecDepth 100000 in
theorem c_X4_isShape (l : Launch) (D : va_G) (cI cJ cZ cS : ClassId) (ad : Nat → Nat) (m0 mk mc mx my mf mp mq mb : Nat) (M : mo_T) (p1 : Int32) (F : Nat)  (r : Int32) (hs : s_X4_isShape F M p1 = some r) : Met l yX4_isShape wsX4_isShape rm_X4_isShape (gl_P D cI cJ cZ cS ad [.ref m0, .int p1] (fun H => va_P D vwCl (mo_w cI cJ cZ m0 mk mc mx my mf mp mq mb M) H)) (vp_Si (fun v => v = r)) 0 0 (fun _ => False) := by
  refine Met.ofW (cc := cX4_isShape) (maxL := 2) (ret := (some .boolean)) (by decide) rfl ?_
  intro p e s m args below meth c s₁ B hml hv
  obtain ⟨rfl, hK, hE, hP⟩ := hv
  have hx := B.exec
  have hb := B.bytes
  have hr := B.returns
  have hts := atoms_spec (ws := wsX4_isShape) B.pre
  have hown : s.vm.findClass RX4 = some m.cls := findClass_of_methodNamed B.named
  have hlocks := B.notSynchronized
  have lk_13 := hts (.fieldLink RX4 13 "PlacePointsModel" "kinds" "[I") (by decide +kernel)
  have lk_40 := hts (.fieldLink RX4 40 "PlacePointsModel" "count" "I") (by decide +kernel)
  have in_X4 := in_X4_isShape_X4
  have hl := lv_entry ([.ref m0, .int p1]) (n := 2) (Nat.le_of_ble_eq_true rfl)
  rw [lg_entry_eq]
  generalize (lg_sl ([.ref m0, .int p1]) ++ List.replicate (2 - (lg_sl ([.ref m0, .int p1])).length) Slot.unset).toArray = ls at hl ⊢
  have hl : lv_has ls 2 [(0, .ref m0), (1, .int p1)] := hl
  rw [s_X4_isShape] at hs
  refine lv_iload_n hx hb dX4_isShape_0 rfl (lv_at hl 1 rfl) ?_
  refine lv_if_lt (tgt := 25) hx hb dX4_isShape_1 (by decide) (fun c_1 => ?_) (fun c_1 => ?_)
  · replace hs := it_t c_1 hs
    refine lv_iconst (v := 0) hx hb dX4_isShape_25 (by decide) ?_
    obtain rfl := Option.some.inj hs
    exact W.zret hx hb hr rfl (fun t ht hW => ⟨_, rfl, rfl, ht⟩) (fun _ h => by cases h) dX4_isShape_26
  · replace hs := it_f c_1 hs
    refine lv_iload_n hx hb dX4_isShape_4 rfl (lv_at hl 1 rfl) ?_
    refine lv_aload_n hx hb dX4_isShape_5 rfl (lv_at hl 0 rfl) ?_
    refine va_get (D := D) (ci := 4) (v := .int (mo_n M)) (C := RX4) (T := TX4) (N := 15) hx hb hts in_X4 hown hK hP 0 rfl rfl 4 (by decide) lk_40 (fun _ h9 => h9) rfl dX4_isShape_6 ?_
    refine lv_icmp_ge (tgt := 25) hx hb dX4_isShape_9 (by decide) (fun c_9 => ?_) (fun c_9 => ?_)
    · replace hs := it_t c_9 hs
      refine lv_iconst (v := 0) hx hb dX4_isShape_25 (by decide) ?_
      obtain rfl := Option.some.inj hs
      exact W.zret hx hb hr rfl (fun t ht hW => ⟨_, rfl, rfl, ht⟩) (fun _ h => by cases h) dX4_isShape_26
    · replace hs := it_f c_9 hs
      refine lv_aload_n hx hb dX4_isShape_12 rfl (lv_at hl 0 rfl) ?_
      refine va_get (D := D) (ci := 4) (v := .ref mk) (C := RX4) (T := TX4) (N := 15) hx hb hts in_X4 hown hK hP 0 rfl rfl 0 (by decide) lk_13 (fun _ h9 => h9) rfl dX4_isShape_13 ?_
      refine lv_iload_n hx hb dX4_isShape_16 rfl (lv_at hl 1 rfl) ?_
      obtain ⟨v_17, hv_17, hs⟩ := op_bd hs
      refine gx_iald hx hb hK hP 1 0 rfl rfl hv_17 dX4_isShape_17 ?_
      refine lv_if_eq (tgt := 25) hx hb dX4_isShape_18 (by decide) (fun c_18 => ?_) (fun c_18 => ?_)
      · replace hs := it_t c_18 hs
        refine lv_iconst (v := 0) hx hb dX4_isShape_25 (by decide) ?_
        obtain rfl := Option.some.inj hs
        exact W.zret hx hb hr rfl (fun t ht hW => ⟨_, rfl, rfl, ht⟩) (fun _ h => by cases h) dX4_isShape_26
      · replace hs := it_f c_18 hs
        refine lv_iconst (v := 1) hx hb dX4_isShape_21 (by decide) ?_
        refine lv_goto (tgt := 26) hx hb dX4_isShape_22 (by decide) ?_
        obtain rfl := Option.some.inj hs
        exact W.zret hx hb hr rfl (fun t ht hW => ⟨_, rfl, rfl, ht⟩) (fun _ h => by cases h) dX4_isShape_26
def s_X4_thrown (F : Nat) (M : mo_T) : Option Int32 :=
  some (mo_t M)
abbrev rm_X4_thrown : Room := { frames := 0, cells := 0, slots := 0, locals := 0 }
theorem in_X4_thrown_X4 : ∀ w ∈ wsX40, w ∈ wsX4_thrown := by decide +kernel
set_option maxHeartbeats 4000000 in
set_option maxRecDepth 100000 in
theorem c_X4_thrown (l : Launch) (D : va_G) (cI cJ cZ cS : ClassId) (ad : Nat → Nat) (m0 mk mc mx my mf mp mq mb : Nat) (M : mo_T) (F : Nat)  (r : Int32) (hs : s_X4_thrown F M = some r) : Met l yX4_thrown wsX4_thrown rm_X4_thrown (gl_P D cI cJ cZ cS ad [.ref m0] (fun H => va_P D vwCl (mo_w cI cJ cZ m0 mk mc mx my mf mp mq mb M) H)) (vp_Si (fun v => v = r)) 0 0 (fun _ => False) := by
  refine Met.ofW (cc := cX4_thrown) (maxL := 1) (ret := (some .int)) (by decide) rfl ?_
  intro p e s m args below meth c s₁ B hml hv
  obtain ⟨rfl, hK, hE, hP⟩ := hv
  have hx := B.exec
  have hb := B.bytes
  have hr := B.returns
  have hts := atoms_spec (ws := wsX4_thrown) B.pre
  have hown : s.vm.findClass RX4 = some m.cls := findClass_of_methodNamed B.named
  have hlocks := B.notSynchronized
  have lk_1 := hts (.fieldLink RX4 1 "PlacePointsModel" "thrown" "I") (by decide +kernel)
  have in_X4 := in_X4_thrown_X4
  have hl := lv_entry ([.ref m0]) (n := 1) (Nat.le_of_ble_eq_true rfl)
  rw [lg_entry_eq]
  generalize (lg_sl ([.ref m0]) ++ List.replicate (1 - (lg_sl ([.ref m0])).length) Slot.unset).toArray = ls at hl ⊢
  have hl : lv_has ls 1 [(0, .ref m0)] := hl
  rw [s_X4_thrown] at hs
  refine lv_aload_n hx hb dX4_thrown_0 rfl (lv_at hl 0 rfl) ?_
  refine va_get (D := D) (ci := 4) (v := .int (mo_t M)) (C := RX4) (T := TX4) (N := 15) hx hb hts in_X4 hown hK hP 0 rfl rfl 11 (by decide) lk_1 (fun _ h9 => h9) rfl dX4_thrown_1 ?_
  obtain rfl := Option.some.inj hs
  exact W.iret hx hb hr (fun t ht hW => ⟨_, rfl, rfl, ht⟩) (fun _ h => by cases h) dX4_thrown_4
def s_X4_divisor_6 (F : Nat) (p1 : Int64) (p2 : Int64) : Nat → Int64 → Int64 → Option Int64
  | 0, _, _ => none
  | n + 1, x4, x6 =>
    if (lg_cmp x6 0) = 0 then
      some x4
    else
      (nz_l x6).bind fun _ =>
      (some ((x4 - x4 / x6 * x6))).bind fun e_18 =>
      s_X4_divisor_6 F p1 p2 n x6 e_18
def s_X4_divisor (F : Nat) (p1 : Int64) (p2 : Int64) : Option Int64 :=
  s_X4_divisor_6 F p1 p2 F p1 p2
abbrev rm_X4_divisor : Room := { frames := 0, cells := 0, slots := 0, locals := 0 }
set_option maxHeartbeats 4000000 in
set_option maxRecDepth 100000 in
theorem c_X4_divisor (l : Launch) (D : va_G) (cI cJ cZ cS : ClassId) (ad : Nat → Nat) (p1 : Int64) (p2 : Int64) (F : Nat)  (r : Int64) (hs : s_X4_divisor F p1 p2 = some r) : Met l yX4_divisor wsX4_divisor rm_X4_divisor (gl_P D cI cJ cZ cS ad [.long p1, .long p2] (fun _ => True)) (vp_Sl (fun v => v = r)) 0 0 (fun _ => False) := by
  refine Met.ofW (cc := cX4_divisor) (maxL := 10) (ret := (some .long)) (by decide) rfl ?_
  intro p e s m args below meth c s₁ B hml hv
  obtain ⟨rfl, hK, hE, hP⟩ := hv
  have hx := B.exec
  have hb := B.bytes
  have hr := B.returns
  have hts := atoms_spec (ws := wsX4_divisor) B.pre
  have hown : s.vm.findClass RX4 = some m.cls := findClass_of_methodNamed B.named
  have hlocks := B.notSynchronized
  have J_6 : ∀ (n_6 : Nat) (x4 : Int64) (x6 : Int64), s_X4_divisor_6 F p1 p2 n_6 x4 x6 = some r → ∀ ls : Array Slot, lv_has ls 10 [(4, .long x4), (6, .long x6)] → W p l e (headSpec wsX4_divisor rm_X4_divisor).room s m ([.long p1, .long p2] : List Value).toArray below meth c s.heap [] 0 0 (MQ below (vp_Sl (fun v => v = r)) ([.long p1, .long p2] : List Value).toArray s 0 0 (fun _ => False)) (F0 m 6 ls []) := by
    intro n_6
    induction n_6 with
    | zero =>
      intro x4 x6 hs
      cases hs
    | succ n_6 ih_6 =>
      intro x4 x6 hs ls hl
      rw [s_X4_divisor_6] at hs
      refine lv_lload hx hb dX4_divisor_6 (lv_at hl 1 rfl) ?_
      refine lv_lconst (v := 0) hx hb dX4_divisor_8 (by decide) ?_
      refine W.lcmp hx hb dX4_divisor_9 ?_
      refine lv_if_eq (tgt := 31) hx hb dX4_divisor_10 (by decide) (fun c_10 => ?_) (fun c_10 => ?_)
      · replace hs := it_t c_10 hs
        refine lv_lload hx hb dX4_divisor_31 (lv_at hl 0 rfl) ?_
        obtain rfl := Option.some.inj hs
        exact W.lret hx hb hr (fun t ht hW => ⟨_, rfl, rfl, ht⟩) (fun _ h => by cases h) dX4_divisor_33
      · replace hs := it_f c_10 hs
        refine lv_lload hx hb dX4_divisor_13 (lv_at hl 0 rfl) ?_
        refine lv_lload hx hb dX4_divisor_15 (lv_at hl 1 rfl) ?_
        obtain ⟨_, hz_17, hs⟩ := op_bd hs
        refine lv_lrem hx hb dX4_divisor_17 (nz_l_ne hz_17) ?_
        obtain ⟨e_18, hv_18, hs⟩ := op_bd hs
        refine gx_nj (Option.some.inj hv_18) ?_
        refine lv_lstore (lv' := [(8, .long e_18), (4, .long x4), (6, .long x6)]) hx hb dX4_divisor_18 hl (by decide) rfl (fun ls hl => ?_)
        refine lv_lload hx hb dX4_divisor_20 (lv_at hl 2 rfl) ?_
        refine lv_lstore (lv' := [(4, .long x6), (8, .long e_18), (6, .long x6)]) hx hb dX4_divisor_22 hl (by decide) rfl (fun ls hl => ?_)
        refine lv_lload hx hb dX4_divisor_24 (lv_at hl 1 rfl) ?_
        refine lv_lstore (lv' := [(6, .long e_18), (4, .long x6), (8, .long e_18)]) hx hb dX4_divisor_26 hl (by decide) rfl (fun ls hl => ?_)
        refine lv_goto (tgt := 6) hx hb dX4_divisor_28 (by decide) ?_
        exact ih_6 x6 e_18 hs _ (lv_sub hl [1, 0] rfl)
  have hl := lv_entry ([.long p1, .long p2]) (n := 10) (Nat.le_of_ble_eq_true rfl)
  rw [lg_entry_eq]
  generalize (lg_sl ([.long p1, .long p2]) ++ List.replicate (10 - (lg_sl ([.long p1, .long p2])).length) Slot.unset).toArray = ls at hl ⊢
  have hl : lv_has ls 10 [(0, .long p1), (2, .long p2)] := hl
  rw [s_X4_divisor] at hs
  refine lv_lload_n hx hb dX4_divisor_0 rfl (lv_at hl 0 rfl) ?_
  refine lv_lstore (lv' := [(4, .long p1), (0, .long p1), (2, .long p2)]) hx hb dX4_divisor_1 hl (by decide) rfl (fun ls hl => ?_)
  refine lv_lload_n hx hb dX4_divisor_3 rfl (lv_at hl 2 rfl) ?_
  refine lv_lstore (lv' := [(6, .long p2), (4, .long p1), (0, .long p1), (2, .long p2)]) hx hb dX4_divisor_4 hl (by decide) rfl (fun ls hl => ?_)
  exact J_6 F p1 p2 hs _ (lv_sub hl [1, 0] rfl)
def s_X4_isLess_115 (F : Nat) (p1 : Int64) (p2 : Int64) (p3 : Int64) (p4 : Int64) (kc_17 : Int64 → Int64 → Int64 → Int64 → Int32 → Option Int32) (x16 : Int32) (t0 : Int32) : Option Int32 :=
  if t0 = x16 then
    some 0
  else
    some 1
def s_X4_isLess_50 (F : Nat) (p1 : Int64) (p2 : Int64) (p3 : Int64) (p4 : Int64) (kc_17 : Int64 → Int64 → Int64 → Int64 → Int32 → Option Int32) (x10 : Int64) (x14 : Int64) (x16 : Int32) (t0 : Int32) : Option Int32 :=
  if x16 = 0 then
    (bz_i t0).bind fun _ =>
    some t0
  else
    if (lg_cmp x10 0) = 0 then
      if (lg_cmp x14 0) = 0 then
        some 0
      else
        some 1
    else
      some 0
def s_X4_isLess_31 (F : Nat) (p1 : Int64) (p2 : Int64) (p3 : Int64) (p4 : Int64) (kc_17 : Int64 → Int64 → Int64 → Int64 → Int32 → Option Int32) (x10 : Int64) (x14 : Int64) (x16 : Int32) : Option Int32 :=
  if (lg_cmp x14 0) = 0 then
    if (lg_cmp x10 0) = 0 then
      s_X4_isLess_50 F p1 p2 p3 p4 kc_17 x10 x14 x16 0
    else
      s_X4_isLess_50 F p1 p2 p3 p4 kc_17 x10 x14 x16 1
  else
    s_X4_isLess_50 F p1 p2 p3 p4 kc_17 x10 x14 x16 0
def s_X4_isLess_17 (F : Nat) (p1 : Int64) (p2 : Int64) (p3 : Int64) (p4 : Int64) : Nat → Int64 → Int64 → Int64 → Int64 → Int32 → Option Int32
  | 0, _, _, _, _, _ => none
  | n + 1, x8, x10, x12, x14, x16 =>
    if (lg_cmp x10 0) = 0 then
      s_X4_isLess_31 F p1 p2 p3 p4 (fun y0 y1 y2 y3 y4 => s_X4_isLess_17 F p1 p2 p3 p4 n y0 y1 y2 y3 y4) x10 x14 x16
    else
      if (lg_cmp x14 0) = 0 then
        s_X4_isLess_31 F p1 p2 p3 p4 (fun y0 y1 y2 y3 y4 => s_X4_isLess_17 F p1 p2 p3 p4 n y0 y1 y2 y3 y4) x10 x14 x16
      else
        (nz_l x10).bind fun _ =>
        (nz_l x14).bind fun _ =>
        if (lg_cmp (x8 / x10) (x12 / x14)) = 0 then
          (nz_l x10).bind fun _ =>
          (some ((x8 - x8 / x10 * x10))).bind fun e_131 =>
          (nz_l x14).bind fun _ =>
          (some ((x12 - x12 / x14 * x14))).bind fun e_138 =>
          if x16 = 0 then
            s_X4_isLess_17 F p1 p2 p3 p4 n x10 e_131 x14 e_138 1
          else
            s_X4_isLess_17 F p1 p2 p3 p4 n x10 e_131 x14 e_138 0
        else
          (nz_l x10).bind fun _ =>
          (nz_l x14).bind fun _ =>
          if 0 ≤ (lg_cmp (x8 / x10) (x12 / x14)) then
            s_X4_isLess_115 F p1 p2 p3 p4 (fun y0 y1 y2 y3 y4 => s_X4_isLess_17 F p1 p2 p3 p4 n y0 y1 y2 y3 y4) x16 0
          else
            s_X4_isLess_115 F p1 p2 p3 p4 (fun y0 y1 y2 y3 y4 => s_X4_isLess_17 F p1 p2 p3 p4 n y0 y1 y2 y3 y4) x16 1
def s_X4_isLess (F : Nat) (p1 : Int64) (p2 : Int64) (p3 : Int64) (p4 : Int64) : Option Int32 :=
  s_X4_isLess_17 F p1 p2 p3 p4 F p1 p2 p3 p4 0
abbrev rm_X4_isLess : Room := { frames := 0, cells := 0, slots := 0, locals := 0 }
set_option maxHeartbeats 4000000 in
set_option maxRecDepth 100000 in
theorem c_X4_isLess (l : Launch) (D : va_G) (cI cJ cZ cS : ClassId) (ad : Nat → Nat) (p1 : Int64) (p2 : Int64) (p3 : Int64) (p4 : Int64) (F : Nat)  (r : Int32) (hs : s_X4_isLess F p1 p2 p3 p4 = some r) : Met l yX4_isLess wsX4_isLess rm_X4_isLess (gl_P D cI cJ cZ cS ad [.long p1, .long p2, .long p3, .long p4] (fun _ => True)) (vp_Si (fun v => v = r)) 0 0 (fun _ => False) := by
  refine Met.ofW (cc := cX4_isLess) (maxL := 21) (ret := (some .boolean)) (by decide) rfl ?_
  intro p e s m args below meth c s₁ B hml hv
  obtain ⟨rfl, hK, hE, hP⟩ := hv
  have hx := B.exec
  have hb := B.bytes
  have hr := B.returns
  have hts := atoms_spec (ws := wsX4_isLess) B.pre
  have hown : s.vm.findClass RX4 = some m.cls := findClass_of_methodNamed B.named
  have hlocks := B.notSynchronized
  have J_17 : ∀ (n_17 : Nat) (x8 : Int64) (x10 : Int64) (x12 : Int64) (x14 : Int64) (x16 : Int32), s_X4_isLess_17 F p1 p2 p3 p4 n_17 x8 x10 x12 x14 x16 = some r → ∀ ls : Array Slot, lv_has ls 21 [(8, .long x8), (10, .long x10), (12, .long x12), (14, .long x14), (16, .int x16)] → W p l e (headSpec wsX4_isLess rm_X4_isLess).room s m ([.long p1, .long p2, .long p3, .long p4] : List Value).toArray below meth c s.heap [] 0 0 (MQ below (vp_Si (fun v => v = r)) ([.long p1, .long p2, .long p3, .long p4] : List Value).toArray s 0 0 (fun _ => False)) (F0 m 17 ls []) := by
    intro n_17
    induction n_17 with
    | zero =>
      intro x8 x10 x12 x14 x16 hs
      cases hs
    | succ n_17 ih_17 =>
      have J_115 : ∀ (x16 : Int32) (t0 : Int32), s_X4_isLess_115 F p1 p2 p3 p4 (fun y0 y1 y2 y3 y4 => s_X4_isLess_17 F p1 p2 p3 p4 n_17 y0 y1 y2 y3 y4) x16 t0 = some r → ∀ ls : Array Slot, lv_has ls 21 [(16, .int x16)] → W p l e (headSpec wsX4_isLess rm_X4_isLess).room s m ([.long p1, .long p2, .long p3, .long p4] : List Value).toArray below meth c s.heap [] 0 0 (MQ below (vp_Si (fun v => v = r)) ([.long p1, .long p2, .long p3, .long p4] : List Value).toArray s 0 0 (fun _ => False)) (F0 m 115 ls [.int t0]) := by
        intro x16 t0 hs ls hl
        rw [s_X4_isLess_115] at hs
        refine lv_iload hx hb dX4_isLess_115 (lv_at hl 0 rfl) ?_
        refine lv_icmp_eq (tgt := 124) hx hb dX4_isLess_117 (by decide) (fun c_117 => ?_) (fun c_117 => ?_)
        · replace hs := it_t c_117 hs
          refine lv_iconst (v := 0) hx hb dX4_isLess_124 (by decide) ?_
          obtain rfl := Option.some.inj hs
          exact W.zret hx hb hr rfl (fun t ht hW => ⟨_, rfl, rfl, ht⟩) (fun _ h => by cases h) dX4_isLess_125
        · replace hs := it_f c_117 hs
          refine lv_iconst (v := 1) hx hb dX4_isLess_120 (by decide) ?_
          refine lv_goto (tgt := 125) hx hb dX4_isLess_121 (by decide) ?_
          obtain rfl := Option.some.inj hs
          exact W.zret hx hb hr rfl (fun t ht hW => ⟨_, rfl, rfl, ht⟩) (fun _ h => by cases h) dX4_isLess_125
      have J_50 : ∀ (x10 : Int64) (x14 : Int64) (x16 : Int32) (t0 : Int32), s_X4_isLess_50 F p1 p2 p3 p4 (fun y0 y1 y2 y3 y4 => s_X4_isLess_17 F p1 p2 p3 p4 n_17 y0 y1 y2 y3 y4) x10 x14 x16 t0 = some r → ∀ ls : Array Slot, lv_has ls 21 [(10, .long x10), (14, .long x14), (16, .int x16)] → W p l e (headSpec wsX4_isLess rm_X4_isLess).room s m ([.long p1, .long p2, .long p3, .long p4] : List Value).toArray below meth c s.heap [] 0 0 (MQ below (vp_Si (fun v => v = r)) ([.long p1, .long p2, .long p3, .long p4] : List Value).toArray s 0 0 (fun _ => False)) (F0 m 50 ls [.int t0]) := by
        intro x10 x14 x16 t0 hs ls hl
        rw [s_X4_isLess_50] at hs
        refine lv_istore (lv' := [(17, .int t0), (10, .long x10), (14, .long x14), (16, .int x16)]) hx hb dX4_isLess_50 hl (by decide) rfl (fun ls hl => ?_)
        refine lv_iload hx hb dX4_isLess_52 (lv_at hl 3 rfl) ?_
        refine lv_if_eq (tgt := 79) hx hb dX4_isLess_54 (by decide) (fun c_54 => ?_) (fun c_54 => ?_)
        · replace hs := it_t c_54 hs
          refine lv_iload hx hb dX4_isLess_79 (lv_at hl 0 rfl) ?_
          obtain ⟨_, hz_81, hs⟩ := op_bd hs
          obtain rfl := Option.some.inj hs
          exact W.zret hx hb hr (bz_nar hz_81) (fun t ht hW => ⟨_, rfl, rfl, ht⟩) (fun _ h => by cases h) dX4_isLess_81
        · replace hs := it_f c_54 hs
          refine lv_lload hx hb dX4_isLess_57 (lv_at hl 1 rfl) ?_
          refine lv_lconst (v := 0) hx hb dX4_isLess_59 (by decide) ?_
          refine W.lcmp hx hb dX4_isLess_60 ?_
          refine lv_if_ne (tgt := 75) hx hb dX4_isLess_61 (by decide) (fun c_61 => ?_) (fun c_61 => ?_)
          · replace hs := it_f c_61 hs
            refine lv_iconst (v := 0) hx hb dX4_isLess_75 (by decide) ?_
            refine lv_goto (tgt := 81) hx hb dX4_isLess_76 (by decide) ?_
            obtain rfl := Option.some.inj hs
            exact W.zret hx hb hr rfl (fun t ht hW => ⟨_, rfl, rfl, ht⟩) (fun _ h => by cases h) dX4_isLess_81
          · replace hs := it_t c_61 hs
            refine lv_lload hx hb dX4_isLess_64 (lv_at hl 2 rfl) ?_
            refine lv_lconst (v := 0) hx hb dX4_isLess_66 (by decide) ?_
            refine W.lcmp hx hb dX4_isLess_67 ?_
            refine lv_if_eq (tgt := 75) hx hb dX4_isLess_68 (by decide) (fun c_68 => ?_) (fun c_68 => ?_)
            · replace hs := it_t c_68 hs
              refine lv_iconst (v := 0) hx hb dX4_isLess_75 (by decide) ?_
              refine lv_goto (tgt := 81) hx hb dX4_isLess_76 (by decide) ?_
              obtain rfl := Option.some.inj hs
              exact W.zret hx hb hr rfl (fun t ht hW => ⟨_, rfl, rfl, ht⟩) (fun _ h => by cases h) dX4_isLess_81
            · replace hs := it_f c_68 hs
              refine lv_iconst (v := 1) hx hb dX4_isLess_71 (by decide) ?_
              refine lv_goto (tgt := 81) hx hb dX4_isLess_72 (by decide) ?_
              obtain rfl := Option.some.inj hs
              exact W.zret hx hb hr rfl (fun t ht hW => ⟨_, rfl, rfl, ht⟩) (fun _ h => by cases h) dX4_isLess_81
      have J_31 : ∀ (x10 : Int64) (x14 : Int64) (x16 : Int32), s_X4_isLess_31 F p1 p2 p3 p4 (fun y0 y1 y2 y3 y4 => s_X4_isLess_17 F p1 p2 p3 p4 n_17 y0 y1 y2 y3 y4) x10 x14 x16 = some r → ∀ ls : Array Slot, lv_has ls 21 [(10, .long x10), (14, .long x14), (16, .int x16)] → W p l e (headSpec wsX4_isLess rm_X4_isLess).room s m ([.long p1, .long p2, .long p3, .long p4] : List Value).toArray below meth c s.heap [] 0 0 (MQ below (vp_Si (fun v => v = r)) ([.long p1, .long p2, .long p3, .long p4] : List Value).toArray s 0 0 (fun _ => False)) (F0 m 31 ls []) := by
        intro x10 x14 x16 hs ls hl
        rw [s_X4_isLess_31] at hs
        refine lv_lload hx hb dX4_isLess_31 (lv_at hl 1 rfl) ?_
        refine lv_lconst (v := 0) hx hb dX4_isLess_33 (by decide) ?_
        refine W.lcmp hx hb dX4_isLess_34 ?_
        refine lv_if_ne (tgt := 49) hx hb dX4_isLess_35 (by decide) (fun c_35 => ?_) (fun c_35 => ?_)
        · replace hs := it_f c_35 hs
          refine lv_iconst (v := 0) hx hb dX4_isLess_49 (by decide) ?_
          exact J_50 x10 x14 x16 0 hs _ (lv_sub hl [0, 1, 2] rfl)
        · replace hs := it_t c_35 hs
          refine lv_lload hx hb dX4_isLess_38 (lv_at hl 0 rfl) ?_
          refine lv_lconst (v := 0) hx hb dX4_isLess_40 (by decide) ?_
          refine W.lcmp hx hb dX4_isLess_41 ?_
          refine lv_if_eq (tgt := 49) hx hb dX4_isLess_42 (by decide) (fun c_42 => ?_) (fun c_42 => ?_)
          · replace hs := it_t c_42 hs
            refine lv_iconst (v := 0) hx hb dX4_isLess_49 (by decide) ?_
            exact J_50 x10 x14 x16 0 hs _ (lv_sub hl [0, 1, 2] rfl)
          · replace hs := it_f c_42 hs
            refine lv_iconst (v := 1) hx hb dX4_isLess_45 (by decide) ?_
            refine lv_goto (tgt := 50) hx hb dX4_isLess_46 (by decide) ?_
            exact J_50 x10 x14 x16 1 hs _ (lv_sub hl [0, 1, 2] rfl)
      intro x8 x10 x12 x14 x16 hs ls hl
      rw [s_X4_isLess_17] at hs
      refine lv_lload hx hb dX4_isLess_17 (lv_at hl 1 rfl) ?_
      refine lv_lconst (v := 0) hx hb dX4_isLess_19 (by decide) ?_
      refine W.lcmp hx hb dX4_isLess_20 ?_
      refine lv_if_eq (tgt := 31) hx hb dX4_isLess_21 (by decide) (fun c_21 => ?_) (fun c_21 => ?_)
      · replace hs := it_t c_21 hs
        exact J_31 x10 x14 x16 hs _ (lv_sub hl [1, 3, 4] rfl)
      · replace hs := it_f c_21 hs
        refine lv_lload hx hb dX4_isLess_24 (lv_at hl 3 rfl) ?_
        refine lv_lconst (v := 0) hx hb dX4_isLess_26 (by decide) ?_
        refine W.lcmp hx hb dX4_isLess_27 ?_
        refine lv_if_ne (tgt := 82) hx hb dX4_isLess_28 (by decide) (fun c_28 => ?_) (fun c_28 => ?_)
        · replace hs := it_f c_28 hs
          refine lv_lload hx hb dX4_isLess_82 (lv_at hl 0 rfl) ?_
          refine lv_lload hx hb dX4_isLess_84 (lv_at hl 1 rfl) ?_
          obtain ⟨_, hz_86, hs⟩ := op_bd hs
          refine lv_ldiv hx hb dX4_isLess_86 (nz_l_ne hz_86) ?_
          refine lv_lload hx hb dX4_isLess_87 (lv_at hl 2 rfl) ?_
          refine lv_lload hx hb dX4_isLess_89 (lv_at hl 3 rfl) ?_
          obtain ⟨_, hz_91, hs⟩ := op_bd hs
          refine lv_ldiv hx hb dX4_isLess_91 (nz_l_ne hz_91) ?_
          refine W.lcmp hx hb dX4_isLess_92 ?_
          refine lv_if_eq (tgt := 126) hx hb dX4_isLess_93 (by decide) (fun c_93 => ?_) (fun c_93 => ?_)
          · replace hs := it_t c_93 hs
            refine lv_lload hx hb dX4_isLess_126 (lv_at hl 0 rfl) ?_
            refine lv_lload hx hb dX4_isLess_128 (lv_at hl 1 rfl) ?_
            obtain ⟨_, hz_130, hs⟩ := op_bd hs
            refine lv_lrem hx hb dX4_isLess_130 (nz_l_ne hz_130) ?_
            obtain ⟨e_131, hv_131, hs⟩ := op_bd hs
            refine gx_nj (Option.some.inj hv_131) ?_
            refine lv_lstore (lv' := [(17, .long e_131), (8, .long x8), (10, .long x10), (12, .long x12), (14, .long x14), (16, .int x16)]) hx hb dX4_isLess_131 hl (by decide) rfl (fun ls hl => ?_)
            refine lv_lload hx hb dX4_isLess_133 (lv_at hl 3 rfl) ?_
            refine lv_lload hx hb dX4_isLess_135 (lv_at hl 4 rfl) ?_
            obtain ⟨_, hz_137, hs⟩ := op_bd hs
            refine lv_lrem hx hb dX4_isLess_137 (nz_l_ne hz_137) ?_
            obtain ⟨e_138, hv_138, hs⟩ := op_bd hs
            refine gx_nj (Option.some.inj hv_138) ?_
            refine lv_lstore (lv' := [(19, .long e_138), (17, .long e_131), (8, .long x8), (10, .long x10), (12, .long x12), (14, .long x14), (16, .int x16)]) hx hb dX4_isLess_138 hl (by decide) rfl (fun ls hl => ?_)
            refine lv_lload hx hb dX4_isLess_140 (lv_at hl 3 rfl) ?_
            refine lv_lstore (lv' := [(8, .long x10), (19, .long e_138), (17, .long e_131), (10, .long x10), (12, .long x12), (14, .long x14), (16, .int x16)]) hx hb dX4_isLess_142 hl (by decide) rfl (fun ls hl => ?_)
            refine lv_lload hx hb dX4_isLess_144 (lv_at hl 2 rfl) ?_
            refine lv_lstore (lv' := [(10, .long e_131), (8, .long x10), (19, .long e_138), (17, .long e_131), (12, .long x12), (14, .long x14), (16, .int x16)]) hx hb dX4_isLess_146 hl (by decide) rfl (fun ls hl => ?_)
            refine lv_lload hx hb dX4_isLess_148 (lv_at hl 5 rfl) ?_
            refine lv_lstore (lv' := [(12, .long x14), (10, .long e_131), (8, .long x10), (19, .long e_138), (17, .long e_131), (14, .long x14), (16, .int x16)]) hx hb dX4_isLess_150 hl (by decide) rfl (fun ls hl => ?_)
            refine lv_lload hx hb dX4_isLess_152 (lv_at hl 3 rfl) ?_
            refine lv_lstore (lv' := [(14, .long e_138), (12, .long x14), (10, .long e_131), (8, .long x10), (19, .long e_138), (17, .long e_131), (16, .int x16)]) hx hb dX4_isLess_154 hl (by decide) rfl (fun ls hl => ?_)
            refine lv_iload hx hb dX4_isLess_156 (lv_at hl 6 rfl) ?_
            refine lv_if_ne (tgt := 165) hx hb dX4_isLess_158 (by decide) (fun c_158 => ?_) (fun c_158 => ?_)
            · replace hs := it_f c_158 hs
              refine lv_iconst (v := 0) hx hb dX4_isLess_165 (by decide) ?_
              refine lv_istore (lv' := [(16, .int 0), (14, .long e_138), (12, .long x14), (10, .long e_131), (8, .long x10), (19, .long e_138), (17, .long e_131)]) hx hb dX4_isLess_166 hl (by decide) rfl (fun ls hl => ?_)
              refine lv_goto (tgt := 17) hx hb dX4_isLess_168 (by decide) ?_
              exact ih_17 x10 e_131 x14 e_138 0 hs _ (lv_sub hl [4, 3, 2, 1, 0] rfl)
            · replace hs := it_t c_158 hs
              refine lv_iconst (v := 1) hx hb dX4_isLess_161 (by decide) ?_
              refine lv_goto (tgt := 166) hx hb dX4_isLess_162 (by decide) ?_
              refine lv_istore (lv' := [(16, .int 1), (14, .long e_138), (12, .long x14), (10, .long e_131), (8, .long x10), (19, .long e_138), (17, .long e_131)]) hx hb dX4_isLess_166 hl (by decide) rfl (fun ls hl => ?_)
              refine lv_goto (tgt := 17) hx hb dX4_isLess_168 (by decide) ?_
              exact ih_17 x10 e_131 x14 e_138 1 hs _ (lv_sub hl [4, 3, 2, 1, 0] rfl)
          · replace hs := it_f c_93 hs
            refine lv_lload hx hb dX4_isLess_96 (lv_at hl 0 rfl) ?_
            refine lv_lload hx hb dX4_isLess_98 (lv_at hl 1 rfl) ?_
            obtain ⟨_, hz_100, hs⟩ := op_bd hs
            refine lv_ldiv hx hb dX4_isLess_100 (nz_l_ne hz_100) ?_
            refine lv_lload hx hb dX4_isLess_101 (lv_at hl 2 rfl) ?_
            refine lv_lload hx hb dX4_isLess_103 (lv_at hl 3 rfl) ?_
            obtain ⟨_, hz_105, hs⟩ := op_bd hs
            refine lv_ldiv hx hb dX4_isLess_105 (nz_l_ne hz_105) ?_
            refine W.lcmp hx hb dX4_isLess_106 ?_
            refine lv_if_ge (tgt := 114) hx hb dX4_isLess_107 (by decide) (fun c_107 => ?_) (fun c_107 => ?_)
            · replace hs := it_t c_107 hs
              refine lv_iconst (v := 0) hx hb dX4_isLess_114 (by decide) ?_
              exact J_115 x16 0 hs _ (lv_sub hl [4] rfl)
            · replace hs := it_f c_107 hs
              refine lv_iconst (v := 1) hx hb dX4_isLess_110 (by decide) ?_
              refine lv_goto (tgt := 115) hx hb dX4_isLess_111 (by decide) ?_
              exact J_115 x16 1 hs _ (lv_sub hl [4] rfl)
        · replace hs := it_t c_28 hs
          exact J_31 x10 x14 x16 hs _ (lv_sub hl [1, 3, 4] rfl)
  have hl := lv_entry ([.long p1, .long p2, .long p3, .long p4]) (n := 21) (Nat.le_of_ble_eq_true rfl)
  rw [lg_entry_eq]
  generalize (lg_sl ([.long p1, .long p2, .long p3, .long p4]) ++ List.replicate (21 - (lg_sl ([.long p1, .long p2, .long p3, .long p4])).length) Slot.unset).toArray = ls at hl ⊢
  have hl : lv_has ls 21 [(0, .long p1), (2, .long p2), (4, .long p3), (6, .long p4)] := hl
  rw [s_X4_isLess] at hs
  refine lv_lload_n hx hb dX4_isLess_0 rfl (lv_at hl 0 rfl) ?_
  refine lv_lstore (lv' := [(8, .long p1), (0, .long p1), (2, .long p2), (4, .long p3), (6, .long p4)]) hx hb dX4_isLess_1 hl (by decide) rfl (fun ls hl => ?_)
  refine lv_lload_n hx hb dX4_isLess_3 rfl (lv_at hl 2 rfl) ?_
  refine lv_lstore (lv' := [(10, .long p2), (8, .long p1), (0, .long p1), (2, .long p2), (4, .long p3), (6, .long p4)]) hx hb dX4_isLess_4 hl (by decide) rfl (fun ls hl => ?_)
  refine lv_lload hx hb dX4_isLess_6 (lv_at hl 4 rfl) ?_
  refine lv_lstore (lv' := [(12, .long p3), (10, .long p2), (8, .long p1), (0, .long p1), (2, .long p2), (4, .long p3), (6, .long p4)]) hx hb dX4_isLess_8 hl (by decide) rfl (fun ls hl => ?_)
  refine lv_lload hx hb dX4_isLess_10 (lv_at hl 6 rfl) ?_
  refine lv_lstore (lv' := [(14, .long p4), (12, .long p3), (10, .long p2), (8, .long p1), (0, .long p1), (2, .long p2), (4, .long p3), (6, .long p4)]) hx hb dX4_isLess_12 hl (by decide) rfl (fun ls hl => ?_)
  refine lv_iconst (v := 0) hx hb dX4_isLess_14 (by decide) ?_
  refine lv_istore (lv' := [(16, .int 0), (14, .long p4), (12, .long p3), (10, .long p2), (8, .long p1), (0, .long p1), (2, .long p2), (4, .long p3), (6, .long p4)]) hx hb dX4_isLess_15 hl (by decide) rfl (fun ls hl => ?_)
  exact J_17 F p1 p2 p3 p4 0 hs _ (lv_sub hl [4, 3, 2, 1, 0] rfl)
