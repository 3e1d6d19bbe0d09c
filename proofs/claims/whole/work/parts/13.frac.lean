def s_X0_set (F : Nat) (Q : fr_T) (p1 : Int64) (p2 : Int64) : Option fr_T :=
  some (p1, p2)
abbrev rm_X0_set : Room := { frames := 0, cells := 0, slots := 0, locals := 0 }
theorem in_X0_set_X0 : ∀ w ∈ wsX00, w ∈ wsX0_set := by decide +kernel
set_option maxHeartbeats 4000000 in
set_option maxRecDepth 100000 in
theorem c_X0_set (l : Launch) (D : va_G) (cI cJ cZ cS : ClassId) (ad : Nat → Nat) (f0 : Nat) (sz : Nat) (Q : fr_T) (p1 : Int64) (p2 : Int64) (F : Nat)  (r : fr_T) (hs : s_X0_set F Q p1 p2 = some r) : Met l yX0_set wsX0_set rm_X0_set (gm_P D cI cJ cZ cS ad sz (fr_w f0 Q) ([]) [.ref f0, .long p1, .long p2]) (va_Qv (fun u : fr_T => u = r) (fun u t => va_P D vwCl (fr_w f0 u) t.heap ∧ va_D (va_A (fr_w f0 Q) sz) (fr_w f0 u)) (va_A (fr_w f0 Q) sz)) 0 0 (va_A (fr_w f0 Q) sz) := by
  refine Met.ofW (cc := cX0_set) (maxL := 5) (ret := none) (by decide) rfl ?_
  intro p e s m args below meth c s₁ B hml hv
  obtain ⟨rfl, hsz, hK, hE, hP, hD0, hR, hRn0⟩ := hv
  have hx := B.exec
  have hb := B.bytes
  have hr := B.returns
  have hts := atoms_spec (ws := wsX0_set) B.pre
  have hown : s.vm.findClass RX0 = some m.cls := findClass_of_methodNamed B.named
  have hlocks := B.notSynchronized
  subst hsz
  have hD := hD0.self (sz := s.heap.size)
  have hRn := gx_rn0 hR hRn0
  generalize hAe : va_A (fr_w f0 Q) s.heap.size = A at hD hE hRn ⊢
  have hA : ∀ q : Nat, s.heap.size ≤ q → A q := fun q h => by rw [← hAe]; exact Or.inr h
  have hS : va_S A s.heap s.heap [] := va_S.rf
  have lk_7 := hts (.fieldLink RX0 7 "PlacePoints$Fraction" "upper" "J") (by decide +kernel)
  have lk_13 := hts (.fieldLink RX0 13 "PlacePoints$Fraction" "lower" "J") (by decide +kernel)
  have in_X0 := in_X0_set_X0
  have hl := lv_entry ([.ref f0, .long p1, .long p2]) (n := 5) (Nat.le_of_ble_eq_true rfl)
  rw [lg_entry_eq]
  generalize (lg_sl ([.ref f0, .long p1, .long p2]) ++ List.replicate (5 - (lg_sl ([.ref f0, .long p1, .long p2])).length) Slot.unset).toArray = ls at hl ⊢
  have hl : lv_has ls 5 [(0, .ref f0), (1, .long p1), (3, .long p2)] := hl
  rw [s_X0_set] at hs
  refine lv_aload_n hx hb dX0_set_0 rfl (lv_at hl 0 rfl) ?_
  refine lv_lload_n hx hb dX0_set_1 rfl (lv_at hl 1 rfl) ?_
  refine va_put (D := D) (ci := 1) (v := .long p1) (ty := .long) (C := RX0) (T := TX0) (N := 2) hx hb hts in_X0 tyX0 tyX0_ok nmX0 hown hK hP hD hS 0 rfl rfl 0 (by decide) lk_7 (fun _ h9 => h9) rfl (by decide +kernel) rfl rfl (Nat.le_of_ble_eq_true rfl) dX0_set_2 (fun H locs hP hD hS => ?_)
  have hP : va_P D vwCl (fr_w f0 (fs_u Q p1)) H := hP
  have hD : va_D A (fr_w f0 (fs_u Q p1)) := hD
  refine lv_aload_n hx hb dX0_set_5 rfl (lv_at hl 0 rfl) ?_
  refine lv_lload_n hx hb dX0_set_6 rfl (lv_at hl 2 rfl) ?_
  refine va_put (D := D) (ci := 1) (v := .long p2) (ty := .long) (C := RX0) (T := TX0) (N := 2) hx hb hts in_X0 tyX0 tyX0_ok nmX0 hown hK hP hD hS 0 rfl rfl 1 (by decide) lk_13 (fun _ h9 => h9) rfl (by decide +kernel) rfl rfl (Nat.le_of_ble_eq_true rfl) dX0_set_7 (fun H locs hP hD hS => ?_)
  have hP : va_P D vwCl (fr_w f0 (p1, p2)) H := hP
  have hD : va_D A (fr_w f0 (p1, p2)) := hD
  obtain rfl := Option.some.inj hs
  exact W.vret hx hb hr (fun t ht hW => ⟨⟨_, rfl, rfl, by rw [ht]; exact hP, hD⟩, hS.F ht⟩) hS.2.2 dX0_set_10
def s_X0_lessen (F : Nat) (Q : fr_T) (p1 : Int64) (p2 : Int64) : Option fr_T :=
  (s_X0_isAbove F (fr_u Q) (fr_l Q) p1 p2).bind fun v_10 =>
  if v_10 = 0 then
    some Q
  else
    (s_X0_set F Q p1 p2).bind fun v_19 =>
    some v_19
abbrev rm_X0_lessen : Room := { frames := 1, cells := 0, slots := 0, locals := 31 }
theorem in_X0_lessen_X0 : ∀ w ∈ wsX00, w ∈ wsX0_lessen := by decide +kernel
set_option maxHeartbeats 4000000 in
set_option maxRecDepth 100000 in
theorem c_X0_lessen (l : Launch) (D : va_G) (cI cJ cZ cS : ClassId) (ad : Nat → Nat) (f0 : Nat) (sz : Nat) (Q : fr_T) (p1 : Int64) (p2 : Int64) (F : Nat)  (r : fr_T) (hs : s_X0_lessen F Q p1 p2 = some r) : Met l yX0_lessen wsX0_lessen rm_X0_lessen (gm_P D cI cJ cZ cS ad sz (fr_w f0 Q) ([]) [.ref f0, .long p1, .long p2]) (va_Qv (fun u : fr_T => u = r) (fun u t => va_P D vwCl (fr_w f0 u) t.heap ∧ va_D (va_A (fr_w f0 Q) sz) (fr_w f0 u)) (va_A (fr_w f0 Q) sz)) 0 0 (va_A (fr_w f0 Q) sz) := by
  refine Met.ofW (cc := cX0_lessen) (maxL := 5) (ret := none) (by decide) rfl ?_
  intro p e s m args below meth c s₁ B hml hv
  obtain ⟨rfl, hsz, hK, hE, hP, hD0, hR, hRn0⟩ := hv
  have hx := B.exec
  have hb := B.bytes
  have hr := B.returns
  have hts := atoms_spec (ws := wsX0_lessen) B.pre
  have hown : s.vm.findClass RX0 = some m.cls := findClass_of_methodNamed B.named
  have hlocks := B.notSynchronized
  subst hsz
  have hD := hD0.self (sz := s.heap.size)
  have hRn := gx_rn0 hR hRn0
  generalize hAe : va_A (fr_w f0 Q) s.heap.size = A at hD hE hRn ⊢
  have hA : ∀ q : Nat, s.heap.size ≤ q → A q := fun q h => by rw [← hAe]; exact Or.inr h
  have hS : va_S A s.heap s.heap [] := va_S.rf
  have lk_7 := hts (.fieldLink RX0 7 "PlacePoints$Fraction" "upper" "J") (by decide +kernel)
  have lk_13 := hts (.fieldLink RX0 13 "PlacePoints$Fraction" "lower" "J") (by decide +kernel)
  have in_X0 := in_X0_lessen_X0
  have hl := lv_entry ([.ref f0, .long p1, .long p2]) (n := 5) (Nat.le_of_ble_eq_true rfl)
  rw [lg_entry_eq]
  generalize (lg_sl ([.ref f0, .long p1, .long p2]) ++ List.replicate (5 - (lg_sl ([.ref f0, .long p1, .long p2])).length) Slot.unset).toArray = ls at hl ⊢
  have hl : lv_has ls 5 [(0, .ref f0), (1, .long p1), (3, .long p2)] := hl
  rw [s_X0_lessen] at hs
  refine lv_aload_n hx hb dX0_lessen_0 rfl (lv_at hl 0 rfl) ?_
  refine va_get (D := D) (ci := 1) (v := .long (fr_u Q)) (C := RX0) (T := TX0) (N := 2) hx hb hts in_X0 hown hK hP 0 rfl rfl 0 (by decide) lk_7 (fun _ h9 => h9) rfl dX0_lessen_1 ?_
  refine lv_aload_n hx hb dX0_lessen_4 rfl (lv_at hl 0 rfl) ?_
  refine va_get (D := D) (ci := 1) (v := .long (fr_l Q)) (C := RX0) (T := TX0) (N := 2) hx hb hts in_X0 hown hK hP 0 rfl rfl 1 (by decide) lk_13 (fun _ h9 => h9) rfl dX0_lessen_5 ?_
  refine lv_lload_n hx hb dX0_lessen_8 rfl (lv_at hl 1 rfl) ?_
  refine lv_lload_n hx hb dX0_lessen_9 rfl (lv_at hl 2 rfl) ?_
  obtain ⟨v_10, hc_10, hs⟩ := op_bd hs
  refine gx_cSi (va_Run.run (va_runS (As := [.long (fr_u Q), .long (fr_l Q), .long p1, .long p2]) (rest := []) ⟨hx, hb, hml, hown, hts⟩ (c_X0_isAbove l D cI cJ cZ cS ad (fr_u Q) (fr_l Q) p1 p2 F  v_10 hc_10) (va_cwS 4 hts gX0_lessen_X0_isAbove rfl rfl rfl (by decide +kernel) ⟨Nat.le_of_ble_eq_true rfl, Nat.le_of_ble_eq_true rfl⟩) ⟨gl_blind, gl_ok hK (gl_Ek hE hS) trivial⟩ rfl rfl hl.1 rfl (lv_room (Nat.le_of_ble_eq_true rfl)) dX0_lessen_10 ⟨Nat.le_of_ble_eq_true rfl, Nat.le_of_ble_eq_true rfl⟩)) ?_
  refine lv_if_eq (tgt := 22) hx hb dX0_lessen_13 (by decide) (fun c_13 => ?_) (fun c_13 => ?_)
  · replace hs := it_t c_13 hs
    obtain rfl := Option.some.inj hs
    exact W.vret hx hb hr (fun t ht hW => ⟨⟨_, rfl, rfl, by rw [ht]; exact hP, hD⟩, hS.F ht⟩) hS.2.2 dX0_lessen_22
  · replace hs := it_f c_13 hs
    refine lv_aload_n hx hb dX0_lessen_16 rfl (lv_at hl 0 rfl) ?_
    refine lv_lload_n hx hb dX0_lessen_17 rfl (lv_at hl 1 rfl) ?_
    refine lv_lload_n hx hb dX0_lessen_18 rfl (lv_at hl 2 rfl) ?_
    obtain ⟨v_19, hc_19, hs⟩ := op_bd hs
    have hFc := va_free (wc := fr_w f0 Q) hD hS hA [0] rfl
    refine gx_cMv (wf := fun u => fr_w f0 u) (va_runV (As := [.long p1, .long p2]) (rest := []) ⟨hx, hb, hml, hown, hts⟩ (c_X0_set l D cI cJ cZ cS ad f0 _ Q p1 p2 F  v_19 hc_19) (cwV 2 hts gX0_lessen_X0_set rfl rfl rfl (by decide +kernel) ⟨Nat.le_of_ble_eq_true rfl, Nat.le_of_ble_eq_true rfl⟩) ⟨gm_blind, va_recv hK hP (ci := 1) (q0 := 0) rfl rfl, gm_ok hK hE hS hFc hP hD va_nil0 gx_nil⟩ rfl rfl hl.1 rfl (lv_room (Nat.le_of_ble_eq_true rfl)) dX0_lessen_19 ⟨Nat.le_of_ble_eq_true rfl, Nat.le_of_ble_eq_true rfl⟩) hS hFc (fun H locs hP hD hS => ?_)
    have hP : va_P D vwCl (fr_w f0 v_19) H := hP
    have hD : va_D A (fr_w f0 v_19) := hD
    obtain rfl := Option.some.inj hs
    exact W.vret hx hb hr (fun t ht hW => ⟨⟨_, rfl, rfl, by rw [ht]; exact hP, hD⟩, hS.F ht⟩) hS.2.2 dX0_lessen_22
def s_X0_reduce (F : Nat) (Q : fr_T) : Option fr_T :=
  (s_X0_greatestDivisor F (fr_u Q) (fr_l Q)).bind fun v_8 =>
  if (lg_cmp v_8 1) ≤ 0 then
    some Q
  else
    (nz_l v_8).bind fun _ =>
    (some (((fr_u Q) / v_8))).bind fun e_25 =>
    (nz_l v_8).bind fun _ =>
    (some (((fr_l Q) / v_8))).bind fun e_35 =>
    some (e_25, e_35)
abbrev rm_X0_reduce : Room := { frames := 1, cells := 0, slots := 0, locals := 26 }
theorem in_X0_reduce_X0 : ∀ w ∈ wsX00, w ∈ wsX0_reduce := by decide +kernel
set_option maxHeartbeats 4000000 in
set_option maxRecDepth 100000 in
theorem c_X0_reduce (l : Launch) (D : va_G) (cI cJ cZ cS : ClassId) (ad : Nat → Nat) (f0 : Nat) (sz : Nat) (Q : fr_T) (F : Nat)  (r : fr_T) (hs : s_X0_reduce F Q = some r) : Met l yX0_reduce wsX0_reduce rm_X0_reduce (gm_P D cI cJ cZ cS ad sz (fr_w f0 Q) ([]) [.ref f0]) (va_Qv (fun u : fr_T => u = r) (fun u t => va_P D vwCl (fr_w f0 u) t.heap ∧ va_D (va_A (fr_w f0 Q) sz) (fr_w f0 u)) (va_A (fr_w f0 Q) sz)) 0 0 (va_A (fr_w f0 Q) sz) := by
  refine Met.ofW (cc := cX0_reduce) (maxL := 3) (ret := none) (by decide) rfl ?_
  intro p e s m args below meth c s₁ B hml hv
  obtain ⟨rfl, hsz, hK, hE, hP, hD0, hR, hRn0⟩ := hv
  have hx := B.exec
  have hb := B.bytes
  have hr := B.returns
  have hts := atoms_spec (ws := wsX0_reduce) B.pre
  have hown : s.vm.findClass RX0 = some m.cls := findClass_of_methodNamed B.named
  have hlocks := B.notSynchronized
  subst hsz
  have hD := hD0.self (sz := s.heap.size)
  have hRn := gx_rn0 hR hRn0
  generalize hAe : va_A (fr_w f0 Q) s.heap.size = A at hD hE hRn ⊢
  have hA : ∀ q : Nat, s.heap.size ≤ q → A q := fun q h => by rw [← hAe]; exact Or.inr h
  have hS : va_S A s.heap s.heap [] := va_S.rf
  have lk_7 := hts (.fieldLink RX0 7 "PlacePoints$Fraction" "upper" "J") (by decide +kernel)
  have lk_13 := hts (.fieldLink RX0 13 "PlacePoints$Fraction" "lower" "J") (by decide +kernel)
  have in_X0 := in_X0_reduce_X0
  have hl := lv_entry ([.ref f0]) (n := 3) (Nat.le_of_ble_eq_true rfl)
  rw [lg_entry_eq]
  generalize (lg_sl ([.ref f0]) ++ List.replicate (3 - (lg_sl ([.ref f0])).length) Slot.unset).toArray = ls at hl ⊢
  have hl : lv_has ls 3 [(0, .ref f0)] := hl
  rw [s_X0_reduce] at hs
  refine lv_aload_n hx hb dX0_reduce_0 rfl (lv_at hl 0 rfl) ?_
  refine va_get (D := D) (ci := 1) (v := .long (fr_u Q)) (C := RX0) (T := TX0) (N := 2) hx hb hts in_X0 hown hK hP 0 rfl rfl 0 (by decide) lk_7 (fun _ h9 => h9) rfl dX0_reduce_1 ?_
  refine lv_aload_n hx hb dX0_reduce_4 rfl (lv_at hl 0 rfl) ?_
  refine va_get (D := D) (ci := 1) (v := .long (fr_l Q)) (C := RX0) (T := TX0) (N := 2) hx hb hts in_X0 hown hK hP 0 rfl rfl 1 (by decide) lk_13 (fun _ h9 => h9) rfl dX0_reduce_5 ?_
  obtain ⟨v_8, hc_8, hs⟩ := op_bd hs
  refine gx_cSl (va_Run.run (va_runS (As := [.long (fr_u Q), .long (fr_l Q)]) (rest := []) ⟨hx, hb, hml, hown, hts⟩ (c_X0_greatestDivisor l D cI cJ cZ cS ad (fr_u Q) (fr_l Q) F  v_8 hc_8) (va_cwS 2 hts gX0_reduce_X0_greatestDivisor rfl rfl rfl (by decide +kernel) ⟨Nat.le_of_ble_eq_true rfl, Nat.le_of_ble_eq_true rfl⟩) ⟨gl_blind, gl_ok hK (gl_Ek hE hS) trivial⟩ rfl rfl hl.1 rfl (lv_room (Nat.le_of_ble_eq_true rfl)) dX0_reduce_8 ⟨Nat.le_of_ble_eq_true rfl, Nat.le_of_ble_eq_true rfl⟩)) ?_
  refine lv_lstore_n (lv' := [(1, .long v_8), (0, .ref f0)]) hx hb dX0_reduce_11 rfl hl (by decide) rfl (fun ls hl => ?_)
  refine lv_lload_n hx hb dX0_reduce_12 rfl (lv_at hl 0 rfl) ?_
  refine lv_lconst (v := 1) hx hb dX0_reduce_13 (by decide) ?_
  refine W.lcmp hx hb dX0_reduce_14 ?_
  refine lv_if_le (tgt := 38) hx hb dX0_reduce_15 (by decide) (fun c_15 => ?_) (fun c_15 => ?_)
  · replace hs := it_t c_15 hs
    obtain rfl := Option.some.inj hs
    exact W.vret hx hb hr (fun t ht hW => ⟨⟨_, rfl, rfl, by rw [ht]; exact hP, hD⟩, hS.F ht⟩) hS.2.2 dX0_reduce_38
  · replace hs := it_f c_15 hs
    refine lv_aload_n hx hb dX0_reduce_18 rfl (lv_at hl 1 rfl) ?_
    refine lv_dup hx hb dX0_reduce_19 rfl ?_
    refine va_get (D := D) (ci := 1) (v := .long (fr_u Q)) (C := RX0) (T := TX0) (N := 2) hx hb hts in_X0 hown hK hP 0 rfl rfl 0 (by decide) lk_7 (fun _ h9 => h9) rfl dX0_reduce_20 ?_
    refine lv_lload_n hx hb dX0_reduce_23 rfl (lv_at hl 0 rfl) ?_
    obtain ⟨_, hz_24, hs⟩ := op_bd hs
    refine lv_ldiv hx hb dX0_reduce_24 (nz_l_ne hz_24) ?_
    obtain ⟨e_25, hv_25, hs⟩ := op_bd hs
    refine gx_nj (Option.some.inj hv_25) ?_
    refine va_put (D := D) (ci := 1) (v := .long e_25) (ty := .long) (C := RX0) (T := TX0) (N := 2) hx hb hts in_X0 tyX0 tyX0_ok nmX0 hown hK hP hD hS 0 rfl rfl 0 (by decide) lk_7 (fun _ h9 => h9) rfl (by decide +kernel) rfl rfl (Nat.le_of_ble_eq_true rfl) dX0_reduce_25 (fun H locs hP hD hS => ?_)
    have hP : va_P D vwCl (fr_w f0 (fs_u Q e_25)) H := hP
    have hD : va_D A (fr_w f0 (fs_u Q e_25)) := hD
    refine lv_aload_n hx hb dX0_reduce_28 rfl (lv_at hl 1 rfl) ?_
    refine lv_dup hx hb dX0_reduce_29 rfl ?_
    refine va_get (D := D) (ci := 1) (v := .long (fr_l Q)) (C := RX0) (T := TX0) (N := 2) hx hb hts in_X0 hown hK hP 0 rfl rfl 1 (by decide) lk_13 (fun _ h9 => h9) rfl dX0_reduce_30 ?_
    refine lv_lload_n hx hb dX0_reduce_33 rfl (lv_at hl 0 rfl) ?_
    obtain ⟨_, hz_34, hs⟩ := op_bd hs
    refine lv_ldiv hx hb dX0_reduce_34 (nz_l_ne hz_34) ?_
    obtain ⟨e_35, hv_35, hs⟩ := op_bd hs
    refine gx_nj (Option.some.inj hv_35) ?_
    refine va_put (D := D) (ci := 1) (v := .long e_35) (ty := .long) (C := RX0) (T := TX0) (N := 2) hx hb hts in_X0 tyX0 tyX0_ok nmX0 hown hK hP hD hS 0 rfl rfl 1 (by decide) lk_13 (fun _ h9 => h9) rfl (by decide +kernel) rfl rfl (Nat.le_of_ble_eq_true rfl) dX0_reduce_35 (fun H locs hP hD hS => ?_)
    have hP : va_P D vwCl (fr_w f0 (e_25, e_35)) H := hP
    have hD : va_D A (fr_w f0 (e_25, e_35)) := hD
    obtain rfl := Option.some.inj hs
    exact W.vret hx hb hr (fun t ht hW => ⟨⟨_, rfl, rfl, by rw [ht]; exact hP, hD⟩, hS.F ht⟩) hS.2.2 dX0_reduce_38
def s_X2_lessenBySide (F : Nat) (S : sh_T) (p1 : Int32) (p2 : Int32) (p3 : Int32) (Q : fr_T) : Option fr_T :=
  (rd_i (sh_n S) (sh_x S) (p1 + 1)).bind fun v_7 =>
  (rd_i (sh_n S) (sh_x S) p1).bind fun v_13 =>
  (some (((v_7 - v_13)).toInt64)).bind fun e_16 =>
  (rd_i (sh_n S) (sh_y S) (p1 + 1)).bind fun v_25 =>
  (rd_i (sh_n S) (sh_y S) p1).bind fun v_31 =>
  (some (((v_25 - v_31)).toInt64)).bind fun e_34 =>
  (s_X2_squareOf F e_16 e_34).bind fun v_40 =>
  (rd_i (sh_n S) (sh_x S) p1).bind fun v_53 =>
  (rd_i (sh_n S) (sh_y S) p1).bind fun v_65 =>
  (some (((e_16 * ((p2 - v_53)).toInt64) + (e_34 * ((p3 - v_65)).toInt64)))).bind fun e_70 =>
  if 0 < (lg_cmp e_70 0) then
    if (lg_cmp e_70 v_40) < 0 then
      (s_X2_turn F S p1 p2 p3).bind fun v_155 =>
      (s_X0_lessen F Q (v_155 * v_155) v_40).bind fun v_169 =>
      some v_169
    else
      (rd_i (sh_n S) (sh_x S) (p1 + 1)).bind fun v_127 =>
      (rd_i (sh_n S) (sh_y S) (p1 + 1)).bind fun v_138 =>
      (s_X2_squareOf F (((p2 - v_127)).toInt64) (((p3 - v_138)).toInt64)).bind fun v_141 =>
      (s_X0_lessen F Q v_141 1).bind fun v_145 =>
      some v_145
  else
    (rd_i (sh_n S) (sh_x S) p1).bind fun v_87 =>
    (rd_i (sh_n S) (sh_y S) p1).bind fun v_96 =>
    (s_X2_squareOf F (((p2 - v_87)).toInt64) (((p3 - v_96)).toInt64)).bind fun v_99 =>
    (s_X0_lessen F Q v_99 1).bind fun v_103 =>
    some v_103
abbrev rm_X2_lessenBySide : Room := { frames := 2, cells := 0, slots := 0, locals := 55 }
theorem in_X2_lessenBySide_X2 : ∀ w ∈ wsX20, w ∈ wsX2_lessenBySide := by decide +kernel
set_option maxHeartbeats 4000000 in
set_option maxRecDepth 100000 in
theorem c_X2_lessenBySide (l : Launch) (D : va_G) (cI cJ cZ cS : ClassId) (ad : Nat → Nat) (h0 sx sy f0 : Nat) (sz : Nat) (S : sh_T) (p1 : Int32) (p2 : Int32) (p3 : Int32) (Q : fr_T) (F : Nat) (hkS : sh_k S < 3) (r : fr_T) (hs : s_X2_lessenBySide F S p1 p2 p3 Q = some r) : Met l yX2_lessenBySide wsX2_lessenBySide rm_X2_lessenBySide (gm_P D cI cJ cZ cS ad sz (fr_w f0 Q) (sh_w cI ad h0 sx sy S) [.ref h0, .int p1, .int p2, .int p3, .ref f0]) (va_Qv (fun u : fr_T => u = r) (fun u t => va_P D vwCl (fr_w f0 u) t.heap ∧ va_D (va_A (fr_w f0 Q) sz) (fr_w f0 u)) (va_A (fr_w f0 Q) sz)) 0 0 (va_A (fr_w f0 Q) sz) := by
  refine Met.ofW (cc := cX2_lessenBySide) (maxL := 15) (ret := none) (by decide) rfl ?_
  intro p e s m args below meth c s₁ B hml hv
  obtain ⟨rfl, hsz, hK, hE, hP, hD0, hR, hRn0⟩ := hv
  have hx := B.exec
  have hb := B.bytes
  have hr := B.returns
  have hts := atoms_spec (ws := wsX2_lessenBySide) B.pre
  have hown : s.vm.findClass RX2 = some m.cls := findClass_of_methodNamed B.named
  have hlocks := B.notSynchronized
  subst hsz
  have hD := hD0.self (sz := s.heap.size)
  have hRn := gx_rn0 hR hRn0
  generalize hAe : va_A (fr_w f0 Q) s.heap.size = A at hD hE hRn ⊢
  have hA : ∀ q : Nat, s.heap.size ≤ q → A q := fun q h => by rw [← hAe]; exact Or.inr h
  have hS : va_S A s.heap s.heap [] := va_S.rf
  have lk_39 := hts (.fieldLink RX2 39 "PlacePoints$Shape" "xs" "[I") (by decide +kernel)
  have lk_43 := hts (.fieldLink RX2 43 "PlacePoints$Shape" "ys" "[I") (by decide +kernel)
  have in_X2 := in_X2_lessenBySide_X2
  have hl := lv_entry ([.ref h0, .int p1, .int p2, .int p3, .ref f0]) (n := 15) (Nat.le_of_ble_eq_true rfl)
  rw [lg_entry_eq]
  generalize (lg_sl ([.ref h0, .int p1, .int p2, .int p3, .ref f0]) ++ List.replicate (15 - (lg_sl ([.ref h0, .int p1, .int p2, .int p3, .ref f0])).length) Slot.unset).toArray = ls at hl ⊢
  have hl : lv_has ls 15 [(0, .ref h0), (1, .int p1), (2, .int p2), (3, .int p3), (4, .ref f0)] := hl
  rw [s_X2_lessenBySide] at hs
  refine lv_aload_n hx hb dX2_lessenBySide_0 rfl (lv_at hl 0 rfl) ?_
  refine va_get (D := D) (ci := 2) (v := .ref sx) (C := RX2) (T := TX2) (N := 9) hx hb hts in_X2 hown hK (gx_ro hR hRn hS) 0 rfl rfl 3 (by decide) lk_39 (fun _ h9 => h9) rfl dX2_lessenBySide_1 ?_
  refine lv_iload_n hx hb dX2_lessenBySide_4 rfl (lv_at hl 1 rfl) ?_
  refine lv_iconst (v := 1) hx hb dX2_lessenBySide_5 (by decide) ?_
  refine lv_iadd hx hb dX2_lessenBySide_6 ?_
  obtain ⟨v_7, hv_7, hs⟩ := op_bd hs
  refine gx_iald hx hb hK (gx_ro hR hRn hS) 1 0 rfl rfl hv_7 dX2_lessenBySide_7 ?_
  refine lv_aload_n hx hb dX2_lessenBySide_8 rfl (lv_at hl 0 rfl) ?_
  refine va_get (D := D) (ci := 2) (v := .ref sx) (C := RX2) (T := TX2) (N := 9) hx hb hts in_X2 hown hK (gx_ro hR hRn hS) 0 rfl rfl 3 (by decide) lk_39 (fun _ h9 => h9) rfl dX2_lessenBySide_9 ?_
  refine lv_iload_n hx hb dX2_lessenBySide_12 rfl (lv_at hl 1 rfl) ?_
  obtain ⟨v_13, hv_13, hs⟩ := op_bd hs
  refine gx_iald hx hb hK (gx_ro hR hRn hS) 1 0 rfl rfl hv_13 dX2_lessenBySide_13 ?_
  refine lv_isub hx hb dX2_lessenBySide_14 ?_
  refine lv_i2l hx hb dX2_lessenBySide_15 rfl ?_
  obtain ⟨e_16, hv_16, hs⟩ := op_bd hs
  refine gx_nj (Option.some.inj hv_16) ?_
  refine lv_lstore (lv' := [(5, .long e_16), (0, .ref h0), (1, .int p1), (2, .int p2), (3, .int p3), (4, .ref f0)]) hx hb dX2_lessenBySide_16 hl (by decide) rfl (fun ls hl => ?_)
  refine lv_aload_n hx hb dX2_lessenBySide_18 rfl (lv_at hl 1 rfl) ?_
  refine va_get (D := D) (ci := 2) (v := .ref sy) (C := RX2) (T := TX2) (N := 9) hx hb hts in_X2 hown hK (gx_ro hR hRn hS) 0 rfl rfl 4 (by decide) lk_43 (fun _ h9 => h9) rfl dX2_lessenBySide_19 ?_
  refine lv_iload_n hx hb dX2_lessenBySide_22 rfl (lv_at hl 2 rfl) ?_
  refine lv_iconst (v := 1) hx hb dX2_lessenBySide_23 (by decide) ?_
  refine lv_iadd hx hb dX2_lessenBySide_24 ?_
  obtain ⟨v_25, hv_25, hs⟩ := op_bd hs
  refine gx_iald hx hb hK (gx_ro hR hRn hS) 2 0 rfl rfl hv_25 dX2_lessenBySide_25 ?_
  refine lv_aload_n hx hb dX2_lessenBySide_26 rfl (lv_at hl 1 rfl) ?_
  refine va_get (D := D) (ci := 2) (v := .ref sy) (C := RX2) (T := TX2) (N := 9) hx hb hts in_X2 hown hK (gx_ro hR hRn hS) 0 rfl rfl 4 (by decide) lk_43 (fun _ h9 => h9) rfl dX2_lessenBySide_27 ?_
  refine lv_iload_n hx hb dX2_lessenBySide_30 rfl (lv_at hl 2 rfl) ?_
  obtain ⟨v_31, hv_31, hs⟩ := op_bd hs
  refine gx_iald hx hb hK (gx_ro hR hRn hS) 2 0 rfl rfl hv_31 dX2_lessenBySide_31 ?_
  refine lv_isub hx hb dX2_lessenBySide_32 ?_
  refine lv_i2l hx hb dX2_lessenBySide_33 rfl ?_
  obtain ⟨e_34, hv_34, hs⟩ := op_bd hs
  refine gx_nj (Option.some.inj hv_34) ?_
  refine lv_lstore (lv' := [(7, .long e_34), (5, .long e_16), (0, .ref h0), (1, .int p1), (2, .int p2), (3, .int p3), (4, .ref f0)]) hx hb dX2_lessenBySide_34 hl (by decide) rfl (fun ls hl => ?_)
  refine lv_lload hx hb dX2_lessenBySide_36 (lv_at hl 1 rfl) ?_
  refine lv_lload hx hb dX2_lessenBySide_38 (lv_at hl 0 rfl) ?_
  obtain ⟨v_40, hc_40, hs⟩ := op_bd hs
  refine gx_cSl (va_Run.run (va_runS (As := [.long e_16, .long e_34]) (rest := []) ⟨hx, hb, hml, hown, hts⟩ (c_X2_squareOf l D cI cJ cZ cS ad e_16 e_34 F  v_40 hc_40) (va_cwS 2 hts gX2_lessenBySide_X2_squareOf rfl rfl rfl (by decide +kernel) ⟨Nat.le_of_ble_eq_true rfl, Nat.le_of_ble_eq_true rfl⟩) ⟨gl_blind, gl_ok hK (gl_Ek hE hS) trivial⟩ rfl rfl hl.1 rfl (lv_room (Nat.le_of_ble_eq_true rfl)) dX2_lessenBySide_40 ⟨Nat.le_of_ble_eq_true rfl, Nat.le_of_ble_eq_true rfl⟩)) ?_
  refine lv_lstore (lv' := [(9, .long v_40), (7, .long e_34), (5, .long e_16), (0, .ref h0), (1, .int p1), (2, .int p2), (3, .int p3), (4, .ref f0)]) hx hb dX2_lessenBySide_43 hl (by decide) rfl (fun ls hl => ?_)
  refine lv_lload hx hb dX2_lessenBySide_45 (lv_at hl 2 rfl) ?_
  refine lv_iload_n hx hb dX2_lessenBySide_47 rfl (lv_at hl 5 rfl) ?_
  refine lv_aload_n hx hb dX2_lessenBySide_48 rfl (lv_at hl 3 rfl) ?_
  refine va_get (D := D) (ci := 2) (v := .ref sx) (C := RX2) (T := TX2) (N := 9) hx hb hts in_X2 hown hK (gx_ro hR hRn hS) 0 rfl rfl 3 (by decide) lk_39 (fun _ h9 => h9) rfl dX2_lessenBySide_49 ?_
  refine lv_iload_n hx hb dX2_lessenBySide_52 rfl (lv_at hl 4 rfl) ?_
  obtain ⟨v_53, hv_53, hs⟩ := op_bd hs
  refine gx_iald hx hb hK (gx_ro hR hRn hS) 1 0 rfl rfl hv_53 dX2_lessenBySide_53 ?_
  refine lv_isub hx hb dX2_lessenBySide_54 ?_
  refine lv_i2l hx hb dX2_lessenBySide_55 rfl ?_
  refine lv_lmul hx hb dX2_lessenBySide_56 ?_
  refine lv_lload hx hb dX2_lessenBySide_57 (lv_at hl 1 rfl) ?_
  refine lv_iload_n hx hb dX2_lessenBySide_59 rfl (lv_at hl 6 rfl) ?_
  refine lv_aload_n hx hb dX2_lessenBySide_60 rfl (lv_at hl 3 rfl) ?_
  refine va_get (D := D) (ci := 2) (v := .ref sy) (C := RX2) (T := TX2) (N := 9) hx hb hts in_X2 hown hK (gx_ro hR hRn hS) 0 rfl rfl 4 (by decide) lk_43 (fun _ h9 => h9) rfl dX2_lessenBySide_61 ?_
  refine lv_iload_n hx hb dX2_lessenBySide_64 rfl (lv_at hl 4 rfl) ?_
  obtain ⟨v_65, hv_65, hs⟩ := op_bd hs
  refine gx_iald hx hb hK (gx_ro hR hRn hS) 2 0 rfl rfl hv_65 dX2_lessenBySide_65 ?_
  refine lv_isub hx hb dX2_lessenBySide_66 ?_
  refine lv_i2l hx hb dX2_lessenBySide_67 rfl ?_
  refine lv_lmul hx hb dX2_lessenBySide_68 ?_
  refine lv_ladd hx hb dX2_lessenBySide_69 ?_
  obtain ⟨e_70, hv_70, hs⟩ := op_bd hs
  refine gx_nj (Option.some.inj hv_70) ?_
  refine lv_lstore (lv' := [(11, .long e_70), (9, .long v_40), (7, .long e_34), (5, .long e_16), (0, .ref h0), (1, .int p1), (2, .int p2), (3, .int p3), (4, .ref f0)]) hx hb dX2_lessenBySide_70 hl (by decide) rfl (fun ls hl => ?_)
  refine lv_lload hx hb dX2_lessenBySide_72 (lv_at hl 0 rfl) ?_
  refine lv_lconst (v := 0) hx hb dX2_lessenBySide_74 (by decide) ?_
  refine W.lcmp hx hb dX2_lessenBySide_75 ?_
  refine lv_if_gt (tgt := 109) hx hb dX2_lessenBySide_76 (by decide) (fun c_76 => ?_) (fun c_76 => ?_)
  · replace hs := it_t c_76 hs
    refine lv_lload hx hb dX2_lessenBySide_109 (lv_at hl 0 rfl) ?_
    refine lv_lload hx hb dX2_lessenBySide_111 (lv_at hl 1 rfl) ?_
    refine W.lcmp hx hb dX2_lessenBySide_113 ?_
    refine lv_if_lt (tgt := 151) hx hb dX2_lessenBySide_114 (by decide) (fun c_114 => ?_) (fun c_114 => ?_)
    · replace hs := it_t c_114 hs
      refine lv_aload_n hx hb dX2_lessenBySide_151 rfl (lv_at hl 4 rfl) ?_
      refine lv_iload_n hx hb dX2_lessenBySide_152 rfl (lv_at hl 5 rfl) ?_
      refine lv_iload_n hx hb dX2_lessenBySide_153 rfl (lv_at hl 6 rfl) ?_
      refine lv_iload_n hx hb dX2_lessenBySide_154 rfl (lv_at hl 7 rfl) ?_
      obtain ⟨v_155, hc_155, hs⟩ := op_bd hs
      refine gx_cSl (va_Run.run (va_runV (As := [.int p1, .int p2, .int p3]) (rest := []) ⟨hx, hb, hml, hown, hts⟩ (c_X2_turn l D cI cJ cZ cS ad h0 sx sy S p1 p2 p3 F hkS v_155 hc_155) (cwV 3 hts gX2_lessenBySide_X2_turn rfl rfl rfl (by decide +kernel) ⟨Nat.le_of_ble_eq_true rfl, Nat.le_of_ble_eq_true rfl⟩) ⟨gl_blind, va_recv hK (gx_ro hR hRn hS) (ci := 2) (q0 := 0) rfl rfl, gl_ok hK (gl_Ek hE hS) ((gx_ro hR hRn hS).sub [0, 1, 2] rfl)⟩ rfl rfl hl.1 rfl (lv_room (Nat.le_of_ble_eq_true rfl)) dX2_lessenBySide_155 ⟨Nat.le_of_ble_eq_true rfl, Nat.le_of_ble_eq_true rfl⟩)) ?_
      refine lv_lstore (lv' := [(13, .long v_155), (11, .long e_70), (9, .long v_40), (7, .long e_34), (5, .long e_16), (0, .ref h0), (1, .int p1), (2, .int p2), (3, .int p3), (4, .ref f0)]) hx hb dX2_lessenBySide_158 hl (by decide) rfl (fun ls hl => ?_)
      refine lv_aload hx hb dX2_lessenBySide_160 (lv_at hl 9 rfl) ?_
      refine lv_lload hx hb dX2_lessenBySide_162 (lv_at hl 0 rfl) ?_
      refine lv_lload hx hb dX2_lessenBySide_164 (lv_at hl 0 rfl) ?_
      refine lv_lmul hx hb dX2_lessenBySide_166 ?_
      refine lv_lload hx hb dX2_lessenBySide_167 (lv_at hl 2 rfl) ?_
      obtain ⟨v_169, hc_169, hs⟩ := op_bd hs
      have hFc := va_free (wc := fr_w f0 Q) hD hS hA [0] rfl
      refine gx_cMv (wf := fun u => fr_w f0 u) (va_runV (As := [.long (v_155 * v_155), .long v_40]) (rest := []) ⟨hx, hb, hml, hown, hts⟩ (c_X0_lessen l D cI cJ cZ cS ad f0 _ Q (v_155 * v_155) v_40 F  v_169 hc_169) (cwV 2 hts gX2_lessenBySide_X0_lessen rfl rfl rfl (by decide +kernel) ⟨Nat.le_of_ble_eq_true rfl, Nat.le_of_ble_eq_true rfl⟩) ⟨gm_blind, va_recv hK hP (ci := 1) (q0 := 0) rfl rfl, gm_ok hK hE hS hFc hP hD va_nil0 gx_nil⟩ rfl rfl hl.1 rfl (lv_room (Nat.le_of_ble_eq_true rfl)) dX2_lessenBySide_169 ⟨Nat.le_of_ble_eq_true rfl, Nat.le_of_ble_eq_true rfl⟩) hS hFc (fun H locs hP hD hS => ?_)
      have hP : va_P D vwCl (fr_w f0 v_169) H := hP
      have hD : va_D A (fr_w f0 v_169) := hD
      obtain rfl := Option.some.inj hs
      exact W.vret hx hb hr (fun t ht hW => ⟨⟨_, rfl, rfl, by rw [ht]; exact hP, hD⟩, hS.F ht⟩) hS.2.2 dX2_lessenBySide_172
    · replace hs := it_f c_114 hs
      refine lv_aload hx hb dX2_lessenBySide_117 (lv_at hl 8 rfl) ?_
      refine lv_iload_n hx hb dX2_lessenBySide_119 rfl (lv_at hl 6 rfl) ?_
      refine lv_aload_n hx hb dX2_lessenBySide_120 rfl (lv_at hl 4 rfl) ?_
      refine va_get (D := D) (ci := 2) (v := .ref sx) (C := RX2) (T := TX2) (N := 9) hx hb hts in_X2 hown hK (gx_ro hR hRn hS) 0 rfl rfl 3 (by decide) lk_39 (fun _ h9 => h9) rfl dX2_lessenBySide_121 ?_
      refine lv_iload_n hx hb dX2_lessenBySide_124 rfl (lv_at hl 5 rfl) ?_
      refine lv_iconst (v := 1) hx hb dX2_lessenBySide_125 (by decide) ?_
      refine lv_iadd hx hb dX2_lessenBySide_126 ?_
      obtain ⟨v_127, hv_127, hs⟩ := op_bd hs
      refine gx_iald hx hb hK (gx_ro hR hRn hS) 1 0 rfl rfl hv_127 dX2_lessenBySide_127 ?_
      refine lv_isub hx hb dX2_lessenBySide_128 ?_
      refine lv_i2l hx hb dX2_lessenBySide_129 rfl ?_
      refine lv_iload_n hx hb dX2_lessenBySide_130 rfl (lv_at hl 7 rfl) ?_
      refine lv_aload_n hx hb dX2_lessenBySide_131 rfl (lv_at hl 4 rfl) ?_
      refine va_get (D := D) (ci := 2) (v := .ref sy) (C := RX2) (T := TX2) (N := 9) hx hb hts in_X2 hown hK (gx_ro hR hRn hS) 0 rfl rfl 4 (by decide) lk_43 (fun _ h9 => h9) rfl dX2_lessenBySide_132 ?_
      refine lv_iload_n hx hb dX2_lessenBySide_135 rfl (lv_at hl 5 rfl) ?_
      refine lv_iconst (v := 1) hx hb dX2_lessenBySide_136 (by decide) ?_
      refine lv_iadd hx hb dX2_lessenBySide_137 ?_
      obtain ⟨v_138, hv_138, hs⟩ := op_bd hs
      refine gx_iald hx hb hK (gx_ro hR hRn hS) 2 0 rfl rfl hv_138 dX2_lessenBySide_138 ?_
      refine lv_isub hx hb dX2_lessenBySide_139 ?_
      refine lv_i2l hx hb dX2_lessenBySide_140 rfl ?_
      obtain ⟨v_141, hc_141, hs⟩ := op_bd hs
      refine gx_cSl (va_Run.run (va_runS (As := [.long (((p2 - v_127)).toInt64), .long (((p3 - v_138)).toInt64)]) (rest := [.ref f0]) ⟨hx, hb, hml, hown, hts⟩ (c_X2_squareOf l D cI cJ cZ cS ad (((p2 - v_127)).toInt64) (((p3 - v_138)).toInt64) F  v_141 hc_141) (va_cwS 2 hts gX2_lessenBySide_X2_squareOf rfl rfl rfl (by decide +kernel) ⟨Nat.le_of_ble_eq_true rfl, Nat.le_of_ble_eq_true rfl⟩) ⟨gl_blind, gl_ok hK (gl_Ek hE hS) trivial⟩ rfl rfl hl.1 rfl (lv_room (Nat.le_of_ble_eq_true rfl)) dX2_lessenBySide_141 ⟨Nat.le_of_ble_eq_true rfl, Nat.le_of_ble_eq_true rfl⟩)) ?_
      refine lv_lconst (v := 1) hx hb dX2_lessenBySide_144 (by decide) ?_
      obtain ⟨v_145, hc_145, hs⟩ := op_bd hs
      have hFc := va_free (wc := fr_w f0 Q) hD hS hA [0] rfl
      refine gx_cMv (wf := fun u => fr_w f0 u) (va_runV (As := [.long v_141, .long 1]) (rest := []) ⟨hx, hb, hml, hown, hts⟩ (c_X0_lessen l D cI cJ cZ cS ad f0 _ Q v_141 1 F  v_145 hc_145) (cwV 2 hts gX2_lessenBySide_X0_lessen rfl rfl rfl (by decide +kernel) ⟨Nat.le_of_ble_eq_true rfl, Nat.le_of_ble_eq_true rfl⟩) ⟨gm_blind, va_recv hK hP (ci := 1) (q0 := 0) rfl rfl, gm_ok hK hE hS hFc hP hD va_nil0 gx_nil⟩ rfl rfl hl.1 rfl (lv_room (Nat.le_of_ble_eq_true rfl)) dX2_lessenBySide_145 ⟨Nat.le_of_ble_eq_true rfl, Nat.le_of_ble_eq_true rfl⟩) hS hFc (fun H locs hP hD hS => ?_)
      have hP : va_P D vwCl (fr_w f0 v_145) H := hP
      have hD : va_D A (fr_w f0 v_145) := hD
      refine lv_goto (tgt := 172) hx hb dX2_lessenBySide_148 (by decide) ?_
      obtain rfl := Option.some.inj hs
      exact W.vret hx hb hr (fun t ht hW => ⟨⟨_, rfl, rfl, by rw [ht]; exact hP, hD⟩, hS.F ht⟩) hS.2.2 dX2_lessenBySide_172
  · replace hs := it_f c_76 hs
    refine lv_aload hx hb dX2_lessenBySide_79 (lv_at hl 8 rfl) ?_
    refine lv_iload_n hx hb dX2_lessenBySide_81 rfl (lv_at hl 6 rfl) ?_
    refine lv_aload_n hx hb dX2_lessenBySide_82 rfl (lv_at hl 4 rfl) ?_
    refine va_get (D := D) (ci := 2) (v := .ref sx) (C := RX2) (T := TX2) (N := 9) hx hb hts in_X2 hown hK (gx_ro hR hRn hS) 0 rfl rfl 3 (by decide) lk_39 (fun _ h9 => h9) rfl dX2_lessenBySide_83 ?_
    refine lv_iload_n hx hb dX2_lessenBySide_86 rfl (lv_at hl 5 rfl) ?_
    obtain ⟨v_87, hv_87, hs⟩ := op_bd hs
    refine gx_iald hx hb hK (gx_ro hR hRn hS) 1 0 rfl rfl hv_87 dX2_lessenBySide_87 ?_
    refine lv_isub hx hb dX2_lessenBySide_88 ?_
    refine lv_i2l hx hb dX2_lessenBySide_89 rfl ?_
    refine lv_iload_n hx hb dX2_lessenBySide_90 rfl (lv_at hl 7 rfl) ?_
    refine lv_aload_n hx hb dX2_lessenBySide_91 rfl (lv_at hl 4 rfl) ?_
    refine va_get (D := D) (ci := 2) (v := .ref sy) (C := RX2) (T := TX2) (N := 9) hx hb hts in_X2 hown hK (gx_ro hR hRn hS) 0 rfl rfl 4 (by decide) lk_43 (fun _ h9 => h9) rfl dX2_lessenBySide_92 ?_
    refine lv_iload_n hx hb dX2_lessenBySide_95 rfl (lv_at hl 5 rfl) ?_
    obtain ⟨v_96, hv_96, hs⟩ := op_bd hs
    refine gx_iald hx hb hK (gx_ro hR hRn hS) 2 0 rfl rfl hv_96 dX2_lessenBySide_96 ?_
    refine lv_isub hx hb dX2_lessenBySide_97 ?_
    refine lv_i2l hx hb dX2_lessenBySide_98 rfl ?_
    obtain ⟨v_99, hc_99, hs⟩ := op_bd hs
    refine gx_cSl (va_Run.run (va_runS (As := [.long (((p2 - v_87)).toInt64), .long (((p3 - v_96)).toInt64)]) (rest := [.ref f0]) ⟨hx, hb, hml, hown, hts⟩ (c_X2_squareOf l D cI cJ cZ cS ad (((p2 - v_87)).toInt64) (((p3 - v_96)).toInt64) F  v_99 hc_99) (va_cwS 2 hts gX2_lessenBySide_X2_squareOf rfl rfl rfl (by decide +kernel) ⟨Nat.le_of_ble_eq_true rfl, Nat.le_of_ble_eq_true rfl⟩) ⟨gl_blind, gl_ok hK (gl_Ek hE hS) trivial⟩ rfl rfl hl.1 rfl (lv_room (Nat.le_of_ble_eq_true rfl)) dX2_lessenBySide_99 ⟨Nat.le_of_ble_eq_true rfl, Nat.le_of_ble_eq_true rfl⟩)) ?_
    refine lv_lconst (v := 1) hx hb dX2_lessenBySide_102 (by decide) ?_
    obtain ⟨v_103, hc_103, hs⟩ := op_bd hs
    have hFc := va_free (wc := fr_w f0 Q) hD hS hA [0] rfl
    refine gx_cMv (wf := fun u => fr_w f0 u) (va_runV (As := [.long v_99, .long 1]) (rest := []) ⟨hx, hb, hml, hown, hts⟩ (c_X0_lessen l D cI cJ cZ cS ad f0 _ Q v_99 1 F  v_103 hc_103) (cwV 2 hts gX2_lessenBySide_X0_lessen rfl rfl rfl (by decide +kernel) ⟨Nat.le_of_ble_eq_true rfl, Nat.le_of_ble_eq_true rfl⟩) ⟨gm_blind, va_recv hK hP (ci := 1) (q0 := 0) rfl rfl, gm_ok hK hE hS hFc hP hD va_nil0 gx_nil⟩ rfl rfl hl.1 rfl (lv_room (Nat.le_of_ble_eq_true rfl)) dX2_lessenBySide_103 ⟨Nat.le_of_ble_eq_true rfl, Nat.le_of_ble_eq_true rfl⟩) hS hFc (fun H locs hP hD hS => ?_)
    have hP : va_P D vwCl (fr_w f0 v_103) H := hP
    have hD : va_D A (fr_w f0 v_103) := hD
    refine lv_goto (tgt := 172) hx hb dX2_lessenBySide_106 (by decide) ?_
    obtain rfl := Option.some.inj hs
    exact W.vret hx hb hr (fun t ht hW => ⟨⟨_, rfl, rfl, by rw [ht]; exact hP, hD⟩, hS.F ht⟩) hS.2.2 dX2_lessenBySide_172
def s_X2_lessenByCorners_13 (F : Nat) (S : sh_T) (T : sh_T) (Q : fr_T) (kc_2 : Int32 → fr_T → Option fr_T) : Nat → Int32 → Int32 → fr_T → Option fr_T
  | 0, _, _, _ => none
  | n + 1, x3, x4, Z =>
    (s_X2_sideCount F T).bind fun v_16 =>
    if v_16 ≤ x4 then
      (some (x3 + 1)).bind fun e_47 =>
      kc_2 e_47 Z
    else
      (rd_i (sh_n S) (sh_x S) x3).bind fun v_30 =>
      (rd_i (sh_n S) (sh_y S) x3).bind fun v_36 =>
      (s_X2_lessenBySide F T x4 v_30 v_36 Z).bind fun v_38 =>
      (some (x4 + 1)).bind fun e_41 =>
      s_X2_lessenByCorners_13 F S T Q kc_2 n x3 e_41 v_38
def s_X2_lessenByCorners_2 (F : Nat) (S : sh_T) (T : sh_T) (Q : fr_T) : Nat → Int32 → fr_T → Option fr_T
  | 0, _, _ => none
  | n + 1, x3, Z =>
    if (sh_z S) ≤ x3 then
      some Z
    else
      s_X2_lessenByCorners_13 F S T Q (fun y0 y1 => s_X2_lessenByCorners_2 F S T Q n y0 y1) F x3 0 Z
def s_X2_lessenByCorners (F : Nat) (S : sh_T) (T : sh_T) (Q : fr_T) : Option fr_T :=
  s_X2_lessenByCorners_2 F S T Q F 0 Q
abbrev rm_X2_lessenByCorners : Room := { frames := 3, cells := 0, slots := 0, locals := 89 }
theorem in_X2_lessenByCorners_X2 : ∀ w ∈ wsX20, w ∈ wsX2_lessenByCorners := by decide +kernel
set_option maxHeartbeats 4000000 in
set_option maxRecDepth 100000 in
theorem c_X2_lessenByCorners (l : Launch) (D : va_G) (cI cJ cZ cS : ClassId) (ad : Nat → Nat) (h0 sx sy k0 kx ky f0 : Nat) (sz : Nat) (S : sh_T) (T : sh_T) (Q : fr_T) (F : Nat) (hkS : sh_k S < 3) (hkT : sh_k T < 3) (r : fr_T) (hs : s_X2_lessenByCorners F S T Q = some r) : Met l yX2_lessenByCorners wsX2_lessenByCorners rm_X2_lessenByCorners (gm_P D cI cJ cZ cS ad sz (fr_w f0 Q) (sh_w cI ad h0 sx sy S ++ sh_w cI ad k0 kx ky T) [.ref h0, .ref k0, .ref f0]) (va_Qv (fun u : fr_T => u = r) (fun u t => va_P D vwCl (fr_w f0 u) t.heap ∧ va_D (va_A (fr_w f0 Q) sz) (fr_w f0 u)) (va_A (fr_w f0 Q) sz)) 0 0 (va_A (fr_w f0 Q) sz) := by
  refine Met.ofW (cc := cX2_lessenByCorners) (maxL := 5) (ret := none) (by decide) rfl ?_
  intro p e s m args below meth c s₁ B hml hv
  obtain ⟨rfl, hsz, hK, hE, hP, hD0, hR, hRn0⟩ := hv
  have hx := B.exec
  have hb := B.bytes
  have hr := B.returns
  have hts := atoms_spec (ws := wsX2_lessenByCorners) B.pre
  have hown : s.vm.findClass RX2 = some m.cls := findClass_of_methodNamed B.named
  have hlocks := B.notSynchronized
  subst hsz
  have hD := hD0.self (sz := s.heap.size)
  have hRn := gx_rn0 hR hRn0
  generalize hAe : va_A (fr_w f0 Q) s.heap.size = A at hD hE hRn ⊢
  have hA : ∀ q : Nat, s.heap.size ≤ q → A q := fun q h => by rw [← hAe]; exact Or.inr h
  have hS : va_S A s.heap s.heap [] := va_S.rf
  have lk_9 := hts (.fieldLink RX2 9 "PlacePoints$Shape" "size" "I") (by decide +kernel)
  have lk_39 := hts (.fieldLink RX2 39 "PlacePoints$Shape" "xs" "[I") (by decide +kernel)
  have lk_43 := hts (.fieldLink RX2 43 "PlacePoints$Shape" "ys" "[I") (by decide +kernel)
  have in_X2 := in_X2_lessenByCorners_X2
  have J_2 : ∀ (n_2 : Nat) (x3 : Int32) (Z : fr_T), s_X2_lessenByCorners_2 F S T Q n_2 x3 Z = some r → ∀ (H : Heap) (locs : List Loc), va_P D vwCl (fr_w f0 Z) H → va_D A (fr_w f0 Z) → va_S A s.heap H locs → ∀ ls : Array Slot, lv_has ls 5 [(0, .ref h0), (1, .ref k0), (2, .ref f0), (3, .int x3)] → W p l e (headSpec wsX2_lessenByCorners rm_X2_lessenByCorners).room s m ([.ref h0, .ref k0, .ref f0] : List Value).toArray below meth c H locs 0 0 (MQ below (va_Qv (fun u : fr_T => u = r) (fun u t => va_P D vwCl (fr_w f0 u) t.heap ∧ va_D (A) (fr_w f0 u)) (A)) ([.ref h0, .ref k0, .ref f0] : List Value).toArray s 0 0 (A)) (F0 m 2 ls []) := by
    intro n_2
    induction n_2 with
    | zero =>
      intro x3 Z hs
      cases hs
    | succ n_2 ih_2 =>
      have J_13 : ∀ (n_13 : Nat) (x3 : Int32) (x4 : Int32) (Z : fr_T), s_X2_lessenByCorners_13 F S T Q (fun y0 y1 => s_X2_lessenByCorners_2 F S T Q n_2 y0 y1) n_13 x3 x4 Z = some r → ∀ (H : Heap) (locs : List Loc), va_P D vwCl (fr_w f0 Z) H → va_D A (fr_w f0 Z) → va_S A s.heap H locs → ∀ ls : Array Slot, lv_has ls 5 [(0, .ref h0), (1, .ref k0), (2, .ref f0), (3, .int x3), (4, .int x4)] → W p l e (headSpec wsX2_lessenByCorners rm_X2_lessenByCorners).room s m ([.ref h0, .ref k0, .ref f0] : List Value).toArray below meth c H locs 0 0 (MQ below (va_Qv (fun u : fr_T => u = r) (fun u t => va_P D vwCl (fr_w f0 u) t.heap ∧ va_D (A) (fr_w f0 u)) (A)) ([.ref h0, .ref k0, .ref f0] : List Value).toArray s 0 0 (A)) (F0 m 13 ls []) := by
        intro n_13
        induction n_13 with
        | zero =>
          intro x3 x4 Z hs
          cases hs
        | succ n_13 ih_13 =>
          intro x3 x4 Z hs H locs hP hD hS ls hl
          rw [s_X2_lessenByCorners_13] at hs
          refine lv_iload hx hb dX2_lessenByCorners_13 (lv_at hl 4 rfl) ?_
          refine lv_aload_n hx hb dX2_lessenByCorners_15 rfl (lv_at hl 1 rfl) ?_
          obtain ⟨v_16, hc_16, hs⟩ := op_bd hs
          refine gx_cSi (va_Run.run (va_runV (As := []) (rest := [.int x4]) ⟨hx, hb, hml, hown, hts⟩ (c_X2_sideCount l D cI cJ cZ cS ad k0 kx ky T F hkT v_16 hc_16) (cwV 0 hts gX2_lessenByCorners_X2_sideCount rfl rfl rfl (by decide +kernel) ⟨Nat.le_of_ble_eq_true rfl, Nat.le_of_ble_eq_true rfl⟩) ⟨gl_blind, va_recv hK (gx_ro hR hRn hS) (ci := 2) (q0 := 3) rfl rfl, gl_ok hK (gl_Ek hE hS) ((gx_ro hR hRn hS).sub [3, 4, 5] rfl)⟩ rfl rfl hl.1 rfl (lv_room (Nat.le_of_ble_eq_true rfl)) dX2_lessenByCorners_16 ⟨Nat.le_of_ble_eq_true rfl, Nat.le_of_ble_eq_true rfl⟩)) ?_
          refine lv_icmp_ge (tgt := 47) hx hb dX2_lessenByCorners_19 (by decide) (fun c_19 => ?_) (fun c_19 => ?_)
          · replace hs := it_t c_19 hs
            obtain ⟨e_47, hv_47, hs⟩ := op_bd hs
            refine lv_iinc (v := e_47) (lv' := [(3, .int e_47), (0, .ref h0), (1, .ref k0), (2, .ref f0), (4, .int x4)]) hx hb dX2_lessenByCorners_47 hl (k := 3) rfl (Option.some.inj hv_47) (by decide) rfl (fun ls hl => ?_)
            refine lv_goto (tgt := 2) hx hb dX2_lessenByCorners_50 (by decide) ?_
            exact ih_2 e_47 Z hs _ _ hP hD hS _ (lv_sub hl [1, 2, 3, 0] rfl)
          · replace hs := it_f c_19 hs
            refine lv_aload_n hx hb dX2_lessenByCorners_22 rfl (lv_at hl 1 rfl) ?_
            refine lv_iload hx hb dX2_lessenByCorners_23 (lv_at hl 4 rfl) ?_
            refine lv_aload_n hx hb dX2_lessenByCorners_25 rfl (lv_at hl 0 rfl) ?_
            refine va_get (D := D) (ci := 2) (v := .ref sx) (C := RX2) (T := TX2) (N := 9) hx hb hts in_X2 hown hK (gx_ro hR hRn hS) 0 rfl rfl 3 (by decide) lk_39 (fun _ h9 => h9) rfl dX2_lessenByCorners_26 ?_
            refine lv_iload_n hx hb dX2_lessenByCorners_29 rfl (lv_at hl 3 rfl) ?_
            obtain ⟨v_30, hv_30, hs⟩ := op_bd hs
            refine gx_iald hx hb hK (gx_ro hR hRn hS) 1 0 rfl rfl hv_30 dX2_lessenByCorners_30 ?_
            refine lv_aload_n hx hb dX2_lessenByCorners_31 rfl (lv_at hl 0 rfl) ?_
            refine va_get (D := D) (ci := 2) (v := .ref sy) (C := RX2) (T := TX2) (N := 9) hx hb hts in_X2 hown hK (gx_ro hR hRn hS) 0 rfl rfl 4 (by decide) lk_43 (fun _ h9 => h9) rfl dX2_lessenByCorners_32 ?_
            refine lv_iload_n hx hb dX2_lessenByCorners_35 rfl (lv_at hl 3 rfl) ?_
            obtain ⟨v_36, hv_36, hs⟩ := op_bd hs
            refine gx_iald hx hb hK (gx_ro hR hRn hS) 2 0 rfl rfl hv_36 dX2_lessenByCorners_36 ?_
            refine lv_aload_n hx hb dX2_lessenByCorners_37 rfl (lv_at hl 2 rfl) ?_
            obtain ⟨v_38, hc_38, hs⟩ := op_bd hs
            have hFc := va_free (wc := fr_w f0 Z) hD hS hA [0] rfl
            refine gx_cMv (wf := fun u => fr_w f0 u) (va_runV (As := [.int x4, .int v_30, .int v_36, .ref f0]) (rest := []) ⟨hx, hb, hml, hown, hts⟩ (c_X2_lessenBySide l D cI cJ cZ cS ad k0 kx ky f0 _ T x4 v_30 v_36 Z F hkT v_38 hc_38) (cwV 4 hts gX2_lessenByCorners_X2_lessenBySide rfl rfl rfl (by decide +kernel) ⟨Nat.le_of_ble_eq_true rfl, Nat.le_of_ble_eq_true rfl⟩) ⟨gm_blind, va_recv hK (gx_ro hR hRn hS) (ci := 2) (q0 := 3) rfl rfl, gm_ok hK hE hS hFc hP hD ((gx_ro hR hRn hS).sub [3, 4, 5] rfl) (gx_rn hRn hD [3, 4, 5] rfl)⟩ rfl rfl hl.1 rfl (lv_room (Nat.le_of_ble_eq_true rfl)) dX2_lessenByCorners_38 ⟨Nat.le_of_ble_eq_true rfl, Nat.le_of_ble_eq_true rfl⟩) hS hFc (fun H locs hP hD hS => ?_)
            have hP : va_P D vwCl (fr_w f0 v_38) H := hP
            have hD : va_D A (fr_w f0 v_38) := hD
            obtain ⟨e_41, hv_41, hs⟩ := op_bd hs
            refine lv_iinc (v := e_41) (lv' := [(4, .int e_41), (0, .ref h0), (1, .ref k0), (2, .ref f0), (3, .int x3)]) hx hb dX2_lessenByCorners_41 hl (k := 4) rfl (Option.some.inj hv_41) (by decide) rfl (fun ls hl => ?_)
            refine lv_goto (tgt := 13) hx hb dX2_lessenByCorners_44 (by decide) ?_
            exact ih_13 x3 e_41 v_38 hs _ _ hP hD hS _ (lv_sub hl [1, 2, 3, 4, 0] rfl)
      intro x3 Z hs H locs hP hD hS ls hl
      rw [s_X2_lessenByCorners_2] at hs
      refine lv_iload_n hx hb dX2_lessenByCorners_2 rfl (lv_at hl 3 rfl) ?_
      refine lv_aload_n hx hb dX2_lessenByCorners_3 rfl (lv_at hl 0 rfl) ?_
      refine va_get (D := D) (ci := 2) (v := .int (sh_z S)) (C := RX2) (T := TX2) (N := 9) hx hb hts in_X2 hown hK (gx_ro hR hRn hS) 0 rfl rfl 1 (by decide) lk_9 (fun _ h9 => h9) rfl dX2_lessenByCorners_4 ?_
      refine lv_icmp_ge (tgt := 53) hx hb dX2_lessenByCorners_7 (by decide) (fun c_7 => ?_) (fun c_7 => ?_)
      · replace hs := it_t c_7 hs
        obtain rfl := Option.some.inj hs
        exact W.vret hx hb hr (fun t ht hW => ⟨⟨_, rfl, rfl, by rw [ht]; exact hP, hD⟩, hS.F ht⟩) hS.2.2 dX2_lessenByCorners_53
      · replace hs := it_f c_7 hs
        refine lv_iconst (v := 0) hx hb dX2_lessenByCorners_10 (by decide) ?_
        refine lv_istore (lv' := [(4, .int 0), (0, .ref h0), (1, .ref k0), (2, .ref f0), (3, .int x3)]) hx hb dX2_lessenByCorners_11 hl (by decide) rfl (fun ls hl => ?_)
        exact J_13 F x3 0 Z hs _ _ hP hD hS _ (lv_sub hl [1, 2, 3, 4, 0] rfl)
  have hl := lv_entry ([.ref h0, .ref k0, .ref f0]) (n := 5) (Nat.le_of_ble_eq_true rfl)
  rw [lg_entry_eq]
  generalize (lg_sl ([.ref h0, .ref k0, .ref f0]) ++ List.replicate (5 - (lg_sl ([.ref h0, .ref k0, .ref f0])).length) Slot.unset).toArray = ls at hl ⊢
  have hl : lv_has ls 5 [(0, .ref h0), (1, .ref k0), (2, .ref f0)] := hl
  rw [s_X2_lessenByCorners] at hs
  refine lv_iconst (v := 0) hx hb dX2_lessenByCorners_0 (by decide) ?_
  refine lv_istore_n (lv' := [(3, .int 0), (0, .ref h0), (1, .ref k0), (2, .ref f0)]) hx hb dX2_lessenByCorners_1 rfl hl (by decide) rfl (fun ls hl => ?_)
  exact J_2 F 0 Q hs _ _ hP hD hS _ (lv_sub hl [1, 2, 3, 0] rfl)
def s_X2_measureTo (F : Nat) (S : sh_T) (T : sh_T) (Q : fr_T) : Option fr_T :=
  (s_X2_touches F S T).bind fun v_2 =>
  if v_2 = 0 then
    (rd_i (sh_n T) (sh_x T) 0).bind fun v_21 =>
    (rd_i (sh_n S) (sh_x S) 0).bind fun v_27 =>
    (rd_i (sh_n T) (sh_y T) 0).bind fun v_35 =>
    (rd_i (sh_n S) (sh_y S) 0).bind fun v_41 =>
    (s_X2_squareOf F (((v_21 - v_27)).toInt64) (((v_35 - v_41)).toInt64)).bind fun v_44 =>
    (s_X0_set F Q v_44 1).bind fun v_48 =>
    (s_X2_lessenByCorners F S T v_48).bind fun v_54 =>
    (s_X2_lessenByCorners F T S v_54).bind fun v_60 =>
    some v_60
  else
    (s_X0_set F Q 0 1).bind fun v_11 =>
    some v_11
abbrev rm_X2_measureTo : Room := { frames := 5, cells := 0, slots := 0, locals := 117 }
theorem in_X2_measureTo_X2 : ∀ w ∈ wsX20, w ∈ wsX2_measureTo := by decide +kernel
set_option maxHeartbeats 4000000 in
set_option maxRecDepth 100000 in
theorem c_X2_measureTo (l : Launch) (D : va_G) (cI cJ cZ cS : ClassId) (ad : Nat → Nat) (h0 sx sy k0 kx ky f0 : Nat) (sz : Nat) (S : sh_T) (T : sh_T) (Q : fr_T) (F : Nat) (hkS : sh_k S < 3) (hkT : sh_k T < 3) (r : fr_T) (hs : s_X2_measureTo F S T Q = some r) : Met l yX2_measureTo wsX2_measureTo rm_X2_measureTo (gm_P D cI cJ cZ cS ad sz (fr_w f0 Q) (sh_w cI ad h0 sx sy S ++ sh_w cI ad k0 kx ky T) [.ref h0, .ref k0, .ref f0]) (va_Qv (fun u : fr_T => u = r) (fun u t => va_P D vwCl (fr_w f0 u) t.heap ∧ va_D (va_A (fr_w f0 Q) sz) (fr_w f0 u)) (va_A (fr_w f0 Q) sz)) 0 0 (va_A (fr_w f0 Q) sz) := by
  refine Met.ofW (cc := cX2_measureTo) (maxL := 3) (ret := none) (by decide) rfl ?_
  intro p e s m args below meth c s₁ B hml hv
  obtain ⟨rfl, hsz, hK, hE, hP, hD0, hR, hRn0⟩ := hv
  have hx := B.exec
  have hb := B.bytes
  have hr := B.returns
  have hts := atoms_spec (ws := wsX2_measureTo) B.pre
  have hown : s.vm.findClass RX2 = some m.cls := findClass_of_methodNamed B.named
  have hlocks := B.notSynchronized
  subst hsz
  have hD := hD0.self (sz := s.heap.size)
  have hRn := gx_rn0 hR hRn0
  generalize hAe : va_A (fr_w f0 Q) s.heap.size = A at hD hE hRn ⊢
  have hA : ∀ q : Nat, s.heap.size ≤ q → A q := fun q h => by rw [← hAe]; exact Or.inr h
  have hS : va_S A s.heap s.heap [] := va_S.rf
  have lk_39 := hts (.fieldLink RX2 39 "PlacePoints$Shape" "xs" "[I") (by decide +kernel)
  have lk_43 := hts (.fieldLink RX2 43 "PlacePoints$Shape" "ys" "[I") (by decide +kernel)
  have in_X2 := in_X2_measureTo_X2
  have hl := lv_entry ([.ref h0, .ref k0, .ref f0]) (n := 3) (Nat.le_of_ble_eq_true rfl)
  rw [lg_entry_eq]
  generalize (lg_sl ([.ref h0, .ref k0, .ref f0]) ++ List.replicate (3 - (lg_sl ([.ref h0, .ref k0, .ref f0])).length) Slot.unset).toArray = ls at hl ⊢
  have hl : lv_has ls 3 [(0, .ref h0), (1, .ref k0), (2, .ref f0)] := hl
  rw [s_X2_measureTo] at hs
  refine lv_aload_n hx hb dX2_measureTo_0 rfl (lv_at hl 0 rfl) ?_
  refine lv_aload_n hx hb dX2_measureTo_1 rfl (lv_at hl 1 rfl) ?_
  obtain ⟨v_2, hc_2, hs⟩ := op_bd hs
  refine gx_cSi (va_Run.run (va_runV (As := [.ref k0]) (rest := []) ⟨hx, hb, hml, hown, hts⟩ (c_X2_touches l D cI cJ cZ cS ad h0 sx sy k0 kx ky S T F hkS hkT v_2 hc_2) (cwV 1 hts gX2_measureTo_X2_touches rfl rfl rfl (by decide +kernel) ⟨Nat.le_of_ble_eq_true rfl, Nat.le_of_ble_eq_true rfl⟩) ⟨gl_blind, va_recv hK (gx_ro hR hRn hS) (ci := 2) (q0 := 0) rfl rfl, gl_ok hK (gl_Ek hE hS) ((gx_ro hR hRn hS).sub [0, 1, 2, 3, 4, 5] rfl)⟩ rfl rfl hl.1 rfl (lv_room (Nat.le_of_ble_eq_true rfl)) dX2_measureTo_2 ⟨Nat.le_of_ble_eq_true rfl, Nat.le_of_ble_eq_true rfl⟩)) ?_
  refine lv_if_eq (tgt := 15) hx hb dX2_measureTo_5 (by decide) (fun c_5 => ?_) (fun c_5 => ?_)
  · replace hs := it_t c_5 hs
    refine lv_aload_n hx hb dX2_measureTo_15 rfl (lv_at hl 2 rfl) ?_
    refine lv_aload_n hx hb dX2_measureTo_16 rfl (lv_at hl 1 rfl) ?_
    refine va_get (D := D) (ci := 2) (v := .ref kx) (C := RX2) (T := TX2) (N := 9) hx hb hts in_X2 hown hK (gx_ro hR hRn hS) 3 rfl rfl 3 (by decide) lk_39 (fun _ h9 => h9) rfl dX2_measureTo_17 ?_
    refine lv_iconst (v := 0) hx hb dX2_measureTo_20 (by decide) ?_
    obtain ⟨v_21, hv_21, hs⟩ := op_bd hs
    refine gx_iald hx hb hK (gx_ro hR hRn hS) 4 0 rfl rfl hv_21 dX2_measureTo_21 ?_
    refine lv_aload_n hx hb dX2_measureTo_22 rfl (lv_at hl 0 rfl) ?_
    refine va_get (D := D) (ci := 2) (v := .ref sx) (C := RX2) (T := TX2) (N := 9) hx hb hts in_X2 hown hK (gx_ro hR hRn hS) 0 rfl rfl 3 (by decide) lk_39 (fun _ h9 => h9) rfl dX2_measureTo_23 ?_
    refine lv_iconst (v := 0) hx hb dX2_measureTo_26 (by decide) ?_
    obtain ⟨v_27, hv_27, hs⟩ := op_bd hs
    refine gx_iald hx hb hK (gx_ro hR hRn hS) 1 0 rfl rfl hv_27 dX2_measureTo_27 ?_
    refine lv_isub hx hb dX2_measureTo_28 ?_
    refine lv_i2l hx hb dX2_measureTo_29 rfl ?_
    refine lv_aload_n hx hb dX2_measureTo_30 rfl (lv_at hl 1 rfl) ?_
    refine va_get (D := D) (ci := 2) (v := .ref ky) (C := RX2) (T := TX2) (N := 9) hx hb hts in_X2 hown hK (gx_ro hR hRn hS) 3 rfl rfl 4 (by decide) lk_43 (fun _ h9 => h9) rfl dX2_measureTo_31 ?_
    refine lv_iconst (v := 0) hx hb dX2_measureTo_34 (by decide) ?_
    obtain ⟨v_35, hv_35, hs⟩ := op_bd hs
    refine gx_iald hx hb hK (gx_ro hR hRn hS) 5 0 rfl rfl hv_35 dX2_measureTo_35 ?_
    refine lv_aload_n hx hb dX2_measureTo_36 rfl (lv_at hl 0 rfl) ?_
    refine va_get (D := D) (ci := 2) (v := .ref sy) (C := RX2) (T := TX2) (N := 9) hx hb hts in_X2 hown hK (gx_ro hR hRn hS) 0 rfl rfl 4 (by decide) lk_43 (fun _ h9 => h9) rfl dX2_measureTo_37 ?_
    refine lv_iconst (v := 0) hx hb dX2_measureTo_40 (by decide) ?_
    obtain ⟨v_41, hv_41, hs⟩ := op_bd hs
    refine gx_iald hx hb hK (gx_ro hR hRn hS) 2 0 rfl rfl hv_41 dX2_measureTo_41 ?_
    refine lv_isub hx hb dX2_measureTo_42 ?_
    refine lv_i2l hx hb dX2_measureTo_43 rfl ?_
    obtain ⟨v_44, hc_44, hs⟩ := op_bd hs
    refine gx_cSl (va_Run.run (va_runS (As := [.long (((v_21 - v_27)).toInt64), .long (((v_35 - v_41)).toInt64)]) (rest := [.ref f0]) ⟨hx, hb, hml, hown, hts⟩ (c_X2_squareOf l D cI cJ cZ cS ad (((v_21 - v_27)).toInt64) (((v_35 - v_41)).toInt64) F  v_44 hc_44) (va_cwS 2 hts gX2_measureTo_X2_squareOf rfl rfl rfl (by decide +kernel) ⟨Nat.le_of_ble_eq_true rfl, Nat.le_of_ble_eq_true rfl⟩) ⟨gl_blind, gl_ok hK (gl_Ek hE hS) trivial⟩ rfl rfl hl.1 rfl (lv_room (Nat.le_of_ble_eq_true rfl)) dX2_measureTo_44 ⟨Nat.le_of_ble_eq_true rfl, Nat.le_of_ble_eq_true rfl⟩)) ?_
    refine lv_lconst (v := 1) hx hb dX2_measureTo_47 (by decide) ?_
    obtain ⟨v_48, hc_48, hs⟩ := op_bd hs
    have hFc := va_free (wc := fr_w f0 Q) hD hS hA [0] rfl
    refine gx_cMv (wf := fun u => fr_w f0 u) (va_runV (As := [.long v_44, .long 1]) (rest := []) ⟨hx, hb, hml, hown, hts⟩ (c_X0_set l D cI cJ cZ cS ad f0 _ Q v_44 1 F  v_48 hc_48) (cwV 2 hts gX2_measureTo_X0_set rfl rfl rfl (by decide +kernel) ⟨Nat.le_of_ble_eq_true rfl, Nat.le_of_ble_eq_true rfl⟩) ⟨gm_blind, va_recv hK hP (ci := 1) (q0 := 0) rfl rfl, gm_ok hK hE hS hFc hP hD va_nil0 gx_nil⟩ rfl rfl hl.1 rfl (lv_room (Nat.le_of_ble_eq_true rfl)) dX2_measureTo_48 ⟨Nat.le_of_ble_eq_true rfl, Nat.le_of_ble_eq_true rfl⟩) hS hFc (fun H locs hP hD hS => ?_)
    have hP : va_P D vwCl (fr_w f0 v_48) H := hP
    have hD : va_D A (fr_w f0 v_48) := hD
    refine lv_aload_n hx hb dX2_measureTo_51 rfl (lv_at hl 0 rfl) ?_
    refine lv_aload_n hx hb dX2_measureTo_52 rfl (lv_at hl 1 rfl) ?_
    refine lv_aload_n hx hb dX2_measureTo_53 rfl (lv_at hl 2 rfl) ?_
    obtain ⟨v_54, hc_54, hs⟩ := op_bd hs
    have hFc := va_free (wc := fr_w f0 v_48) hD hS hA [0] rfl
    refine gx_cMv (wf := fun u => fr_w f0 u) (va_runV (As := [.ref k0, .ref f0]) (rest := []) ⟨hx, hb, hml, hown, hts⟩ (c_X2_lessenByCorners l D cI cJ cZ cS ad h0 sx sy k0 kx ky f0 _ S T v_48 F hkS hkT v_54 hc_54) (cwV 2 hts gX2_measureTo_X2_lessenByCorners rfl rfl rfl (by decide +kernel) ⟨Nat.le_of_ble_eq_true rfl, Nat.le_of_ble_eq_true rfl⟩) ⟨gm_blind, va_recv hK (gx_ro hR hRn hS) (ci := 2) (q0 := 0) rfl rfl, gm_ok hK hE hS hFc hP hD ((gx_ro hR hRn hS).sub [0, 1, 2, 3, 4, 5] rfl) (gx_rn hRn hD [0, 1, 2, 3, 4, 5] rfl)⟩ rfl rfl hl.1 rfl (lv_room (Nat.le_of_ble_eq_true rfl)) dX2_measureTo_54 ⟨Nat.le_of_ble_eq_true rfl, Nat.le_of_ble_eq_true rfl⟩) hS hFc (fun H locs hP hD hS => ?_)
    have hP : va_P D vwCl (fr_w f0 v_54) H := hP
    have hD : va_D A (fr_w f0 v_54) := hD
    refine lv_aload_n hx hb dX2_measureTo_57 rfl (lv_at hl 1 rfl) ?_
    refine lv_aload_n hx hb dX2_measureTo_58 rfl (lv_at hl 0 rfl) ?_
    refine lv_aload_n hx hb dX2_measureTo_59 rfl (lv_at hl 2 rfl) ?_
    obtain ⟨v_60, hc_60, hs⟩ := op_bd hs
    have hFc := va_free (wc := fr_w f0 v_54) hD hS hA [0] rfl
    refine gx_cMv (wf := fun u => fr_w f0 u) (va_runV (As := [.ref h0, .ref f0]) (rest := []) ⟨hx, hb, hml, hown, hts⟩ (c_X2_lessenByCorners l D cI cJ cZ cS ad k0 kx ky h0 sx sy f0 _ T S v_54 F hkT hkS v_60 hc_60) (cwV 2 hts gX2_measureTo_X2_lessenByCorners rfl rfl rfl (by decide +kernel) ⟨Nat.le_of_ble_eq_true rfl, Nat.le_of_ble_eq_true rfl⟩) ⟨gm_blind, va_recv hK (gx_ro hR hRn hS) (ci := 2) (q0 := 3) rfl rfl, gm_ok hK hE hS hFc hP hD ((gx_ro hR hRn hS).sub [3, 4, 5, 0, 1, 2] rfl) (gx_rn hRn hD [3, 4, 5, 0, 1, 2] rfl)⟩ rfl rfl hl.1 rfl (lv_room (Nat.le_of_ble_eq_true rfl)) dX2_measureTo_60 ⟨Nat.le_of_ble_eq_true rfl, Nat.le_of_ble_eq_true rfl⟩) hS hFc (fun H locs hP hD hS => ?_)
    have hP : va_P D vwCl (fr_w f0 v_60) H := hP
    have hD : va_D A (fr_w f0 v_60) := hD
    obtain rfl := Option.some.inj hs
    exact W.vret hx hb hr (fun t ht hW => ⟨⟨_, rfl, rfl, by rw [ht]; exact hP, hD⟩, hS.F ht⟩) hS.2.2 dX2_measureTo_63
  · replace hs := it_f c_5 hs
    refine lv_aload_n hx hb dX2_measureTo_8 rfl (lv_at hl 2 rfl) ?_
    refine lv_lconst (v := 0) hx hb dX2_measureTo_9 (by decide) ?_
    refine lv_lconst (v := 1) hx hb dX2_measureTo_10 (by decide) ?_
    obtain ⟨v_11, hc_11, hs⟩ := op_bd hs
    have hFc := va_free (wc := fr_w f0 Q) hD hS hA [0] rfl
    refine gx_cMv (wf := fun u => fr_w f0 u) (va_runV (As := [.long 0, .long 1]) (rest := []) ⟨hx, hb, hml, hown, hts⟩ (c_X0_set l D cI cJ cZ cS ad f0 _ Q 0 1 F  v_11 hc_11) (cwV 2 hts gX2_measureTo_X0_set rfl rfl rfl (by decide +kernel) ⟨Nat.le_of_ble_eq_true rfl, Nat.le_of_ble_eq_true rfl⟩) ⟨gm_blind, va_recv hK hP (ci := 1) (q0 := 0) rfl rfl, gm_ok hK hE hS hFc hP hD va_nil0 gx_nil⟩ rfl rfl hl.1 rfl (lv_room (Nat.le_of_ble_eq_true rfl)) dX2_measureTo_11 ⟨Nat.le_of_ble_eq_true rfl, Nat.le_of_ble_eq_true rfl⟩) hS hFc (fun H locs hP hD hS => ?_)
    have hP : va_P D vwCl (fr_w f0 v_11) H := hP
    have hD : va_D A (fr_w f0 v_11) := hD
    obtain rfl := Option.some.inj hs
    exact W.vret hx hb hr (fun t ht hW => ⟨⟨_, rfl, rfl, by rw [ht]; exact hP, hD⟩, hS.F ht⟩) hS.2.2 dX2_measureTo_14
