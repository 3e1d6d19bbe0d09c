def s_X4_check_46 (F : Nat) (M : mo_T) (p1 : Int32) : Nat → Int32 → mo_T → Option (Int32 × mo_T)
  | 0, _, _ => none
  | n + 1, x2, N =>
    (s_X4_sides F N p1).bind fun v_49 =>
    if v_49 ≤ x2 then
      some (1, N)
    else
      (s_X4_isWrong F N p1 x2).bind fun v_58 =>
      if v_58 = 0 then
        (some (x2 + 1)).bind fun e_69 =>
        s_X4_check_46 F M p1 n e_69 N
      else
        some (((-10) - x2), N)
def s_X4_check (F : Nat) (M : mo_T) (p1 : Int32) : Option (Int32 × mo_T) :=
  (s_X4_isShape F (ms_t M 0) p1).bind fun v_7 =>
  if v_7 = 0 then
    some ((-1), (ms_t M 0))
  else
    (rd_i 60 (mo_k M) p1).bind fun v_20 =>
    if v_20 = 1 then
      some (1, (ms_t M 0))
    else
      (rd_i 60 (mo_c M) p1).bind fun v_32 =>
      (rd_i 60 (mo_k M) p1).bind fun v_38 =>
      if v_38 ≤ v_32 then
        s_X4_check_46 F M p1 F 0 (ms_t M 0)
      else
        some (0, (ms_t M 0))
abbrev rm_X4_check : Room := { frames := 5, cells := 0, slots := 0, locals := 146 }
theorem in_X4_check_X4 : ∀ w ∈ wsX40, w ∈ wsX4_check := by decide +kernel
set_option maxHeartbeats 4000000 in
set_option maxRecDepth 100000 in
theorem c_X4_check (l : Launch) (D : va_G) (cI cJ cZ cS : ClassId) (ad : Nat → Nat) (m0 mk mc mx my mf mp mq mb : Nat) (sz : Nat) (M : mo_T) (p1 : Int32) (F : Nat)  (r : (Int32 × mo_T)) (hs : s_X4_check F M p1 = some r) : Met l yX4_check wsX4_check rm_X4_check (gm_P D cI cJ cZ cS ad sz (mo_w cI cJ cZ m0 mk mc mx my mf mp mq mb M) ([]) [.ref m0, .int p1]) (va_Qi (fun x (u : mo_T) => x = r.1 ∧ u = r.2) (fun u t => va_P D vwCl (mo_w cI cJ cZ m0 mk mc mx my mf mp mq mb u) t.heap ∧ va_D (va_A (mo_w cI cJ cZ m0 mk mc mx my mf mp mq mb M) sz) (mo_w cI cJ cZ m0 mk mc mx my mf mp mq mb u)) (va_A (mo_w cI cJ cZ m0 mk mc mx my mf mp mq mb M) sz)) 0 0 (va_A (mo_w cI cJ cZ m0 mk mc mx my mf mp mq mb M) sz) := by
  refine Met.ofW (cc := cX4_check) (maxL := 3) (ret := (some .int)) (by decide) rfl ?_
  intro p e s m args below meth c s₁ B hml hv
  obtain ⟨rfl, hsz, hK, hE, hP, hD0, hR, hRn0⟩ := hv
  have hx := B.exec
  have hb := B.bytes
  have hr := B.returns
  have hts := atoms_spec (ws := wsX4_check) B.pre
  have hown : s.vm.findClass RX4 = some m.cls := findClass_of_methodNamed B.named
  have hlocks := B.notSynchronized
  subst hsz
  have hD := hD0.self (sz := s.heap.size)
  have hRn := gx_rn0 hR hRn0
  generalize hAe : va_A (mo_w cI cJ cZ m0 mk mc mx my mf mp mq mb M) s.heap.size = A at hD hE hRn ⊢
  have hA : ∀ q : Nat, s.heap.size ≤ q → A q := fun q h => by rw [← hAe]; exact Or.inr h
  have hS : va_S A s.heap s.heap [] := va_S.rf
  have lk_1 := hts (.fieldLink RX4 1 "PlacePointsModel" "thrown" "I") (by decide +kernel)
  have lk_13 := hts (.fieldLink RX4 13 "PlacePointsModel" "kinds" "[I") (by decide +kernel)
  have lk_17 := hts (.fieldLink RX4 17 "PlacePointsModel" "counts" "[I") (by decide +kernel)
  have in_X4 := in_X4_check_X4
  have J_46 : ∀ (n_46 : Nat) (x2 : Int32) (N : mo_T), s_X4_check_46 F M p1 n_46 x2 N = some r → ∀ (H : Heap) (locs : List Loc), va_P D vwCl (mo_w cI cJ cZ m0 mk mc mx my mf mp mq mb N) H → va_D A (mo_w cI cJ cZ m0 mk mc mx my mf mp mq mb N) → va_S A s.heap H locs → ∀ ls : Array Slot, lv_has ls 3 [(0, .ref m0), (1, .int p1), (2, .int x2)] → W p l e (headSpec wsX4_check rm_X4_check).room s m ([.ref m0, .int p1] : List Value).toArray below meth c H locs 0 0 (MQ below (va_Qi (fun x (u : mo_T) => x = r.1 ∧ u = r.2) (fun u t => va_P D vwCl (mo_w cI cJ cZ m0 mk mc mx my mf mp mq mb u) t.heap ∧ va_D (A) (mo_w cI cJ cZ m0 mk mc mx my mf mp mq mb u)) (A)) ([.ref m0, .int p1] : List Value).toArray s 0 0 (A)) (F0 m 46 ls []) := by
    intro n_46
    induction n_46 with
    | zero =>
      intro x2 N hs
      cases hs
    | succ n_46 ih_46 =>
      intro x2 N hs H locs hP hD hS ls hl
      rw [s_X4_check_46] at hs
      refine lv_iload_n hx hb dX4_check_46 rfl (lv_at hl 2 rfl) ?_
      refine lv_aload_n hx hb dX4_check_47 rfl (lv_at hl 0 rfl) ?_
      refine lv_iload_n hx hb dX4_check_48 rfl (lv_at hl 1 rfl) ?_
      obtain ⟨v_49, hc_49, hs⟩ := op_bd hs
      refine gx_cSi (va_Run.run (va_runV (As := [.int p1]) (rest := [.int x2]) ⟨hx, hb, hml, hown, hts⟩ (c_X4_sides l D cI cJ cZ cS ad m0 mk mc mx my mf mp mq mb N p1 F  v_49 hc_49) (cwV 1 hts gX4_check_X4_sides rfl rfl rfl (by decide +kernel) ⟨Nat.le_of_ble_eq_true rfl, Nat.le_of_ble_eq_true rfl⟩) ⟨gl_blind, va_recv hK hP (ci := 4) (q0 := 0) rfl rfl, gl_ok hK (gl_Ek hE hS) hP⟩ rfl rfl hl.1 rfl (lv_room (Nat.le_of_ble_eq_true rfl)) dX4_check_49 ⟨Nat.le_of_ble_eq_true rfl, Nat.le_of_ble_eq_true rfl⟩)) ?_
      refine lv_icmp_ge (tgt := 75) hx hb dX4_check_52 (by decide) (fun c_52 => ?_) (fun c_52 => ?_)
      · replace hs := it_t c_52 hs
        refine lv_iconst (v := 1) hx hb dX4_check_75 (by decide) ?_
        obtain rfl := Option.some.inj hs
        exact W.iret hx hb hr (fun t ht hW => ⟨⟨_, _, rfl, ⟨rfl, rfl⟩, by rw [ht]; exact hP, hD⟩, hS.F ht⟩) hS.2.2 dX4_check_76
      · replace hs := it_f c_52 hs
        refine lv_aload_n hx hb dX4_check_55 rfl (lv_at hl 0 rfl) ?_
        refine lv_iload_n hx hb dX4_check_56 rfl (lv_at hl 1 rfl) ?_
        refine lv_iload_n hx hb dX4_check_57 rfl (lv_at hl 2 rfl) ?_
        obtain ⟨v_58, hc_58, hs⟩ := op_bd hs
        refine gx_cSi (va_Run.run (va_runV (As := [.int p1, .int x2]) (rest := []) ⟨hx, hb, hml, hown, hts⟩ (c_X4_isWrong l D cI cJ cZ cS ad m0 mk mc mx my mf mp mq mb N p1 x2 F  v_58 hc_58) (cwV 2 hts gX4_check_X4_isWrong rfl rfl rfl (by decide +kernel) ⟨Nat.le_of_ble_eq_true rfl, Nat.le_of_ble_eq_true rfl⟩) ⟨gl_blind, va_recv hK hP (ci := 4) (q0 := 0) rfl rfl, gl_ok hK (gl_Ek hE hS) hP⟩ rfl rfl hl.1 rfl (lv_room (Nat.le_of_ble_eq_true rfl)) dX4_check_58 ⟨Nat.le_of_ble_eq_true rfl, Nat.le_of_ble_eq_true rfl⟩)) ?_
        refine lv_if_eq (tgt := 69) hx hb dX4_check_61 (by decide) (fun c_61 => ?_) (fun c_61 => ?_)
        · replace hs := it_t c_61 hs
          obtain ⟨e_69, hv_69, hs⟩ := op_bd hs
          refine lv_iinc (v := e_69) (lv' := [(2, .int e_69), (0, .ref m0), (1, .int p1)]) hx hb dX4_check_69 hl (k := 2) rfl (Option.some.inj hv_69) (by decide) rfl (fun ls hl => ?_)
          refine lv_goto (tgt := 46) hx hb dX4_check_72 (by decide) ?_
          exact ih_46 e_69 N hs _ _ hP hD hS _ (lv_sub hl [1, 2, 0] rfl)
        · replace hs := it_f c_61 hs
          refine lv_bipush (v := -10) hx hb dX4_check_64 (by decide) ?_
          refine lv_iload_n hx hb dX4_check_66 rfl (lv_at hl 2 rfl) ?_
          refine lv_isub hx hb dX4_check_67 ?_
          obtain rfl := Option.some.inj hs
          exact W.iret hx hb hr (fun t ht hW => ⟨⟨_, _, rfl, ⟨rfl, rfl⟩, by rw [ht]; exact hP, hD⟩, hS.F ht⟩) hS.2.2 dX4_check_68
  have hl := lv_entry ([.ref m0, .int p1]) (n := 3) (Nat.le_of_ble_eq_true rfl)
  rw [lg_entry_eq]
  generalize (lg_sl ([.ref m0, .int p1]) ++ List.replicate (3 - (lg_sl ([.ref m0, .int p1])).length) Slot.unset).toArray = ls at hl ⊢
  have hl : lv_has ls 3 [(0, .ref m0), (1, .int p1)] := hl
  rw [s_X4_check] at hs
  refine lv_aload_n hx hb dX4_check_0 rfl (lv_at hl 0 rfl) ?_
  refine lv_iconst (v := 0) hx hb dX4_check_1 (by decide) ?_
  refine va_put (D := D) (ci := 4) (v := .int 0) (ty := .int) (C := RX4) (T := TX4) (N := 15) hx hb hts in_X4 tyX4 tyX4_ok nmX4 hown hK hP hD hS 0 rfl rfl 11 (by decide) lk_1 (fun _ h9 => h9) rfl (by decide +kernel) rfl rfl (Nat.le_of_ble_eq_true rfl) dX4_check_2 (fun H locs hP hD hS => ?_)
  have hP : va_P D vwCl (mo_w cI cJ cZ m0 mk mc mx my mf mp mq mb (ms_t M 0)) H := hP
  have hD : va_D A (mo_w cI cJ cZ m0 mk mc mx my mf mp mq mb (ms_t M 0)) := hD
  refine lv_aload_n hx hb dX4_check_5 rfl (lv_at hl 0 rfl) ?_
  refine lv_iload_n hx hb dX4_check_6 rfl (lv_at hl 1 rfl) ?_
  obtain ⟨v_7, hc_7, hs⟩ := op_bd hs
  refine gx_cSi (va_Run.run (va_runV (As := [.int p1]) (rest := []) ⟨hx, hb, hml, hown, hts⟩ (c_X4_isShape l D cI cJ cZ cS ad m0 mk mc mx my mf mp mq mb (ms_t M 0) p1 F  v_7 hc_7) (cwV 1 hts gX4_check_X4_isShape rfl rfl rfl (by decide +kernel) ⟨Nat.le_of_ble_eq_true rfl, Nat.le_of_ble_eq_true rfl⟩) ⟨gl_blind, va_recv hK hP (ci := 4) (q0 := 0) rfl rfl, gl_ok hK (gl_Ek hE hS) hP⟩ rfl rfl hl.1 rfl (lv_room (Nat.le_of_ble_eq_true rfl)) dX4_check_7 ⟨Nat.le_of_ble_eq_true rfl, Nat.le_of_ble_eq_true rfl⟩)) ?_
  refine lv_if_ne (tgt := 15) hx hb dX4_check_10 (by decide) (fun c_10 => ?_) (fun c_10 => ?_)
  · replace hs := it_f c_10 hs
    refine lv_aload_n hx hb dX4_check_15 rfl (lv_at hl 0 rfl) ?_
    refine va_get (D := D) (ci := 4) (v := .ref mk) (C := RX4) (T := TX4) (N := 15) hx hb hts in_X4 hown hK hP 0 rfl rfl 0 (by decide) lk_13 (fun _ h9 => h9) rfl dX4_check_16 ?_
    refine lv_iload_n hx hb dX4_check_19 rfl (lv_at hl 1 rfl) ?_
    obtain ⟨v_20, hv_20, hs⟩ := op_bd hs
    refine gx_iald hx hb hK hP 1 0 rfl rfl hv_20 dX4_check_20 ?_
    refine lv_iconst (v := 1) hx hb dX4_check_21 (by decide) ?_
    refine lv_icmp_ne (tgt := 27) hx hb dX4_check_22 (by decide) (fun c_22 => ?_) (fun c_22 => ?_)
    · replace hs := it_f c_22 hs
      refine lv_aload_n hx hb dX4_check_27 rfl (lv_at hl 0 rfl) ?_
      refine va_get (D := D) (ci := 4) (v := .ref mc) (C := RX4) (T := TX4) (N := 15) hx hb hts in_X4 hown hK hP 0 rfl rfl 1 (by decide) lk_17 (fun _ h9 => h9) rfl dX4_check_28 ?_
      refine lv_iload_n hx hb dX4_check_31 rfl (lv_at hl 1 rfl) ?_
      obtain ⟨v_32, hv_32, hs⟩ := op_bd hs
      refine gx_iald hx hb hK hP 2 0 rfl rfl hv_32 dX4_check_32 ?_
      refine lv_aload_n hx hb dX4_check_33 rfl (lv_at hl 0 rfl) ?_
      refine va_get (D := D) (ci := 4) (v := .ref mk) (C := RX4) (T := TX4) (N := 15) hx hb hts in_X4 hown hK hP 0 rfl rfl 0 (by decide) lk_13 (fun _ h9 => h9) rfl dX4_check_34 ?_
      refine lv_iload_n hx hb dX4_check_37 rfl (lv_at hl 1 rfl) ?_
      obtain ⟨v_38, hv_38, hs⟩ := op_bd hs
      refine gx_iald hx hb hK hP 1 0 rfl rfl hv_38 dX4_check_38 ?_
      refine lv_icmp_ge (tgt := 44) hx hb dX4_check_39 (by decide) (fun c_39 => ?_) (fun c_39 => ?_)
      · replace hs := it_t c_39 hs
        refine lv_iconst (v := 0) hx hb dX4_check_44 (by decide) ?_
        refine lv_istore_n (lv' := [(2, .int 0), (0, .ref m0), (1, .int p1)]) hx hb dX4_check_45 rfl hl (by decide) rfl (fun ls hl => ?_)
        exact J_46 F 0 (ms_t M 0) hs _ _ hP hD hS _ (lv_sub hl [1, 2, 0] rfl)
      · replace hs := it_f c_39 hs
        refine lv_iconst (v := 0) hx hb dX4_check_42 (by decide) ?_
        obtain rfl := Option.some.inj hs
        exact W.iret hx hb hr (fun t ht hW => ⟨⟨_, _, rfl, ⟨rfl, rfl⟩, by rw [ht]; exact hP, hD⟩, hS.F ht⟩) hS.2.2 dX4_check_43
    · replace hs := it_t c_22 hs
      refine lv_iconst (v := 1) hx hb dX4_check_25 (by decide) ?_
      obtain rfl := Option.some.inj hs
      exact W.iret hx hb hr (fun t ht hW => ⟨⟨_, _, rfl, ⟨rfl, rfl⟩, by rw [ht]; exact hP, hD⟩, hS.F ht⟩) hS.2.2 dX4_check_26
  · replace hs := it_t c_10 hs
    refine lv_iconst (v := -1) hx hb dX4_check_13 (by decide) ?_
    obtain rfl := Option.some.inj hs
    exact W.iret hx hb hr (fun t ht hW => ⟨⟨_, _, rfl, ⟨rfl, rfl⟩, by rw [ht]; exact hP, hD⟩, hS.F ht⟩) hS.2.2 dX4_check_14
def s_X4_isRight (F : Nat) (M : mo_T) (p1 : Int32) : Option (Int32 × mo_T) :=
  (s_X4_isShape F M p1).bind fun v_2 =>
  if v_2 = 0 then
    some (0, M)
  else
    (s_X4_check F M p1).bind fun v_10 =>
    if v_10.1 = 1 then
      some (1, v_10.2)
    else
      some (0, v_10.2)
abbrev rm_X4_isRight : Room := { frames := 6, cells := 0, slots := 0, locals := 168 }
set_option maxHeartbeats 4000000 in
set_option maxRecDepth 100000 in
theorem c_X4_isRight (l : Launch) (D : va_G) (cI cJ cZ cS : ClassId) (ad : Nat → Nat) (m0 mk mc mx my mf mp mq mb : Nat) (sz : Nat) (M : mo_T) (p1 : Int32) (F : Nat)  (r : (Int32 × mo_T)) (hs : s_X4_isRight F M p1 = some r) : Met l yX4_isRight wsX4_isRight rm_X4_isRight (gm_P D cI cJ cZ cS ad sz (mo_w cI cJ cZ m0 mk mc mx my mf mp mq mb M) ([]) [.ref m0, .int p1]) (va_Qi (fun x (u : mo_T) => x = r.1 ∧ u = r.2) (fun u t => va_P D vwCl (mo_w cI cJ cZ m0 mk mc mx my mf mp mq mb u) t.heap ∧ va_D (va_A (mo_w cI cJ cZ m0 mk mc mx my mf mp mq mb M) sz) (mo_w cI cJ cZ m0 mk mc mx my mf mp mq mb u)) (va_A (mo_w cI cJ cZ m0 mk mc mx my mf mp mq mb M) sz)) 0 0 (va_A (mo_w cI cJ cZ m0 mk mc mx my mf mp mq mb M) sz) := by
  refine Met.ofW (cc := cX4_isRight) (maxL := 2) (ret := (some .boolean)) (by decide) rfl ?_
  intro p e s m args below meth c s₁ B hml hv
  obtain ⟨rfl, hsz, hK, hE, hP, hD0, hR, hRn0⟩ := hv
  have hx := B.exec
  have hb := B.bytes
  have hr := B.returns
  have hts := atoms_spec (ws := wsX4_isRight) B.pre
  have hown : s.vm.findClass RX4 = some m.cls := findClass_of_methodNamed B.named
  have hlocks := B.notSynchronized
  subst hsz
  have hD := hD0.self (sz := s.heap.size)
  have hRn := gx_rn0 hR hRn0
  generalize hAe : va_A (mo_w cI cJ cZ m0 mk mc mx my mf mp mq mb M) s.heap.size = A at hD hE hRn ⊢
  have hA : ∀ q : Nat, s.heap.size ≤ q → A q := fun q h => by rw [← hAe]; exact Or.inr h
  have hS : va_S A s.heap s.heap [] := va_S.rf
  have hl := lv_entry ([.ref m0, .int p1]) (n := 2) (Nat.le_of_ble_eq_true rfl)
  rw [lg_entry_eq]
  generalize (lg_sl ([.ref m0, .int p1]) ++ List.replicate (2 - (lg_sl ([.ref m0, .int p1])).length) Slot.unset).toArray = ls at hl ⊢
  have hl : lv_has ls 2 [(0, .ref m0), (1, .int p1)] := hl
  rw [s_X4_isRight] at hs
  refine lv_aload_n hx hb dX4_isRight_0 rfl (lv_at hl 0 rfl) ?_
  refine lv_iload_n hx hb dX4_isRight_1 rfl (lv_at hl 1 rfl) ?_
  obtain ⟨v_2, hc_2, hs⟩ := op_bd hs
  refine gx_cSi (va_Run.run (va_runV (As := [.int p1]) (rest := []) ⟨hx, hb, hml, hown, hts⟩ (c_X4_isShape l D cI cJ cZ cS ad m0 mk mc mx my mf mp mq mb M p1 F  v_2 hc_2) (cwV 1 hts gX4_isRight_X4_isShape rfl rfl rfl (by decide +kernel) ⟨Nat.le_of_ble_eq_true rfl, Nat.le_of_ble_eq_true rfl⟩) ⟨gl_blind, va_recv hK hP (ci := 4) (q0 := 0) rfl rfl, gl_ok hK (gl_Ek hE hS) hP⟩ rfl rfl hl.1 rfl (lv_room (Nat.le_of_ble_eq_true rfl)) dX4_isRight_2 ⟨Nat.le_of_ble_eq_true rfl, Nat.le_of_ble_eq_true rfl⟩)) ?_
  refine lv_if_eq (tgt := 21) hx hb dX4_isRight_5 (by decide) (fun c_5 => ?_) (fun c_5 => ?_)
  · replace hs := it_t c_5 hs
    refine lv_iconst (v := 0) hx hb dX4_isRight_21 (by decide) ?_
    obtain rfl := Option.some.inj hs
    exact W.zret hx hb hr rfl (fun t ht hW => ⟨⟨_, _, rfl, ⟨rfl, rfl⟩, by rw [ht]; exact hP, hD⟩, hS.F ht⟩) hS.2.2 dX4_isRight_22
  · replace hs := it_f c_5 hs
    refine lv_aload_n hx hb dX4_isRight_8 rfl (lv_at hl 0 rfl) ?_
    refine lv_iload_n hx hb dX4_isRight_9 rfl (lv_at hl 1 rfl) ?_
    obtain ⟨v_10, hc_10, hs⟩ := op_bd hs
    have hFc := va_free (wc := mo_w cI cJ cZ m0 mk mc mx my mf mp mq mb M) hD hS hA [0, 1, 2, 3, 4, 5, 6, 7, 8] rfl
    refine gx_cMi (wf := fun u => mo_w cI cJ cZ m0 mk mc mx my mf mp mq mb u) (va_runV (As := [.int p1]) (rest := []) ⟨hx, hb, hml, hown, hts⟩ (c_X4_check l D cI cJ cZ cS ad m0 mk mc mx my mf mp mq mb _ M p1 F  v_10 hc_10) (cwV 1 hts gX4_isRight_X4_check rfl rfl rfl (by decide +kernel) ⟨Nat.le_of_ble_eq_true rfl, Nat.le_of_ble_eq_true rfl⟩) ⟨gm_blind, va_recv hK hP (ci := 4) (q0 := 0) rfl rfl, gm_ok hK hE hS hFc hP hD va_nil0 gx_nil⟩ rfl rfl hl.1 rfl (lv_room (Nat.le_of_ble_eq_true rfl)) dX4_isRight_10 ⟨Nat.le_of_ble_eq_true rfl, Nat.le_of_ble_eq_true rfl⟩) hS hFc (fun H locs hP hD hS => ?_)
    have hP : va_P D vwCl (mo_w cI cJ cZ m0 mk mc mx my mf mp mq mb v_10.2) H := hP
    have hD : va_D A (mo_w cI cJ cZ m0 mk mc mx my mf mp mq mb v_10.2) := hD
    refine lv_iconst (v := 1) hx hb dX4_isRight_13 (by decide) ?_
    refine lv_icmp_ne (tgt := 21) hx hb dX4_isRight_14 (by decide) (fun c_14 => ?_) (fun c_14 => ?_)
    · replace hs := it_f c_14 hs
      refine lv_iconst (v := 0) hx hb dX4_isRight_21 (by decide) ?_
      obtain rfl := Option.some.inj hs
      exact W.zret hx hb hr rfl (fun t ht hW => ⟨⟨_, _, rfl, ⟨rfl, rfl⟩, by rw [ht]; exact hP, hD⟩, hS.F ht⟩) hS.2.2 dX4_isRight_22
    · replace hs := it_t c_14 hs
      refine lv_iconst (v := 1) hx hb dX4_isRight_17 (by decide) ?_
      refine lv_goto (tgt := 22) hx hb dX4_isRight_18 (by decide) ?_
      obtain rfl := Option.some.inj hs
      exact W.zret hx hb hr rfl (fun t ht hW => ⟨⟨_, _, rfl, ⟨rfl, rfl⟩, by rw [ht]; exact hP, hD⟩, hS.F ht⟩) hS.2.2 dX4_isRight_22
def s_X4_inside (F : Nat) (M : mo_T) (p1 : Int32) (p2 : Int32) (p3 : Int32) : Option (Int32 × mo_T) :=
  (s_X4_isPlace F p1 p2).bind fun v_7 =>
  if v_7 = 0 then
    some ((-1), (ms_t M 0))
  else
    (s_X4_isRight F (ms_t M 0) p3).bind fun v_15 =>
    if v_15.1 = 0 then
      some ((-1), v_15.2)
    else
      (rd_i 60 (mo_k v_15.2) p3).bind fun v_26 =>
      if v_26 = 3 then
        (s_X4_stands F v_15.2 p1.toInt64 p2.toInt64 p3).bind fun v_41 =>
        some (v_41, v_15.2)
      else
        some ((-1), v_15.2)
abbrev rm_X4_inside : Room := { frames := 7, cells := 0, slots := 0, locals := 189 }
theorem in_X4_inside_X4 : ∀ w ∈ wsX40, w ∈ wsX4_inside := by decide +kernel
set_option maxHeartbeats 4000000 in
set_option maxRecDepth 100000 in
theorem c_X4_inside (l : Launch) (D : va_G) (cI cJ cZ cS : ClassId) (ad : Nat → Nat) (m0 mk mc mx my mf mp mq mb : Nat) (sz : Nat) (M : mo_T) (p1 : Int32) (p2 : Int32) (p3 : Int32) (F : Nat)  (r : (Int32 × mo_T)) (hs : s_X4_inside F M p1 p2 p3 = some r) : Met l yX4_inside wsX4_inside rm_X4_inside (gm_P D cI cJ cZ cS ad sz (mo_w cI cJ cZ m0 mk mc mx my mf mp mq mb M) ([]) [.ref m0, .int p1, .int p2, .int p3]) (va_Qi (fun x (u : mo_T) => x = r.1 ∧ u = r.2) (fun u t => va_P D vwCl (mo_w cI cJ cZ m0 mk mc mx my mf mp mq mb u) t.heap ∧ va_D (va_A (mo_w cI cJ cZ m0 mk mc mx my mf mp mq mb M) sz) (mo_w cI cJ cZ m0 mk mc mx my mf mp mq mb u)) (va_A (mo_w cI cJ cZ m0 mk mc mx my mf mp mq mb M) sz)) 0 0 (va_A (mo_w cI cJ cZ m0 mk mc mx my mf mp mq mb M) sz) := by
  refine Met.ofW (cc := cX4_inside) (maxL := 4) (ret := (some .int)) (by decide) rfl ?_
  intro p e s m args below meth c s₁ B hml hv
  obtain ⟨rfl, hsz, hK, hE, hP, hD0, hR, hRn0⟩ := hv
  have hx := B.exec
  have hb := B.bytes
  have hr := B.returns
  have hts := atoms_spec (ws := wsX4_inside) B.pre
  have hown : s.vm.findClass RX4 = some m.cls := findClass_of_methodNamed B.named
  have hlocks := B.notSynchronized
  subst hsz
  have hD := hD0.self (sz := s.heap.size)
  have hRn := gx_rn0 hR hRn0
  generalize hAe : va_A (mo_w cI cJ cZ m0 mk mc mx my mf mp mq mb M) s.heap.size = A at hD hE hRn ⊢
  have hA : ∀ q : Nat, s.heap.size ≤ q → A q := fun q h => by rw [← hAe]; exact Or.inr h
  have hS : va_S A s.heap s.heap [] := va_S.rf
  have lk_1 := hts (.fieldLink RX4 1 "PlacePointsModel" "thrown" "I") (by decide +kernel)
  have lk_13 := hts (.fieldLink RX4 13 "PlacePointsModel" "kinds" "[I") (by decide +kernel)
  have in_X4 := in_X4_inside_X4
  have hl := lv_entry ([.ref m0, .int p1, .int p2, .int p3]) (n := 4) (Nat.le_of_ble_eq_true rfl)
  rw [lg_entry_eq]
  generalize (lg_sl ([.ref m0, .int p1, .int p2, .int p3]) ++ List.replicate (4 - (lg_sl ([.ref m0, .int p1, .int p2, .int p3])).length) Slot.unset).toArray = ls at hl ⊢
  have hl : lv_has ls 4 [(0, .ref m0), (1, .int p1), (2, .int p2), (3, .int p3)] := hl
  rw [s_X4_inside] at hs
  refine lv_aload_n hx hb dX4_inside_0 rfl (lv_at hl 0 rfl) ?_
  refine lv_iconst (v := 0) hx hb dX4_inside_1 (by decide) ?_
  refine va_put (D := D) (ci := 4) (v := .int 0) (ty := .int) (C := RX4) (T := TX4) (N := 15) hx hb hts in_X4 tyX4 tyX4_ok nmX4 hown hK hP hD hS 0 rfl rfl 11 (by decide) lk_1 (fun _ h9 => h9) rfl (by decide +kernel) rfl rfl (Nat.le_of_ble_eq_true rfl) dX4_inside_2 (fun H locs hP hD hS => ?_)
  have hP : va_P D vwCl (mo_w cI cJ cZ m0 mk mc mx my mf mp mq mb (ms_t M 0)) H := hP
  have hD : va_D A (mo_w cI cJ cZ m0 mk mc mx my mf mp mq mb (ms_t M 0)) := hD
  refine lv_iload_n hx hb dX4_inside_5 rfl (lv_at hl 1 rfl) ?_
  refine lv_iload_n hx hb dX4_inside_6 rfl (lv_at hl 2 rfl) ?_
  obtain ⟨v_7, hc_7, hs⟩ := op_bd hs
  refine gx_cSi (va_Run.run (va_runS (As := [.int p1, .int p2]) (rest := []) ⟨hx, hb, hml, hown, hts⟩ (c_X4_isPlace l D cI cJ cZ cS ad p1 p2 F  v_7 hc_7) (va_cwS 2 hts gX4_inside_X4_isPlace rfl rfl rfl (by decide +kernel) ⟨Nat.le_of_ble_eq_true rfl, Nat.le_of_ble_eq_true rfl⟩) ⟨gl_blind, gl_ok hK (gl_Ek hE hS) trivial⟩ rfl rfl hl.1 rfl (lv_room (Nat.le_of_ble_eq_true rfl)) dX4_inside_7 ⟨Nat.le_of_ble_eq_true rfl, Nat.le_of_ble_eq_true rfl⟩)) ?_
  refine lv_if_eq (tgt := 31) hx hb dX4_inside_10 (by decide) (fun c_10 => ?_) (fun c_10 => ?_)
  · replace hs := it_t c_10 hs
    refine lv_iconst (v := -1) hx hb dX4_inside_31 (by decide) ?_
    refine lv_goto (tgt := 44) hx hb dX4_inside_32 (by decide) ?_
    obtain rfl := Option.some.inj hs
    exact W.iret hx hb hr (fun t ht hW => ⟨⟨_, _, rfl, ⟨rfl, rfl⟩, by rw [ht]; exact hP, hD⟩, hS.F ht⟩) hS.2.2 dX4_inside_44
  · replace hs := it_f c_10 hs
    refine lv_aload_n hx hb dX4_inside_13 rfl (lv_at hl 0 rfl) ?_
    refine lv_iload_n hx hb dX4_inside_14 rfl (lv_at hl 3 rfl) ?_
    obtain ⟨v_15, hc_15, hs⟩ := op_bd hs
    have hFc := va_free (wc := mo_w cI cJ cZ m0 mk mc mx my mf mp mq mb (ms_t M 0)) hD hS hA [0, 1, 2, 3, 4, 5, 6, 7, 8] rfl
    refine gx_cMi (wf := fun u => mo_w cI cJ cZ m0 mk mc mx my mf mp mq mb u) (va_runV (As := [.int p3]) (rest := []) ⟨hx, hb, hml, hown, hts⟩ (c_X4_isRight l D cI cJ cZ cS ad m0 mk mc mx my mf mp mq mb _ (ms_t M 0) p3 F  v_15 hc_15) (cwV 1 hts gX4_inside_X4_isRight rfl rfl rfl (by decide +kernel) ⟨Nat.le_of_ble_eq_true rfl, Nat.le_of_ble_eq_true rfl⟩) ⟨gm_blind, va_recv hK hP (ci := 4) (q0 := 0) rfl rfl, gm_ok hK hE hS hFc hP hD va_nil0 gx_nil⟩ rfl rfl hl.1 rfl (lv_room (Nat.le_of_ble_eq_true rfl)) dX4_inside_15 ⟨Nat.le_of_ble_eq_true rfl, Nat.le_of_ble_eq_true rfl⟩) hS hFc (fun H locs hP hD hS => ?_)
    have hP : va_P D vwCl (mo_w cI cJ cZ m0 mk mc mx my mf mp mq mb v_15.2) H := hP
    have hD : va_D A (mo_w cI cJ cZ m0 mk mc mx my mf mp mq mb v_15.2) := hD
    refine lv_if_eq (tgt := 31) hx hb dX4_inside_18 (by decide) (fun c_18 => ?_) (fun c_18 => ?_)
    · replace hs := it_t c_18 hs
      refine lv_iconst (v := -1) hx hb dX4_inside_31 (by decide) ?_
      refine lv_goto (tgt := 44) hx hb dX4_inside_32 (by decide) ?_
      obtain rfl := Option.some.inj hs
      exact W.iret hx hb hr (fun t ht hW => ⟨⟨_, _, rfl, ⟨rfl, rfl⟩, by rw [ht]; exact hP, hD⟩, hS.F ht⟩) hS.2.2 dX4_inside_44
    · replace hs := it_f c_18 hs
      refine lv_aload_n hx hb dX4_inside_21 rfl (lv_at hl 0 rfl) ?_
      refine va_get (D := D) (ci := 4) (v := .ref mk) (C := RX4) (T := TX4) (N := 15) hx hb hts in_X4 hown hK hP 0 rfl rfl 0 (by decide) lk_13 (fun _ h9 => h9) rfl dX4_inside_22 ?_
      refine lv_iload_n hx hb dX4_inside_25 rfl (lv_at hl 3 rfl) ?_
      obtain ⟨v_26, hv_26, hs⟩ := op_bd hs
      refine gx_iald hx hb hK hP 1 0 rfl rfl hv_26 dX4_inside_26 ?_
      refine lv_iconst (v := 3) hx hb dX4_inside_27 (by decide) ?_
      refine lv_icmp_eq (tgt := 35) hx hb dX4_inside_28 (by decide) (fun c_28 => ?_) (fun c_28 => ?_)
      · replace hs := it_t c_28 hs
        refine lv_aload_n hx hb dX4_inside_35 rfl (lv_at hl 0 rfl) ?_
        refine lv_iload_n hx hb dX4_inside_36 rfl (lv_at hl 1 rfl) ?_
        refine lv_i2l hx hb dX4_inside_37 rfl ?_
        refine lv_iload_n hx hb dX4_inside_38 rfl (lv_at hl 2 rfl) ?_
        refine lv_i2l hx hb dX4_inside_39 rfl ?_
        refine lv_iload_n hx hb dX4_inside_40 rfl (lv_at hl 3 rfl) ?_
        obtain ⟨v_41, hc_41, hs⟩ := op_bd hs
        refine gx_cSi (va_Run.run (va_runV (As := [.long p1.toInt64, .long p2.toInt64, .int p3]) (rest := []) ⟨hx, hb, hml, hown, hts⟩ (c_X4_stands l D cI cJ cZ cS ad m0 mk mc mx my mf mp mq mb v_15.2 p1.toInt64 p2.toInt64 p3 F  v_41 hc_41) (cwV 3 hts gX4_inside_X4_stands rfl rfl rfl (by decide +kernel) ⟨Nat.le_of_ble_eq_true rfl, Nat.le_of_ble_eq_true rfl⟩) ⟨gl_blind, va_recv hK hP (ci := 4) (q0 := 0) rfl rfl, gl_ok hK (gl_Ek hE hS) hP⟩ rfl rfl hl.1 rfl (lv_room (Nat.le_of_ble_eq_true rfl)) dX4_inside_41 ⟨Nat.le_of_ble_eq_true rfl, Nat.le_of_ble_eq_true rfl⟩)) ?_
        obtain rfl := Option.some.inj hs
        exact W.iret hx hb hr (fun t ht hW => ⟨⟨_, _, rfl, ⟨rfl, rfl⟩, by rw [ht]; exact hP, hD⟩, hS.F ht⟩) hS.2.2 dX4_inside_44
      · replace hs := it_f c_28 hs
        refine lv_iconst (v := -1) hx hb dX4_inside_31 (by decide) ?_
        refine lv_goto (tgt := 44) hx hb dX4_inside_32 (by decide) ?_
        obtain rfl := Option.some.inj hs
        exact W.iret hx hb hr (fun t ht hW => ⟨⟨_, _, rfl, ⟨rfl, rfl⟩, by rw [ht]; exact hP, hD⟩, hS.F ht⟩) hS.2.2 dX4_inside_44
def s_X4_meets (F : Nat) (M : mo_T) (p1 : Int32) (p2 : Int32) : Option (Int32 × mo_T) :=
  (s_X4_isRight F (ms_t M 0) p1).bind fun v_7 =>
  if v_7.1 = 0 then
    some ((-1), v_7.2)
  else
    (s_X4_isRight F v_7.2 p2).bind fun v_15 =>
    if v_15.1 = 0 then
      some ((-1), v_15.2)
    else
      (s_X4_have F v_15.2 p1 p2).bind fun v_28 =>
      if v_28 = 0 then
        some (0, v_15.2)
      else
        some (1, v_15.2)
abbrev rm_X4_meets : Room := { frames := 7, cells := 0, slots := 0, locals := 189 }
theorem in_X4_meets_X4 : ∀ w ∈ wsX40, w ∈ wsX4_meets := by decide +kernel
set_option maxHeartbeats 4000000 in
set_option maxRecDepth 100000 in
theorem c_X4_meets (l : Launch) (D : va_G) (cI cJ cZ cS : ClassId) (ad : Nat → Nat) (m0 mk mc mx my mf mp mq mb : Nat) (sz : Nat) (M : mo_T) (p1 : Int32) (p2 : Int32) (F : Nat)  (r : (Int32 × mo_T)) (hs : s_X4_meets F M p1 p2 = some r) : Met l yX4_meets wsX4_meets rm_X4_meets (gm_P D cI cJ cZ cS ad sz (mo_w cI cJ cZ m0 mk mc mx my mf mp mq mb M) ([]) [.ref m0, .int p1, .int p2]) (va_Qi (fun x (u : mo_T) => x = r.1 ∧ u = r.2) (fun u t => va_P D vwCl (mo_w cI cJ cZ m0 mk mc mx my mf mp mq mb u) t.heap ∧ va_D (va_A (mo_w cI cJ cZ m0 mk mc mx my mf mp mq mb M) sz) (mo_w cI cJ cZ m0 mk mc mx my mf mp mq mb u)) (va_A (mo_w cI cJ cZ m0 mk mc mx my mf mp mq mb M) sz)) 0 0 (va_A (mo_w cI cJ cZ m0 mk mc mx my mf mp mq mb M) sz) := by
  refine Met.ofW (cc := cX4_meets) (maxL := 3) (ret := (some .int)) (by decide) rfl ?_
  intro p e s m args below meth c s₁ B hml hv
  obtain ⟨rfl, hsz, hK, hE, hP, hD0, hR, hRn0⟩ := hv
  have hx := B.exec
  have hb := B.bytes
  have hr := B.returns
  have hts := atoms_spec (ws := wsX4_meets) B.pre
  have hown : s.vm.findClass RX4 = some m.cls := findClass_of_methodNamed B.named
  have hlocks := B.notSynchronized
  subst hsz
  have hD := hD0.self (sz := s.heap.size)
  have hRn := gx_rn0 hR hRn0
  generalize hAe : va_A (mo_w cI cJ cZ m0 mk mc mx my mf mp mq mb M) s.heap.size = A at hD hE hRn ⊢
  have hA : ∀ q : Nat, s.heap.size ≤ q → A q := fun q h => by rw [← hAe]; exact Or.inr h
  have hS : va_S A s.heap s.heap [] := va_S.rf
  have lk_1 := hts (.fieldLink RX4 1 "PlacePointsModel" "thrown" "I") (by decide +kernel)
  have in_X4 := in_X4_meets_X4
  have hl := lv_entry ([.ref m0, .int p1, .int p2]) (n := 3) (Nat.le_of_ble_eq_true rfl)
  rw [lg_entry_eq]
  generalize (lg_sl ([.ref m0, .int p1, .int p2]) ++ List.replicate (3 - (lg_sl ([.ref m0, .int p1, .int p2])).length) Slot.unset).toArray = ls at hl ⊢
  have hl : lv_has ls 3 [(0, .ref m0), (1, .int p1), (2, .int p2)] := hl
  rw [s_X4_meets] at hs
  refine lv_aload_n hx hb dX4_meets_0 rfl (lv_at hl 0 rfl) ?_
  refine lv_iconst (v := 0) hx hb dX4_meets_1 (by decide) ?_
  refine va_put (D := D) (ci := 4) (v := .int 0) (ty := .int) (C := RX4) (T := TX4) (N := 15) hx hb hts in_X4 tyX4 tyX4_ok nmX4 hown hK hP hD hS 0 rfl rfl 11 (by decide) lk_1 (fun _ h9 => h9) rfl (by decide +kernel) rfl rfl (Nat.le_of_ble_eq_true rfl) dX4_meets_2 (fun H locs hP hD hS => ?_)
  have hP : va_P D vwCl (mo_w cI cJ cZ m0 mk mc mx my mf mp mq mb (ms_t M 0)) H := hP
  have hD : va_D A (mo_w cI cJ cZ m0 mk mc mx my mf mp mq mb (ms_t M 0)) := hD
  refine lv_aload_n hx hb dX4_meets_5 rfl (lv_at hl 0 rfl) ?_
  refine lv_iload_n hx hb dX4_meets_6 rfl (lv_at hl 1 rfl) ?_
  obtain ⟨v_7, hc_7, hs⟩ := op_bd hs
  have hFc := va_free (wc := mo_w cI cJ cZ m0 mk mc mx my mf mp mq mb (ms_t M 0)) hD hS hA [0, 1, 2, 3, 4, 5, 6, 7, 8] rfl
  refine gx_cMi (wf := fun u => mo_w cI cJ cZ m0 mk mc mx my mf mp mq mb u) (va_runV (As := [.int p1]) (rest := []) ⟨hx, hb, hml, hown, hts⟩ (c_X4_isRight l D cI cJ cZ cS ad m0 mk mc mx my mf mp mq mb _ (ms_t M 0) p1 F  v_7 hc_7) (cwV 1 hts gX4_meets_X4_isRight rfl rfl rfl (by decide +kernel) ⟨Nat.le_of_ble_eq_true rfl, Nat.le_of_ble_eq_true rfl⟩) ⟨gm_blind, va_recv hK hP (ci := 4) (q0 := 0) rfl rfl, gm_ok hK hE hS hFc hP hD va_nil0 gx_nil⟩ rfl rfl hl.1 rfl (lv_room (Nat.le_of_ble_eq_true rfl)) dX4_meets_7 ⟨Nat.le_of_ble_eq_true rfl, Nat.le_of_ble_eq_true rfl⟩) hS hFc (fun H locs hP hD hS => ?_)
  have hP : va_P D vwCl (mo_w cI cJ cZ m0 mk mc mx my mf mp mq mb v_7.2) H := hP
  have hD : va_D A (mo_w cI cJ cZ m0 mk mc mx my mf mp mq mb v_7.2) := hD
  refine lv_if_eq (tgt := 21) hx hb dX4_meets_10 (by decide) (fun c_10 => ?_) (fun c_10 => ?_)
  · replace hs := it_t c_10 hs
    refine lv_iconst (v := -1) hx hb dX4_meets_21 (by decide) ?_
    refine lv_goto (tgt := 39) hx hb dX4_meets_22 (by decide) ?_
    obtain rfl := Option.some.inj hs
    exact W.iret hx hb hr (fun t ht hW => ⟨⟨_, _, rfl, ⟨rfl, rfl⟩, by rw [ht]; exact hP, hD⟩, hS.F ht⟩) hS.2.2 dX4_meets_39
  · replace hs := it_f c_10 hs
    refine lv_aload_n hx hb dX4_meets_13 rfl (lv_at hl 0 rfl) ?_
    refine lv_iload_n hx hb dX4_meets_14 rfl (lv_at hl 2 rfl) ?_
    obtain ⟨v_15, hc_15, hs⟩ := op_bd hs
    have hFc := va_free (wc := mo_w cI cJ cZ m0 mk mc mx my mf mp mq mb v_7.2) hD hS hA [0, 1, 2, 3, 4, 5, 6, 7, 8] rfl
    refine gx_cMi (wf := fun u => mo_w cI cJ cZ m0 mk mc mx my mf mp mq mb u) (va_runV (As := [.int p2]) (rest := []) ⟨hx, hb, hml, hown, hts⟩ (c_X4_isRight l D cI cJ cZ cS ad m0 mk mc mx my mf mp mq mb _ v_7.2 p2 F  v_15 hc_15) (cwV 1 hts gX4_meets_X4_isRight rfl rfl rfl (by decide +kernel) ⟨Nat.le_of_ble_eq_true rfl, Nat.le_of_ble_eq_true rfl⟩) ⟨gm_blind, va_recv hK hP (ci := 4) (q0 := 0) rfl rfl, gm_ok hK hE hS hFc hP hD va_nil0 gx_nil⟩ rfl rfl hl.1 rfl (lv_room (Nat.le_of_ble_eq_true rfl)) dX4_meets_15 ⟨Nat.le_of_ble_eq_true rfl, Nat.le_of_ble_eq_true rfl⟩) hS hFc (fun H locs hP hD hS => ?_)
    have hP : va_P D vwCl (mo_w cI cJ cZ m0 mk mc mx my mf mp mq mb v_15.2) H := hP
    have hD : va_D A (mo_w cI cJ cZ m0 mk mc mx my mf mp mq mb v_15.2) := hD
    refine lv_if_ne (tgt := 25) hx hb dX4_meets_18 (by decide) (fun c_18 => ?_) (fun c_18 => ?_)
    · replace hs := it_f c_18 hs
      refine lv_aload_n hx hb dX4_meets_25 rfl (lv_at hl 0 rfl) ?_
      refine lv_iload_n hx hb dX4_meets_26 rfl (lv_at hl 1 rfl) ?_
      refine lv_iload_n hx hb dX4_meets_27 rfl (lv_at hl 2 rfl) ?_
      obtain ⟨v_28, hc_28, hs⟩ := op_bd hs
      refine gx_cSi (va_Run.run (va_runV (As := [.int p1, .int p2]) (rest := []) ⟨hx, hb, hml, hown, hts⟩ (c_X4_have l D cI cJ cZ cS ad m0 mk mc mx my mf mp mq mb v_15.2 p1 p2 F  v_28 hc_28) (cwV 2 hts gX4_meets_X4_have rfl rfl rfl (by decide +kernel) ⟨Nat.le_of_ble_eq_true rfl, Nat.le_of_ble_eq_true rfl⟩) ⟨gl_blind, va_recv hK hP (ci := 4) (q0 := 0) rfl rfl, gl_ok hK (gl_Ek hE hS) hP⟩ rfl rfl hl.1 rfl (lv_room (Nat.le_of_ble_eq_true rfl)) dX4_meets_28 ⟨Nat.le_of_ble_eq_true rfl, Nat.le_of_ble_eq_true rfl⟩)) ?_
      refine lv_if_eq (tgt := 38) hx hb dX4_meets_31 (by decide) (fun c_31 => ?_) (fun c_31 => ?_)
      · replace hs := it_t c_31 hs
        refine lv_iconst (v := 0) hx hb dX4_meets_38 (by decide) ?_
        obtain rfl := Option.some.inj hs
        exact W.iret hx hb hr (fun t ht hW => ⟨⟨_, _, rfl, ⟨rfl, rfl⟩, by rw [ht]; exact hP, hD⟩, hS.F ht⟩) hS.2.2 dX4_meets_39
      · replace hs := it_f c_31 hs
        refine lv_iconst (v := 1) hx hb dX4_meets_34 (by decide) ?_
        refine lv_goto (tgt := 39) hx hb dX4_meets_35 (by decide) ?_
        obtain rfl := Option.some.inj hs
        exact W.iret hx hb hr (fun t ht hW => ⟨⟨_, _, rfl, ⟨rfl, rfl⟩, by rw [ht]; exact hP, hD⟩, hS.F ht⟩) hS.2.2 dX4_meets_39
    · replace hs := it_t c_18 hs
      refine lv_iconst (v := -1) hx hb dX4_meets_21 (by decide) ?_
      refine lv_goto (tgt := 39) hx hb dX4_meets_22 (by decide) ?_
      obtain rfl := Option.some.inj hs
      exact W.iret hx hb hr (fun t ht hW => ⟨⟨_, _, rfl, ⟨rfl, rfl⟩, by rw [ht]; exact hP, hD⟩, hS.F ht⟩) hS.2.2 dX4_meets_39
def s_X4_shapes (F : Nat) (M : mo_T) : Option (Int32 × mo_T) :=
  some (((mo_n M) - (mo_g M)), (ms_t M 0))
abbrev rm_X4_shapes : Room := { frames := 0, cells := 0, slots := 0, locals := 0 }
theorem in_X4_shapes_X4 : ∀ w ∈ wsX40, w ∈ wsX4_shapes := by decide +kernel
set_option maxHeartbeats 4000000 in
set_option maxRecDepth 100000 in
theorem c_X4_shapes (l : Launch) (D : va_G) (cI cJ cZ cS : ClassId) (ad : Nat → Nat) (m0 mk mc mx my mf mp mq mb : Nat) (sz : Nat) (M : mo_T) (F : Nat)  (r : (Int32 × mo_T)) (hs : s_X4_shapes F M = some r) : Met l yX4_shapes wsX4_shapes rm_X4_shapes (gm_P D cI cJ cZ cS ad sz (mo_w cI cJ cZ m0 mk mc mx my mf mp mq mb M) ([]) [.ref m0]) (va_Qi (fun x (u : mo_T) => x = r.1 ∧ u = r.2) (fun u t => va_P D vwCl (mo_w cI cJ cZ m0 mk mc mx my mf mp mq mb u) t.heap ∧ va_D (va_A (mo_w cI cJ cZ m0 mk mc mx my mf mp mq mb M) sz) (mo_w cI cJ cZ m0 mk mc mx my mf mp mq mb u)) (va_A (mo_w cI cJ cZ m0 mk mc mx my mf mp mq mb M) sz)) 0 0 (va_A (mo_w cI cJ cZ m0 mk mc mx my mf mp mq mb M) sz) := by
  refine Met.ofW (cc := cX4_shapes) (maxL := 1) (ret := (some .int)) (by decide) rfl ?_
  intro p e s m args below meth c s₁ B hml hv
  obtain ⟨rfl, hsz, hK, hE, hP, hD0, hR, hRn0⟩ := hv
  have hx := B.exec
  have hb := B.bytes
  have hr := B.returns
  have hts := atoms_spec (ws := wsX4_shapes) B.pre
  have hown : s.vm.findClass RX4 = some m.cls := findClass_of_methodNamed B.named
  have hlocks := B.notSynchronized
  subst hsz
  have hD := hD0.self (sz := s.heap.size)
  have hRn := gx_rn0 hR hRn0
  generalize hAe : va_A (mo_w cI cJ cZ m0 mk mc mx my mf mp mq mb M) s.heap.size = A at hD hE hRn ⊢
  have hA : ∀ q : Nat, s.heap.size ≤ q → A q := fun q h => by rw [← hAe]; exact Or.inr h
  have hS : va_S A s.heap s.heap [] := va_S.rf
  have lk_1 := hts (.fieldLink RX4 1 "PlacePointsModel" "thrown" "I") (by decide +kernel)
  have lk_40 := hts (.fieldLink RX4 40 "PlacePointsModel" "count" "I") (by decide +kernel)
  have lk_62 := hts (.fieldLink RX4 62 "PlacePointsModel" "gone" "I") (by decide +kernel)
  have in_X4 := in_X4_shapes_X4
  have hl := lv_entry ([.ref m0]) (n := 1) (Nat.le_of_ble_eq_true rfl)
  rw [lg_entry_eq]
  generalize (lg_sl ([.ref m0]) ++ List.replicate (1 - (lg_sl ([.ref m0])).length) Slot.unset).toArray = ls at hl ⊢
  have hl : lv_has ls 1 [(0, .ref m0)] := hl
  rw [s_X4_shapes] at hs
  refine lv_aload_n hx hb dX4_shapes_0 rfl (lv_at hl 0 rfl) ?_
  refine lv_iconst (v := 0) hx hb dX4_shapes_1 (by decide) ?_
  refine va_put (D := D) (ci := 4) (v := .int 0) (ty := .int) (C := RX4) (T := TX4) (N := 15) hx hb hts in_X4 tyX4 tyX4_ok nmX4 hown hK hP hD hS 0 rfl rfl 11 (by decide) lk_1 (fun _ h9 => h9) rfl (by decide +kernel) rfl rfl (Nat.le_of_ble_eq_true rfl) dX4_shapes_2 (fun H locs hP hD hS => ?_)
  have hP : va_P D vwCl (mo_w cI cJ cZ m0 mk mc mx my mf mp mq mb (ms_t M 0)) H := hP
  have hD : va_D A (mo_w cI cJ cZ m0 mk mc mx my mf mp mq mb (ms_t M 0)) := hD
  refine lv_aload_n hx hb dX4_shapes_5 rfl (lv_at hl 0 rfl) ?_
  refine va_get (D := D) (ci := 4) (v := .int (mo_n M)) (C := RX4) (T := TX4) (N := 15) hx hb hts in_X4 hown hK hP 0 rfl rfl 4 (by decide) lk_40 (fun _ h9 => h9) rfl dX4_shapes_6 ?_
  refine lv_aload_n hx hb dX4_shapes_9 rfl (lv_at hl 0 rfl) ?_
  refine va_get (D := D) (ci := 4) (v := .int (mo_g M)) (C := RX4) (T := TX4) (N := 15) hx hb hts in_X4 hown hK hP 0 rfl rfl 6 (by decide) lk_62 (fun _ h9 => h9) rfl dX4_shapes_10 ?_
  refine lv_isub hx hb dX4_shapes_13 ?_
  obtain rfl := Option.some.inj hs
  exact W.iret hx hb hr (fun t ht hW => ⟨⟨_, _, rfl, ⟨rfl, rfl⟩, by rw [ht]; exact hP, hD⟩, hS.F ht⟩) hS.2.2 dX4_shapes_14
def s_X4_begin (F : Nat) (M : mo_T) (p1 : Int32) : Option (Int32 × mo_T) :=
  if (mo_n M) = 60 then
    some ((-2), M)
  else
    (wr_in 60 (mo_n M)).bind fun _ =>
    (wr_in 60 (mo_n M)).bind fun _ =>
    (some (((mo_n M) + 1))).bind fun e_39 =>
    some ((e_39 - 1), (ms_n (ms_c (ms_k M (upd (mo_k M) (mo_n M).toNatClampNeg p1)) (upd (mo_c M) (mo_n M).toNatClampNeg 0)) e_39))
abbrev rm_X4_begin : Room := { frames := 0, cells := 0, slots := 0, locals := 0 }
theorem in_X4_begin_X4 : ∀ w ∈ wsX40, w ∈ wsX4_begin := by decide +kernel
set_option maxHeartbeats 4000000 in
set_option maxRecDepth 100000 in
theorem c_X4_begin (l : Launch) (D : va_G) (cI cJ cZ cS : ClassId) (ad : Nat → Nat) (m0 mk mc mx my mf mp mq mb : Nat) (sz : Nat) (M : mo_T) (p1 : Int32) (F : Nat)  (r : (Int32 × mo_T)) (hs : s_X4_begin F M p1 = some r) : Met l yX4_begin wsX4_begin rm_X4_begin (gm_P D cI cJ cZ cS ad sz (mo_w cI cJ cZ m0 mk mc mx my mf mp mq mb M) ([]) [.ref m0, .int p1]) (va_Qi (fun x (u : mo_T) => x = r.1 ∧ u = r.2) (fun u t => va_P D vwCl (mo_w cI cJ cZ m0 mk mc mx my mf mp mq mb u) t.heap ∧ va_D (va_A (mo_w cI cJ cZ m0 mk mc mx my mf mp mq mb M) sz) (mo_w cI cJ cZ m0 mk mc mx my mf mp mq mb u)) (va_A (mo_w cI cJ cZ m0 mk mc mx my mf mp mq mb M) sz)) 0 0 (va_A (mo_w cI cJ cZ m0 mk mc mx my mf mp mq mb M) sz) := by
  refine Met.ofW (cc := cX4_begin) (maxL := 2) (ret := (some .int)) (by decide) rfl ?_
  intro p e s m args below meth c s₁ B hml hv
  obtain ⟨rfl, hsz, hK, hE, hP, hD0, hR, hRn0⟩ := hv
  have hx := B.exec
  have hb := B.bytes
  have hr := B.returns
  have hts := atoms_spec (ws := wsX4_begin) B.pre
  have hown : s.vm.findClass RX4 = some m.cls := findClass_of_methodNamed B.named
  have hlocks := B.notSynchronized
  subst hsz
  have hD := hD0.self (sz := s.heap.size)
  have hRn := gx_rn0 hR hRn0
  generalize hAe : va_A (mo_w cI cJ cZ m0 mk mc mx my mf mp mq mb M) s.heap.size = A at hD hE hRn ⊢
  have hA : ∀ q : Nat, s.heap.size ≤ q → A q := fun q h => by rw [← hAe]; exact Or.inr h
  have hS : va_S A s.heap s.heap [] := va_S.rf
  have lk_13 := hts (.fieldLink RX4 13 "PlacePointsModel" "kinds" "[I") (by decide +kernel)
  have lk_17 := hts (.fieldLink RX4 17 "PlacePointsModel" "counts" "[I") (by decide +kernel)
  have lk_40 := hts (.fieldLink RX4 40 "PlacePointsModel" "count" "I") (by decide +kernel)
  have in_X4 := in_X4_begin_X4
  have hl := lv_entry ([.ref m0, .int p1]) (n := 2) (Nat.le_of_ble_eq_true rfl)
  rw [lg_entry_eq]
  generalize (lg_sl ([.ref m0, .int p1]) ++ List.replicate (2 - (lg_sl ([.ref m0, .int p1])).length) Slot.unset).toArray = ls at hl ⊢
  have hl : lv_has ls 2 [(0, .ref m0), (1, .int p1)] := hl
  rw [s_X4_begin] at hs
  refine lv_aload_n hx hb dX4_begin_0 rfl (lv_at hl 0 rfl) ?_
  refine va_get (D := D) (ci := 4) (v := .int (mo_n M)) (C := RX4) (T := TX4) (N := 15) hx hb hts in_X4 hown hK hP 0 rfl rfl 4 (by decide) lk_40 (fun _ h9 => h9) rfl dX4_begin_1 ?_
  refine lv_bipush (v := 60) hx hb dX4_begin_4 (by decide) ?_
  refine lv_icmp_ne (tgt := 12) hx hb dX4_begin_6 (by decide) (fun c_6 => ?_) (fun c_6 => ?_)
  · replace hs := it_f c_6 hs
    refine lv_aload_n hx hb dX4_begin_12 rfl (lv_at hl 0 rfl) ?_
    refine va_get (D := D) (ci := 4) (v := .ref mk) (C := RX4) (T := TX4) (N := 15) hx hb hts in_X4 hown hK hP 0 rfl rfl 0 (by decide) lk_13 (fun _ h9 => h9) rfl dX4_begin_13 ?_
    refine lv_aload_n hx hb dX4_begin_16 rfl (lv_at hl 0 rfl) ?_
    refine va_get (D := D) (ci := 4) (v := .int (mo_n M)) (C := RX4) (T := TX4) (N := 15) hx hb hts in_X4 hown hK hP 0 rfl rfl 4 (by decide) lk_40 (fun _ h9 => h9) rfl dX4_begin_17 ?_
    refine lv_iload_n hx hb dX4_begin_20 rfl (lv_at hl 1 rfl) ?_
    obtain ⟨_, hv_21, hs⟩ := op_bd hs
    refine va_iast hx hb hK hP hD hS 1 0 rfl rfl (wr_ok hv_21) dX4_begin_21 (fun H locs hP hD hS => ?_)
    have hP : va_P D vwCl (mo_w cI cJ cZ m0 mk mc mx my mf mp mq mb (ms_k M (upd (mo_k M) (mo_n M).toNatClampNeg p1))) H := hP
    have hD : va_D A (mo_w cI cJ cZ m0 mk mc mx my mf mp mq mb (ms_k M (upd (mo_k M) (mo_n M).toNatClampNeg p1))) := hD
    refine lv_aload_n hx hb dX4_begin_22 rfl (lv_at hl 0 rfl) ?_
    refine va_get (D := D) (ci := 4) (v := .ref mc) (C := RX4) (T := TX4) (N := 15) hx hb hts in_X4 hown hK hP 0 rfl rfl 1 (by decide) lk_17 (fun _ h9 => h9) rfl dX4_begin_23 ?_
    refine lv_aload_n hx hb dX4_begin_26 rfl (lv_at hl 0 rfl) ?_
    refine va_get (D := D) (ci := 4) (v := .int (mo_n M)) (C := RX4) (T := TX4) (N := 15) hx hb hts in_X4 hown hK hP 0 rfl rfl 4 (by decide) lk_40 (fun _ h9 => h9) rfl dX4_begin_27 ?_
    refine lv_iconst (v := 0) hx hb dX4_begin_30 (by decide) ?_
    obtain ⟨_, hv_31, hs⟩ := op_bd hs
    refine va_iast hx hb hK hP hD hS 2 0 rfl rfl (wr_ok hv_31) dX4_begin_31 (fun H locs hP hD hS => ?_)
    have hP : va_P D vwCl (mo_w cI cJ cZ m0 mk mc mx my mf mp mq mb (ms_c (ms_k M (upd (mo_k M) (mo_n M).toNatClampNeg p1)) (upd (mo_c M) (mo_n M).toNatClampNeg 0))) H := hP
    have hD : va_D A (mo_w cI cJ cZ m0 mk mc mx my mf mp mq mb (ms_c (ms_k M (upd (mo_k M) (mo_n M).toNatClampNeg p1)) (upd (mo_c M) (mo_n M).toNatClampNeg 0))) := hD
    refine lv_aload_n hx hb dX4_begin_32 rfl (lv_at hl 0 rfl) ?_
    refine lv_dup hx hb dX4_begin_33 rfl ?_
    refine va_get (D := D) (ci := 4) (v := .int (mo_n M)) (C := RX4) (T := TX4) (N := 15) hx hb hts in_X4 hown hK hP 0 rfl rfl 4 (by decide) lk_40 (fun _ h9 => h9) rfl dX4_begin_34 ?_
    refine lv_iconst (v := 1) hx hb dX4_begin_37 (by decide) ?_
    refine lv_iadd hx hb dX4_begin_38 ?_
    obtain ⟨e_39, hv_39, hs⟩ := op_bd hs
    refine gx_ni (Option.some.inj hv_39) ?_
    refine va_put (D := D) (ci := 4) (v := .int e_39) (ty := .int) (C := RX4) (T := TX4) (N := 15) hx hb hts in_X4 tyX4 tyX4_ok nmX4 hown hK hP hD hS 0 rfl rfl 4 (by decide) lk_40 (fun _ h9 => h9) rfl (by decide +kernel) rfl rfl (Nat.le_of_ble_eq_true rfl) dX4_begin_39 (fun H locs hP hD hS => ?_)
    have hP : va_P D vwCl (mo_w cI cJ cZ m0 mk mc mx my mf mp mq mb (ms_n (ms_c (ms_k M (upd (mo_k M) (mo_n M).toNatClampNeg p1)) (upd (mo_c M) (mo_n M).toNatClampNeg 0)) e_39)) H := hP
    have hD : va_D A (mo_w cI cJ cZ m0 mk mc mx my mf mp mq mb (ms_n (ms_c (ms_k M (upd (mo_k M) (mo_n M).toNatClampNeg p1)) (upd (mo_c M) (mo_n M).toNatClampNeg 0)) e_39)) := hD
    refine lv_aload_n hx hb dX4_begin_42 rfl (lv_at hl 0 rfl) ?_
    refine va_get (D := D) (ci := 4) (v := .int e_39) (C := RX4) (T := TX4) (N := 15) hx hb hts in_X4 hown hK hP 0 rfl rfl 4 (by decide) lk_40 (fun _ h9 => h9) rfl dX4_begin_43 ?_
    refine lv_iconst (v := 1) hx hb dX4_begin_46 (by decide) ?_
    refine lv_isub hx hb dX4_begin_47 ?_
    obtain rfl := Option.some.inj hs
    exact W.iret hx hb hr (fun t ht hW => ⟨⟨_, _, rfl, ⟨rfl, rfl⟩, by rw [ht]; exact hP, hD⟩, hS.F ht⟩) hS.2.2 dX4_begin_48
  · replace hs := it_t c_6 hs
    refine lv_bipush (v := -2) hx hb dX4_begin_9 (by decide) ?_
    obtain rfl := Option.some.inj hs
    exact W.iret hx hb hr (fun t ht hW => ⟨⟨_, _, rfl, ⟨rfl, rfl⟩, by rw [ht]; exact hP, hD⟩, hS.F ht⟩) hS.2.2 dX4_begin_11
def s_X4_lay (F : Nat) (M : mo_T) (p1 : Int32) (p2 : Int32) (p3 : Int32) : Option mo_T :=
  (rd_i 60 (mo_c M) p1).bind fun v_9 =>
  (some (((24 * p1) + v_9))).bind fun e_11 =>
  (wr_in 1500 e_11).bind fun _ =>
  (wr_in 1500 e_11).bind fun _ =>
  (rd_i 60 (mo_c M) p1).bind fun v_37 =>
  (wr_in 60 p1).bind fun _ =>
  (some (((mo_o M) + 1))).bind fun e_48 =>
  some (ms_o (ms_y (ms_x (ms_c M (upd (mo_c M) p1.toNatClampNeg (v_37 + 1))) (vp_updL (mo_x M) e_11.toNatClampNeg p2.toInt64)) (vp_updL (mo_y M) e_11.toNatClampNeg p3.toInt64)) e_48)
abbrev rm_X4_lay : Room := { frames := 0, cells := 0, slots := 0, locals := 0 }
theorem in_X4_lay_X4 : ∀ w ∈ wsX40, w ∈ wsX4_lay := by decide +kernel
set_option maxHeartbeats 4000000 in
set_option maxRecDepth 100000 in
theorem c_X4_lay (l : Launch) (D : va_G) (cI cJ cZ cS : ClassId) (ad : Nat → Nat) (m0 mk mc mx my mf mp mq mb : Nat) (sz : Nat) (M : mo_T) (p1 : Int32) (p2 : Int32) (p3 : Int32) (F : Nat)  (r : mo_T) (hs : s_X4_lay F M p1 p2 p3 = some r) : Met l yX4_lay wsX4_lay rm_X4_lay (gm_P D cI cJ cZ cS ad sz (mo_w cI cJ cZ m0 mk mc mx my mf mp mq mb M) ([]) [.ref m0, .int p1, .int p2, .int p3]) (va_Qv (fun u : mo_T => u = r) (fun u t => va_P D vwCl (mo_w cI cJ cZ m0 mk mc mx my mf mp mq mb u) t.heap ∧ va_D (va_A (mo_w cI cJ cZ m0 mk mc mx my mf mp mq mb M) sz) (mo_w cI cJ cZ m0 mk mc mx my mf mp mq mb u)) (va_A (mo_w cI cJ cZ m0 mk mc mx my mf mp mq mb M) sz)) 0 0 (va_A (mo_w cI cJ cZ m0 mk mc mx my mf mp mq mb M) sz) := by
  refine Met.ofW (cc := cX4_lay) (maxL := 5) (ret := none) (by decide) rfl ?_
  intro p e s m args below meth c s₁ B hml hv
  obtain ⟨rfl, hsz, hK, hE, hP, hD0, hR, hRn0⟩ := hv
  have hx := B.exec
  have hb := B.bytes
  have hr := B.returns
  have hts := atoms_spec (ws := wsX4_lay) B.pre
  have hown : s.vm.findClass RX4 = some m.cls := findClass_of_methodNamed B.named
  have hlocks := B.notSynchronized
  subst hsz
  have hD := hD0.self (sz := s.heap.size)
  have hRn := gx_rn0 hR hRn0
  generalize hAe : va_A (mo_w cI cJ cZ m0 mk mc mx my mf mp mq mb M) s.heap.size = A at hD hE hRn ⊢
  have hA : ∀ q : Nat, s.heap.size ≤ q → A q := fun q h => by rw [← hAe]; exact Or.inr h
  have hS : va_S A s.heap s.heap [] := va_S.rf
  have lk_17 := hts (.fieldLink RX4 17 "PlacePointsModel" "counts" "[I") (by decide +kernel)
  have lk_20 := hts (.fieldLink RX4 20 "PlacePointsModel" "xs" "[J") (by decide +kernel)
  have lk_24 := hts (.fieldLink RX4 24 "PlacePointsModel" "ys" "[J") (by decide +kernel)
  have lk_43 := hts (.fieldLink RX4 43 "PlacePointsModel" "corners" "I") (by decide +kernel)
  have in_X4 := in_X4_lay_X4
  have hl := lv_entry ([.ref m0, .int p1, .int p2, .int p3]) (n := 5) (Nat.le_of_ble_eq_true rfl)
  rw [lg_entry_eq]
  generalize (lg_sl ([.ref m0, .int p1, .int p2, .int p3]) ++ List.replicate (5 - (lg_sl ([.ref m0, .int p1, .int p2, .int p3])).length) Slot.unset).toArray = ls at hl ⊢
  have hl : lv_has ls 5 [(0, .ref m0), (1, .int p1), (2, .int p2), (3, .int p3)] := hl
  rw [s_X4_lay] at hs
  refine lv_bipush (v := 24) hx hb dX4_lay_0 (by decide) ?_
  refine lv_iload_n hx hb dX4_lay_2 rfl (lv_at hl 1 rfl) ?_
  refine lv_imul hx hb dX4_lay_3 ?_
  refine lv_aload_n hx hb dX4_lay_4 rfl (lv_at hl 0 rfl) ?_
  refine va_get (D := D) (ci := 4) (v := .ref mc) (C := RX4) (T := TX4) (N := 15) hx hb hts in_X4 hown hK hP 0 rfl rfl 1 (by decide) lk_17 (fun _ h9 => h9) rfl dX4_lay_5 ?_
  refine lv_iload_n hx hb dX4_lay_8 rfl (lv_at hl 1 rfl) ?_
  obtain ⟨v_9, hv_9, hs⟩ := op_bd hs
  refine gx_iald hx hb hK hP 2 0 rfl rfl hv_9 dX4_lay_9 ?_
  refine lv_iadd hx hb dX4_lay_10 ?_
  obtain ⟨e_11, hv_11, hs⟩ := op_bd hs
  refine gx_ni (Option.some.inj hv_11) ?_
  refine lv_istore (lv' := [(4, .int e_11), (0, .ref m0), (1, .int p1), (2, .int p2), (3, .int p3)]) hx hb dX4_lay_11 hl (by decide) rfl (fun ls hl => ?_)
  refine lv_aload_n hx hb dX4_lay_13 rfl (lv_at hl 1 rfl) ?_
  refine va_get (D := D) (ci := 4) (v := .ref mx) (C := RX4) (T := TX4) (N := 15) hx hb hts in_X4 hown hK hP 0 rfl rfl 2 (by decide) lk_20 (fun _ h9 => h9) rfl dX4_lay_14 ?_
  refine lv_iload hx hb dX4_lay_17 (lv_at hl 0 rfl) ?_
  refine lv_iload_n hx hb dX4_lay_19 rfl (lv_at hl 3 rfl) ?_
  refine lv_i2l hx hb dX4_lay_20 rfl ?_
  obtain ⟨_, hv_21, hs⟩ := op_bd hs
  refine va_last hx hb hK hP hD hS 3 1 rfl rfl (wr_ok hv_21) dX4_lay_21 (fun H locs hP hD hS => ?_)
  have hP : va_P D vwCl (mo_w cI cJ cZ m0 mk mc mx my mf mp mq mb (ms_x M (vp_updL (mo_x M) e_11.toNatClampNeg p2.toInt64))) H := hP
  have hD : va_D A (mo_w cI cJ cZ m0 mk mc mx my mf mp mq mb (ms_x M (vp_updL (mo_x M) e_11.toNatClampNeg p2.toInt64))) := hD
  refine lv_aload_n hx hb dX4_lay_22 rfl (lv_at hl 1 rfl) ?_
  refine va_get (D := D) (ci := 4) (v := .ref my) (C := RX4) (T := TX4) (N := 15) hx hb hts in_X4 hown hK hP 0 rfl rfl 3 (by decide) lk_24 (fun _ h9 => h9) rfl dX4_lay_23 ?_
  refine lv_iload hx hb dX4_lay_26 (lv_at hl 0 rfl) ?_
  refine lv_iload_n hx hb dX4_lay_28 rfl (lv_at hl 4 rfl) ?_
  refine lv_i2l hx hb dX4_lay_29 rfl ?_
  obtain ⟨_, hv_30, hs⟩ := op_bd hs
  refine va_last hx hb hK hP hD hS 4 1 rfl rfl (wr_ok hv_30) dX4_lay_30 (fun H locs hP hD hS => ?_)
  have hP : va_P D vwCl (mo_w cI cJ cZ m0 mk mc mx my mf mp mq mb (ms_y (ms_x M (vp_updL (mo_x M) e_11.toNatClampNeg p2.toInt64)) (vp_updL (mo_y M) e_11.toNatClampNeg p3.toInt64))) H := hP
  have hD : va_D A (mo_w cI cJ cZ m0 mk mc mx my mf mp mq mb (ms_y (ms_x M (vp_updL (mo_x M) e_11.toNatClampNeg p2.toInt64)) (vp_updL (mo_y M) e_11.toNatClampNeg p3.toInt64))) := hD
  refine lv_aload_n hx hb dX4_lay_31 rfl (lv_at hl 1 rfl) ?_
  refine va_get (D := D) (ci := 4) (v := .ref mc) (C := RX4) (T := TX4) (N := 15) hx hb hts in_X4 hown hK hP 0 rfl rfl 1 (by decide) lk_17 (fun _ h9 => h9) rfl dX4_lay_32 ?_
  refine lv_iload_n hx hb dX4_lay_35 rfl (lv_at hl 2 rfl) ?_
  refine lv_dup2_11 hx hb dX4_lay_36 rfl rfl ?_
  obtain ⟨v_37, hv_37, hs⟩ := op_bd hs
  refine gx_iald hx hb hK hP 2 0 rfl rfl hv_37 dX4_lay_37 ?_
  refine lv_iconst (v := 1) hx hb dX4_lay_38 (by decide) ?_
  refine lv_iadd hx hb dX4_lay_39 ?_
  obtain ⟨_, hv_40, hs⟩ := op_bd hs
  refine va_iast hx hb hK hP hD hS 2 0 rfl rfl (wr_ok hv_40) dX4_lay_40 (fun H locs hP hD hS => ?_)
  have hP : va_P D vwCl (mo_w cI cJ cZ m0 mk mc mx my mf mp mq mb (ms_y (ms_x (ms_c M (upd (mo_c M) p1.toNatClampNeg (v_37 + 1))) (vp_updL (mo_x M) e_11.toNatClampNeg p2.toInt64)) (vp_updL (mo_y M) e_11.toNatClampNeg p3.toInt64))) H := hP
  have hD : va_D A (mo_w cI cJ cZ m0 mk mc mx my mf mp mq mb (ms_y (ms_x (ms_c M (upd (mo_c M) p1.toNatClampNeg (v_37 + 1))) (vp_updL (mo_x M) e_11.toNatClampNeg p2.toInt64)) (vp_updL (mo_y M) e_11.toNatClampNeg p3.toInt64))) := hD
  refine lv_aload_n hx hb dX4_lay_41 rfl (lv_at hl 1 rfl) ?_
  refine lv_dup hx hb dX4_lay_42 rfl ?_
  refine va_get (D := D) (ci := 4) (v := .int (mo_o M)) (C := RX4) (T := TX4) (N := 15) hx hb hts in_X4 hown hK hP 0 rfl rfl 5 (by decide) lk_43 (fun _ h9 => h9) rfl dX4_lay_43 ?_
  refine lv_iconst (v := 1) hx hb dX4_lay_46 (by decide) ?_
  refine lv_iadd hx hb dX4_lay_47 ?_
  obtain ⟨e_48, hv_48, hs⟩ := op_bd hs
  refine gx_ni (Option.some.inj hv_48) ?_
  refine va_put (D := D) (ci := 4) (v := .int e_48) (ty := .int) (C := RX4) (T := TX4) (N := 15) hx hb hts in_X4 tyX4 tyX4_ok nmX4 hown hK hP hD hS 0 rfl rfl 5 (by decide) lk_43 (fun _ h9 => h9) rfl (by decide +kernel) rfl rfl (Nat.le_of_ble_eq_true rfl) dX4_lay_48 (fun H locs hP hD hS => ?_)
  have hP : va_P D vwCl (mo_w cI cJ cZ m0 mk mc mx my mf mp mq mb (ms_o (ms_y (ms_x (ms_c M (upd (mo_c M) p1.toNatClampNeg (v_37 + 1))) (vp_updL (mo_x M) e_11.toNatClampNeg p2.toInt64)) (vp_updL (mo_y M) e_11.toNatClampNeg p3.toInt64)) e_48)) H := hP
  have hD : va_D A (mo_w cI cJ cZ m0 mk mc mx my mf mp mq mb (ms_o (ms_y (ms_x (ms_c M (upd (mo_c M) p1.toNatClampNeg (v_37 + 1))) (vp_updL (mo_x M) e_11.toNatClampNeg p2.toInt64)) (vp_updL (mo_y M) e_11.toNatClampNeg p3.toInt64)) e_48)) := hD
  obtain rfl := Option.some.inj hs
  exact W.vret hx hb hr (fun t ht hW => ⟨⟨_, rfl, rfl, by rw [ht]; exact hP, hD⟩, hS.F ht⟩) hS.2.2 dX4_lay_51
def s_X4_point (F : Nat) (M : mo_T) (p1 : Int32) (p2 : Int32) : Option (Int32 × mo_T) :=
  (s_X4_isPlace F p1 p2).bind fun v_7 =>
  if v_7 = 0 then
    some ((-1), (ms_t M 0))
  else
    if (mo_n M) = 60 then
      some ((-2), (ms_t M 0))
    else
      if (mo_o M) = 400 then
        some ((-2), (ms_t M 0))
      else
        (s_X4_begin F (ms_t M 0) 1).bind fun v_39 =>
        (some (v_39.1)).bind fun e_42 =>
        (s_X4_lay F v_39.2 e_42 p1 p2).bind fun v_47 =>
        some (e_42, v_47)
abbrev rm_X4_point : Room := { frames := 1, cells := 0, slots := 0, locals := 24 }
theorem in_X4_point_X4 : ∀ w ∈ wsX40, w ∈ wsX4_point := by decide +kernel
set_option maxHeartbeats 4000000 in
set_option maxRecDepth 100000 in
theorem c_X4_point (l : Launch) (D : va_G) (cI cJ cZ cS : ClassId) (ad : Nat → Nat) (m0 mk mc mx my mf mp mq mb : Nat) (sz : Nat) (M : mo_T) (p1 : Int32) (p2 : Int32) (F : Nat)  (r : (Int32 × mo_T)) (hs : s_X4_point F M p1 p2 = some r) : Met l yX4_point wsX4_point rm_X4_point (gm_P D cI cJ cZ cS ad sz (mo_w cI cJ cZ m0 mk mc mx my mf mp mq mb M) ([]) [.ref m0, .int p1, .int p2]) (va_Qi (fun x (u : mo_T) => x = r.1 ∧ u = r.2) (fun u t => va_P D vwCl (mo_w cI cJ cZ m0 mk mc mx my mf mp mq mb u) t.heap ∧ va_D (va_A (mo_w cI cJ cZ m0 mk mc mx my mf mp mq mb M) sz) (mo_w cI cJ cZ m0 mk mc mx my mf mp mq mb u)) (va_A (mo_w cI cJ cZ m0 mk mc mx my mf mp mq mb M) sz)) 0 0 (va_A (mo_w cI cJ cZ m0 mk mc mx my mf mp mq mb M) sz) := by
  refine Met.ofW (cc := cX4_point) (maxL := 4) (ret := (some .int)) (by decide) rfl ?_
  intro p e s m args below meth c s₁ B hml hv
  obtain ⟨rfl, hsz, hK, hE, hP, hD0, hR, hRn0⟩ := hv
  have hx := B.exec
  have hb := B.bytes
  have hr := B.returns
  have hts := atoms_spec (ws := wsX4_point) B.pre
  have hown : s.vm.findClass RX4 = some m.cls := findClass_of_methodNamed B.named
  have hlocks := B.notSynchronized
  subst hsz
  have hD := hD0.self (sz := s.heap.size)
  have hRn := gx_rn0 hR hRn0
  generalize hAe : va_A (mo_w cI cJ cZ m0 mk mc mx my mf mp mq mb M) s.heap.size = A at hD hE hRn ⊢
  have hA : ∀ q : Nat, s.heap.size ≤ q → A q := fun q h => by rw [← hAe]; exact Or.inr h
  have hS : va_S A s.heap s.heap [] := va_S.rf
  have lk_1 := hts (.fieldLink RX4 1 "PlacePointsModel" "thrown" "I") (by decide +kernel)
  have lk_40 := hts (.fieldLink RX4 40 "PlacePointsModel" "count" "I") (by decide +kernel)
  have lk_43 := hts (.fieldLink RX4 43 "PlacePointsModel" "corners" "I") (by decide +kernel)
  have in_X4 := in_X4_point_X4
  have hl := lv_entry ([.ref m0, .int p1, .int p2]) (n := 4) (Nat.le_of_ble_eq_true rfl)
  rw [lg_entry_eq]
  generalize (lg_sl ([.ref m0, .int p1, .int p2]) ++ List.replicate (4 - (lg_sl ([.ref m0, .int p1, .int p2])).length) Slot.unset).toArray = ls at hl ⊢
  have hl : lv_has ls 4 [(0, .ref m0), (1, .int p1), (2, .int p2)] := hl
  rw [s_X4_point] at hs
  refine lv_aload_n hx hb dX4_point_0 rfl (lv_at hl 0 rfl) ?_
  refine lv_iconst (v := 0) hx hb dX4_point_1 (by decide) ?_
  refine va_put (D := D) (ci := 4) (v := .int 0) (ty := .int) (C := RX4) (T := TX4) (N := 15) hx hb hts in_X4 tyX4 tyX4_ok nmX4 hown hK hP hD hS 0 rfl rfl 11 (by decide) lk_1 (fun _ h9 => h9) rfl (by decide +kernel) rfl rfl (Nat.le_of_ble_eq_true rfl) dX4_point_2 (fun H locs hP hD hS => ?_)
  have hP : va_P D vwCl (mo_w cI cJ cZ m0 mk mc mx my mf mp mq mb (ms_t M 0)) H := hP
  have hD : va_D A (mo_w cI cJ cZ m0 mk mc mx my mf mp mq mb (ms_t M 0)) := hD
  refine lv_iload_n hx hb dX4_point_5 rfl (lv_at hl 1 rfl) ?_
  refine lv_iload_n hx hb dX4_point_6 rfl (lv_at hl 2 rfl) ?_
  obtain ⟨v_7, hc_7, hs⟩ := op_bd hs
  refine gx_cSi (va_Run.run (va_runS (As := [.int p1, .int p2]) (rest := []) ⟨hx, hb, hml, hown, hts⟩ (c_X4_isPlace l D cI cJ cZ cS ad p1 p2 F  v_7 hc_7) (va_cwS 2 hts gX4_point_X4_isPlace rfl rfl rfl (by decide +kernel) ⟨Nat.le_of_ble_eq_true rfl, Nat.le_of_ble_eq_true rfl⟩) ⟨gl_blind, gl_ok hK (gl_Ek hE hS) trivial⟩ rfl rfl hl.1 rfl (lv_room (Nat.le_of_ble_eq_true rfl)) dX4_point_7 ⟨Nat.le_of_ble_eq_true rfl, Nat.le_of_ble_eq_true rfl⟩)) ?_
  refine lv_if_ne (tgt := 15) hx hb dX4_point_10 (by decide) (fun c_10 => ?_) (fun c_10 => ?_)
  · replace hs := it_f c_10 hs
    refine lv_aload_n hx hb dX4_point_15 rfl (lv_at hl 0 rfl) ?_
    refine va_get (D := D) (ci := 4) (v := .int (mo_n M)) (C := RX4) (T := TX4) (N := 15) hx hb hts in_X4 hown hK hP 0 rfl rfl 4 (by decide) lk_40 (fun _ h9 => h9) rfl dX4_point_16 ?_
    refine lv_bipush (v := 60) hx hb dX4_point_19 (by decide) ?_
    refine lv_icmp_eq (tgt := 34) hx hb dX4_point_21 (by decide) (fun c_21 => ?_) (fun c_21 => ?_)
    · replace hs := it_t c_21 hs
      refine lv_bipush (v := -2) hx hb dX4_point_34 (by decide) ?_
      obtain rfl := Option.some.inj hs
      exact W.iret hx hb hr (fun t ht hW => ⟨⟨_, _, rfl, ⟨rfl, rfl⟩, by rw [ht]; exact hP, hD⟩, hS.F ht⟩) hS.2.2 dX4_point_36
    · replace hs := it_f c_21 hs
      refine lv_aload_n hx hb dX4_point_24 rfl (lv_at hl 0 rfl) ?_
      refine va_get (D := D) (ci := 4) (v := .int (mo_o M)) (C := RX4) (T := TX4) (N := 15) hx hb hts in_X4 hown hK hP 0 rfl rfl 5 (by decide) lk_43 (fun _ h9 => h9) rfl dX4_point_25 ?_
      refine lv_sipush (v := 400) hx hb dX4_point_28 (by decide) ?_
      refine lv_icmp_ne (tgt := 37) hx hb dX4_point_31 (by decide) (fun c_31 => ?_) (fun c_31 => ?_)
      · replace hs := it_f c_31 hs
        refine lv_aload_n hx hb dX4_point_37 rfl (lv_at hl 0 rfl) ?_
        refine lv_iconst (v := 1) hx hb dX4_point_38 (by decide) ?_
        obtain ⟨v_39, hc_39, hs⟩ := op_bd hs
        have hFc := va_free (wc := mo_w cI cJ cZ m0 mk mc mx my mf mp mq mb (ms_t M 0)) hD hS hA [0, 1, 2, 3, 4, 5, 6, 7, 8] rfl
        refine gx_cMi (wf := fun u => mo_w cI cJ cZ m0 mk mc mx my mf mp mq mb u) (va_runV (As := [.int 1]) (rest := []) ⟨hx, hb, hml, hown, hts⟩ (c_X4_begin l D cI cJ cZ cS ad m0 mk mc mx my mf mp mq mb _ (ms_t M 0) 1 F  v_39 hc_39) (cwV 1 hts gX4_point_X4_begin rfl rfl rfl (by decide +kernel) ⟨Nat.le_of_ble_eq_true rfl, Nat.le_of_ble_eq_true rfl⟩) ⟨gm_blind, va_recv hK hP (ci := 4) (q0 := 0) rfl rfl, gm_ok hK hE hS hFc hP hD va_nil0 gx_nil⟩ rfl rfl hl.1 rfl (lv_room (Nat.le_of_ble_eq_true rfl)) dX4_point_39 ⟨Nat.le_of_ble_eq_true rfl, Nat.le_of_ble_eq_true rfl⟩) hS hFc (fun H locs hP hD hS => ?_)
        have hP : va_P D vwCl (mo_w cI cJ cZ m0 mk mc mx my mf mp mq mb v_39.2) H := hP
        have hD : va_D A (mo_w cI cJ cZ m0 mk mc mx my mf mp mq mb v_39.2) := hD
        obtain ⟨e_42, hv_42, hs⟩ := op_bd hs
        refine gx_ni (Option.some.inj hv_42) ?_
        refine lv_istore_n (lv' := [(3, .int e_42), (0, .ref m0), (1, .int p1), (2, .int p2)]) hx hb dX4_point_42 rfl hl (by decide) rfl (fun ls hl => ?_)
        refine lv_aload_n hx hb dX4_point_43 rfl (lv_at hl 1 rfl) ?_
        refine lv_iload_n hx hb dX4_point_44 rfl (lv_at hl 0 rfl) ?_
        refine lv_iload_n hx hb dX4_point_45 rfl (lv_at hl 2 rfl) ?_
        refine lv_iload_n hx hb dX4_point_46 rfl (lv_at hl 3 rfl) ?_
        obtain ⟨v_47, hc_47, hs⟩ := op_bd hs
        have hFc := va_free (wc := mo_w cI cJ cZ m0 mk mc mx my mf mp mq mb v_39.2) hD hS hA [0, 1, 2, 3, 4, 5, 6, 7, 8] rfl
        refine gx_cMv (wf := fun u => mo_w cI cJ cZ m0 mk mc mx my mf mp mq mb u) (va_runV (As := [.int e_42, .int p1, .int p2]) (rest := []) ⟨hx, hb, hml, hown, hts⟩ (c_X4_lay l D cI cJ cZ cS ad m0 mk mc mx my mf mp mq mb _ v_39.2 e_42 p1 p2 F  v_47 hc_47) (cwV 3 hts gX4_point_X4_lay rfl rfl rfl (by decide +kernel) ⟨Nat.le_of_ble_eq_true rfl, Nat.le_of_ble_eq_true rfl⟩) ⟨gm_blind, va_recv hK hP (ci := 4) (q0 := 0) rfl rfl, gm_ok hK hE hS hFc hP hD va_nil0 gx_nil⟩ rfl rfl hl.1 rfl (lv_room (Nat.le_of_ble_eq_true rfl)) dX4_point_47 ⟨Nat.le_of_ble_eq_true rfl, Nat.le_of_ble_eq_true rfl⟩) hS hFc (fun H locs hP hD hS => ?_)
        have hP : va_P D vwCl (mo_w cI cJ cZ m0 mk mc mx my mf mp mq mb v_47) H := hP
        have hD : va_D A (mo_w cI cJ cZ m0 mk mc mx my mf mp mq mb v_47) := hD
        refine lv_iload_n hx hb dX4_point_50 rfl (lv_at hl 0 rfl) ?_
        obtain rfl := Option.some.inj hs
        exact W.iret hx hb hr (fun t ht hW => ⟨⟨_, _, rfl, ⟨rfl, rfl⟩, by rw [ht]; exact hP, hD⟩, hS.F ht⟩) hS.2.2 dX4_point_51
      · replace hs := it_t c_31 hs
        refine lv_bipush (v := -2) hx hb dX4_point_34 (by decide) ?_
        obtain rfl := Option.some.inj hs
        exact W.iret hx hb hr (fun t ht hW => ⟨⟨_, _, rfl, ⟨rfl, rfl⟩, by rw [ht]; exact hP, hD⟩, hS.F ht⟩) hS.2.2 dX4_point_36
  · replace hs := it_t c_10 hs
    refine lv_iconst (v := -1) hx hb dX4_point_13 (by decide) ?_
    obtain rfl := Option.some.inj hs
    exact W.iret hx hb hr (fun t ht hW => ⟨⟨_, _, rfl, ⟨rfl, rfl⟩, by rw [ht]; exact hP, hD⟩, hS.F ht⟩) hS.2.2 dX4_point_14
def s_X4_line (F : Nat) (M : mo_T) : Option (Int32 × mo_T) :=
  (s_X4_begin F (ms_t M 0) 2).bind fun v_7 =>
  some (v_7.1, v_7.2)
abbrev rm_X4_line : Room := { frames := 1, cells := 0, slots := 0, locals := 21 }
theorem in_X4_line_X4 : ∀ w ∈ wsX40, w ∈ wsX4_line := by decide +kernel
set_option maxHeartbeats 4000000 in
set_option maxRecDepth 100000 in
theorem c_X4_line (l : Launch) (D : va_G) (cI cJ cZ cS : ClassId) (ad : Nat → Nat) (m0 mk mc mx my mf mp mq mb : Nat) (sz : Nat) (M : mo_T) (F : Nat)  (r : (Int32 × mo_T)) (hs : s_X4_line F M = some r) : Met l yX4_line wsX4_line rm_X4_line (gm_P D cI cJ cZ cS ad sz (mo_w cI cJ cZ m0 mk mc mx my mf mp mq mb M) ([]) [.ref m0]) (va_Qi (fun x (u : mo_T) => x = r.1 ∧ u = r.2) (fun u t => va_P D vwCl (mo_w cI cJ cZ m0 mk mc mx my mf mp mq mb u) t.heap ∧ va_D (va_A (mo_w cI cJ cZ m0 mk mc mx my mf mp mq mb M) sz) (mo_w cI cJ cZ m0 mk mc mx my mf mp mq mb u)) (va_A (mo_w cI cJ cZ m0 mk mc mx my mf mp mq mb M) sz)) 0 0 (va_A (mo_w cI cJ cZ m0 mk mc mx my mf mp mq mb M) sz) := by
  refine Met.ofW (cc := cX4_line) (maxL := 1) (ret := (some .int)) (by decide) rfl ?_
  intro p e s m args below meth c s₁ B hml hv
  obtain ⟨rfl, hsz, hK, hE, hP, hD0, hR, hRn0⟩ := hv
  have hx := B.exec
  have hb := B.bytes
  have hr := B.returns
  have hts := atoms_spec (ws := wsX4_line) B.pre
  have hown : s.vm.findClass RX4 = some m.cls := findClass_of_methodNamed B.named
  have hlocks := B.notSynchronized
  subst hsz
  have hD := hD0.self (sz := s.heap.size)
  have hRn := gx_rn0 hR hRn0
  generalize hAe : va_A (mo_w cI cJ cZ m0 mk mc mx my mf mp mq mb M) s.heap.size = A at hD hE hRn ⊢
  have hA : ∀ q : Nat, s.heap.size ≤ q → A q := fun q h => by rw [← hAe]; exact Or.inr h
  have hS : va_S A s.heap s.heap [] := va_S.rf
  have lk_1 := hts (.fieldLink RX4 1 "PlacePointsModel" "thrown" "I") (by decide +kernel)
  have in_X4 := in_X4_line_X4
  have hl := lv_entry ([.ref m0]) (n := 1) (Nat.le_of_ble_eq_true rfl)
  rw [lg_entry_eq]
  generalize (lg_sl ([.ref m0]) ++ List.replicate (1 - (lg_sl ([.ref m0])).length) Slot.unset).toArray = ls at hl ⊢
  have hl : lv_has ls 1 [(0, .ref m0)] := hl
  rw [s_X4_line] at hs
  refine lv_aload_n hx hb dX4_line_0 rfl (lv_at hl 0 rfl) ?_
  refine lv_iconst (v := 0) hx hb dX4_line_1 (by decide) ?_
  refine va_put (D := D) (ci := 4) (v := .int 0) (ty := .int) (C := RX4) (T := TX4) (N := 15) hx hb hts in_X4 tyX4 tyX4_ok nmX4 hown hK hP hD hS 0 rfl rfl 11 (by decide) lk_1 (fun _ h9 => h9) rfl (by decide +kernel) rfl rfl (Nat.le_of_ble_eq_true rfl) dX4_line_2 (fun H locs hP hD hS => ?_)
  have hP : va_P D vwCl (mo_w cI cJ cZ m0 mk mc mx my mf mp mq mb (ms_t M 0)) H := hP
  have hD : va_D A (mo_w cI cJ cZ m0 mk mc mx my mf mp mq mb (ms_t M 0)) := hD
  refine lv_aload_n hx hb dX4_line_5 rfl (lv_at hl 0 rfl) ?_
  refine lv_iconst (v := 2) hx hb dX4_line_6 (by decide) ?_
  obtain ⟨v_7, hc_7, hs⟩ := op_bd hs
  have hFc := va_free (wc := mo_w cI cJ cZ m0 mk mc mx my mf mp mq mb (ms_t M 0)) hD hS hA [0, 1, 2, 3, 4, 5, 6, 7, 8] rfl
  refine gx_cMi (wf := fun u => mo_w cI cJ cZ m0 mk mc mx my mf mp mq mb u) (va_runV (As := [.int 2]) (rest := []) ⟨hx, hb, hml, hown, hts⟩ (c_X4_begin l D cI cJ cZ cS ad m0 mk mc mx my mf mp mq mb _ (ms_t M 0) 2 F  v_7 hc_7) (cwV 1 hts gX4_line_X4_begin rfl rfl rfl (by decide +kernel) ⟨Nat.le_of_ble_eq_true rfl, Nat.le_of_ble_eq_true rfl⟩) ⟨gm_blind, va_recv hK hP (ci := 4) (q0 := 0) rfl rfl, gm_ok hK hE hS hFc hP hD va_nil0 gx_nil⟩ rfl rfl hl.1 rfl (lv_room (Nat.le_of_ble_eq_true rfl)) dX4_line_7 ⟨Nat.le_of_ble_eq_true rfl, Nat.le_of_ble_eq_true rfl⟩) hS hFc (fun H locs hP hD hS => ?_)
  have hP : va_P D vwCl (mo_w cI cJ cZ m0 mk mc mx my mf mp mq mb v_7.2) H := hP
  have hD : va_D A (mo_w cI cJ cZ m0 mk mc mx my mf mp mq mb v_7.2) := hD
  obtain rfl := Option.some.inj hs
  exact W.iret hx hb hr (fun t ht hW => ⟨⟨_, _, rfl, ⟨rfl, rfl⟩, by rw [ht]; exact hP, hD⟩, hS.F ht⟩) hS.2.2 dX4_line_10
def s_X4_polygon (F : Nat) (M : mo_T) : Option (Int32 × mo_T) :=
  (s_X4_begin F (ms_t M 0) 3).bind fun v_7 =>
  some (v_7.1, v_7.2)
abbrev rm_X4_polygon : Room := { frames := 1, cells := 0, slots := 0, locals := 21 }
theorem in_X4_polygon_X4 : ∀ w ∈ wsX40, w ∈ wsX4_polygon := by decide +kernel
set_option maxHeartbeats 4000000 in
set_option maxRecDepth 100000 in
theorem c_X4_polygon (l : Launch) (D : va_G) (cI cJ cZ cS : ClassId) (ad : Nat → Nat) (m0 mk mc mx my mf mp mq mb : Nat) (sz : Nat) (M : mo_T) (F : Nat)  (r : (Int32 × mo_T)) (hs : s_X4_polygon F M = some r) : Met l yX4_polygon wsX4_polygon rm_X4_polygon (gm_P D cI cJ cZ cS ad sz (mo_w cI cJ cZ m0 mk mc mx my mf mp mq mb M) ([]) [.ref m0]) (va_Qi (fun x (u : mo_T) => x = r.1 ∧ u = r.2) (fun u t => va_P D vwCl (mo_w cI cJ cZ m0 mk mc mx my mf mp mq mb u) t.heap ∧ va_D (va_A (mo_w cI cJ cZ m0 mk mc mx my mf mp mq mb M) sz) (mo_w cI cJ cZ m0 mk mc mx my mf mp mq mb u)) (va_A (mo_w cI cJ cZ m0 mk mc mx my mf mp mq mb M) sz)) 0 0 (va_A (mo_w cI cJ cZ m0 mk mc mx my mf mp mq mb M) sz) := by
  refine Met.ofW (cc := cX4_polygon) (maxL := 1) (ret := (some .int)) (by decide) rfl ?_
  intro p e s m args below meth c s₁ B hml hv
  obtain ⟨rfl, hsz, hK, hE, hP, hD0, hR, hRn0⟩ := hv
  have hx := B.exec
  have hb := B.bytes
  have hr := B.returns
  have hts := atoms_spec (ws := wsX4_polygon) B.pre
  have hown : s.vm.findClass RX4 = some m.cls := findClass_of_methodNamed B.named
  have hlocks := B.notSynchronized
  subst hsz
  have hD := hD0.self (sz := s.heap.size)
  have hRn := gx_rn0 hR hRn0
  generalize hAe : va_A (mo_w cI cJ cZ m0 mk mc mx my mf mp mq mb M) s.heap.size = A at hD hE hRn ⊢
  have hA : ∀ q : Nat, s.heap.size ≤ q → A q := fun q h => by rw [← hAe]; exact Or.inr h
  have hS : va_S A s.heap s.heap [] := va_S.rf
  have lk_1 := hts (.fieldLink RX4 1 "PlacePointsModel" "thrown" "I") (by decide +kernel)
  have in_X4 := in_X4_polygon_X4
  have hl := lv_entry ([.ref m0]) (n := 1) (Nat.le_of_ble_eq_true rfl)
  rw [lg_entry_eq]
  generalize (lg_sl ([.ref m0]) ++ List.replicate (1 - (lg_sl ([.ref m0])).length) Slot.unset).toArray = ls at hl ⊢
  have hl : lv_has ls 1 [(0, .ref m0)] := hl
  rw [s_X4_polygon] at hs
  refine lv_aload_n hx hb dX4_polygon_0 rfl (lv_at hl 0 rfl) ?_
  refine lv_iconst (v := 0) hx hb dX4_polygon_1 (by decide) ?_
  refine va_put (D := D) (ci := 4) (v := .int 0) (ty := .int) (C := RX4) (T := TX4) (N := 15) hx hb hts in_X4 tyX4 tyX4_ok nmX4 hown hK hP hD hS 0 rfl rfl 11 (by decide) lk_1 (fun _ h9 => h9) rfl (by decide +kernel) rfl rfl (Nat.le_of_ble_eq_true rfl) dX4_polygon_2 (fun H locs hP hD hS => ?_)
  have hP : va_P D vwCl (mo_w cI cJ cZ m0 mk mc mx my mf mp mq mb (ms_t M 0)) H := hP
  have hD : va_D A (mo_w cI cJ cZ m0 mk mc mx my mf mp mq mb (ms_t M 0)) := hD
  refine lv_aload_n hx hb dX4_polygon_5 rfl (lv_at hl 0 rfl) ?_
  refine lv_iconst (v := 3) hx hb dX4_polygon_6 (by decide) ?_
  obtain ⟨v_7, hc_7, hs⟩ := op_bd hs
  have hFc := va_free (wc := mo_w cI cJ cZ m0 mk mc mx my mf mp mq mb (ms_t M 0)) hD hS hA [0, 1, 2, 3, 4, 5, 6, 7, 8] rfl
  refine gx_cMi (wf := fun u => mo_w cI cJ cZ m0 mk mc mx my mf mp mq mb u) (va_runV (As := [.int 3]) (rest := []) ⟨hx, hb, hml, hown, hts⟩ (c_X4_begin l D cI cJ cZ cS ad m0 mk mc mx my mf mp mq mb _ (ms_t M 0) 3 F  v_7 hc_7) (cwV 1 hts gX4_polygon_X4_begin rfl rfl rfl (by decide +kernel) ⟨Nat.le_of_ble_eq_true rfl, Nat.le_of_ble_eq_true rfl⟩) ⟨gm_blind, va_recv hK hP (ci := 4) (q0 := 0) rfl rfl, gm_ok hK hE hS hFc hP hD va_nil0 gx_nil⟩ rfl rfl hl.1 rfl (lv_room (Nat.le_of_ble_eq_true rfl)) dX4_polygon_7 ⟨Nat.le_of_ble_eq_true rfl, Nat.le_of_ble_eq_true rfl⟩) hS hFc (fun H locs hP hD hS => ?_)
  have hP : va_P D vwCl (mo_w cI cJ cZ m0 mk mc mx my mf mp mq mb v_7.2) H := hP
  have hD : va_D A (mo_w cI cJ cZ m0 mk mc mx my mf mp mq mb v_7.2) := hD
  obtain rfl := Option.some.inj hs
  exact W.iret hx hb hr (fun t ht hW => ⟨⟨_, _, rfl, ⟨rfl, rfl⟩, by rw [ht]; exact hP, hD⟩, hS.F ht⟩) hS.2.2 dX4_polygon_10
def s_X4_corner (F : Nat) (M : mo_T) (p1 : Int32) (p2 : Int32) (p3 : Int32) : Option (Int32 × mo_T) :=
  (s_X4_isShape F (ms_t M 0) p1).bind fun v_7 =>
  if v_7 = 0 then
    some ((-1), (ms_t M 0))
  else
    (rd_i 60 (mo_k M) p1).bind fun v_18 =>
    if v_18 = 1 then
      some ((-1), (ms_t M 0))
    else
      (s_X4_isPlace F p2 p3).bind fun v_25 =>
      if v_25 = 0 then
        some ((-1), (ms_t M 0))
      else
        (rd_i 60 (mo_c M) p1).bind fun v_38 =>
        if v_38 = 24 then
          some ((-2), (ms_t M 0))
        else
          if (mo_o M) = 400 then
            some ((-2), (ms_t M 0))
          else
            (s_X4_lay F (ms_t M 0) p1 p2 p3).bind fun v_61 =>
            (rd_i 60 (mo_c v_61) p1).bind fun v_69 =>
            some (v_69, v_61)
abbrev rm_X4_corner : Room := { frames := 1, cells := 0, slots := 0, locals := 24 }
theorem in_X4_corner_X4 : ∀ w ∈ wsX40, w ∈ wsX4_corner := by decide +kernel
set_option maxHeartbeats 4000000 in
set_option maxRecDepth 100000 in
theorem c_X4_corner (l : Launch) (D : va_G) (cI cJ cZ cS : ClassId) (ad : Nat → Nat) (m0 mk mc mx my mf mp mq mb : Nat) (sz : Nat) (M : mo_T) (p1 : Int32) (p2 : Int32) (p3 : Int32) (F : Nat)  (r : (Int32 × mo_T)) (hs : s_X4_corner F M p1 p2 p3 = some r) : Met l yX4_corner wsX4_corner rm_X4_corner (gm_P D cI cJ cZ cS ad sz (mo_w cI cJ cZ m0 mk mc mx my mf mp mq mb M) ([]) [.ref m0, .int p1, .int p2, .int p3]) (va_Qi (fun x (u : mo_T) => x = r.1 ∧ u = r.2) (fun u t => va_P D vwCl (mo_w cI cJ cZ m0 mk mc mx my mf mp mq mb u) t.heap ∧ va_D (va_A (mo_w cI cJ cZ m0 mk mc mx my mf mp mq mb M) sz) (mo_w cI cJ cZ m0 mk mc mx my mf mp mq mb u)) (va_A (mo_w cI cJ cZ m0 mk mc mx my mf mp mq mb M) sz)) 0 0 (va_A (mo_w cI cJ cZ m0 mk mc mx my mf mp mq mb M) sz) := by
  refine Met.ofW (cc := cX4_corner) (maxL := 4) (ret := (some .int)) (by decide) rfl ?_
  intro p e s m args below meth c s₁ B hml hv
  obtain ⟨rfl, hsz, hK, hE, hP, hD0, hR, hRn0⟩ := hv
  have hx := B.exec
  have hb := B.bytes
  have hr := B.returns
  have hts := atoms_spec (ws := wsX4_corner) B.pre
  have hown : s.vm.findClass RX4 = some m.cls := findClass_of_methodNamed B.named
  have hlocks := B.notSynchronized
  subst hsz
  have hD := hD0.self (sz := s.heap.size)
  have hRn := gx_rn0 hR hRn0
  generalize hAe : va_A (mo_w cI cJ cZ m0 mk mc mx my mf mp mq mb M) s.heap.size = A at hD hE hRn ⊢
  have hA : ∀ q : Nat, s.heap.size ≤ q → A q := fun q h => by rw [← hAe]; exact Or.inr h
  have hS : va_S A s.heap s.heap [] := va_S.rf
  have lk_1 := hts (.fieldLink RX4 1 "PlacePointsModel" "thrown" "I") (by decide +kernel)
  have lk_13 := hts (.fieldLink RX4 13 "PlacePointsModel" "kinds" "[I") (by decide +kernel)
  have lk_17 := hts (.fieldLink RX4 17 "PlacePointsModel" "counts" "[I") (by decide +kernel)
  have lk_43 := hts (.fieldLink RX4 43 "PlacePointsModel" "corners" "I") (by decide +kernel)
  have in_X4 := in_X4_corner_X4
  have hl := lv_entry ([.ref m0, .int p1, .int p2, .int p3]) (n := 4) (Nat.le_of_ble_eq_true rfl)
  rw [lg_entry_eq]
  generalize (lg_sl ([.ref m0, .int p1, .int p2, .int p3]) ++ List.replicate (4 - (lg_sl ([.ref m0, .int p1, .int p2, .int p3])).length) Slot.unset).toArray = ls at hl ⊢
  have hl : lv_has ls 4 [(0, .ref m0), (1, .int p1), (2, .int p2), (3, .int p3)] := hl
  rw [s_X4_corner] at hs
  refine lv_aload_n hx hb dX4_corner_0 rfl (lv_at hl 0 rfl) ?_
  refine lv_iconst (v := 0) hx hb dX4_corner_1 (by decide) ?_
  refine va_put (D := D) (ci := 4) (v := .int 0) (ty := .int) (C := RX4) (T := TX4) (N := 15) hx hb hts in_X4 tyX4 tyX4_ok nmX4 hown hK hP hD hS 0 rfl rfl 11 (by decide) lk_1 (fun _ h9 => h9) rfl (by decide +kernel) rfl rfl (Nat.le_of_ble_eq_true rfl) dX4_corner_2 (fun H locs hP hD hS => ?_)
  have hP : va_P D vwCl (mo_w cI cJ cZ m0 mk mc mx my mf mp mq mb (ms_t M 0)) H := hP
  have hD : va_D A (mo_w cI cJ cZ m0 mk mc mx my mf mp mq mb (ms_t M 0)) := hD
  refine lv_aload_n hx hb dX4_corner_5 rfl (lv_at hl 0 rfl) ?_
  refine lv_iload_n hx hb dX4_corner_6 rfl (lv_at hl 1 rfl) ?_
  obtain ⟨v_7, hc_7, hs⟩ := op_bd hs
  refine gx_cSi (va_Run.run (va_runV (As := [.int p1]) (rest := []) ⟨hx, hb, hml, hown, hts⟩ (c_X4_isShape l D cI cJ cZ cS ad m0 mk mc mx my mf mp mq mb (ms_t M 0) p1 F  v_7 hc_7) (cwV 1 hts gX4_corner_X4_isShape rfl rfl rfl (by decide +kernel) ⟨Nat.le_of_ble_eq_true rfl, Nat.le_of_ble_eq_true rfl⟩) ⟨gl_blind, va_recv hK hP (ci := 4) (q0 := 0) rfl rfl, gl_ok hK (gl_Ek hE hS) hP⟩ rfl rfl hl.1 rfl (lv_room (Nat.le_of_ble_eq_true rfl)) dX4_corner_7 ⟨Nat.le_of_ble_eq_true rfl, Nat.le_of_ble_eq_true rfl⟩)) ?_
  refine lv_if_eq (tgt := 31) hx hb dX4_corner_10 (by decide) (fun c_10 => ?_) (fun c_10 => ?_)
  · replace hs := it_t c_10 hs
    refine lv_iconst (v := -1) hx hb dX4_corner_31 (by decide) ?_
    obtain rfl := Option.some.inj hs
    exact W.iret hx hb hr (fun t ht hW => ⟨⟨_, _, rfl, ⟨rfl, rfl⟩, by rw [ht]; exact hP, hD⟩, hS.F ht⟩) hS.2.2 dX4_corner_32
  · replace hs := it_f c_10 hs
    refine lv_aload_n hx hb dX4_corner_13 rfl (lv_at hl 0 rfl) ?_
    refine va_get (D := D) (ci := 4) (v := .ref mk) (C := RX4) (T := TX4) (N := 15) hx hb hts in_X4 hown hK hP 0 rfl rfl 0 (by decide) lk_13 (fun _ h9 => h9) rfl dX4_corner_14 ?_
    refine lv_iload_n hx hb dX4_corner_17 rfl (lv_at hl 1 rfl) ?_
    obtain ⟨v_18, hv_18, hs⟩ := op_bd hs
    refine gx_iald hx hb hK hP 1 0 rfl rfl hv_18 dX4_corner_18 ?_
    refine lv_iconst (v := 1) hx hb dX4_corner_19 (by decide) ?_
    refine lv_icmp_eq (tgt := 31) hx hb dX4_corner_20 (by decide) (fun c_20 => ?_) (fun c_20 => ?_)
    · replace hs := it_t c_20 hs
      refine lv_iconst (v := -1) hx hb dX4_corner_31 (by decide) ?_
      obtain rfl := Option.some.inj hs
      exact W.iret hx hb hr (fun t ht hW => ⟨⟨_, _, rfl, ⟨rfl, rfl⟩, by rw [ht]; exact hP, hD⟩, hS.F ht⟩) hS.2.2 dX4_corner_32
    · replace hs := it_f c_20 hs
      refine lv_iload_n hx hb dX4_corner_23 rfl (lv_at hl 2 rfl) ?_
      refine lv_iload_n hx hb dX4_corner_24 rfl (lv_at hl 3 rfl) ?_
      obtain ⟨v_25, hc_25, hs⟩ := op_bd hs
      refine gx_cSi (va_Run.run (va_runS (As := [.int p2, .int p3]) (rest := []) ⟨hx, hb, hml, hown, hts⟩ (c_X4_isPlace l D cI cJ cZ cS ad p2 p3 F  v_25 hc_25) (va_cwS 2 hts gX4_corner_X4_isPlace rfl rfl rfl (by decide +kernel) ⟨Nat.le_of_ble_eq_true rfl, Nat.le_of_ble_eq_true rfl⟩) ⟨gl_blind, gl_ok hK (gl_Ek hE hS) trivial⟩ rfl rfl hl.1 rfl (lv_room (Nat.le_of_ble_eq_true rfl)) dX4_corner_25 ⟨Nat.le_of_ble_eq_true rfl, Nat.le_of_ble_eq_true rfl⟩)) ?_
      refine lv_if_ne (tgt := 33) hx hb dX4_corner_28 (by decide) (fun c_28 => ?_) (fun c_28 => ?_)
      · replace hs := it_f c_28 hs
        refine lv_aload_n hx hb dX4_corner_33 rfl (lv_at hl 0 rfl) ?_
        refine va_get (D := D) (ci := 4) (v := .ref mc) (C := RX4) (T := TX4) (N := 15) hx hb hts in_X4 hown hK hP 0 rfl rfl 1 (by decide) lk_17 (fun _ h9 => h9) rfl dX4_corner_34 ?_
        refine lv_iload_n hx hb dX4_corner_37 rfl (lv_at hl 1 rfl) ?_
        obtain ⟨v_38, hv_38, hs⟩ := op_bd hs
        refine gx_iald hx hb hK hP 2 0 rfl rfl hv_38 dX4_corner_38 ?_
        refine lv_bipush (v := 24) hx hb dX4_corner_39 (by decide) ?_
        refine lv_icmp_eq (tgt := 54) hx hb dX4_corner_41 (by decide) (fun c_41 => ?_) (fun c_41 => ?_)
        · replace hs := it_t c_41 hs
          refine lv_bipush (v := -2) hx hb dX4_corner_54 (by decide) ?_
          obtain rfl := Option.some.inj hs
          exact W.iret hx hb hr (fun t ht hW => ⟨⟨_, _, rfl, ⟨rfl, rfl⟩, by rw [ht]; exact hP, hD⟩, hS.F ht⟩) hS.2.2 dX4_corner_56
        · replace hs := it_f c_41 hs
          refine lv_aload_n hx hb dX4_corner_44 rfl (lv_at hl 0 rfl) ?_
          refine va_get (D := D) (ci := 4) (v := .int (mo_o M)) (C := RX4) (T := TX4) (N := 15) hx hb hts in_X4 hown hK hP 0 rfl rfl 5 (by decide) lk_43 (fun _ h9 => h9) rfl dX4_corner_45 ?_
          refine lv_sipush (v := 400) hx hb dX4_corner_48 (by decide) ?_
          refine lv_icmp_ne (tgt := 57) hx hb dX4_corner_51 (by decide) (fun c_51 => ?_) (fun c_51 => ?_)
          · replace hs := it_f c_51 hs
            refine lv_aload_n hx hb dX4_corner_57 rfl (lv_at hl 0 rfl) ?_
            refine lv_iload_n hx hb dX4_corner_58 rfl (lv_at hl 1 rfl) ?_
            refine lv_iload_n hx hb dX4_corner_59 rfl (lv_at hl 2 rfl) ?_
            refine lv_iload_n hx hb dX4_corner_60 rfl (lv_at hl 3 rfl) ?_
            obtain ⟨v_61, hc_61, hs⟩ := op_bd hs
            have hFc := va_free (wc := mo_w cI cJ cZ m0 mk mc mx my mf mp mq mb (ms_t M 0)) hD hS hA [0, 1, 2, 3, 4, 5, 6, 7, 8] rfl
            refine gx_cMv (wf := fun u => mo_w cI cJ cZ m0 mk mc mx my mf mp mq mb u) (va_runV (As := [.int p1, .int p2, .int p3]) (rest := []) ⟨hx, hb, hml, hown, hts⟩ (c_X4_lay l D cI cJ cZ cS ad m0 mk mc mx my mf mp mq mb _ (ms_t M 0) p1 p2 p3 F  v_61 hc_61) (cwV 3 hts gX4_corner_X4_lay rfl rfl rfl (by decide +kernel) ⟨Nat.le_of_ble_eq_true rfl, Nat.le_of_ble_eq_true rfl⟩) ⟨gm_blind, va_recv hK hP (ci := 4) (q0 := 0) rfl rfl, gm_ok hK hE hS hFc hP hD va_nil0 gx_nil⟩ rfl rfl hl.1 rfl (lv_room (Nat.le_of_ble_eq_true rfl)) dX4_corner_61 ⟨Nat.le_of_ble_eq_true rfl, Nat.le_of_ble_eq_true rfl⟩) hS hFc (fun H locs hP hD hS => ?_)
            have hP : va_P D vwCl (mo_w cI cJ cZ m0 mk mc mx my mf mp mq mb v_61) H := hP
            have hD : va_D A (mo_w cI cJ cZ m0 mk mc mx my mf mp mq mb v_61) := hD
            refine lv_aload_n hx hb dX4_corner_64 rfl (lv_at hl 0 rfl) ?_
            refine va_get (D := D) (ci := 4) (v := .ref mc) (C := RX4) (T := TX4) (N := 15) hx hb hts in_X4 hown hK hP 0 rfl rfl 1 (by decide) lk_17 (fun _ h9 => h9) rfl dX4_corner_65 ?_
            refine lv_iload_n hx hb dX4_corner_68 rfl (lv_at hl 1 rfl) ?_
            obtain ⟨v_69, hv_69, hs⟩ := op_bd hs
            refine gx_iald hx hb hK hP 2 0 rfl rfl hv_69 dX4_corner_69 ?_
            obtain rfl := Option.some.inj hs
            exact W.iret hx hb hr (fun t ht hW => ⟨⟨_, _, rfl, ⟨rfl, rfl⟩, by rw [ht]; exact hP, hD⟩, hS.F ht⟩) hS.2.2 dX4_corner_70
          · replace hs := it_t c_51 hs
            refine lv_bipush (v := -2) hx hb dX4_corner_54 (by decide) ?_
            obtain rfl := Option.some.inj hs
            exact W.iret hx hb hr (fun t ht hW => ⟨⟨_, _, rfl, ⟨rfl, rfl⟩, by rw [ht]; exact hP, hD⟩, hS.F ht⟩) hS.2.2 dX4_corner_56
      · replace hs := it_t c_28 hs
        refine lv_iconst (v := -1) hx hb dX4_corner_31 (by decide) ?_
        obtain rfl := Option.some.inj hs
        exact W.iret hx hb hr (fun t ht hW => ⟨⟨_, _, rfl, ⟨rfl, rfl⟩, by rw [ht]; exact hP, hD⟩, hS.F ht⟩) hS.2.2 dX4_corner_32
def s_X4_remove (F : Nat) (M : mo_T) (p1 : Int32) : Option (Int32 × mo_T) :=
  (s_X4_isShape F (ms_t M 0) p1).bind fun v_7 =>
  if v_7 = 0 then
    some ((-1), (ms_t M 0))
  else
    (wr_in 60 p1).bind fun _ =>
    (some (((mo_g M) + 1))).bind fun e_29 =>
    some (1, (ms_t (ms_g (ms_k M (upd (mo_k M) p1.toNatClampNeg 0)) e_29) 0))
abbrev rm_X4_remove : Room := { frames := 1, cells := 0, slots := 0, locals := 21 }
theorem in_X4_remove_X4 : ∀ w ∈ wsX40, w ∈ wsX4_remove := by decide +kernel
set_option maxHeartbeats 4000000 in
set_option maxRecDepth 100000 in
theorem c_X4_remove (l : Launch) (D : va_G) (cI cJ cZ cS : ClassId) (ad : Nat → Nat) (m0 mk mc mx my mf mp mq mb : Nat) (sz : Nat) (M : mo_T) (p1 : Int32) (F : Nat)  (r : (Int32 × mo_T)) (hs : s_X4_remove F M p1 = some r) : Met l yX4_remove wsX4_remove rm_X4_remove (gm_P D cI cJ cZ cS ad sz (mo_w cI cJ cZ m0 mk mc mx my mf mp mq mb M) ([]) [.ref m0, .int p1]) (va_Qi (fun x (u : mo_T) => x = r.1 ∧ u = r.2) (fun u t => va_P D vwCl (mo_w cI cJ cZ m0 mk mc mx my mf mp mq mb u) t.heap ∧ va_D (va_A (mo_w cI cJ cZ m0 mk mc mx my mf mp mq mb M) sz) (mo_w cI cJ cZ m0 mk mc mx my mf mp mq mb u)) (va_A (mo_w cI cJ cZ m0 mk mc mx my mf mp mq mb M) sz)) 0 0 (va_A (mo_w cI cJ cZ m0 mk mc mx my mf mp mq mb M) sz) := by
  refine Met.ofW (cc := cX4_remove) (maxL := 2) (ret := (some .int)) (by decide) rfl ?_
  intro p e s m args below meth c s₁ B hml hv
  obtain ⟨rfl, hsz, hK, hE, hP, hD0, hR, hRn0⟩ := hv
  have hx := B.exec
  have hb := B.bytes
  have hr := B.returns
  have hts := atoms_spec (ws := wsX4_remove) B.pre
  have hown : s.vm.findClass RX4 = some m.cls := findClass_of_methodNamed B.named
  have hlocks := B.notSynchronized
  subst hsz
  have hD := hD0.self (sz := s.heap.size)
  have hRn := gx_rn0 hR hRn0
  generalize hAe : va_A (mo_w cI cJ cZ m0 mk mc mx my mf mp mq mb M) s.heap.size = A at hD hE hRn ⊢
  have hA : ∀ q : Nat, s.heap.size ≤ q → A q := fun q h => by rw [← hAe]; exact Or.inr h
  have hS : va_S A s.heap s.heap [] := va_S.rf
  have lk_1 := hts (.fieldLink RX4 1 "PlacePointsModel" "thrown" "I") (by decide +kernel)
  have lk_13 := hts (.fieldLink RX4 13 "PlacePointsModel" "kinds" "[I") (by decide +kernel)
  have lk_62 := hts (.fieldLink RX4 62 "PlacePointsModel" "gone" "I") (by decide +kernel)
  have in_X4 := in_X4_remove_X4
  have hl := lv_entry ([.ref m0, .int p1]) (n := 2) (Nat.le_of_ble_eq_true rfl)
  rw [lg_entry_eq]
  generalize (lg_sl ([.ref m0, .int p1]) ++ List.replicate (2 - (lg_sl ([.ref m0, .int p1])).length) Slot.unset).toArray = ls at hl ⊢
  have hl : lv_has ls 2 [(0, .ref m0), (1, .int p1)] := hl
  rw [s_X4_remove] at hs
  refine lv_aload_n hx hb dX4_remove_0 rfl (lv_at hl 0 rfl) ?_
  refine lv_iconst (v := 0) hx hb dX4_remove_1 (by decide) ?_
  refine va_put (D := D) (ci := 4) (v := .int 0) (ty := .int) (C := RX4) (T := TX4) (N := 15) hx hb hts in_X4 tyX4 tyX4_ok nmX4 hown hK hP hD hS 0 rfl rfl 11 (by decide) lk_1 (fun _ h9 => h9) rfl (by decide +kernel) rfl rfl (Nat.le_of_ble_eq_true rfl) dX4_remove_2 (fun H locs hP hD hS => ?_)
  have hP : va_P D vwCl (mo_w cI cJ cZ m0 mk mc mx my mf mp mq mb (ms_t M 0)) H := hP
  have hD : va_D A (mo_w cI cJ cZ m0 mk mc mx my mf mp mq mb (ms_t M 0)) := hD
  refine lv_aload_n hx hb dX4_remove_5 rfl (lv_at hl 0 rfl) ?_
  refine lv_iload_n hx hb dX4_remove_6 rfl (lv_at hl 1 rfl) ?_
  obtain ⟨v_7, hc_7, hs⟩ := op_bd hs
  refine gx_cSi (va_Run.run (va_runV (As := [.int p1]) (rest := []) ⟨hx, hb, hml, hown, hts⟩ (c_X4_isShape l D cI cJ cZ cS ad m0 mk mc mx my mf mp mq mb (ms_t M 0) p1 F  v_7 hc_7) (cwV 1 hts gX4_remove_X4_isShape rfl rfl rfl (by decide +kernel) ⟨Nat.le_of_ble_eq_true rfl, Nat.le_of_ble_eq_true rfl⟩) ⟨gl_blind, va_recv hK hP (ci := 4) (q0 := 0) rfl rfl, gl_ok hK (gl_Ek hE hS) hP⟩ rfl rfl hl.1 rfl (lv_room (Nat.le_of_ble_eq_true rfl)) dX4_remove_7 ⟨Nat.le_of_ble_eq_true rfl, Nat.le_of_ble_eq_true rfl⟩)) ?_
  refine lv_if_ne (tgt := 15) hx hb dX4_remove_10 (by decide) (fun c_10 => ?_) (fun c_10 => ?_)
  · replace hs := it_f c_10 hs
    refine lv_aload_n hx hb dX4_remove_15 rfl (lv_at hl 0 rfl) ?_
    refine va_get (D := D) (ci := 4) (v := .ref mk) (C := RX4) (T := TX4) (N := 15) hx hb hts in_X4 hown hK hP 0 rfl rfl 0 (by decide) lk_13 (fun _ h9 => h9) rfl dX4_remove_16 ?_
    refine lv_iload_n hx hb dX4_remove_19 rfl (lv_at hl 1 rfl) ?_
    refine lv_iconst (v := 0) hx hb dX4_remove_20 (by decide) ?_
    obtain ⟨_, hv_21, hs⟩ := op_bd hs
    refine va_iast hx hb hK hP hD hS 1 0 rfl rfl (wr_ok hv_21) dX4_remove_21 (fun H locs hP hD hS => ?_)
    have hP : va_P D vwCl (mo_w cI cJ cZ m0 mk mc mx my mf mp mq mb (ms_t (ms_k M (upd (mo_k M) p1.toNatClampNeg 0)) 0)) H := hP
    have hD : va_D A (mo_w cI cJ cZ m0 mk mc mx my mf mp mq mb (ms_t (ms_k M (upd (mo_k M) p1.toNatClampNeg 0)) 0)) := hD
    refine lv_aload_n hx hb dX4_remove_22 rfl (lv_at hl 0 rfl) ?_
    refine lv_dup hx hb dX4_remove_23 rfl ?_
    refine va_get (D := D) (ci := 4) (v := .int (mo_g M)) (C := RX4) (T := TX4) (N := 15) hx hb hts in_X4 hown hK hP 0 rfl rfl 6 (by decide) lk_62 (fun _ h9 => h9) rfl dX4_remove_24 ?_
    refine lv_iconst (v := 1) hx hb dX4_remove_27 (by decide) ?_
    refine lv_iadd hx hb dX4_remove_28 ?_
    obtain ⟨e_29, hv_29, hs⟩ := op_bd hs
    refine gx_ni (Option.some.inj hv_29) ?_
    refine va_put (D := D) (ci := 4) (v := .int e_29) (ty := .int) (C := RX4) (T := TX4) (N := 15) hx hb hts in_X4 tyX4 tyX4_ok nmX4 hown hK hP hD hS 0 rfl rfl 6 (by decide) lk_62 (fun _ h9 => h9) rfl (by decide +kernel) rfl rfl (Nat.le_of_ble_eq_true rfl) dX4_remove_29 (fun H locs hP hD hS => ?_)
    have hP : va_P D vwCl (mo_w cI cJ cZ m0 mk mc mx my mf mp mq mb (ms_t (ms_g (ms_k M (upd (mo_k M) p1.toNatClampNeg 0)) e_29) 0)) H := hP
    have hD : va_D A (mo_w cI cJ cZ m0 mk mc mx my mf mp mq mb (ms_t (ms_g (ms_k M (upd (mo_k M) p1.toNatClampNeg 0)) e_29) 0)) := hD
    refine lv_iconst (v := 1) hx hb dX4_remove_32 (by decide) ?_
    obtain rfl := Option.some.inj hs
    exact W.iret hx hb hr (fun t ht hW => ⟨⟨_, _, rfl, ⟨rfl, rfl⟩, by rw [ht]; exact hP, hD⟩, hS.F ht⟩) hS.2.2 dX4_remove_33
  · replace hs := it_t c_10 hs
    refine lv_iconst (v := -1) hx hb dX4_remove_13 (by decide) ?_
    obtain rfl := Option.some.inj hs
    exact W.iret hx hb hr (fun t ht hW => ⟨⟨_, _, rfl, ⟨rfl, rfl⟩, by rw [ht]; exact hP, hD⟩, hS.F ht⟩) hS.2.2 dX4_remove_14
def s_X4_found_18 (F : Nat) (M : mo_T) (p1 : Int32) (t0 : Int32) (N : mo_T) : Option (Int32 × mo_T) :=
  if t0 = 0 then
    (rd_i 60 (mo_f N) p1).bind fun v_33 =>
    some (v_33, (ms_t N t0))
  else
    some (0, (ms_t N t0))
def s_X4_found (F : Nat) (M : mo_T) (p1 : Int32) : Option (Int32 × mo_T) :=
  if p1 < 0 then
    s_X4_found_18 F M p1 1 M
  else
    if (mo_m M) ≤ p1 then
      s_X4_found_18 F M p1 1 M
    else
      s_X4_found_18 F M p1 0 M
abbrev rm_X4_found : Room := { frames := 0, cells := 0, slots := 0, locals := 0 }
theorem in_X4_found_X4 : ∀ w ∈ wsX40, w ∈ wsX4_found := by decide +kernel
set_option maxHeartbeats 4000000 in
set_option maxRecDepth 100000 in
theorem c_X4_found (l : Launch) (D : va_G) (cI cJ cZ cS : ClassId) (ad : Nat → Nat) (m0 mk mc mx my mf mp mq mb : Nat) (sz : Nat) (M : mo_T) (p1 : Int32) (F : Nat)  (r : (Int32 × mo_T)) (hs : s_X4_found F M p1 = some r) : Met l yX4_found wsX4_found rm_X4_found (gm_P D cI cJ cZ cS ad sz (mo_w cI cJ cZ m0 mk mc mx my mf mp mq mb M) ([]) [.ref m0, .int p1]) (va_Qi (fun x (u : mo_T) => x = r.1 ∧ u = r.2) (fun u t => va_P D vwCl (mo_w cI cJ cZ m0 mk mc mx my mf mp mq mb u) t.heap ∧ va_D (va_A (mo_w cI cJ cZ m0 mk mc mx my mf mp mq mb M) sz) (mo_w cI cJ cZ m0 mk mc mx my mf mp mq mb u)) (va_A (mo_w cI cJ cZ m0 mk mc mx my mf mp mq mb M) sz)) 0 0 (va_A (mo_w cI cJ cZ m0 mk mc mx my mf mp mq mb M) sz) := by
  refine Met.ofW (cc := cX4_found) (maxL := 2) (ret := (some .int)) (by decide) rfl ?_
  intro p e s m args below meth c s₁ B hml hv
  obtain ⟨rfl, hsz, hK, hE, hP, hD0, hR, hRn0⟩ := hv
  have hx := B.exec
  have hb := B.bytes
  have hr := B.returns
  have hts := atoms_spec (ws := wsX4_found) B.pre
  have hown : s.vm.findClass RX4 = some m.cls := findClass_of_methodNamed B.named
  have hlocks := B.notSynchronized
  subst hsz
  have hD := hD0.self (sz := s.heap.size)
  have hRn := gx_rn0 hR hRn0
  generalize hAe : va_A (mo_w cI cJ cZ m0 mk mc mx my mf mp mq mb M) s.heap.size = A at hD hE hRn ⊢
  have hA : ∀ q : Nat, s.heap.size ≤ q → A q := fun q h => by rw [← hAe]; exact Or.inr h
  have hS : va_S A s.heap s.heap [] := va_S.rf
  have lk_1 := hts (.fieldLink RX4 1 "PlacePointsModel" "thrown" "I") (by decide +kernel)
  have lk_27 := hts (.fieldLink RX4 27 "PlacePointsModel" "found" "[I") (by decide +kernel)
  have lk_150 := hts (.fieldLink RX4 150 "PlacePointsModel" "foundCount" "I") (by decide +kernel)
  have in_X4 := in_X4_found_X4
  have J_18 : ∀ (t0 : Int32) (N : mo_T), s_X4_found_18 F M p1 t0 N = some r → ∀ (H : Heap) (locs : List Loc), va_P D vwCl (mo_w cI cJ cZ m0 mk mc mx my mf mp mq mb N) H → va_D A (mo_w cI cJ cZ m0 mk mc mx my mf mp mq mb N) → va_S A s.heap H locs → ∀ ls : Array Slot, lv_has ls 2 [(0, .ref m0), (1, .int p1)] → W p l e (headSpec wsX4_found rm_X4_found).room s m ([.ref m0, .int p1] : List Value).toArray below meth c H locs 0 0 (MQ below (va_Qi (fun x (u : mo_T) => x = r.1 ∧ u = r.2) (fun u t => va_P D vwCl (mo_w cI cJ cZ m0 mk mc mx my mf mp mq mb u) t.heap ∧ va_D (A) (mo_w cI cJ cZ m0 mk mc mx my mf mp mq mb u)) (A)) ([.ref m0, .int p1] : List Value).toArray s 0 0 (A)) (F0 m 18 ls [.int t0, .ref m0]) := by
    intro t0 N hs H locs hP hD hS ls hl
    rw [s_X4_found_18] at hs
    refine va_put (D := D) (ci := 4) (v := .int t0) (ty := .int) (C := RX4) (T := TX4) (N := 15) hx hb hts in_X4 tyX4 tyX4_ok nmX4 hown hK hP hD hS 0 rfl rfl 11 (by decide) lk_1 (fun _ h9 => h9) rfl (by decide +kernel) rfl rfl (Nat.le_of_ble_eq_true rfl) dX4_found_18 (fun H locs hP hD hS => ?_)
    have hP : va_P D vwCl (mo_w cI cJ cZ m0 mk mc mx my mf mp mq mb (ms_t N t0)) H := hP
    have hD : va_D A (mo_w cI cJ cZ m0 mk mc mx my mf mp mq mb (ms_t N t0)) := hD
    refine lv_aload_n hx hb dX4_found_21 rfl (lv_at hl 0 rfl) ?_
    refine va_get (D := D) (ci := 4) (v := .int t0) (C := RX4) (T := TX4) (N := 15) hx hb hts in_X4 hown hK hP 0 rfl rfl 11 (by decide) lk_1 (fun _ h9 => h9) rfl dX4_found_22 ?_
    refine lv_if_ne (tgt := 37) hx hb dX4_found_25 (by decide) (fun c_25 => ?_) (fun c_25 => ?_)
    · replace hs := it_f c_25 hs
      refine lv_iconst (v := 0) hx hb dX4_found_37 (by decide) ?_
      obtain rfl := Option.some.inj hs
      exact W.iret hx hb hr (fun t ht hW => ⟨⟨_, _, rfl, ⟨rfl, rfl⟩, by rw [ht]; exact hP, hD⟩, hS.F ht⟩) hS.2.2 dX4_found_38
    · replace hs := it_t c_25 hs
      refine lv_aload_n hx hb dX4_found_28 rfl (lv_at hl 0 rfl) ?_
      refine va_get (D := D) (ci := 4) (v := .ref mf) (C := RX4) (T := TX4) (N := 15) hx hb hts in_X4 hown hK hP 0 rfl rfl 7 (by decide) lk_27 (fun _ h9 => h9) rfl dX4_found_29 ?_
      refine lv_iload_n hx hb dX4_found_32 rfl (lv_at hl 1 rfl) ?_
      obtain ⟨v_33, hv_33, hs⟩ := op_bd hs
      refine gx_iald hx hb hK hP 5 0 rfl rfl hv_33 dX4_found_33 ?_
      refine lv_goto (tgt := 38) hx hb dX4_found_34 (by decide) ?_
      obtain rfl := Option.some.inj hs
      exact W.iret hx hb hr (fun t ht hW => ⟨⟨_, _, rfl, ⟨rfl, rfl⟩, by rw [ht]; exact hP, hD⟩, hS.F ht⟩) hS.2.2 dX4_found_38
  have hl := lv_entry ([.ref m0, .int p1]) (n := 2) (Nat.le_of_ble_eq_true rfl)
  rw [lg_entry_eq]
  generalize (lg_sl ([.ref m0, .int p1]) ++ List.replicate (2 - (lg_sl ([.ref m0, .int p1])).length) Slot.unset).toArray = ls at hl ⊢
  have hl : lv_has ls 2 [(0, .ref m0), (1, .int p1)] := hl
  rw [s_X4_found] at hs
  refine lv_aload_n hx hb dX4_found_0 rfl (lv_at hl 0 rfl) ?_
  refine lv_iload_n hx hb dX4_found_1 rfl (lv_at hl 1 rfl) ?_
  refine lv_if_lt (tgt := 17) hx hb dX4_found_2 (by decide) (fun c_2 => ?_) (fun c_2 => ?_)
  · replace hs := it_t c_2 hs
    refine lv_iconst (v := 1) hx hb dX4_found_17 (by decide) ?_
    exact J_18 1 M hs _ _ hP hD hS _ (lv_sub hl [0, 1] rfl)
  · replace hs := it_f c_2 hs
    refine lv_iload_n hx hb dX4_found_5 rfl (lv_at hl 1 rfl) ?_
    refine lv_aload_n hx hb dX4_found_6 rfl (lv_at hl 0 rfl) ?_
    refine va_get (D := D) (ci := 4) (v := .int (mo_m M)) (C := RX4) (T := TX4) (N := 15) hx hb hts in_X4 hown hK hP 0 rfl rfl 8 (by decide) lk_150 (fun _ h9 => h9) rfl dX4_found_7 ?_
    refine lv_icmp_ge (tgt := 17) hx hb dX4_found_10 (by decide) (fun c_10 => ?_) (fun c_10 => ?_)
    · replace hs := it_t c_10 hs
      refine lv_iconst (v := 1) hx hb dX4_found_17 (by decide) ?_
      exact J_18 1 M hs _ _ hP hD hS _ (lv_sub hl [0, 1] rfl)
    · replace hs := it_f c_10 hs
      refine lv_iconst (v := 0) hx hb dX4_found_13 (by decide) ?_
      refine lv_goto (tgt := 18) hx hb dX4_found_14 (by decide) ?_
      exact J_18 0 M hs _ _ hP hD hS _ (lv_sub hl [0, 1] rfl)
