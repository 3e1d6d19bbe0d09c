def s_X3_square (F : Nat) (X : pp_T) (hh : Nat → Option sh_T) (p1 : Int32) (p2 : Int32) (p3 : Int32) : Option (Int64 × pp_T) :=
  (s_X3_right F X hh p1).bind fun v_2 =>
  mt_o v_2
    ((s_X3_right F X hh p2).bind fun v_9 =>
     mt_o v_9
       (some ((-1), X))
       (fun S_9 =>
        some ((-1), X)))
    (fun S_2 =>
     (s_X3_right F X hh p2).bind fun v_9 =>
     mt_o v_9
       (some ((-1), X))
       (fun S_9 =>
        (s_X2_measureTo F S_2 S_9 ((pp_u X), (pp_l X))).bind fun v_36 =>
        (s_X0_reduce F ((fr_u v_36), (fr_l v_36))).bind fun v_43 =>
        if p3 = 0 then
          some ((fr_u v_43), (pt_l (pt_u X (fr_u v_43)) (fr_l v_43)))
        else
          some ((fr_l v_43), (pt_l (pt_u X (fr_u v_43)) (fr_l v_43)))))
abbrev rm_X3_square : Room := { frames := 6, cells := 0, slots := 0, locals := 139 }
theorem in_X3_square_X0 : ∀ w ∈ wsX00, w ∈ wsX3_square := by decide +kernel
theorem in_X3_square_X3 : ∀ w ∈ wsX30, w ∈ wsX3_square := by decide +kernel
set_option maxHeartbeats 4000000 in
set_option maxRecDepth 100000 in
theorem c_X3_square (l : Launch) (D : va_G) (cI cJ cZ cS : ClassId) (ad : Nat → Nat) (x0 xm xb f0 xp xq xr : Nat) (adr : ad_T) (sz : Nat) (X : pp_T) (hh : Nat → Option sh_T) (p1 : Int32) (p2 : Int32) (p3 : Int32) (F : Nat)  (r : (Int64 × pp_T)) (hs : s_X3_square F X hh p1 p2 p3 = some r) : Met l yX3_square wsX3_square rm_X3_square (gp_P D cI cJ cZ cS ad adr hh sz (pp_w cI cJ cS x0 xm xb f0 xp xq xr adr hh X) [.ref x0, .int p1, .int p2, .int p3]) (va_Ql (fun x (u : pp_T) => x = r.1 ∧ u = r.2) (fun u t => va_P D vwCl (pp_w cI cJ cS x0 xm xb f0 xp xq xr adr hh u) t.heap ∧ va_D (va_A (pp_w cI cJ cS x0 xm xb f0 xp xq xr adr hh X) sz) (pp_w cI cJ cS x0 xm xb f0 xp xq xr adr hh u)) (va_A (pp_w cI cJ cS x0 xm xb f0 xp xq xr adr hh X) sz)) 0 0 (va_A (pp_w cI cJ cS x0 xm xb f0 xp xq xr adr hh X) sz) := by
  refine Met.ofW (cc := cX3_square) (maxL := 6) (ret := (some .long)) (by decide) rfl ?_
  intro p e s m args below meth c s₁ B hml hv
  obtain ⟨rfl, hsz, hK, hE, hP, hD0, hQ, hQn0⟩ := hv
  have hx := B.exec
  have hb := B.bytes
  have hr := B.returns
  have hts := atoms_spec (ws := wsX3_square) B.pre
  have hown : s.vm.findClass RX3 = some m.cls := findClass_of_methodNamed B.named
  have hlocks := B.notSynchronized
  subst hsz
  have hD := hD0.self (sz := s.heap.size)
  have hQn := pl_n0 hQ hQn0
  generalize hAe : va_A (pp_w cI cJ cS x0 xm xb f0 xp xq xr adr hh X) s.heap.size = A at hD hE hQn ⊢
  have hA : ∀ q : Nat, s.heap.size ≤ q → A q := fun q h => by rw [← hAe]; exact Or.inr h
  have hS : va_S A s.heap s.heap [] := va_S.rf
  have lk_35 := hts (.fieldLink RX3 35 "PlacePoints" "gap" "LPlacePoints$Fraction;") (by decide +kernel)
  have lk_109 := hts (.fieldLink RX3 109 "PlacePoints$Fraction" "upper" "J") (by decide +kernel)
  have lk_113 := hts (.fieldLink RX3 113 "PlacePoints$Fraction" "lower" "J") (by decide +kernel)
  have in_X0 := in_X3_square_X0
  have in_X3 := in_X3_square_X3
  have hl := lv_entry ([.ref x0, .int p1, .int p2, .int p3]) (n := 6) (Nat.le_of_ble_eq_true rfl)
  rw [lg_entry_eq]
  generalize (lg_sl ([.ref x0, .int p1, .int p2, .int p3]) ++ List.replicate (6 - (lg_sl ([.ref x0, .int p1, .int p2, .int p3])).length) Slot.unset).toArray = ls at hl ⊢
  have hl : lv_has ls 6 [(0, .ref x0), (1, .int p1), (2, .int p2), (3, .int p3)] := hl
  rw [s_X3_square] at hs
  refine lv_aload_n hx hb dX3_square_0 rfl (lv_at hl 0 rfl) ?_
  refine lv_iload_n hx hb dX3_square_1 rfl (lv_at hl 1 rfl) ?_
  obtain ⟨v_2, hc_2, hs⟩ := op_bd hs
  refine gx_cSq (va_Run.run (va_runV (As := [.int p1]) (rest := []) ⟨hx, hb, hml, hown, hts⟩ (c_X3_right l D cI cJ cZ cS ad x0 xm xb f0 xp xq xr adr X hh p1 F v_2 hc_2) (cwV 1 hts gX3_square_X3_right rfl rfl rfl (by decide +kernel) ⟨Nat.le_of_ble_eq_true rfl, Nat.le_of_ble_eq_true rfl⟩) ⟨gl_blind, va_recv hK hP (ci := 3) (q0 := 0) rfl rfl, gl_ok hK (gl_Ek hE hS) ⟨hP, pl_kept hQ hQn hS⟩⟩ rfl rfl hl.1 rfl (lv_room (Nat.le_of_ble_eq_true rfl)) dX3_square_2 ⟨Nat.le_of_ble_eq_true rfl, Nat.le_of_ble_eq_true rfl⟩)) ?_
  cases v_2 with
  | none =>
    replace hs := mt_n hs
    refine W.eq (g2 := F0 m 5 ls [.null]) rfl ?_
    refine lv_astoreN (lv' := [(4, .null), (0, .ref x0), (1, .int p1), (2, .int p2), (3, .int p3)]) hx hb dX3_square_5 hl (by decide) rfl (fun ls hl => ?_)
    refine lv_aload_n hx hb dX3_square_7 rfl (lv_at hl 1 rfl) ?_
    refine lv_iload_n hx hb dX3_square_8 rfl (lv_at hl 3 rfl) ?_
    obtain ⟨v_9, hc_9, hs⟩ := op_bd hs
    refine gx_cSq (va_Run.run (va_runV (As := [.int p2]) (rest := []) ⟨hx, hb, hml, hown, hts⟩ (c_X3_right l D cI cJ cZ cS ad x0 xm xb f0 xp xq xr adr X hh p2 F v_9 hc_9) (cwV 1 hts gX3_square_X3_right rfl rfl rfl (by decide +kernel) ⟨Nat.le_of_ble_eq_true rfl, Nat.le_of_ble_eq_true rfl⟩) ⟨gl_blind, va_recv hK hP (ci := 3) (q0 := 0) rfl rfl, gl_ok hK (gl_Ek hE hS) ⟨hP, pl_kept hQ hQn hS⟩⟩ rfl rfl hl.1 rfl (lv_room (Nat.le_of_ble_eq_true rfl)) dX3_square_9 ⟨Nat.le_of_ble_eq_true rfl, Nat.le_of_ble_eq_true rfl⟩)) ?_
    cases v_9 with
    | none =>
      replace hs := mt_n hs
      refine W.eq (g2 := F0 m 12 ls [.null]) rfl ?_
      refine lv_astoreN (lv' := [(5, .null), (4, .null), (0, .ref x0), (1, .int p1), (2, .int p2), (3, .int p3)]) hx hb dX3_square_12 hl (by decide) rfl (fun ls hl => ?_)
      refine lv_aloadN hx hb dX3_square_14 (lv_at hl 1 rfl) ?_
      refine lv_ifnullN (tgt := 24) hx hb dX3_square_16 (by decide) ?_
      refine lv_ldc2 (v := -1) hx hb hown (hts (.constantLong RX3 100 (-1)) (by decide +kernel)) dX3_square_24 ?_
      obtain rfl := Option.some.inj hs
      exact W.lret hx hb hr (fun t ht hW => ⟨⟨_, _, rfl, ⟨rfl, rfl⟩, by rw [ht]; exact hP, hD⟩, hS.F ht⟩) hS.2.2 dX3_square_27
    | some S_9 =>
      replace hs := mt_s hs
      have hq_9 := hQ _ _ (rt_h hc_9)
      have hn_9 := hQn _ _ (rt_h hc_9)
      refine W.eq (g2 := F0 m 12 ls [.ref (adr p2.toNatClampNeg).1]) rfl ?_
      refine lv_astore (lv' := [(5, .ref (adr p2.toNatClampNeg).1), (4, .null), (0, .ref x0), (1, .int p1), (2, .int p2), (3, .int p3)]) hx hb dX3_square_12 hl (by decide) rfl (fun ls hl => ?_)
      refine lv_aloadN hx hb dX3_square_14 (lv_at hl 1 rfl) ?_
      refine lv_ifnullN (tgt := 24) hx hb dX3_square_16 (by decide) ?_
      refine lv_ldc2 (v := -1) hx hb hown (hts (.constantLong RX3 100 (-1)) (by decide +kernel)) dX3_square_24 ?_
      obtain rfl := Option.some.inj hs
      exact W.lret hx hb hr (fun t ht hW => ⟨⟨_, _, rfl, ⟨rfl, rfl⟩, by rw [ht]; exact hP, hD⟩, hS.F ht⟩) hS.2.2 dX3_square_27
  | some S_2 =>
    replace hs := mt_s hs
    have hq_2 := hQ _ _ (rt_h hc_2)
    have hn_2 := hQn _ _ (rt_h hc_2)
    refine W.eq (g2 := F0 m 5 ls [.ref (adr p1.toNatClampNeg).1]) rfl ?_
    refine lv_astore (lv' := [(4, .ref (adr p1.toNatClampNeg).1), (0, .ref x0), (1, .int p1), (2, .int p2), (3, .int p3)]) hx hb dX3_square_5 hl (by decide) rfl (fun ls hl => ?_)
    refine lv_aload_n hx hb dX3_square_7 rfl (lv_at hl 1 rfl) ?_
    refine lv_iload_n hx hb dX3_square_8 rfl (lv_at hl 3 rfl) ?_
    obtain ⟨v_9, hc_9, hs⟩ := op_bd hs
    refine gx_cSq (va_Run.run (va_runV (As := [.int p2]) (rest := []) ⟨hx, hb, hml, hown, hts⟩ (c_X3_right l D cI cJ cZ cS ad x0 xm xb f0 xp xq xr adr X hh p2 F v_9 hc_9) (cwV 1 hts gX3_square_X3_right rfl rfl rfl (by decide +kernel) ⟨Nat.le_of_ble_eq_true rfl, Nat.le_of_ble_eq_true rfl⟩) ⟨gl_blind, va_recv hK hP (ci := 3) (q0 := 0) rfl rfl, gl_ok hK (gl_Ek hE hS) ⟨hP, pl_kept hQ hQn hS⟩⟩ rfl rfl hl.1 rfl (lv_room (Nat.le_of_ble_eq_true rfl)) dX3_square_9 ⟨Nat.le_of_ble_eq_true rfl, Nat.le_of_ble_eq_true rfl⟩)) ?_
    cases v_9 with
    | none =>
      replace hs := mt_n hs
      refine W.eq (g2 := F0 m 12 ls [.null]) rfl ?_
      refine lv_astoreN (lv' := [(5, .null), (4, .ref (adr p1.toNatClampNeg).1), (0, .ref x0), (1, .int p1), (2, .int p2), (3, .int p3)]) hx hb dX3_square_12 hl (by decide) rfl (fun ls hl => ?_)
      refine lv_aload hx hb dX3_square_14 (lv_at hl 1 rfl) ?_
      refine lv_ifnull hx hb dX3_square_16 ?_
      refine lv_aloadN hx hb dX3_square_19 (lv_at hl 0 rfl) ?_
      refine lv_ifnonnullN hx hb dX3_square_21 ?_
      refine lv_ldc2 (v := -1) hx hb hown (hts (.constantLong RX3 100 (-1)) (by decide +kernel)) dX3_square_24 ?_
      obtain rfl := Option.some.inj hs
      exact W.lret hx hb hr (fun t ht hW => ⟨⟨_, _, rfl, ⟨rfl, rfl⟩, by rw [ht]; exact hP, hD⟩, hS.F ht⟩) hS.2.2 dX3_square_27
    | some S_9 =>
      replace hs := mt_s hs
      have hq_9 := hQ _ _ (rt_h hc_9)
      have hn_9 := hQn _ _ (rt_h hc_9)
      refine W.eq (g2 := F0 m 12 ls [.ref (adr p2.toNatClampNeg).1]) rfl ?_
      refine lv_astore (lv' := [(5, .ref (adr p2.toNatClampNeg).1), (4, .ref (adr p1.toNatClampNeg).1), (0, .ref x0), (1, .int p1), (2, .int p2), (3, .int p3)]) hx hb dX3_square_12 hl (by decide) rfl (fun ls hl => ?_)
      refine lv_aload hx hb dX3_square_14 (lv_at hl 1 rfl) ?_
      refine lv_ifnull hx hb dX3_square_16 ?_
      refine lv_aload hx hb dX3_square_19 (lv_at hl 0 rfl) ?_
      refine lv_ifnonnull (tgt := 28) hx hb dX3_square_21 (by decide) ?_
      refine lv_aload hx hb dX3_square_28 (lv_at hl 1 rfl) ?_
      refine lv_aload hx hb dX3_square_30 (lv_at hl 0 rfl) ?_
      refine lv_aload_n hx hb dX3_square_32 rfl (lv_at hl 2 rfl) ?_
      refine va_get (D := D) (ci := 3) (v := .ref f0) (C := RX3) (T := TX3) (N := 10) hx hb hts in_X3 hown hK hP 0 rfl rfl 6 (by decide) lk_35 (fun _ h9 => h9) rfl dX3_square_33 ?_
      obtain ⟨v_36, hc_36, hs⟩ := op_bd hs
      have hFc := va_free (wc := fr_w f0 ((pp_u X), (pp_l X))) hD hS hA [3] rfl
      refine gx_cPv (wf := fun u => fr_w f0 u) (wr := (pp_w cI cJ cS x0 xm xb f0 xp xq xr adr hh X).eraseIdx 3) (w' := pp_w cI cJ cS x0 xm xb f0 xp xq xr adr hh (pt_l (pt_u X (fr_u v_36)) (fr_l v_36))) (va_runV (As := [.ref (adr p2.toNatClampNeg).1, .ref f0]) (rest := []) ⟨hx, hb, hml, hown, hts⟩ (c_X2_measureTo l D cI cJ cZ cS ad (adr p1.toNatClampNeg).1 (adr p1.toNatClampNeg).2.1 (adr p1.toNatClampNeg).2.2 (adr p2.toNatClampNeg).1 (adr p2.toNatClampNeg).2.1 (adr p2.toNatClampNeg).2.2 f0 _ S_2 S_9 ((pp_u X), (pp_l X)) F hq_2.2 hq_9.2 v_36 hc_36) (cwV 2 hts gX3_square_X2_measureTo rfl rfl rfl (by decide +kernel) ⟨Nat.le_of_ble_eq_true rfl, Nat.le_of_ble_eq_true rfl⟩) ⟨gm_blind, va_recv hK (gx_ro hq_2.1 hn_2 hS) (ci := 2) (q0 := 0) rfl rfl, gm_ok hK hE hS hFc (hP.sub [3] rfl) (hD.sub [3] (by decide) rfl) ((gx_ro hq_2.1 hn_2 hS).app (gx_ro hq_9.1 hn_9 hS)) (pl_ra (pl_rn hn_2 (hD.sub [3] (by decide) rfl)) (pl_rn hn_9 (hD.sub [3] (by decide) rfl)))⟩ rfl rfl hl.1 rfl (lv_room (Nat.le_of_ble_eq_true rfl)) dX3_square_36 ⟨Nat.le_of_ble_eq_true rfl, Nat.le_of_ble_eq_true rfl⟩) hP hD hS hFc [3] [0, 1, 2, 4, 5, 6] rfl rfl (by decide) (by decide) [0, 1, 2, 6, 3, 4, 5] (by decide) rfl (fun H locs hP hD hS => ?_)
      have hP : va_P D vwCl (pp_w cI cJ cS x0 xm xb f0 xp xq xr adr hh (pt_l (pt_u X (fr_u v_36)) (fr_l v_36))) H := hP
      have hD : va_D A (pp_w cI cJ cS x0 xm xb f0 xp xq xr adr hh (pt_l (pt_u X (fr_u v_36)) (fr_l v_36))) := hD
      refine lv_aload_n hx hb dX3_square_39 rfl (lv_at hl 2 rfl) ?_
      refine va_get (D := D) (ci := 3) (v := .ref f0) (C := RX3) (T := TX3) (N := 10) hx hb hts in_X3 hown hK hP 0 rfl rfl 6 (by decide) lk_35 (fun _ h9 => h9) rfl dX3_square_40 ?_
      obtain ⟨v_43, hc_43, hs⟩ := op_bd hs
      have hFc := va_free (wc := fr_w f0 ((fr_u v_36), (fr_l v_36))) hD hS hA [3] rfl
      refine gx_cPv (wf := fun u => fr_w f0 u) (wr := (pp_w cI cJ cS x0 xm xb f0 xp xq xr adr hh (pt_l (pt_u X (fr_u v_36)) (fr_l v_36))).eraseIdx 3) (w' := pp_w cI cJ cS x0 xm xb f0 xp xq xr adr hh (pt_l (pt_u X (fr_u v_43)) (fr_l v_43))) (va_runV (As := []) (rest := []) ⟨hx, hb, hml, hown, hts⟩ (c_X0_reduce l D cI cJ cZ cS ad f0 _ ((fr_u v_36), (fr_l v_36)) F  v_43 hc_43) (cwV 0 hts gX3_square_X0_reduce rfl rfl rfl (by decide +kernel) ⟨Nat.le_of_ble_eq_true rfl, Nat.le_of_ble_eq_true rfl⟩) ⟨gm_blind, va_recv hK hP (ci := 1) (q0 := 3) rfl rfl, gm_ok hK hE hS hFc (hP.sub [3] rfl) (hD.sub [3] (by decide) rfl) va_nil0 gx_nil⟩ rfl rfl hl.1 rfl (lv_room (Nat.le_of_ble_eq_true rfl)) dX3_square_43 ⟨Nat.le_of_ble_eq_true rfl, Nat.le_of_ble_eq_true rfl⟩) hP hD hS hFc [3] [0, 1, 2, 4, 5, 6] rfl rfl (by decide) (by decide) [0, 1, 2, 6, 3, 4, 5] (by decide) rfl (fun H locs hP hD hS => ?_)
      have hP : va_P D vwCl (pp_w cI cJ cS x0 xm xb f0 xp xq xr adr hh (pt_l (pt_u X (fr_u v_43)) (fr_l v_43))) H := hP
      have hD : va_D A (pp_w cI cJ cS x0 xm xb f0 xp xq xr adr hh (pt_l (pt_u X (fr_u v_43)) (fr_l v_43))) := hD
      refine lv_iload_n hx hb dX3_square_46 rfl (lv_at hl 5 rfl) ?_
      refine lv_if_ne (tgt := 60) hx hb dX3_square_47 (by decide) (fun c_47 => ?_) (fun c_47 => ?_)
      · replace hs := it_f c_47 hs
        refine lv_aload_n hx hb dX3_square_60 rfl (lv_at hl 2 rfl) ?_
        refine va_get (D := D) (ci := 3) (v := .ref f0) (C := RX3) (T := TX3) (N := 10) hx hb hts in_X3 hown hK hP 0 rfl rfl 6 (by decide) lk_35 (fun _ h9 => h9) rfl dX3_square_61 ?_
        refine va_get (D := D) (ci := 1) (v := .long (fr_l v_43)) (C := RX0) (T := TX0) (N := 2) hx hb hts in_X0 hown hK hP 3 rfl rfl 1 (by decide) lk_113 (fun _ h9 => h9) rfl dX3_square_64 ?_
        obtain rfl := Option.some.inj hs
        exact W.lret hx hb hr (fun t ht hW => ⟨⟨_, _, rfl, ⟨rfl, rfl⟩, by rw [ht]; exact hP, hD⟩, hS.F ht⟩) hS.2.2 dX3_square_67
      · replace hs := it_t c_47 hs
        refine lv_aload_n hx hb dX3_square_50 rfl (lv_at hl 2 rfl) ?_
        refine va_get (D := D) (ci := 3) (v := .ref f0) (C := RX3) (T := TX3) (N := 10) hx hb hts in_X3 hown hK hP 0 rfl rfl 6 (by decide) lk_35 (fun _ h9 => h9) rfl dX3_square_51 ?_
        refine va_get (D := D) (ci := 1) (v := .long (fr_u v_43)) (C := RX0) (T := TX0) (N := 2) hx hb hts in_X0 hown hK hP 3 rfl rfl 0 (by decide) lk_109 (fun _ h9 => h9) rfl dX3_square_54 ?_
        refine lv_goto (tgt := 67) hx hb dX3_square_57 (by decide) ?_
        obtain rfl := Option.some.inj hs
        exact W.lret hx hb hr (fun t ht hW => ⟨⟨_, _, rfl, ⟨rfl, rfl⟩, by rw [ht]; exact hP, hD⟩, hS.F ht⟩) hS.2.2 dX3_square_67
def s_X3_boxed_21 (F : Nat) (X : pp_T) (hh : Nat → Option sh_T) (p1 : Int32) (p2 : Int32) (p3 : Int32) (p4 : Int32) : Nat → Int32 → pp_T → Option (Int32 × pp_T)
  | 0, _, _ => none
  | n + 1, x5, Y =>
    if (pp_n Y) ≤ x5 then
      some ((pp_m Y), Y)
    else
      (s_X3_right F Y hh x5).bind fun v_33 =>
      mt_o v_33
        ((some (x5 + 1)).bind fun e_77 =>
         s_X3_boxed_21 F X hh p1 p2 p3 p4 n e_77 Y)
        (fun S_33 =>
         (s_X2_boxMeets F S_33 p1 p2 p3 p4).bind fun v_50 =>
         if v_50 = 0 then
           (some (x5 + 1)).bind fun e_77 =>
           s_X3_boxed_21 F X hh p1 p2 p3 p4 n e_77 Y
         else
           (wr_in 60 (pp_m Y)).bind fun _ =>
           (some (((pp_m Y) + 1))).bind fun e_74 =>
           (some (x5 + 1)).bind fun e_77 =>
           s_X3_boxed_21 F X hh p1 p2 p3 p4 n e_77 (pt_m (pt_b Y (upd (pp_b Y) (pp_m Y).toNatClampNeg x5)) e_74))
def s_X3_boxed (F : Nat) (X : pp_T) (hh : Nat → Option sh_T) (p1 : Int32) (p2 : Int32) (p3 : Int32) (p4 : Int32) : Option (Int32 × pp_T) :=
  if p3 < p1 then
    some (0, (pt_m X 0))
  else
    if p2 ≤ p4 then
      s_X3_boxed_21 F X hh p1 p2 p3 p4 F 0 (pt_m X 0)
    else
      some (0, (pt_m X 0))
abbrev rm_X3_boxed : Room := { frames := 2, cells := 0, slots := 0, locals := 43 }
theorem in_X3_boxed_X3 : ∀ w ∈ wsX30, w ∈ wsX3_boxed := by decide +kernel
set_option maxHeartbeats 4000000 in
set_option maxRecDepth 100000 in
theorem c_X3_boxed (l : Launch) (D : va_G) (cI cJ cZ cS : ClassId) (ad : Nat → Nat) (x0 xm xb f0 xp xq xr : Nat) (adr : ad_T) (sz : Nat) (X : pp_T) (hh : Nat → Option sh_T) (p1 : Int32) (p2 : Int32) (p3 : Int32) (p4 : Int32) (F : Nat)  (r : (Int32 × pp_T)) (hs : s_X3_boxed F X hh p1 p2 p3 p4 = some r) : Met l yX3_boxed wsX3_boxed rm_X3_boxed (gp_P D cI cJ cZ cS ad adr hh sz (pp_w cI cJ cS x0 xm xb f0 xp xq xr adr hh X) [.ref x0, .int p1, .int p2, .int p3, .int p4]) (va_Qi (fun x (u : pp_T) => x = r.1 ∧ u = r.2) (fun u t => va_P D vwCl (pp_w cI cJ cS x0 xm xb f0 xp xq xr adr hh u) t.heap ∧ va_D (va_A (pp_w cI cJ cS x0 xm xb f0 xp xq xr adr hh X) sz) (pp_w cI cJ cS x0 xm xb f0 xp xq xr adr hh u)) (va_A (pp_w cI cJ cS x0 xm xb f0 xp xq xr adr hh X) sz)) 0 0 (va_A (pp_w cI cJ cS x0 xm xb f0 xp xq xr adr hh X) sz) := by
  refine Met.ofW (cc := cX3_boxed) (maxL := 7) (ret := (some .int)) (by decide) rfl ?_
  intro p e s m args below meth c s₁ B hml hv
  obtain ⟨rfl, hsz, hK, hE, hP, hD0, hQ, hQn0⟩ := hv
  have hx := B.exec
  have hb := B.bytes
  have hr := B.returns
  have hts := atoms_spec (ws := wsX3_boxed) B.pre
  have hown : s.vm.findClass RX3 = some m.cls := findClass_of_methodNamed B.named
  have hlocks := B.notSynchronized
  subst hsz
  have hD := hD0.self (sz := s.heap.size)
  have hQn := pl_n0 hQ hQn0
  generalize hAe : va_A (pp_w cI cJ cS x0 xm xb f0 xp xq xr adr hh X) s.heap.size = A at hD hE hQn ⊢
  have hA : ∀ q : Nat, s.heap.size ≤ q → A q := fun q h => by rw [← hAe]; exact Or.inr h
  have hS : va_S A s.heap s.heap [] := va_S.rf
  have lk_15 := hts (.fieldLink RX3 15 "PlacePoints" "madeCount" "I") (by decide +kernel)
  have lk_25 := hts (.fieldLink RX3 25 "PlacePoints" "boxedNumbers" "[I") (by decide +kernel)
  have lk_29 := hts (.fieldLink RX3 29 "PlacePoints" "boxedCount" "I") (by decide +kernel)
  have in_X3 := in_X3_boxed_X3
  have J_21 : ∀ (n_21 : Nat) (x5 : Int32) (Y : pp_T), s_X3_boxed_21 F X hh p1 p2 p3 p4 n_21 x5 Y = some r → ∀ (H : Heap) (locs : List Loc), va_P D vwCl (pp_w cI cJ cS x0 xm xb f0 xp xq xr adr hh Y) H → va_D A (pp_w cI cJ cS x0 xm xb f0 xp xq xr adr hh Y) → va_S A s.heap H locs → ∀ ls : Array Slot, lv_has ls 7 [(0, .ref x0), (1, .int p1), (2, .int p2), (3, .int p3), (4, .int p4), (5, .int x5)] → W p l e (headSpec wsX3_boxed rm_X3_boxed).room s m ([.ref x0, .int p1, .int p2, .int p3, .int p4] : List Value).toArray below meth c H locs 0 0 (MQ below (va_Qi (fun x (u : pp_T) => x = r.1 ∧ u = r.2) (fun u t => va_P D vwCl (pp_w cI cJ cS x0 xm xb f0 xp xq xr adr hh u) t.heap ∧ va_D (A) (pp_w cI cJ cS x0 xm xb f0 xp xq xr adr hh u)) (A)) ([.ref x0, .int p1, .int p2, .int p3, .int p4] : List Value).toArray s 0 0 (A)) (F0 m 21 ls []) := by
    intro n_21
    induction n_21 with
    | zero =>
      intro x5 Y hs
      cases hs
    | succ n_21 ih_21 =>
      intro x5 Y hs H locs hP hD hS ls hl
      rw [s_X3_boxed_21] at hs
      refine lv_iload hx hb dX3_boxed_21 (lv_at hl 5 rfl) ?_
      refine lv_aload_n hx hb dX3_boxed_23 rfl (lv_at hl 0 rfl) ?_
      refine va_get (D := D) (ci := 3) (v := .int (pp_n Y)) (C := RX3) (T := TX3) (N := 10) hx hb hts in_X3 hown hK hP 0 rfl rfl 1 (by decide) lk_15 (fun _ h9 => h9) rfl dX3_boxed_24 ?_
      refine lv_icmp_ge (tgt := 83) hx hb dX3_boxed_27 (by decide) (fun c_27 => ?_) (fun c_27 => ?_)
      · replace hs := it_t c_27 hs
        refine lv_aload_n hx hb dX3_boxed_83 rfl (lv_at hl 0 rfl) ?_
        refine va_get (D := D) (ci := 3) (v := .int (pp_m Y)) (C := RX3) (T := TX3) (N := 10) hx hb hts in_X3 hown hK hP 0 rfl rfl 5 (by decide) lk_29 (fun _ h9 => h9) rfl dX3_boxed_84 ?_
        obtain rfl := Option.some.inj hs
        exact W.iret hx hb hr (fun t ht hW => ⟨⟨_, _, rfl, ⟨rfl, rfl⟩, by rw [ht]; exact hP, hD⟩, hS.F ht⟩) hS.2.2 dX3_boxed_87
      · replace hs := it_f c_27 hs
        refine lv_aload_n hx hb dX3_boxed_30 rfl (lv_at hl 0 rfl) ?_
        refine lv_iload hx hb dX3_boxed_31 (lv_at hl 5 rfl) ?_
        obtain ⟨v_33, hc_33, hs⟩ := op_bd hs
        refine gx_cSq (va_Run.run (va_runV (As := [.int x5]) (rest := []) ⟨hx, hb, hml, hown, hts⟩ (c_X3_right l D cI cJ cZ cS ad x0 xm xb f0 xp xq xr adr Y hh x5 F v_33 hc_33) (cwV 1 hts gX3_boxed_X3_right rfl rfl rfl (by decide +kernel) ⟨Nat.le_of_ble_eq_true rfl, Nat.le_of_ble_eq_true rfl⟩) ⟨gl_blind, va_recv hK hP (ci := 3) (q0 := 0) rfl rfl, gl_ok hK (gl_Ek hE hS) ⟨hP, pl_kept hQ hQn hS⟩⟩ rfl rfl hl.1 rfl (lv_room (Nat.le_of_ble_eq_true rfl)) dX3_boxed_33 ⟨Nat.le_of_ble_eq_true rfl, Nat.le_of_ble_eq_true rfl⟩)) ?_
        cases v_33 with
        | none =>
          replace hs := mt_n hs
          refine W.eq (g2 := F0 m 36 ls [.null]) rfl ?_
          refine lv_astoreN (lv' := [(6, .null), (0, .ref x0), (1, .int p1), (2, .int p2), (3, .int p3), (4, .int p4), (5, .int x5)]) hx hb dX3_boxed_36 hl (by decide) rfl (fun ls hl => ?_)
          refine lv_aloadN hx hb dX3_boxed_38 (lv_at hl 0 rfl) ?_
          refine lv_ifnullN (tgt := 77) hx hb dX3_boxed_40 (by decide) ?_
          obtain ⟨e_77, hv_77, hs⟩ := op_bd hs
          refine lv_iinc (v := e_77) (lv' := [(5, .int e_77), (6, .null), (0, .ref x0), (1, .int p1), (2, .int p2), (3, .int p3), (4, .int p4)]) hx hb dX3_boxed_77 hl (k := 6) rfl (Option.some.inj hv_77) (by decide) rfl (fun ls hl => ?_)
          refine lv_goto (tgt := 21) hx hb dX3_boxed_80 (by decide) ?_
          exact ih_21 e_77 Y hs _ _ hP hD hS _ (lv_sub hl [2, 3, 4, 5, 6, 0] rfl)
        | some S_33 =>
          replace hs := mt_s hs
          have hq_33 := hQ _ _ (rt_h hc_33)
          have hn_33 := hQn _ _ (rt_h hc_33)
          refine W.eq (g2 := F0 m 36 ls [.ref (adr x5.toNatClampNeg).1]) rfl ?_
          refine lv_astore (lv' := [(6, .ref (adr x5.toNatClampNeg).1), (0, .ref x0), (1, .int p1), (2, .int p2), (3, .int p3), (4, .int p4), (5, .int x5)]) hx hb dX3_boxed_36 hl (by decide) rfl (fun ls hl => ?_)
          refine lv_aload hx hb dX3_boxed_38 (lv_at hl 0 rfl) ?_
          refine lv_ifnull hx hb dX3_boxed_40 ?_
          refine lv_aload hx hb dX3_boxed_43 (lv_at hl 0 rfl) ?_
          refine lv_iload_n hx hb dX3_boxed_45 rfl (lv_at hl 2 rfl) ?_
          refine lv_iload_n hx hb dX3_boxed_46 rfl (lv_at hl 3 rfl) ?_
          refine lv_iload_n hx hb dX3_boxed_47 rfl (lv_at hl 4 rfl) ?_
          refine lv_iload hx hb dX3_boxed_48 (lv_at hl 5 rfl) ?_
          obtain ⟨v_50, hc_50, hs⟩ := op_bd hs
          refine gx_cSi (va_Run.run (va_runV (As := [.int p1, .int p2, .int p3, .int p4]) (rest := []) ⟨hx, hb, hml, hown, hts⟩ (c_X2_boxMeets l D cI cJ cZ cS ad (adr x5.toNatClampNeg).1 (adr x5.toNatClampNeg).2.1 (adr x5.toNatClampNeg).2.2 S_33 p1 p2 p3 p4 F hq_33.2 v_50 hc_50) (cwV 4 hts gX3_boxed_X2_boxMeets rfl rfl rfl (by decide +kernel) ⟨Nat.le_of_ble_eq_true rfl, Nat.le_of_ble_eq_true rfl⟩) ⟨gl_blind, va_recv hK (gx_ro hq_33.1 hn_33 hS) (ci := 2) (q0 := 0) rfl rfl, gl_ok hK (gl_Ek hE hS) (gx_ro hq_33.1 hn_33 hS)⟩ rfl rfl hl.1 rfl (lv_room (Nat.le_of_ble_eq_true rfl)) dX3_boxed_50 ⟨Nat.le_of_ble_eq_true rfl, Nat.le_of_ble_eq_true rfl⟩)) ?_
          refine lv_if_eq (tgt := 77) hx hb dX3_boxed_53 (by decide) (fun c_53 => ?_) (fun c_53 => ?_)
          · replace hs := it_t c_53 hs
            obtain ⟨e_77, hv_77, hs⟩ := op_bd hs
            refine lv_iinc (v := e_77) (lv' := [(5, .int e_77), (6, .ref (adr x5.toNatClampNeg).1), (0, .ref x0), (1, .int p1), (2, .int p2), (3, .int p3), (4, .int p4)]) hx hb dX3_boxed_77 hl (k := 6) rfl (Option.some.inj hv_77) (by decide) rfl (fun ls hl => ?_)
            refine lv_goto (tgt := 21) hx hb dX3_boxed_80 (by decide) ?_
            exact ih_21 e_77 Y hs _ _ hP hD hS _ (lv_sub hl [2, 3, 4, 5, 6, 0] rfl)
          · replace hs := it_f c_53 hs
            refine lv_aload_n hx hb dX3_boxed_56 rfl (lv_at hl 1 rfl) ?_
            refine va_get (D := D) (ci := 3) (v := .ref xb) (C := RX3) (T := TX3) (N := 10) hx hb hts in_X3 hown hK hP 0 rfl rfl 4 (by decide) lk_25 (fun _ h9 => h9) rfl dX3_boxed_57 ?_
            refine lv_aload_n hx hb dX3_boxed_60 rfl (lv_at hl 1 rfl) ?_
            refine va_get (D := D) (ci := 3) (v := .int (pp_m Y)) (C := RX3) (T := TX3) (N := 10) hx hb hts in_X3 hown hK hP 0 rfl rfl 5 (by decide) lk_29 (fun _ h9 => h9) rfl dX3_boxed_61 ?_
            refine lv_iload hx hb dX3_boxed_64 (lv_at hl 6 rfl) ?_
            obtain ⟨_, hv_66, hs⟩ := op_bd hs
            refine va_iast hx hb hK hP hD hS 2 0 rfl rfl (wr_ok hv_66) dX3_boxed_66 (fun H locs hP hD hS => ?_)
            have hP : va_P D vwCl (pp_w cI cJ cS x0 xm xb f0 xp xq xr adr hh (pt_b Y (upd (pp_b Y) (pp_m Y).toNatClampNeg x5))) H := hP
            have hD : va_D A (pp_w cI cJ cS x0 xm xb f0 xp xq xr adr hh (pt_b Y (upd (pp_b Y) (pp_m Y).toNatClampNeg x5))) := hD
            refine lv_aload_n hx hb dX3_boxed_67 rfl (lv_at hl 1 rfl) ?_
            refine lv_dup hx hb dX3_boxed_68 rfl ?_
            refine va_get (D := D) (ci := 3) (v := .int (pp_m Y)) (C := RX3) (T := TX3) (N := 10) hx hb hts in_X3 hown hK hP 0 rfl rfl 5 (by decide) lk_29 (fun _ h9 => h9) rfl dX3_boxed_69 ?_
            refine lv_iconst (v := 1) hx hb dX3_boxed_72 (by decide) ?_
            refine lv_iadd hx hb dX3_boxed_73 ?_
            obtain ⟨e_74, hv_74, hs⟩ := op_bd hs
            refine gx_ni (Option.some.inj hv_74) ?_
            refine va_put (D := D) (ci := 3) (v := .int e_74) (ty := .int) (C := RX3) (T := TX3) (N := 10) hx hb hts in_X3 tyX3 tyX3_ok nmX3 hown hK hP hD hS 0 rfl rfl 5 (by decide) lk_29 (fun _ h9 => h9) rfl (by decide +kernel) rfl rfl (Nat.le_of_ble_eq_true rfl) dX3_boxed_74 (fun H locs hP hD hS => ?_)
            have hP : va_P D vwCl (pp_w cI cJ cS x0 xm xb f0 xp xq xr adr hh (pt_m (pt_b Y (upd (pp_b Y) (pp_m Y).toNatClampNeg x5)) e_74)) H := hP
            have hD : va_D A (pp_w cI cJ cS x0 xm xb f0 xp xq xr adr hh (pt_m (pt_b Y (upd (pp_b Y) (pp_m Y).toNatClampNeg x5)) e_74)) := hD
            obtain ⟨e_77, hv_77, hs⟩ := op_bd hs
            refine lv_iinc (v := e_77) (lv' := [(5, .int e_77), (6, .ref (adr x5.toNatClampNeg).1), (0, .ref x0), (1, .int p1), (2, .int p2), (3, .int p3), (4, .int p4)]) hx hb dX3_boxed_77 hl (k := 6) rfl (Option.some.inj hv_77) (by decide) rfl (fun ls hl => ?_)
            refine lv_goto (tgt := 21) hx hb dX3_boxed_80 (by decide) ?_
            exact ih_21 e_77 (pt_m (pt_b Y (upd (pp_b Y) (pp_m Y).toNatClampNeg x5)) e_74) hs _ _ hP hD hS _ (lv_sub hl [2, 3, 4, 5, 6, 0] rfl)
  have hl := lv_entry ([.ref x0, .int p1, .int p2, .int p3, .int p4]) (n := 7) (Nat.le_of_ble_eq_true rfl)
  rw [lg_entry_eq]
  generalize (lg_sl ([.ref x0, .int p1, .int p2, .int p3, .int p4]) ++ List.replicate (7 - (lg_sl ([.ref x0, .int p1, .int p2, .int p3, .int p4])).length) Slot.unset).toArray = ls at hl ⊢
  have hl : lv_has ls 7 [(0, .ref x0), (1, .int p1), (2, .int p2), (3, .int p3), (4, .int p4)] := hl
  rw [s_X3_boxed] at hs
  refine lv_aload_n hx hb dX3_boxed_0 rfl (lv_at hl 0 rfl) ?_
  refine lv_iconst (v := 0) hx hb dX3_boxed_1 (by decide) ?_
  refine va_put (D := D) (ci := 3) (v := .int 0) (ty := .int) (C := RX3) (T := TX3) (N := 10) hx hb hts in_X3 tyX3 tyX3_ok nmX3 hown hK hP hD hS 0 rfl rfl 5 (by decide) lk_29 (fun _ h9 => h9) rfl (by decide +kernel) rfl rfl (Nat.le_of_ble_eq_true rfl) dX3_boxed_2 (fun H locs hP hD hS => ?_)
  have hP : va_P D vwCl (pp_w cI cJ cS x0 xm xb f0 xp xq xr adr hh (pt_m X 0)) H := hP
  have hD : va_D A (pp_w cI cJ cS x0 xm xb f0 xp xq xr adr hh (pt_m X 0)) := hD
  refine lv_iload_n hx hb dX3_boxed_5 rfl (lv_at hl 1 rfl) ?_
  refine lv_iload_n hx hb dX3_boxed_6 rfl (lv_at hl 3 rfl) ?_
  refine lv_icmp_gt (tgt := 16) hx hb dX3_boxed_7 (by decide) (fun c_7 => ?_) (fun c_7 => ?_)
  · replace hs := it_t c_7 hs
    refine lv_iconst (v := 0) hx hb dX3_boxed_16 (by decide) ?_
    obtain rfl := Option.some.inj hs
    exact W.iret hx hb hr (fun t ht hW => ⟨⟨_, _, rfl, ⟨rfl, rfl⟩, by rw [ht]; exact hP, hD⟩, hS.F ht⟩) hS.2.2 dX3_boxed_17
  · replace hs := it_f c_7 hs
    refine lv_iload_n hx hb dX3_boxed_10 rfl (lv_at hl 2 rfl) ?_
    refine lv_iload hx hb dX3_boxed_11 (lv_at hl 4 rfl) ?_
    refine lv_icmp_le (tgt := 18) hx hb dX3_boxed_13 (by decide) (fun c_13 => ?_) (fun c_13 => ?_)
    · replace hs := it_t c_13 hs
      refine lv_iconst (v := 0) hx hb dX3_boxed_18 (by decide) ?_
      refine lv_istore (lv' := [(5, .int 0), (0, .ref x0), (1, .int p1), (2, .int p2), (3, .int p3), (4, .int p4)]) hx hb dX3_boxed_19 hl (by decide) rfl (fun ls hl => ?_)
      exact J_21 F 0 (pt_m X 0) hs _ _ hP hD hS _ (lv_sub hl [1, 2, 3, 4, 5, 0] rfl)
    · replace hs := it_f c_13 hs
      refine lv_iconst (v := 0) hx hb dX3_boxed_16 (by decide) ?_
      obtain rfl := Option.some.inj hs
      exact W.iret hx hb hr (fun t ht hW => ⟨⟨_, _, rfl, ⟨rfl, rfl⟩, by rw [ht]; exact hP, hD⟩, hS.F ht⟩) hS.2.2 dX3_boxed_17
def s_X3_insertByGap_42 (F : Nat) (X : pp_T) (hh : Nat → Option sh_T) (p1 : Int32) (p2 : Int32) (x3 : Int32) (Y : pp_T) : Option pp_T :=
  (wr_in 60 x3).bind fun _ =>
  some (pt_r Y (upd (pp_r Y) x3.toNatClampNeg p1))
def s_X3_insertByGap_2 (F : Nat) (X : pp_T) (hh : Nat → Option sh_T) (p1 : Int32) (p2 : Int32) : Nat → Int32 → pp_T → Option pp_T
  | 0, _, _ => none
  | n + 1, x3, Y =>
    if x3 ≤ 0 then
      s_X3_insertByGap_42 F X hh p1 p2 x3 Y
    else
      (rd_i 60 (pp_r Y) (x3 - 1)).bind fun v_14 =>
      (s_X3_isFarther F Y hh v_14 p1).bind fun v_16 =>
      if v_16 = 0 then
        s_X3_insertByGap_42 F X hh p1 p2 x3 Y
      else
        (rd_i 60 (pp_r Y) (x3 - 1)).bind fun v_34 =>
        (wr_in 60 x3).bind fun _ =>
        (some (x3 + (-1))).bind fun e_36 =>
        s_X3_insertByGap_2 F X hh p1 p2 n e_36 (pt_r Y (upd (pp_r Y) x3.toNatClampNeg v_34))
def s_X3_insertByGap (F : Nat) (X : pp_T) (hh : Nat → Option sh_T) (p1 : Int32) (p2 : Int32) : Option pp_T :=
  s_X3_insertByGap_2 F X hh p1 p2 F p2 X
abbrev rm_X3_insertByGap : Room := { frames := 2, cells := 0, slots := 0, locals := 53 }
theorem in_X3_insertByGap_X3 : ∀ w ∈ wsX30, w ∈ wsX3_insertByGap := by decide +kernel
set_option maxHeartbeats 4000000 in
set_option maxRecDepth 100000 in
theorem c_X3_insertByGap (l : Launch) (D : va_G) (cI cJ cZ cS : ClassId) (ad : Nat → Nat) (x0 xm xb f0 xp xq xr : Nat) (adr : ad_T) (sz : Nat) (X : pp_T) (hh : Nat → Option sh_T) (p1 : Int32) (p2 : Int32) (F : Nat)  (r : pp_T) (hs : s_X3_insertByGap F X hh p1 p2 = some r) : Met l yX3_insertByGap wsX3_insertByGap rm_X3_insertByGap (gp_P D cI cJ cZ cS ad adr hh sz (pp_w cI cJ cS x0 xm xb f0 xp xq xr adr hh X) [.ref x0, .int p1, .int p2]) (va_Qv (fun u : pp_T => u = r) (fun u t => va_P D vwCl (pp_w cI cJ cS x0 xm xb f0 xp xq xr adr hh u) t.heap ∧ va_D (va_A (pp_w cI cJ cS x0 xm xb f0 xp xq xr adr hh X) sz) (pp_w cI cJ cS x0 xm xb f0 xp xq xr adr hh u)) (va_A (pp_w cI cJ cS x0 xm xb f0 xp xq xr adr hh X) sz)) 0 0 (va_A (pp_w cI cJ cS x0 xm xb f0 xp xq xr adr hh X) sz) := by
  refine Met.ofW (cc := cX3_insertByGap) (maxL := 4) (ret := none) (by decide) rfl ?_
  intro p e s m args below meth c s₁ B hml hv
  obtain ⟨rfl, hsz, hK, hE, hP, hD0, hQ, hQn0⟩ := hv
  have hx := B.exec
  have hb := B.bytes
  have hr := B.returns
  have hts := atoms_spec (ws := wsX3_insertByGap) B.pre
  have hown : s.vm.findClass RX3 = some m.cls := findClass_of_methodNamed B.named
  have hlocks := B.notSynchronized
  subst hsz
  have hD := hD0.self (sz := s.heap.size)
  have hQn := pl_n0 hQ hQn0
  generalize hAe : va_A (pp_w cI cJ cS x0 xm xb f0 xp xq xr adr hh X) s.heap.size = A at hD hE hQn ⊢
  have hA : ∀ q : Nat, s.heap.size ≤ q → A q := fun q h => by rw [← hAe]; exact Or.inr h
  have hS : va_S A s.heap s.heap [] := va_S.rf
  have lk_46 := hts (.fieldLink RX3 46 "PlacePoints" "sortedNumbers" "[I") (by decide +kernel)
  have in_X3 := in_X3_insertByGap_X3
  have J_42 : ∀ (x3 : Int32) (Y : pp_T), s_X3_insertByGap_42 F X hh p1 p2 x3 Y = some r → ∀ (H : Heap) (locs : List Loc), va_P D vwCl (pp_w cI cJ cS x0 xm xb f0 xp xq xr adr hh Y) H → va_D A (pp_w cI cJ cS x0 xm xb f0 xp xq xr adr hh Y) → va_S A s.heap H locs → ∀ ls : Array Slot, lv_has ls 4 [(0, .ref x0), (1, .int p1), (3, .int x3)] → W p l e (headSpec wsX3_insertByGap rm_X3_insertByGap).room s m ([.ref x0, .int p1, .int p2] : List Value).toArray below meth c H locs 0 0 (MQ below (va_Qv (fun u : pp_T => u = r) (fun u t => va_P D vwCl (pp_w cI cJ cS x0 xm xb f0 xp xq xr adr hh u) t.heap ∧ va_D (A) (pp_w cI cJ cS x0 xm xb f0 xp xq xr adr hh u)) (A)) ([.ref x0, .int p1, .int p2] : List Value).toArray s 0 0 (A)) (F0 m 42 ls []) := by
    intro x3 Y hs H locs hP hD hS ls hl
    rw [s_X3_insertByGap_42] at hs
    refine lv_aload_n hx hb dX3_insertByGap_42 rfl (lv_at hl 0 rfl) ?_
    refine va_get (D := D) (ci := 3) (v := .ref xr) (C := RX3) (T := TX3) (N := 10) hx hb hts in_X3 hown hK hP 0 rfl rfl 9 (by decide) lk_46 (fun _ h9 => h9) rfl dX3_insertByGap_43 ?_
    refine lv_iload_n hx hb dX3_insertByGap_46 rfl (lv_at hl 2 rfl) ?_
    refine lv_iload_n hx hb dX3_insertByGap_47 rfl (lv_at hl 1 rfl) ?_
    obtain ⟨_, hv_48, hs⟩ := op_bd hs
    refine va_iast hx hb hK hP hD hS 6 0 rfl rfl (wr_ok hv_48) dX3_insertByGap_48 (fun H locs hP hD hS => ?_)
    have hP : va_P D vwCl (pp_w cI cJ cS x0 xm xb f0 xp xq xr adr hh (pt_r Y (upd (pp_r Y) x3.toNatClampNeg p1))) H := hP
    have hD : va_D A (pp_w cI cJ cS x0 xm xb f0 xp xq xr adr hh (pt_r Y (upd (pp_r Y) x3.toNatClampNeg p1))) := hD
    obtain rfl := Option.some.inj hs
    exact W.vret hx hb hr (fun t ht hW => ⟨⟨_, rfl, rfl, by rw [ht]; exact hP, hD⟩, hS.F ht⟩) hS.2.2 dX3_insertByGap_49
  have J_2 : ∀ (n_2 : Nat) (x3 : Int32) (Y : pp_T), s_X3_insertByGap_2 F X hh p1 p2 n_2 x3 Y = some r → ∀ (H : Heap) (locs : List Loc), va_P D vwCl (pp_w cI cJ cS x0 xm xb f0 xp xq xr adr hh Y) H → va_D A (pp_w cI cJ cS x0 xm xb f0 xp xq xr adr hh Y) → va_S A s.heap H locs → ∀ ls : Array Slot, lv_has ls 4 [(0, .ref x0), (1, .int p1), (3, .int x3)] → W p l e (headSpec wsX3_insertByGap rm_X3_insertByGap).room s m ([.ref x0, .int p1, .int p2] : List Value).toArray below meth c H locs 0 0 (MQ below (va_Qv (fun u : pp_T => u = r) (fun u t => va_P D vwCl (pp_w cI cJ cS x0 xm xb f0 xp xq xr adr hh u) t.heap ∧ va_D (A) (pp_w cI cJ cS x0 xm xb f0 xp xq xr adr hh u)) (A)) ([.ref x0, .int p1, .int p2] : List Value).toArray s 0 0 (A)) (F0 m 2 ls []) := by
    intro n_2
    induction n_2 with
    | zero =>
      intro x3 Y hs
      cases hs
    | succ n_2 ih_2 =>
      intro x3 Y hs H locs hP hD hS ls hl
      rw [s_X3_insertByGap_2] at hs
      refine lv_iload_n hx hb dX3_insertByGap_2 rfl (lv_at hl 2 rfl) ?_
      refine lv_if_le (tgt := 42) hx hb dX3_insertByGap_3 (by decide) (fun c_3 => ?_) (fun c_3 => ?_)
      · replace hs := it_t c_3 hs
        exact J_42 x3 Y hs _ _ hP hD hS _ (lv_sub hl [0, 1, 2] rfl)
      · replace hs := it_f c_3 hs
        refine lv_aload_n hx hb dX3_insertByGap_6 rfl (lv_at hl 0 rfl) ?_
        refine lv_aload_n hx hb dX3_insertByGap_7 rfl (lv_at hl 0 rfl) ?_
        refine va_get (D := D) (ci := 3) (v := .ref xr) (C := RX3) (T := TX3) (N := 10) hx hb hts in_X3 hown hK hP 0 rfl rfl 9 (by decide) lk_46 (fun _ h9 => h9) rfl dX3_insertByGap_8 ?_
        refine lv_iload_n hx hb dX3_insertByGap_11 rfl (lv_at hl 2 rfl) ?_
        refine lv_iconst (v := 1) hx hb dX3_insertByGap_12 (by decide) ?_
        refine lv_isub hx hb dX3_insertByGap_13 ?_
        obtain ⟨v_14, hv_14, hs⟩ := op_bd hs
        refine gx_iald hx hb hK hP 6 0 rfl rfl hv_14 dX3_insertByGap_14 ?_
        refine lv_iload_n hx hb dX3_insertByGap_15 rfl (lv_at hl 1 rfl) ?_
        obtain ⟨v_16, hc_16, hs⟩ := op_bd hs
        refine gx_cSi (va_Run.run (va_runV (As := [.int v_14, .int p1]) (rest := []) ⟨hx, hb, hml, hown, hts⟩ (c_X3_isFarther l D cI cJ cZ cS ad x0 xm xb f0 xp xq xr adr Y hh v_14 p1 F  v_16 hc_16) (cwV 2 hts gX3_insertByGap_X3_isFarther rfl rfl rfl (by decide +kernel) ⟨Nat.le_of_ble_eq_true rfl, Nat.le_of_ble_eq_true rfl⟩) ⟨gl_blind, va_recv hK hP (ci := 3) (q0 := 0) rfl rfl, gl_ok hK (gl_Ek hE hS) ⟨hP, pl_kept hQ hQn hS⟩⟩ rfl rfl hl.1 rfl (lv_room (Nat.le_of_ble_eq_true rfl)) dX3_insertByGap_16 ⟨Nat.le_of_ble_eq_true rfl, Nat.le_of_ble_eq_true rfl⟩)) ?_
        refine lv_if_eq (tgt := 42) hx hb dX3_insertByGap_19 (by decide) (fun c_19 => ?_) (fun c_19 => ?_)
        · replace hs := it_t c_19 hs
          exact J_42 x3 Y hs _ _ hP hD hS _ (lv_sub hl [0, 1, 2] rfl)
        · replace hs := it_f c_19 hs
          refine lv_aload_n hx hb dX3_insertByGap_22 rfl (lv_at hl 0 rfl) ?_
          refine va_get (D := D) (ci := 3) (v := .ref xr) (C := RX3) (T := TX3) (N := 10) hx hb hts in_X3 hown hK hP 0 rfl rfl 9 (by decide) lk_46 (fun _ h9 => h9) rfl dX3_insertByGap_23 ?_
          refine lv_iload_n hx hb dX3_insertByGap_26 rfl (lv_at hl 2 rfl) ?_
          refine lv_aload_n hx hb dX3_insertByGap_27 rfl (lv_at hl 0 rfl) ?_
          refine va_get (D := D) (ci := 3) (v := .ref xr) (C := RX3) (T := TX3) (N := 10) hx hb hts in_X3 hown hK hP 0 rfl rfl 9 (by decide) lk_46 (fun _ h9 => h9) rfl dX3_insertByGap_28 ?_
          refine lv_iload_n hx hb dX3_insertByGap_31 rfl (lv_at hl 2 rfl) ?_
          refine lv_iconst (v := 1) hx hb dX3_insertByGap_32 (by decide) ?_
          refine lv_isub hx hb dX3_insertByGap_33 ?_
          obtain ⟨v_34, hv_34, hs⟩ := op_bd hs
          refine gx_iald hx hb hK hP 6 0 rfl rfl hv_34 dX3_insertByGap_34 ?_
          obtain ⟨_, hv_35, hs⟩ := op_bd hs
          refine va_iast hx hb hK hP hD hS 6 0 rfl rfl (wr_ok hv_35) dX3_insertByGap_35 (fun H locs hP hD hS => ?_)
          have hP : va_P D vwCl (pp_w cI cJ cS x0 xm xb f0 xp xq xr adr hh (pt_r Y (upd (pp_r Y) x3.toNatClampNeg v_34))) H := hP
          have hD : va_D A (pp_w cI cJ cS x0 xm xb f0 xp xq xr adr hh (pt_r Y (upd (pp_r Y) x3.toNatClampNeg v_34))) := hD
          obtain ⟨e_36, hv_36, hs⟩ := op_bd hs
          refine lv_iinc (v := e_36) (lv' := [(3, .int e_36), (0, .ref x0), (1, .int p1)]) hx hb dX3_insertByGap_36 hl (k := 2) rfl (Option.some.inj hv_36) (by decide) rfl (fun ls hl => ?_)
          refine lv_goto (tgt := 2) hx hb dX3_insertByGap_39 (by decide) ?_
          exact ih_2 e_36 (pt_r Y (upd (pp_r Y) x3.toNatClampNeg v_34)) hs _ _ hP hD hS _ (lv_sub hl [1, 2, 0] rfl)
  have hl := lv_entry ([.ref x0, .int p1, .int p2]) (n := 4) (Nat.le_of_ble_eq_true rfl)
  rw [lg_entry_eq]
  generalize (lg_sl ([.ref x0, .int p1, .int p2]) ++ List.replicate (4 - (lg_sl ([.ref x0, .int p1, .int p2])).length) Slot.unset).toArray = ls at hl ⊢
  have hl : lv_has ls 4 [(0, .ref x0), (1, .int p1), (2, .int p2)] := hl
  rw [s_X3_insertByGap] at hs
  refine lv_iload_n hx hb dX3_insertByGap_0 rfl (lv_at hl 2 rfl) ?_
  refine lv_istore_n (lv' := [(3, .int p2), (0, .ref x0), (1, .int p1), (2, .int p2)]) hx hb dX3_insertByGap_1 rfl hl (by decide) rfl (fun ls hl => ?_)
  exact J_2 F p2 X hs _ _ hP hD hS _ (lv_sub hl [1, 2, 0] rfl)
