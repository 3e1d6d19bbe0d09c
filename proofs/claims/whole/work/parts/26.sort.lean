theorem gx_rd {A : Nat → Prop} {ws ro wc : va_W} (hD : va_D A ws) (is js : List Nat) (hi : is.map (fun i => ws[i]?) = ro.map some) (hj : js.map (fun i => ws[i]?) = wc.map some) (hdis : ∀ i ∈ is, i ∉ js) : ∀ (k : Nat) (q : Nat × va_E), ro[k]? = some q → ∀ (j : Nat) (e : va_E), ¬ wc[j]? = some (q.1, e) := by
  intro k q hk j e hj2
  have h1 : (ro.map some)[k]? = some (some q) := by rw [List.getElem?_map, hk]; rfl
  rw [← hi, List.getElem?_map] at h1
  have h2 : (wc.map some)[j]? = some (some (q.1, e)) := by rw [List.getElem?_map, hj2]; rfl
  rw [← hj, List.getElem?_map] at h2
  cases h3 : is[k]? with
  | none => rw [h3] at h1; cases h1
  | some a =>
    cases h4 : js[j]? with
    | none => rw [h4] at h2; cases h2
    | some b =>
      rw [h3] at h1
      rw [h4] at h2
      have hab : a = b := hD.1 a b q (q.1, e) (Option.some.inj h1) (Option.some.inj h2) rfl
      subst hab
      exact hdis a (List.mem_of_getElem? h3) (List.mem_of_getElem? h4)
def s_X3_sortByGapTo_23 (F : Nat) (X : pp_T) (hh : Nat → Option sh_T) (p1 : Int32) (p2 : Int32) (PL : sh_T) : Nat → Int32 → Int32 → pp_T → Option (Int32 × pp_T)
  | 0, _, _, _ => none
  | n + 1, x4, x5, Y =>
    if (pp_n Y) ≤ x5 then
      some (x4, Y)
    else
      (s_X3_right F Y hh x5).bind fun v_35 =>
      mt_o v_35
        ((some (x5 + 1)).bind fun e_94 =>
         s_X3_sortByGapTo_23 F X hh p1 p2 PL n x4 e_94 Y)
        (fun S_35 =>
         (s_X2_measureTo F S_35 PL ((pp_u Y), (pp_l Y))).bind fun v_52 =>
         (wr_in 60 x5).bind fun _ =>
         (wr_in 60 x5).bind fun _ =>
         (s_X3_insertByGap F (pt_q (pt_p (pt_l (pt_u Y (fr_u v_52)) (fr_l v_52)) (vp_updL (pp_p Y) x5.toNatClampNeg (fr_u v_52))) (vp_updL (pp_q Y) x5.toNatClampNeg (fr_l v_52))) hh x5 x4).bind fun v_88 =>
         (some (x4 + 1)).bind fun e_91 =>
         (some (x5 + 1)).bind fun e_94 =>
         s_X3_sortByGapTo_23 F X hh p1 p2 PL n e_91 e_94 v_88)
def s_X3_sortL (F : Nat) (X : pp_T) (hh : Nat → Option sh_T) (p1 : Int32) (p2 : Int32) (PL : sh_T) : Option (Int32 × pp_T) :=
  s_X3_sortByGapTo_23 F X hh p1 p2 PL F 0 0 X
abbrev rm_X3_sortByGapTo : Room := { frames := 7, cells := 3, slots := 59, locals := 156 }
theorem in_X3_sortByGapTo_X0 : ∀ w ∈ wsX00, w ∈ wsX3_sortByGapTo := by decide +kernel
theorem in_X3_sortByGapTo_X3 : ∀ w ∈ wsX30, w ∈ wsX3_sortByGapTo := by decide +kernel
set_option maxHeartbeats 4000000 in
set_option maxRecDepth 100000 in
theorem w_X3_sortByGapTo (l : Launch) (D : va_G) (cI cJ cZ cS : ClassId) (ad : Nat → Nat) (x0 xm xb f0 xp xq xr : Nat) (adr : ad_T) (gp : Nat × Nat × Nat) (X : pp_T) (hh : Nat → Option sh_T) (p1 : Int32) (p2 : Int32) (PL : sh_T) (F : Nat) (hkP : sh_k PL < 3) (r : (Int32 × pp_T)) (hs : s_X3_sortL F X hh p1 p2 PL = some r) {p : Program} {e : Env} {s : State} {m : MethodId} {below : List Frame} {meth : Method} {c : Code} {A : Nat → Prop} (hx : p.tables.exec = Jvm.exec) (hb : c.code = cX3_sortByGapTo) (hr : meth.sig.returnType = some .int) (hml : c.maxLocals = 7) (hlocks : meth.locks = false) (hts : ∀ w ∈ wsX3_sortByGapTo, w.before ([.ref x0, .int p1, .int p2] : List Value).toArray s = true) (hown : s.vm.findClass RX3 = some m.cls) (hK : gl_K D cI cJ cZ cS s) (hE : gl_E ad A s s.heap) (hA : ∀ q : Nat, s.heap.size ≤ q → A q) (hQ : pl_P D cI ad adr hh s.heap) (hQn : ∀ (k : Nat) (S : sh_T), hh k = some S → ∀ (i : Nat) (q : Nat × va_E), (sh_wa cI ad (adr k) S)[i]? = some q → ¬ A q.1) : ∀ (H : Heap) (locs : List Loc), va_P D vwCl (pp_w cI cJ cS x0 xm xb f0 xp xq xr adr hh X ++ sh_wa cI ad gp PL) H → va_D A (pp_w cI cJ cS x0 xm xb f0 xp xq xr adr hh X ++ sh_wa cI ad gp PL) → va_S A s.heap H locs → ∀ ls : Array Slot, lv_has ls 7 [(0, .ref x0), (1, .int p1), (2, .int p2), (3, .ref gp.1)] → W p l e (headSpec wsX3_sortByGapTo rm_X3_sortByGapTo).room s m ([.ref x0, .int p1, .int p2] : List Value).toArray below meth c H locs 3 59 (MQ below (va_Qi (fun x (u : pp_T) => x = r.1 ∧ u = r.2) (fun u t => va_P D vwCl (pp_w cI cJ cS x0 xm xb f0 xp xq xr adr hh u) t.heap ∧ va_D (A) (pp_w cI cJ cS x0 xm xb f0 xp xq xr adr hh u)) (A)) ([.ref x0, .int p1, .int p2] : List Value).toArray s 3 59 (A)) (F0 m 17 ls []) := by
  have lk_15 := hts (.fieldLink RX3 15 "PlacePoints" "madeCount" "I") (by decide +kernel)
  have lk_35 := hts (.fieldLink RX3 35 "PlacePoints" "gap" "LPlacePoints$Fraction;") (by decide +kernel)
  have lk_39 := hts (.fieldLink RX3 39 "PlacePoints" "gapUppers" "[J") (by decide +kernel)
  have lk_43 := hts (.fieldLink RX3 43 "PlacePoints" "gapLowers" "[J") (by decide +kernel)
  have lk_109 := hts (.fieldLink RX3 109 "PlacePoints$Fraction" "upper" "J") (by decide +kernel)
  have lk_113 := hts (.fieldLink RX3 113 "PlacePoints$Fraction" "lower" "J") (by decide +kernel)
  have in_X0 := in_X3_sortByGapTo_X0
  have in_X3 := in_X3_sortByGapTo_X3
  have J_23 : ∀ (n_23 : Nat) (x4 : Int32) (x5 : Int32) (Y : pp_T), s_X3_sortByGapTo_23 F X hh p1 p2 PL n_23 x4 x5 Y = some r → ∀ (H : Heap) (locs : List Loc), va_P D vwCl (pp_w cI cJ cS x0 xm xb f0 xp xq xr adr hh Y ++ sh_wa cI ad gp PL) H → va_D A (pp_w cI cJ cS x0 xm xb f0 xp xq xr adr hh Y ++ sh_wa cI ad gp PL) → va_S A s.heap H locs → ∀ ls : Array Slot, lv_has ls 7 [(0, .ref x0), (3, .ref gp.1), (4, .int x4), (5, .int x5)] → W p l e (headSpec wsX3_sortByGapTo rm_X3_sortByGapTo).room s m ([.ref x0, .int p1, .int p2] : List Value).toArray below meth c H locs 3 59 (MQ below (va_Qi (fun x (u : pp_T) => x = r.1 ∧ u = r.2) (fun u t => va_P D vwCl (pp_w cI cJ cS x0 xm xb f0 xp xq xr adr hh u) t.heap ∧ va_D (A) (pp_w cI cJ cS x0 xm xb f0 xp xq xr adr hh u)) (A)) ([.ref x0, .int p1, .int p2] : List Value).toArray s 3 59 (A)) (F0 m 23 ls []) := by
    intro n_23
    induction n_23 with
    | zero =>
      intro x4 x5 Y hs
      cases hs
    | succ n_23 ih_23 =>
      intro x4 x5 Y hs H locs hP hD hS ls hl
      rw [s_X3_sortByGapTo_23] at hs
      refine lv_iload hx hb dX3_sortByGapTo_23 (lv_at hl 3 rfl) ?_
      refine lv_aload_n hx hb dX3_sortByGapTo_25 rfl (lv_at hl 0 rfl) ?_
      refine va_get (D := D) (ci := 3) (v := .int (pp_n Y)) (C := RX3) (T := TX3) (N := 10) hx hb hts in_X3 hown hK hP 0 rfl rfl 1 (by decide) lk_15 (fun _ h9 => h9) rfl dX3_sortByGapTo_26 ?_
      refine lv_icmp_ge (tgt := 100) hx hb dX3_sortByGapTo_29 (by decide) (fun c_29 => ?_) (fun c_29 => ?_)
      · replace hs := it_t c_29 hs
        refine lv_iload hx hb dX3_sortByGapTo_100 (lv_at hl 2 rfl) ?_
        obtain rfl := Option.some.inj hs
        exact W.iret hx hb hr (fun t ht hW => ⟨⟨_, _, rfl, ⟨rfl, rfl⟩, by rw [ht]; exact (hP.sub [0, 1, 2, 3, 4, 5, 6] rfl), (hD.sub [0, 1, 2, 3, 4, 5, 6] (by decide) rfl)⟩, hS.F ht⟩) hS.2.2 dX3_sortByGapTo_102
      · replace hs := it_f c_29 hs
        refine lv_aload_n hx hb dX3_sortByGapTo_32 rfl (lv_at hl 0 rfl) ?_
        refine lv_iload hx hb dX3_sortByGapTo_33 (lv_at hl 3 rfl) ?_
        obtain ⟨v_35, hc_35, hs⟩ := op_bd hs
        refine gx_cSq (va_Run.run (va_runV (As := [.int x5]) (rest := []) ⟨hx, hb, hml, hown, hts⟩ (c_X3_right l D cI cJ cZ cS ad x0 xm xb f0 xp xq xr adr Y hh x5 F v_35 hc_35) (cwV 1 hts gX3_sortByGapTo_X3_right rfl rfl rfl (by decide +kernel) ⟨Nat.le_of_ble_eq_true rfl, Nat.le_of_ble_eq_true rfl⟩) ⟨gl_blind, va_recv hK hP (ci := 3) (q0 := 0) rfl rfl, gl_ok hK (gl_Ek hE hS) ⟨(hP.sub [0, 1, 2, 3, 4, 5, 6] rfl), pl_kept hQ hQn hS⟩⟩ rfl rfl hl.1 rfl (lv_room (Nat.le_of_ble_eq_true rfl)) dX3_sortByGapTo_35 ⟨Nat.le_of_ble_eq_true rfl, Nat.le_of_ble_eq_true rfl⟩)) ?_
        cases v_35 with
        | none =>
          replace hs := mt_n hs
          refine W.eq (g2 := F0 m 38 ls [.null]) rfl ?_
          refine lv_astoreN (lv' := [(6, .null), (0, .ref x0), (3, .ref gp.1), (4, .int x4), (5, .int x5)]) hx hb dX3_sortByGapTo_38 hl (by decide) rfl (fun ls hl => ?_)
          refine lv_aloadN hx hb dX3_sortByGapTo_40 (lv_at hl 0 rfl) ?_
          refine lv_ifnullN (tgt := 94) hx hb dX3_sortByGapTo_42 (by decide) ?_
          obtain ⟨e_94, hv_94, hs⟩ := op_bd hs
          refine lv_iinc (v := e_94) (lv' := [(5, .int e_94), (6, .null), (0, .ref x0), (3, .ref gp.1), (4, .int x4)]) hx hb dX3_sortByGapTo_94 hl (k := 4) rfl (Option.some.inj hv_94) (by decide) rfl (fun ls hl => ?_)
          refine lv_goto (tgt := 23) hx hb dX3_sortByGapTo_97 (by decide) ?_
          exact ih_23 x4 e_94 Y hs _ _ hP hD hS _ (lv_sub hl [2, 3, 4, 0] rfl)
        | some S_35 =>
          replace hs := mt_s hs
          have hq_35 := hQ _ _ (rt_h hc_35)
          have hn_35 := hQn _ _ (rt_h hc_35)
          refine W.eq (g2 := F0 m 38 ls [.ref (adr x5.toNatClampNeg).1]) rfl ?_
          refine lv_astore (lv' := [(6, .ref (adr x5.toNatClampNeg).1), (0, .ref x0), (3, .ref gp.1), (4, .int x4), (5, .int x5)]) hx hb dX3_sortByGapTo_38 hl (by decide) rfl (fun ls hl => ?_)
          refine lv_aload hx hb dX3_sortByGapTo_40 (lv_at hl 0 rfl) ?_
          refine lv_ifnull hx hb dX3_sortByGapTo_42 ?_
          refine lv_aload hx hb dX3_sortByGapTo_45 (lv_at hl 0 rfl) ?_
          refine lv_aload_n hx hb dX3_sortByGapTo_47 rfl (lv_at hl 2 rfl) ?_
          refine lv_aload_n hx hb dX3_sortByGapTo_48 rfl (lv_at hl 1 rfl) ?_
          refine va_get (D := D) (ci := 3) (v := .ref f0) (C := RX3) (T := TX3) (N := 10) hx hb hts in_X3 hown hK hP 0 rfl rfl 6 (by decide) lk_35 (fun _ h9 => h9) rfl dX3_sortByGapTo_49 ?_
          obtain ⟨v_52, hc_52, hs⟩ := op_bd hs
          have hFc := va_free (wc := fr_w f0 ((pp_u Y), (pp_l Y))) hD hS hA [3] rfl
          refine gx_cPv (wf := fun u => fr_w f0 u) (wr := (pp_w cI cJ cS x0 xm xb f0 xp xq xr adr hh Y ++ sh_wa cI ad gp PL).eraseIdx 3) (w' := pp_w cI cJ cS x0 xm xb f0 xp xq xr adr hh (pt_l (pt_u Y (fr_u v_52)) (fr_l v_52)) ++ sh_wa cI ad gp PL) (va_runV (As := [.ref gp.1, .ref f0]) (rest := []) ⟨hx, hb, hml, hown, hts⟩ (c_X2_measureTo l D cI cJ cZ cS ad (adr x5.toNatClampNeg).1 (adr x5.toNatClampNeg).2.1 (adr x5.toNatClampNeg).2.2 gp.1 gp.2.1 gp.2.2 f0 _ S_35 PL ((pp_u Y), (pp_l Y)) F hq_35.2 hkP v_52 hc_52) (cwV 2 hts gX3_sortByGapTo_X2_measureTo rfl rfl rfl (by decide +kernel) ⟨Nat.le_of_ble_eq_true rfl, Nat.le_of_ble_eq_true rfl⟩) ⟨gm_blind, va_recv hK (gx_ro hq_35.1 hn_35 hS) (ci := 2) (q0 := 0) rfl rfl, gm_ok hK hE hS hFc (hP.sub [3] rfl) (hD.sub [3] (by decide) rfl) ((gx_ro hq_35.1 hn_35 hS).app (hP.sub [7, 8, 9] rfl)) (pl_ra (pl_rn hn_35 (hD.sub [3] (by decide) rfl)) (gx_rd hD [7, 8, 9] [3] rfl rfl (by decide)))⟩ rfl rfl hl.1 rfl (lv_room (Nat.le_of_ble_eq_true rfl)) dX3_sortByGapTo_52 ⟨Nat.le_of_ble_eq_true rfl, Nat.le_of_ble_eq_true rfl⟩) hP hD hS hFc [3] [0, 1, 2, 4, 5, 6, 7, 8, 9] rfl rfl (by decide) (by decide) [0, 1, 2, 9, 3, 4, 5, 6, 7, 8] (by decide) rfl (fun H locs hP hD hS => ?_)
          have hP : va_P D vwCl (pp_w cI cJ cS x0 xm xb f0 xp xq xr adr hh (pt_l (pt_u Y (fr_u v_52)) (fr_l v_52)) ++ sh_wa cI ad gp PL) H := hP
          have hD : va_D A (pp_w cI cJ cS x0 xm xb f0 xp xq xr adr hh (pt_l (pt_u Y (fr_u v_52)) (fr_l v_52)) ++ sh_wa cI ad gp PL) := hD
          refine lv_aload_n hx hb dX3_sortByGapTo_55 rfl (lv_at hl 1 rfl) ?_
          refine va_get (D := D) (ci := 3) (v := .ref xp) (C := RX3) (T := TX3) (N := 10) hx hb hts in_X3 hown hK hP 0 rfl rfl 7 (by decide) lk_39 (fun _ h9 => h9) rfl dX3_sortByGapTo_56 ?_
          refine lv_iload hx hb dX3_sortByGapTo_59 (lv_at hl 4 rfl) ?_
          refine lv_aload_n hx hb dX3_sortByGapTo_61 rfl (lv_at hl 1 rfl) ?_
          refine va_get (D := D) (ci := 3) (v := .ref f0) (C := RX3) (T := TX3) (N := 10) hx hb hts in_X3 hown hK hP 0 rfl rfl 6 (by decide) lk_35 (fun _ h9 => h9) rfl dX3_sortByGapTo_62 ?_
          refine va_get (D := D) (ci := 1) (v := .long (fr_u v_52)) (C := RX0) (T := TX0) (N := 2) hx hb hts in_X0 hown hK hP 3 rfl rfl 0 (by decide) lk_109 (fun _ h9 => h9) rfl dX3_sortByGapTo_65 ?_
          obtain ⟨_, hv_68, hs⟩ := op_bd hs
          refine va_last hx hb hK hP hD hS 4 1 rfl rfl (wr_ok hv_68) dX3_sortByGapTo_68 (fun H locs hP hD hS => ?_)
          have hP : va_P D vwCl (pp_w cI cJ cS x0 xm xb f0 xp xq xr adr hh (pt_p (pt_l (pt_u Y (fr_u v_52)) (fr_l v_52)) (vp_updL (pp_p Y) x5.toNatClampNeg (fr_u v_52))) ++ sh_wa cI ad gp PL) H := hP
          have hD : va_D A (pp_w cI cJ cS x0 xm xb f0 xp xq xr adr hh (pt_p (pt_l (pt_u Y (fr_u v_52)) (fr_l v_52)) (vp_updL (pp_p Y) x5.toNatClampNeg (fr_u v_52))) ++ sh_wa cI ad gp PL) := hD
          refine lv_aload_n hx hb dX3_sortByGapTo_69 rfl (lv_at hl 1 rfl) ?_
          refine va_get (D := D) (ci := 3) (v := .ref xq) (C := RX3) (T := TX3) (N := 10) hx hb hts in_X3 hown hK hP 0 rfl rfl 8 (by decide) lk_43 (fun _ h9 => h9) rfl dX3_sortByGapTo_70 ?_
          refine lv_iload hx hb dX3_sortByGapTo_73 (lv_at hl 4 rfl) ?_
          refine lv_aload_n hx hb dX3_sortByGapTo_75 rfl (lv_at hl 1 rfl) ?_
          refine va_get (D := D) (ci := 3) (v := .ref f0) (C := RX3) (T := TX3) (N := 10) hx hb hts in_X3 hown hK hP 0 rfl rfl 6 (by decide) lk_35 (fun _ h9 => h9) rfl dX3_sortByGapTo_76 ?_
          refine va_get (D := D) (ci := 1) (v := .long (fr_l v_52)) (C := RX0) (T := TX0) (N := 2) hx hb hts in_X0 hown hK hP 3 rfl rfl 1 (by decide) lk_113 (fun _ h9 => h9) rfl dX3_sortByGapTo_79 ?_
          obtain ⟨_, hv_82, hs⟩ := op_bd hs
          refine va_last hx hb hK hP hD hS 5 1 rfl rfl (wr_ok hv_82) dX3_sortByGapTo_82 (fun H locs hP hD hS => ?_)
          have hP : va_P D vwCl (pp_w cI cJ cS x0 xm xb f0 xp xq xr adr hh (pt_q (pt_p (pt_l (pt_u Y (fr_u v_52)) (fr_l v_52)) (vp_updL (pp_p Y) x5.toNatClampNeg (fr_u v_52))) (vp_updL (pp_q Y) x5.toNatClampNeg (fr_l v_52))) ++ sh_wa cI ad gp PL) H := hP
          have hD : va_D A (pp_w cI cJ cS x0 xm xb f0 xp xq xr adr hh (pt_q (pt_p (pt_l (pt_u Y (fr_u v_52)) (fr_l v_52)) (vp_updL (pp_p Y) x5.toNatClampNeg (fr_u v_52))) (vp_updL (pp_q Y) x5.toNatClampNeg (fr_l v_52))) ++ sh_wa cI ad gp PL) := hD
          refine lv_aload_n hx hb dX3_sortByGapTo_83 rfl (lv_at hl 1 rfl) ?_
          refine lv_iload hx hb dX3_sortByGapTo_84 (lv_at hl 4 rfl) ?_
          refine lv_iload hx hb dX3_sortByGapTo_86 (lv_at hl 3 rfl) ?_
          obtain ⟨v_88, hc_88, hs⟩ := op_bd hs
          have hFc := va_free (wc := pp_w cI cJ cS x0 xm xb f0 xp xq xr adr hh (pt_q (pt_p (pt_l (pt_u Y (fr_u v_52)) (fr_l v_52)) (vp_updL (pp_p Y) x5.toNatClampNeg (fr_u v_52))) (vp_updL (pp_q Y) x5.toNatClampNeg (fr_l v_52)))) hD hS hA [0, 1, 2, 3, 4, 5, 6] rfl
          refine gx_cPv (wf := fun u => pp_w cI cJ cS x0 xm xb f0 xp xq xr adr hh u) (wr := sh_wa cI ad gp PL) (w' := pp_w cI cJ cS x0 xm xb f0 xp xq xr adr hh v_88 ++ sh_wa cI ad gp PL) (va_runV (As := [.int x5, .int x4]) (rest := []) ⟨hx, hb, hml, hown, hts⟩ (c_X3_insertByGap l D cI cJ cZ cS ad x0 xm xb f0 xp xq xr adr _ (pt_q (pt_p (pt_l (pt_u Y (fr_u v_52)) (fr_l v_52)) (vp_updL (pp_p Y) x5.toNatClampNeg (fr_u v_52))) (vp_updL (pp_q Y) x5.toNatClampNeg (fr_l v_52))) hh x5 x4 F  v_88 hc_88) (cwV 2 hts gX3_sortByGapTo_X3_insertByGap rfl rfl rfl (by decide +kernel) ⟨Nat.le_of_ble_eq_true rfl, Nat.le_of_ble_eq_true rfl⟩) ⟨gp_blind, va_recv hK hP (ci := 3) (q0 := 0) rfl rfl, gp_ok hK hE hS hFc (hP.sub [0, 1, 2, 3, 4, 5, 6] rfl) (hD.sub [0, 1, 2, 3, 4, 5, 6] (by decide) rfl) hQ hQn⟩ rfl rfl hl.1 rfl (lv_room (Nat.le_of_ble_eq_true rfl)) dX3_sortByGapTo_88 ⟨Nat.le_of_ble_eq_true rfl, Nat.le_of_ble_eq_true rfl⟩) hP hD hS hFc [0, 1, 2, 3, 4, 5, 6] [7, 8, 9] rfl rfl (by decide) (by decide) [3, 4, 5, 6, 7, 8, 9, 0, 1, 2] (by decide) rfl (fun H locs hP hD hS => ?_)
          have hP : va_P D vwCl (pp_w cI cJ cS x0 xm xb f0 xp xq xr adr hh v_88 ++ sh_wa cI ad gp PL) H := hP
          have hD : va_D A (pp_w cI cJ cS x0 xm xb f0 xp xq xr adr hh v_88 ++ sh_wa cI ad gp PL) := hD
          obtain ⟨e_91, hv_91, hs⟩ := op_bd hs
          refine lv_iinc (v := e_91) (lv' := [(4, .int e_91), (6, .ref (adr x5.toNatClampNeg).1), (0, .ref x0), (3, .ref gp.1), (5, .int x5)]) hx hb dX3_sortByGapTo_91 hl (k := 3) rfl (Option.some.inj hv_91) (by decide) rfl (fun ls hl => ?_)
          obtain ⟨e_94, hv_94, hs⟩ := op_bd hs
          refine lv_iinc (v := e_94) (lv' := [(5, .int e_94), (4, .int e_91), (6, .ref (adr x5.toNatClampNeg).1), (0, .ref x0), (3, .ref gp.1)]) hx hb dX3_sortByGapTo_94 hl (k := 4) rfl (Option.some.inj hv_94) (by decide) rfl (fun ls hl => ?_)
          refine lv_goto (tgt := 23) hx hb dX3_sortByGapTo_97 (by decide) ?_
          exact ih_23 e_91 e_94 v_88 hs _ _ hP hD hS _ (lv_sub hl [3, 4, 1, 0] rfl)
  intro H locs hP hD hS ls hl
  rw [s_X3_sortL] at hs
  refine lv_iconst (v := 0) hx hb dX3_sortByGapTo_17 (by decide) ?_
  refine lv_istore (lv' := [(4, .int 0), (0, .ref x0), (1, .int p1), (2, .int p2), (3, .ref gp.1)]) hx hb dX3_sortByGapTo_18 hl (by decide) rfl (fun ls hl => ?_)
  refine lv_iconst (v := 0) hx hb dX3_sortByGapTo_20 (by decide) ?_
  refine lv_istore (lv' := [(5, .int 0), (4, .int 0), (0, .ref x0), (1, .int p1), (2, .int p2), (3, .ref gp.1)]) hx hb dX3_sortByGapTo_21 hl (by decide) rfl (fun ls hl => ?_)
  exact J_23 F 0 0 X hs _ _ hP hD hS _ (lv_sub hl [2, 5, 1, 0] rfl)
