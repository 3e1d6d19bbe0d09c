def s_X2_add (F : Nat) (S : sh_T) (p1 : Int32) (p2 : Int32) : Option sh_T :=
  if (sh_z S) < (en_m (sh_k S)) then
    (wr_in (sh_n S) (sh_z S)).bind fun _ =>
    (wr_in (sh_n S) (sh_z S)).bind fun _ =>
    (some (((sh_z S) + 1))).bind fun e_42 =>
    (rd_i (sh_n S) (upd (sh_x S) (sh_z S).toNatClampNeg p1) 0).bind fun v_58 =>
    (wr_in (sh_n S) e_42).bind fun _ =>
    (rd_i (sh_n S) (upd (sh_y S) (sh_z S).toNatClampNeg p2) 0).bind fun v_73 =>
    (wr_in (sh_n S) e_42).bind fun _ =>
    (some ((mi_i (sh_a S) p1))).bind fun e_84 =>
    (some ((mi_i (sh_b S) p2))).bind fun e_96 =>
    (some ((ma_i (sh_c S) p1))).bind fun e_108 =>
    (some ((ma_i (sh_d S) p2))).bind fun e_120 =>
    (s_X2_judge F (ss_d (ss_c (ss_b (ss_a (ss_y (ss_x (ss_z S e_42) (upd (upd (sh_x S) (sh_z S).toNatClampNeg p1) e_42.toNatClampNeg v_58)) (upd (upd (sh_y S) (sh_z S).toNatClampNeg p2) e_42.toNatClampNeg v_73)) e_84) e_96) e_108) e_120)).bind fun v_125 =>
    some (ss_d (ss_c (ss_b (ss_a (ss_y (ss_x (ss_v (ss_z S e_42) v_125) (upd (upd (sh_x S) (sh_z S).toNatClampNeg p1) e_42.toNatClampNeg v_58)) (upd (upd (sh_y S) (sh_z S).toNatClampNeg p2) e_42.toNatClampNeg v_73)) e_84) e_96) e_108) e_120)
  else
    some S
abbrev rm_X2_add : Room := { frames := 6, cells := 0, slots := 0, locals := 134 }
theorem in_X2_add_X2 : ∀ w ∈ wsX20, w ∈ wsX2_add := by decide +kernel
set_option maxHeartbeats 4000000 in
set_option maxRecDepth 100000 in
theorem c_X2_add (l : Launch) (D : va_G) (cI cJ cZ cS : ClassId) (ad : Nat → Nat) (h0 sx sy : Nat) (sz : Nat) (S : sh_T) (p1 : Int32) (p2 : Int32) (F : Nat) (hkS : sh_k S < 3) (r : sh_T) (hs : s_X2_add F S p1 p2 = some r) : Met l yX2_add wsX2_add rm_X2_add (gm_P D cI cJ cZ cS ad sz (sh_w cI ad h0 sx sy S) ([]) [.ref h0, .int p1, .int p2]) (va_Qv (fun u : sh_T => u = r) (fun u t => va_P D vwCl (sh_w cI ad h0 sx sy u) t.heap ∧ va_D (va_A (sh_w cI ad h0 sx sy S) sz) (sh_w cI ad h0 sx sy u)) (va_A (sh_w cI ad h0 sx sy S) sz)) 0 0 (va_A (sh_w cI ad h0 sx sy S) sz) := by
  refine Met.ofW (cc := cX2_add) (maxL := 3) (ret := none) (by decide) rfl ?_
  intro p e s m args below meth c s₁ B hml hv
  obtain ⟨rfl, hsz, hK, hE, hP, hD0, hR, hRn0⟩ := hv
  have hx := B.exec
  have hb := B.bytes
  have hr := B.returns
  have hts := atoms_spec (ws := wsX2_add) B.pre
  have hown : s.vm.findClass RX2 = some m.cls := findClass_of_methodNamed B.named
  have hlocks := B.notSynchronized
  subst hsz
  have hD := hD0.self (sz := s.heap.size)
  have hRn := gx_rn0 hR hRn0
  generalize hAe : va_A (sh_w cI ad h0 sx sy S) s.heap.size = A at hD hE hRn ⊢
  have hA : ∀ q : Nat, s.heap.size ≤ q → A q := fun q h => by rw [← hAe]; exact Or.inr h
  have hS : va_S A s.heap s.heap [] := va_S.rf
  have lk_9 := hts (.fieldLink RX2 9 "PlacePoints$Shape" "size" "I") (by decide +kernel)
  have lk_15 := hts (.fieldLink RX2 15 "PlacePoints$Shape" "verdict" "I") (by decide +kernel)
  have lk_18 := hts (.fieldLink RX2 18 "PlacePoints$Shape" "lowX" "I") (by decide +kernel)
  have lk_21 := hts (.fieldLink RX2 21 "PlacePoints$Shape" "lowY" "I") (by decide +kernel)
  have lk_24 := hts (.fieldLink RX2 24 "PlacePoints$Shape" "highX" "I") (by decide +kernel)
  have lk_27 := hts (.fieldLink RX2 27 "PlacePoints$Shape" "highY" "I") (by decide +kernel)
  have lk_30 := hts (.fieldLink RX2 30 "PlacePoints$Shape" "kind" "LPlacePoints$Kind;") (by decide +kernel)
  have lk_39 := hts (.fieldLink RX2 39 "PlacePoints$Shape" "xs" "[I") (by decide +kernel)
  have lk_43 := hts (.fieldLink RX2 43 "PlacePoints$Shape" "ys" "[I") (by decide +kernel)
  have in_X2 := in_X2_add_X2
  have hl := lv_entry ([.ref h0, .int p1, .int p2]) (n := 3) (Nat.le_of_ble_eq_true rfl)
  rw [lg_entry_eq]
  generalize (lg_sl ([.ref h0, .int p1, .int p2]) ++ List.replicate (3 - (lg_sl ([.ref h0, .int p1, .int p2])).length) Slot.unset).toArray = ls at hl ⊢
  have hl : lv_has ls 3 [(0, .ref h0), (1, .int p1), (2, .int p2)] := hl
  rw [s_X2_add] at hs
  refine lv_aload_n hx hb dX2_add_0 rfl (lv_at hl 0 rfl) ?_
  refine va_get (D := D) (ci := 2) (v := .int (sh_z S)) (C := RX2) (T := TX2) (N := 9) hx hb hts in_X2 hown hK hP 0 rfl rfl 1 (by decide) lk_9 (fun _ h9 => h9) rfl dX2_add_1 ?_
  refine lv_aload_n hx hb dX2_add_4 rfl (lv_at hl 0 rfl) ?_
  refine va_get (D := D) (ci := 2) (v := .ref (ad (sh_k S))) (C := RX2) (T := TX2) (N := 9) hx hb hts in_X2 hown hK hP 0 rfl rfl 0 (by decide) lk_30 (fun _ h9 => h9) rfl dX2_add_5 ?_
  refine va_getE (q := ("PlacePoints$Kind", "most", "I", [1, 24, 24])) hx hb hE (show (sh_k S) < 3 from hkS) hS hown (by simp) (hts (.fieldLink RX2 34 "PlacePoints$Kind" "most" "I") (by decide +kernel)) (fun _ h9 => h9) dX2_add_8 ?_
  refine W.eq (g2 := F0 m 11 ls [.int (en_m (sh_k S)), .int (sh_z S)]) rfl ?_
  refine lv_icmp_lt (tgt := 15) hx hb dX2_add_11 (by decide) (fun c_11 => ?_) (fun c_11 => ?_)
  · replace hs := it_t c_11 hs
    refine lv_aload_n hx hb dX2_add_15 rfl (lv_at hl 0 rfl) ?_
    refine va_get (D := D) (ci := 2) (v := .ref sx) (C := RX2) (T := TX2) (N := 9) hx hb hts in_X2 hown hK hP 0 rfl rfl 3 (by decide) lk_39 (fun _ h9 => h9) rfl dX2_add_16 ?_
    refine lv_aload_n hx hb dX2_add_19 rfl (lv_at hl 0 rfl) ?_
    refine va_get (D := D) (ci := 2) (v := .int (sh_z S)) (C := RX2) (T := TX2) (N := 9) hx hb hts in_X2 hown hK hP 0 rfl rfl 1 (by decide) lk_9 (fun _ h9 => h9) rfl dX2_add_20 ?_
    refine lv_iload_n hx hb dX2_add_23 rfl (lv_at hl 1 rfl) ?_
    obtain ⟨_, hv_24, hs⟩ := op_bd hs
    refine va_iast hx hb hK hP hD hS 1 0 rfl rfl (wr_ok hv_24) dX2_add_24 (fun H locs hP hD hS => ?_)
    have hP : va_P D vwCl (sh_w cI ad h0 sx sy (ss_x S (upd (sh_x S) (sh_z S).toNatClampNeg p1))) H := hP
    have hD : va_D A (sh_w cI ad h0 sx sy (ss_x S (upd (sh_x S) (sh_z S).toNatClampNeg p1))) := hD
    refine lv_aload_n hx hb dX2_add_25 rfl (lv_at hl 0 rfl) ?_
    refine va_get (D := D) (ci := 2) (v := .ref sy) (C := RX2) (T := TX2) (N := 9) hx hb hts in_X2 hown hK hP 0 rfl rfl 4 (by decide) lk_43 (fun _ h9 => h9) rfl dX2_add_26 ?_
    refine lv_aload_n hx hb dX2_add_29 rfl (lv_at hl 0 rfl) ?_
    refine va_get (D := D) (ci := 2) (v := .int (sh_z S)) (C := RX2) (T := TX2) (N := 9) hx hb hts in_X2 hown hK hP 0 rfl rfl 1 (by decide) lk_9 (fun _ h9 => h9) rfl dX2_add_30 ?_
    refine lv_iload_n hx hb dX2_add_33 rfl (lv_at hl 2 rfl) ?_
    obtain ⟨_, hv_34, hs⟩ := op_bd hs
    refine va_iast hx hb hK hP hD hS 2 0 rfl rfl (wr_ok hv_34) dX2_add_34 (fun H locs hP hD hS => ?_)
    have hP : va_P D vwCl (sh_w cI ad h0 sx sy (ss_y (ss_x S (upd (sh_x S) (sh_z S).toNatClampNeg p1)) (upd (sh_y S) (sh_z S).toNatClampNeg p2))) H := hP
    have hD : va_D A (sh_w cI ad h0 sx sy (ss_y (ss_x S (upd (sh_x S) (sh_z S).toNatClampNeg p1)) (upd (sh_y S) (sh_z S).toNatClampNeg p2))) := hD
    refine lv_aload_n hx hb dX2_add_35 rfl (lv_at hl 0 rfl) ?_
    refine lv_dup hx hb dX2_add_36 rfl ?_
    refine va_get (D := D) (ci := 2) (v := .int (sh_z S)) (C := RX2) (T := TX2) (N := 9) hx hb hts in_X2 hown hK hP 0 rfl rfl 1 (by decide) lk_9 (fun _ h9 => h9) rfl dX2_add_37 ?_
    refine lv_iconst (v := 1) hx hb dX2_add_40 (by decide) ?_
    refine lv_iadd hx hb dX2_add_41 ?_
    obtain ⟨e_42, hv_42, hs⟩ := op_bd hs
    refine gx_ni (Option.some.inj hv_42) ?_
    refine va_put (D := D) (ci := 2) (v := .int e_42) (ty := .int) (C := RX2) (T := TX2) (N := 9) hx hb hts in_X2 tyX2 tyX2_ok nmX2 hown hK hP hD hS 0 rfl rfl 1 (by decide) lk_9 (fun _ h9 => h9) rfl (by decide +kernel) rfl rfl (Nat.le_of_ble_eq_true rfl) dX2_add_42 (fun H locs hP hD hS => ?_)
    have hP : va_P D vwCl (sh_w cI ad h0 sx sy (ss_y (ss_x (ss_z S e_42) (upd (sh_x S) (sh_z S).toNatClampNeg p1)) (upd (sh_y S) (sh_z S).toNatClampNeg p2))) H := hP
    have hD : va_D A (sh_w cI ad h0 sx sy (ss_y (ss_x (ss_z S e_42) (upd (sh_x S) (sh_z S).toNatClampNeg p1)) (upd (sh_y S) (sh_z S).toNatClampNeg p2))) := hD
    refine lv_aload_n hx hb dX2_add_45 rfl (lv_at hl 0 rfl) ?_
    refine va_get (D := D) (ci := 2) (v := .ref sx) (C := RX2) (T := TX2) (N := 9) hx hb hts in_X2 hown hK hP 0 rfl rfl 3 (by decide) lk_39 (fun _ h9 => h9) rfl dX2_add_46 ?_
    refine lv_aload_n hx hb dX2_add_49 rfl (lv_at hl 0 rfl) ?_
    refine va_get (D := D) (ci := 2) (v := .int e_42) (C := RX2) (T := TX2) (N := 9) hx hb hts in_X2 hown hK hP 0 rfl rfl 1 (by decide) lk_9 (fun _ h9 => h9) rfl dX2_add_50 ?_
    refine lv_aload_n hx hb dX2_add_53 rfl (lv_at hl 0 rfl) ?_
    refine va_get (D := D) (ci := 2) (v := .ref sx) (C := RX2) (T := TX2) (N := 9) hx hb hts in_X2 hown hK hP 0 rfl rfl 3 (by decide) lk_39 (fun _ h9 => h9) rfl dX2_add_54 ?_
    refine lv_iconst (v := 0) hx hb dX2_add_57 (by decide) ?_
    obtain ⟨v_58, hv_58, hs⟩ := op_bd hs
    refine gx_iald hx hb hK hP 1 0 rfl rfl hv_58 dX2_add_58 ?_
    obtain ⟨_, hv_59, hs⟩ := op_bd hs
    refine va_iast hx hb hK hP hD hS 1 0 rfl rfl (wr_ok hv_59) dX2_add_59 (fun H locs hP hD hS => ?_)
    have hP : va_P D vwCl (sh_w cI ad h0 sx sy (ss_y (ss_x (ss_z S e_42) (upd (upd (sh_x S) (sh_z S).toNatClampNeg p1) e_42.toNatClampNeg v_58)) (upd (sh_y S) (sh_z S).toNatClampNeg p2))) H := hP
    have hD : va_D A (sh_w cI ad h0 sx sy (ss_y (ss_x (ss_z S e_42) (upd (upd (sh_x S) (sh_z S).toNatClampNeg p1) e_42.toNatClampNeg v_58)) (upd (sh_y S) (sh_z S).toNatClampNeg p2))) := hD
    refine lv_aload_n hx hb dX2_add_60 rfl (lv_at hl 0 rfl) ?_
    refine va_get (D := D) (ci := 2) (v := .ref sy) (C := RX2) (T := TX2) (N := 9) hx hb hts in_X2 hown hK hP 0 rfl rfl 4 (by decide) lk_43 (fun _ h9 => h9) rfl dX2_add_61 ?_
    refine lv_aload_n hx hb dX2_add_64 rfl (lv_at hl 0 rfl) ?_
    refine va_get (D := D) (ci := 2) (v := .int e_42) (C := RX2) (T := TX2) (N := 9) hx hb hts in_X2 hown hK hP 0 rfl rfl 1 (by decide) lk_9 (fun _ h9 => h9) rfl dX2_add_65 ?_
    refine lv_aload_n hx hb dX2_add_68 rfl (lv_at hl 0 rfl) ?_
    refine va_get (D := D) (ci := 2) (v := .ref sy) (C := RX2) (T := TX2) (N := 9) hx hb hts in_X2 hown hK hP 0 rfl rfl 4 (by decide) lk_43 (fun _ h9 => h9) rfl dX2_add_69 ?_
    refine lv_iconst (v := 0) hx hb dX2_add_72 (by decide) ?_
    obtain ⟨v_73, hv_73, hs⟩ := op_bd hs
    refine gx_iald hx hb hK hP 2 0 rfl rfl hv_73 dX2_add_73 ?_
    obtain ⟨_, hv_74, hs⟩ := op_bd hs
    refine va_iast hx hb hK hP hD hS 2 0 rfl rfl (wr_ok hv_74) dX2_add_74 (fun H locs hP hD hS => ?_)
    have hP : va_P D vwCl (sh_w cI ad h0 sx sy (ss_y (ss_x (ss_z S e_42) (upd (upd (sh_x S) (sh_z S).toNatClampNeg p1) e_42.toNatClampNeg v_58)) (upd (upd (sh_y S) (sh_z S).toNatClampNeg p2) e_42.toNatClampNeg v_73))) H := hP
    have hD : va_D A (sh_w cI ad h0 sx sy (ss_y (ss_x (ss_z S e_42) (upd (upd (sh_x S) (sh_z S).toNatClampNeg p1) e_42.toNatClampNeg v_58)) (upd (upd (sh_y S) (sh_z S).toNatClampNeg p2) e_42.toNatClampNeg v_73))) := hD
    refine lv_aload_n hx hb dX2_add_75 rfl (lv_at hl 0 rfl) ?_
    refine lv_aload_n hx hb dX2_add_76 rfl (lv_at hl 0 rfl) ?_
    refine va_get (D := D) (ci := 2) (v := .int (sh_a S)) (C := RX2) (T := TX2) (N := 9) hx hb hts in_X2 hown hK hP 0 rfl rfl 5 (by decide) lk_18 (fun _ h9 => h9) rfl dX2_add_77 ?_
    refine lv_iload_n hx hb dX2_add_80 rfl (lv_at hl 1 rfl) ?_
    refine va_mmin hx hb (hml.trans hl.1.symm) hown (hts (.methodLink RX2 46 Lib.Math.min.name) (by decide +kernel)) (hts (.static Lib.Math.min.name) (by decide +kernel)) (hts (.initialized "java/lang/Math") (by decide +kernel)) (hts (.code Lib.Math.min.name Lib.Math.min.code 2 (some .int)) (by decide +kernel)) (Nat.le_of_ble_eq_true rfl) (Nat.le_of_ble_eq_true rfl) (Nat.le_of_ble_eq_true rfl) (Nat.le_of_ble_eq_true rfl) dX2_add_81 ?_
    refine W.eq (g2 := F0 m 84 ls [.int (mi_i (sh_a S) p1), .ref h0]) rfl ?_
    obtain ⟨e_84, hv_84, hs⟩ := op_bd hs
    refine gx_ni (Option.some.inj hv_84) ?_
    refine va_put (D := D) (ci := 2) (v := .int e_84) (ty := .int) (C := RX2) (T := TX2) (N := 9) hx hb hts in_X2 tyX2 tyX2_ok nmX2 hown hK hP hD hS 0 rfl rfl 5 (by decide) lk_18 (fun _ h9 => h9) rfl (by decide +kernel) rfl rfl (Nat.le_of_ble_eq_true rfl) dX2_add_84 (fun H locs hP hD hS => ?_)
    have hP : va_P D vwCl (sh_w cI ad h0 sx sy (ss_a (ss_y (ss_x (ss_z S e_42) (upd (upd (sh_x S) (sh_z S).toNatClampNeg p1) e_42.toNatClampNeg v_58)) (upd (upd (sh_y S) (sh_z S).toNatClampNeg p2) e_42.toNatClampNeg v_73)) e_84)) H := hP
    have hD : va_D A (sh_w cI ad h0 sx sy (ss_a (ss_y (ss_x (ss_z S e_42) (upd (upd (sh_x S) (sh_z S).toNatClampNeg p1) e_42.toNatClampNeg v_58)) (upd (upd (sh_y S) (sh_z S).toNatClampNeg p2) e_42.toNatClampNeg v_73)) e_84)) := hD
    refine lv_aload_n hx hb dX2_add_87 rfl (lv_at hl 0 rfl) ?_
    refine lv_aload_n hx hb dX2_add_88 rfl (lv_at hl 0 rfl) ?_
    refine va_get (D := D) (ci := 2) (v := .int (sh_b S)) (C := RX2) (T := TX2) (N := 9) hx hb hts in_X2 hown hK hP 0 rfl rfl 6 (by decide) lk_21 (fun _ h9 => h9) rfl dX2_add_89 ?_
    refine lv_iload_n hx hb dX2_add_92 rfl (lv_at hl 2 rfl) ?_
    refine va_mmin hx hb (hml.trans hl.1.symm) hown (hts (.methodLink RX2 46 Lib.Math.min.name) (by decide +kernel)) (hts (.static Lib.Math.min.name) (by decide +kernel)) (hts (.initialized "java/lang/Math") (by decide +kernel)) (hts (.code Lib.Math.min.name Lib.Math.min.code 2 (some .int)) (by decide +kernel)) (Nat.le_of_ble_eq_true rfl) (Nat.le_of_ble_eq_true rfl) (Nat.le_of_ble_eq_true rfl) (Nat.le_of_ble_eq_true rfl) dX2_add_93 ?_
    refine W.eq (g2 := F0 m 96 ls [.int (mi_i (sh_b S) p2), .ref h0]) rfl ?_
    obtain ⟨e_96, hv_96, hs⟩ := op_bd hs
    refine gx_ni (Option.some.inj hv_96) ?_
    refine va_put (D := D) (ci := 2) (v := .int e_96) (ty := .int) (C := RX2) (T := TX2) (N := 9) hx hb hts in_X2 tyX2 tyX2_ok nmX2 hown hK hP hD hS 0 rfl rfl 6 (by decide) lk_21 (fun _ h9 => h9) rfl (by decide +kernel) rfl rfl (Nat.le_of_ble_eq_true rfl) dX2_add_96 (fun H locs hP hD hS => ?_)
    have hP : va_P D vwCl (sh_w cI ad h0 sx sy (ss_b (ss_a (ss_y (ss_x (ss_z S e_42) (upd (upd (sh_x S) (sh_z S).toNatClampNeg p1) e_42.toNatClampNeg v_58)) (upd (upd (sh_y S) (sh_z S).toNatClampNeg p2) e_42.toNatClampNeg v_73)) e_84) e_96)) H := hP
    have hD : va_D A (sh_w cI ad h0 sx sy (ss_b (ss_a (ss_y (ss_x (ss_z S e_42) (upd (upd (sh_x S) (sh_z S).toNatClampNeg p1) e_42.toNatClampNeg v_58)) (upd (upd (sh_y S) (sh_z S).toNatClampNeg p2) e_42.toNatClampNeg v_73)) e_84) e_96)) := hD
    refine lv_aload_n hx hb dX2_add_99 rfl (lv_at hl 0 rfl) ?_
    refine lv_aload_n hx hb dX2_add_100 rfl (lv_at hl 0 rfl) ?_
    refine va_get (D := D) (ci := 2) (v := .int (sh_c S)) (C := RX2) (T := TX2) (N := 9) hx hb hts in_X2 hown hK hP 0 rfl rfl 7 (by decide) lk_24 (fun _ h9 => h9) rfl dX2_add_101 ?_
    refine lv_iload_n hx hb dX2_add_104 rfl (lv_at hl 1 rfl) ?_
    refine va_mmax hx hb (hml.trans hl.1.symm) hown (hts (.methodLink RX2 52 Lib.Math.max.name) (by decide +kernel)) (hts (.static Lib.Math.max.name) (by decide +kernel)) (hts (.initialized "java/lang/Math") (by decide +kernel)) (hts (.code Lib.Math.max.name Lib.Math.max.code 2 (some .int)) (by decide +kernel)) (Nat.le_of_ble_eq_true rfl) (Nat.le_of_ble_eq_true rfl) (Nat.le_of_ble_eq_true rfl) (Nat.le_of_ble_eq_true rfl) dX2_add_105 ?_
    refine W.eq (g2 := F0 m 108 ls [.int (ma_i (sh_c S) p1), .ref h0]) rfl ?_
    obtain ⟨e_108, hv_108, hs⟩ := op_bd hs
    refine gx_ni (Option.some.inj hv_108) ?_
    refine va_put (D := D) (ci := 2) (v := .int e_108) (ty := .int) (C := RX2) (T := TX2) (N := 9) hx hb hts in_X2 tyX2 tyX2_ok nmX2 hown hK hP hD hS 0 rfl rfl 7 (by decide) lk_24 (fun _ h9 => h9) rfl (by decide +kernel) rfl rfl (Nat.le_of_ble_eq_true rfl) dX2_add_108 (fun H locs hP hD hS => ?_)
    have hP : va_P D vwCl (sh_w cI ad h0 sx sy (ss_c (ss_b (ss_a (ss_y (ss_x (ss_z S e_42) (upd (upd (sh_x S) (sh_z S).toNatClampNeg p1) e_42.toNatClampNeg v_58)) (upd (upd (sh_y S) (sh_z S).toNatClampNeg p2) e_42.toNatClampNeg v_73)) e_84) e_96) e_108)) H := hP
    have hD : va_D A (sh_w cI ad h0 sx sy (ss_c (ss_b (ss_a (ss_y (ss_x (ss_z S e_42) (upd (upd (sh_x S) (sh_z S).toNatClampNeg p1) e_42.toNatClampNeg v_58)) (upd (upd (sh_y S) (sh_z S).toNatClampNeg p2) e_42.toNatClampNeg v_73)) e_84) e_96) e_108)) := hD
    refine lv_aload_n hx hb dX2_add_111 rfl (lv_at hl 0 rfl) ?_
    refine lv_aload_n hx hb dX2_add_112 rfl (lv_at hl 0 rfl) ?_
    refine va_get (D := D) (ci := 2) (v := .int (sh_d S)) (C := RX2) (T := TX2) (N := 9) hx hb hts in_X2 hown hK hP 0 rfl rfl 8 (by decide) lk_27 (fun _ h9 => h9) rfl dX2_add_113 ?_
    refine lv_iload_n hx hb dX2_add_116 rfl (lv_at hl 2 rfl) ?_
    refine va_mmax hx hb (hml.trans hl.1.symm) hown (hts (.methodLink RX2 52 Lib.Math.max.name) (by decide +kernel)) (hts (.static Lib.Math.max.name) (by decide +kernel)) (hts (.initialized "java/lang/Math") (by decide +kernel)) (hts (.code Lib.Math.max.name Lib.Math.max.code 2 (some .int)) (by decide +kernel)) (Nat.le_of_ble_eq_true rfl) (Nat.le_of_ble_eq_true rfl) (Nat.le_of_ble_eq_true rfl) (Nat.le_of_ble_eq_true rfl) dX2_add_117 ?_
    refine W.eq (g2 := F0 m 120 ls [.int (ma_i (sh_d S) p2), .ref h0]) rfl ?_
    obtain ⟨e_120, hv_120, hs⟩ := op_bd hs
    refine gx_ni (Option.some.inj hv_120) ?_
    refine va_put (D := D) (ci := 2) (v := .int e_120) (ty := .int) (C := RX2) (T := TX2) (N := 9) hx hb hts in_X2 tyX2 tyX2_ok nmX2 hown hK hP hD hS 0 rfl rfl 8 (by decide) lk_27 (fun _ h9 => h9) rfl (by decide +kernel) rfl rfl (Nat.le_of_ble_eq_true rfl) dX2_add_120 (fun H locs hP hD hS => ?_)
    have hP : va_P D vwCl (sh_w cI ad h0 sx sy (ss_d (ss_c (ss_b (ss_a (ss_y (ss_x (ss_z S e_42) (upd (upd (sh_x S) (sh_z S).toNatClampNeg p1) e_42.toNatClampNeg v_58)) (upd (upd (sh_y S) (sh_z S).toNatClampNeg p2) e_42.toNatClampNeg v_73)) e_84) e_96) e_108) e_120)) H := hP
    have hD : va_D A (sh_w cI ad h0 sx sy (ss_d (ss_c (ss_b (ss_a (ss_y (ss_x (ss_z S e_42) (upd (upd (sh_x S) (sh_z S).toNatClampNeg p1) e_42.toNatClampNeg v_58)) (upd (upd (sh_y S) (sh_z S).toNatClampNeg p2) e_42.toNatClampNeg v_73)) e_84) e_96) e_108) e_120)) := hD
    refine lv_aload_n hx hb dX2_add_123 rfl (lv_at hl 0 rfl) ?_
    refine lv_aload_n hx hb dX2_add_124 rfl (lv_at hl 0 rfl) ?_
    obtain ⟨v_125, hc_125, hs⟩ := op_bd hs
    refine gx_cSi (va_Run.run (va_runV (As := []) (rest := [.ref h0]) ⟨hx, hb, hml, hown, hts⟩ (c_X2_judge l D cI cJ cZ cS ad h0 sx sy (ss_d (ss_c (ss_b (ss_a (ss_y (ss_x (ss_z S e_42) (upd (upd (sh_x S) (sh_z S).toNatClampNeg p1) e_42.toNatClampNeg v_58)) (upd (upd (sh_y S) (sh_z S).toNatClampNeg p2) e_42.toNatClampNeg v_73)) e_84) e_96) e_108) e_120) F hkS v_125 hc_125) (cwV 0 hts gX2_add_X2_judge rfl rfl rfl (by decide +kernel) ⟨Nat.le_of_ble_eq_true rfl, Nat.le_of_ble_eq_true rfl⟩) ⟨gl_blind, va_recv hK hP (ci := 2) (q0 := 0) rfl rfl, gl_ok hK (gl_Ek hE hS) hP⟩ rfl rfl hl.1 rfl (lv_room (Nat.le_of_ble_eq_true rfl)) dX2_add_125 ⟨Nat.le_of_ble_eq_true rfl, Nat.le_of_ble_eq_true rfl⟩)) ?_
    refine va_put (D := D) (ci := 2) (v := .int v_125) (ty := .int) (C := RX2) (T := TX2) (N := 9) hx hb hts in_X2 tyX2 tyX2_ok nmX2 hown hK hP hD hS 0 rfl rfl 2 (by decide) lk_15 (fun _ h9 => h9) rfl (by decide +kernel) rfl rfl (Nat.le_of_ble_eq_true rfl) dX2_add_128 (fun H locs hP hD hS => ?_)
    have hP : va_P D vwCl (sh_w cI ad h0 sx sy (ss_d (ss_c (ss_b (ss_a (ss_y (ss_x (ss_v (ss_z S e_42) v_125) (upd (upd (sh_x S) (sh_z S).toNatClampNeg p1) e_42.toNatClampNeg v_58)) (upd (upd (sh_y S) (sh_z S).toNatClampNeg p2) e_42.toNatClampNeg v_73)) e_84) e_96) e_108) e_120)) H := hP
    have hD : va_D A (sh_w cI ad h0 sx sy (ss_d (ss_c (ss_b (ss_a (ss_y (ss_x (ss_v (ss_z S e_42) v_125) (upd (upd (sh_x S) (sh_z S).toNatClampNeg p1) e_42.toNatClampNeg v_58)) (upd (upd (sh_y S) (sh_z S).toNatClampNeg p2) e_42.toNatClampNeg v_73)) e_84) e_96) e_108) e_120)) := hD
    obtain rfl := Option.some.inj hs
    exact W.vret hx hb hr (fun t ht hW => ⟨⟨_, rfl, rfl, by rw [ht]; exact hP, hD⟩, hS.F ht⟩) hS.2.2 dX2_add_131
  · replace hs := it_f c_11 hs
    obtain rfl := Option.some.inj hs
    exact W.vret hx hb hr (fun t ht hW => ⟨⟨_, rfl, rfl, by rw [ht]; exact hP, hD⟩, hS.F ht⟩) hS.2.2 dX2_add_14
