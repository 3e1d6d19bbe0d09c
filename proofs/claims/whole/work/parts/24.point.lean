theorem st_new {X : pp_T} {hh : Nat → Option sh_T} {i : Nat} {S : sh_T} (hi : i < 60) (hn : pp_n X = nI i) : s_X3_standing 0 (pt_s (pt_n X (pp_n X + 1)) (pp_s X + 1)) (va_up hh i (some S)) (pp_n X) = some (some S) := by
  have h1 : ¬ pp_n X < 0 := by rw [hn]; exact nI_ge0 hi
  have h2 : pp_n X < pp_n X + 1 := by rw [hn]; exact nI_s hi
  have h3 : (pp_n X).toNatClampNeg = i := by rw [hn]; exact nI_c hi
  have h4 : ¬ (pp_n X < 0 ∨ 60 ≤ (pp_n X).toNatClampNeg) := by rw [h3]; intro h; rcases h with h | h; exact h1 h; omega
  show (if pp_n X < 0 then some none else if pp_n X < pp_n X + 1 then rd_q 60 (va_up hh i (some S)) (pp_n X) else some none) = _
  rw [if_neg h1, if_pos h2]
  unfold rd_q
  rw [if_neg h4, h3]
  simp [va_up]
theorem st_in {F : Nat} {X : pp_T} {hh : Nat → Option sh_T} {p1 : Int32} {S : sh_T} (h : s_X3_standing F X hh p1 = some (some S)) : vp_in p1 60 := by
  unfold s_X3_standing at h
  split at h
  · cases h
  · split at h
    · exact (rd_q_in h).1
    · cases h
abbrev rm_X3_point_ok : Room := { frames := 7, cells := 3, slots := 59, locals := 156 }
theorem in_X3_point_ok_X3 : ∀ w ∈ wsX30, w ∈ wsX3_point := by decide +kernel
set_option maxHeartbeats 4000000 in
set_option maxRecDepth 100000 in
theorem c_X3_point_ok (l : Launch) (D : va_G) (cI cJ cZ cS : ClassId) (ad : Nat → Nat) (x0 xm xb f0 xp xq xr : Nat) (adr : ad_T) (X : pp_T) (hh : Nat → Option sh_T) (sz i : Nat) (p1 p2 : Int32) (F : Nat) (T : sh_T) (hi : i < 60) (hn : pp_n X = nI i) (hpl : s_X3_isPlace 0 p1 p2 = some 1) (ho : pp_o X < 400) (ha : s_X2_add F (sh_0 0) p1 p2 = some T) : Met l yX3_point wsX3_point rm_X3_point_ok (gm_P D cI cJ cZ cS ad sz (pp_w cI cJ cS x0 xm xb f0 xp xq xr adr hh X) [] [.ref x0, .int p1, .int p2]) (va_Qi (fun x (_ : Nat × Nat × Nat) => x = pp_n X) (fun u t => va_P D vwCl (pp_w cI cJ cS x0 xm xb f0 xp xq xr (va_up adr i u) (va_up hh i (some T)) (pt_o (pt_s (pt_n X (pp_n X + 1)) (pp_s X + 1)) (pp_o X + 1)) ++ sh_wa cI ad u T) t.heap ∧ va_D (va_A (pp_w cI cJ cS x0 xm xb f0 xp xq xr adr hh X) sz) (pp_w cI cJ cS x0 xm xb f0 xp xq xr (va_up adr i u) (va_up hh i (some T)) (pt_o (pt_s (pt_n X (pp_n X + 1)) (pp_s X + 1)) (pp_o X + 1)) ++ sh_wa cI ad u T)) (va_A (pp_w cI cJ cS x0 xm xb f0 xp xq xr adr hh X) sz)) 3 59 (va_A (pp_w cI cJ cS x0 xm xb f0 xp xq xr adr hh X) sz) := by
  refine Met.ofW (cc := cX3_point) (maxL := 5) (ret := (some .int)) (by decide) rfl ?_
  intro p e s m args below meth c s₁ B hml hv
  obtain ⟨rfl, hsz, hK, hE, hP, hD0, hR, hRn0⟩ := hv
  have hx := B.exec
  have hb := B.bytes
  have hr := B.returns
  have hts := atoms_spec (ws := wsX3_point) B.pre
  have hown : s.vm.findClass RX3 = some m.cls := findClass_of_methodNamed B.named
  have hlocks := B.notSynchronized
  subst hsz
  have hD := hD0.self (sz := s.heap.size)
  generalize hAe : va_A (pp_w cI cJ cS x0 xm xb f0 xp xq xr adr hh X) s.heap.size = A at hD hE ⊢
  have hA : ∀ q : Nat, s.heap.size ≤ q → A q := fun q h => by rw [← hAe]; exact Or.inr h
  have hS : va_S A s.heap s.heap [] := va_S.rf
  have lk_22 := hts (.fieldLink RX3 22 "PlacePoints" "cornersUsed" "I") (by decide +kernel)
  have in_X3 := in_X3_point_ok_X3
  have hcl : (pp_n X).toNatClampNeg = i := by rw [hn]; exact nI_c hi
  have hl := lv_entry ([.ref x0, .int p1, .int p2]) (n := 5) (Nat.le_of_ble_eq_true rfl)
  rw [lg_entry_eq]
  generalize (lg_sl ([.ref x0, .int p1, .int p2]) ++ List.replicate (5 - (lg_sl ([.ref x0, .int p1, .int p2])).length) Slot.unset).toArray = ls at hl ⊢
  have hl : lv_has ls 5 [(0, .ref x0), (1, .int p1), (2, .int p2)] := hl
  refine lv_iload_n hx hb dX3_point_0 rfl (lv_at hl 1 rfl) ?_
  refine lv_iload_n hx hb dX3_point_1 rfl (lv_at hl 2 rfl) ?_
  refine gx_cSi (va_Run.run (va_runS (As := [.int p1, .int p2]) (rest := []) ⟨hx, hb, hml, hown, hts⟩ (c_X3_isPlace l D cI cJ cZ cS ad p1 p2 0 1 hpl) (va_cwS 2 hts gX3_point_X3_isPlace rfl rfl rfl (by decide +kernel) ⟨Nat.le_of_ble_eq_true rfl, Nat.le_of_ble_eq_true rfl⟩) ⟨gl_blind, gl_ok hK (gl_Ek hE hS) trivial⟩ rfl rfl hl.1 rfl (lv_room (Nat.le_of_ble_eq_true rfl)) dX3_point_2 ⟨Nat.le_of_ble_eq_true rfl, Nat.le_of_ble_eq_true rfl⟩)) ?_
  refine lv_if_ne (tgt := 10) hx hb dX3_point_5 (by decide) (fun _ => ?_) (fun c_5 => absurd c_5 (by decide))
  refine lv_aload_n hx hb dX3_point_10 rfl (lv_at hl 0 rfl) ?_
  refine va_get (D := D) (ci := 3) (v := .int (pp_o X)) (C := RX3) (T := TX3) (N := 10) hx hb hts in_X3 hown hK hP 0 rfl rfl 3 (by decide) lk_22 (fun _ h9 => h9) rfl dX3_point_11 ?_
  refine lv_sipush (v := 400) hx hb dX3_point_14 (by decide) ?_
  refine lv_icmp_lt (tgt := 23) hx hb dX3_point_17 (by decide) (fun _ => ?_) (fun c_17 => absurd (ho) c_17)
  refine lv_aload_n hx hb dX3_point_23 rfl (lv_at hl 0 rfl) ?_
  refine va_gets hx hb (hE.1 0 (by decide)).1 hS hown (hts (.fieldLink RX3 53 "PlacePoints$Kind" "POINT" "LPlacePoints$Kind;") (by decide +kernel)) (fun _ h9 => h9) dX3_point_24 ?_
  refine W.eq (g2 := F0 m 27 ls [.ref (ad 0), .ref x0]) rfl ?_
  have hFc := va_free (wc := pp_w cI cJ cS x0 xm xb f0 xp xq xr adr hh X) hD hS hA [0, 1, 2, 3, 4, 5, 6] rfl
  refine gx_cCi (wf := fun u => pp_w cI cJ cS x0 xm xb f0 xp xq xr (va_up adr i u) (va_up hh i (some (sh_0 0))) (pt_s (pt_n X (pp_n X + 1)) (pp_s X + 1)) ++ sh_wa cI ad u (sh_0 0)) (va_runV (As := [.ref (ad 0)]) (rest := []) ⟨hx, hb, hml, hown, hts⟩ (c_X3_make_ok l D cI cJ cZ cS ad x0 xm xb f0 xp xq xr adr X hh _ 0 i (by decide) hi hn) (cwV 1 hts gX3_point_X3_make rfl rfl rfl (by decide +kernel) ⟨Nat.le_of_ble_eq_true rfl, Nat.le_of_ble_eq_true rfl⟩) ⟨gm_blind, va_recv hK hP (ci := 3) (q0 := 0) rfl rfl, gm_ok hK hE hS hFc hP hD va_nil0 gx_nil⟩ rfl rfl hl.1 rfl (lv_room (Nat.le_of_ble_eq_true rfl)) dX3_point_27 ⟨Nat.le_of_ble_eq_true rfl, Nat.le_of_ble_eq_true rfl⟩) hS hFc (fun u H locs hP hD hS => ?_)
  have hP : va_P D vwCl (pp_w cI cJ cS x0 xm xb f0 xp xq xr (va_up adr i u) (va_up hh i (some (sh_0 0))) (pt_s (pt_n X (pp_n X + 1)) (pp_s X + 1)) ++ sh_wa cI ad u (sh_0 0)) H := hP
  have hD : va_D A (pp_w cI cJ cS x0 xm xb f0 xp xq xr (va_up adr i u) (va_up hh i (some (sh_0 0))) (pt_s (pt_n X (pp_n X + 1)) (pp_s X + 1)) ++ sh_wa cI ad u (sh_0 0)) := hD
  have hst : s_X3_standing 0 (pt_s (pt_n X (pp_n X + 1)) (pp_s X + 1)) (va_up hh i (some (sh_0 0))) (pp_n X) = some (some (sh_0 0)) := st_new hi hn
  refine lv_istore_n (lv' := [(3, .int (pp_n X)), (0, .ref x0), (1, .int p1), (2, .int p2)]) hx hb dX3_point_30 rfl hl (by decide) rfl (fun ls hl => ?_)
  refine lv_aload_n hx hb dX3_point_31 rfl (lv_at hl 1 rfl) ?_
  refine lv_iload_n hx hb dX3_point_32 rfl (lv_at hl 0 rfl) ?_
  refine gx_cSq (va_Run.run (va_runV (As := [.int (pp_n X)]) (rest := []) ⟨hx, hb, hml, hown, hts⟩ (c_X3_standing l D cI cJ cZ cS ad x0 xm xb f0 xp xq xr (va_up adr i u) (pt_s (pt_n X (pp_n X + 1)) (pp_s X + 1)) (va_up hh i (some (sh_0 0))) (pp_n X) 0 _ hst) (cwV 1 hts gX3_point_X3_standing rfl rfl rfl (by decide +kernel) ⟨Nat.le_of_ble_eq_true rfl, Nat.le_of_ble_eq_true rfl⟩) ⟨gl_blind, va_recv hK hP (ci := 3) (q0 := 0) rfl rfl, gl_ok hK (gl_Ek hE hS) (hP.sub [0, 1, 2, 3, 4, 5, 6] rfl)⟩ rfl rfl hl.1 rfl (lv_room (Nat.le_of_ble_eq_true rfl)) dX3_point_33 ⟨Nat.le_of_ble_eq_true rfl, Nat.le_of_ble_eq_true rfl⟩)) ?_
  refine W.eq (g2 := F0 m 36 ls [.ref u.1]) (by rw [hcl]; simp [va_up, va_rf]) ?_
  refine lv_astore (lv' := [(4, .ref u.1), (3, .int (pp_n X)), (0, .ref x0), (1, .int p1), (2, .int p2)]) hx hb dX3_point_36 hl (by decide) rfl (fun ls hl => ?_)
  refine lv_aload hx hb dX3_point_38 (lv_at hl 0 rfl) ?_
  refine lv_ifnull hx hb dX3_point_40 ?_
  refine lv_aload hx hb dX3_point_43 (lv_at hl 0 rfl) ?_
  refine lv_iload_n hx hb dX3_point_45 rfl (lv_at hl 3 rfl) ?_
  refine lv_iload_n hx hb dX3_point_46 rfl (lv_at hl 4 rfl) ?_
  have hFc := va_free (wc := sh_w cI ad u.1 u.2.1 u.2.2 (sh_0 0)) hD hS hA [7, 8, 9] rfl
  refine gx_cPv (wf := fun V => sh_w cI ad u.1 u.2.1 u.2.2 V) (wr := pp_w cI cJ cS x0 xm xb f0 xp xq xr (va_up adr i u) (va_up hh i (some (sh_0 0))) (pt_s (pt_n X (pp_n X + 1)) (pp_s X + 1))) (w' := pp_w cI cJ cS x0 xm xb f0 xp xq xr (va_up adr i u) (va_up hh i (some (sh_0 0))) (pt_s (pt_n X (pp_n X + 1)) (pp_s X + 1)) ++ sh_w cI ad u.1 u.2.1 u.2.2 T) (va_runV (As := [.int p1, .int p2]) (rest := []) ⟨hx, hb, hml, hown, hts⟩ (c_X2_add l D cI cJ cZ cS ad u.1 u.2.1 u.2.2 _ (sh_0 0) p1 p2 F (show 0 < 3 by decide) T ha) (cwV 2 hts gX3_point_X2_add rfl rfl rfl (by decide +kernel) ⟨Nat.le_of_ble_eq_true rfl, Nat.le_of_ble_eq_true rfl⟩) ⟨gm_blind, va_recv hK hP (ci := 2) (q0 := 7) rfl rfl, gm_ok hK hE hS hFc (hP.sub [7, 8, 9] rfl) (hD.sub [7, 8, 9] (by decide) rfl) va_nil0 gx_nil⟩ rfl rfl hl.1 rfl (lv_room (Nat.le_of_ble_eq_true rfl)) dX3_point_47 ⟨Nat.le_of_ble_eq_true rfl, Nat.le_of_ble_eq_true rfl⟩) hP hD hS hFc [7, 8, 9] [0, 1, 2, 3, 4, 5, 6] rfl rfl (by decide) (by decide) [0, 1, 2, 3, 4, 5, 6, 7, 8, 9] (by decide) rfl (fun H locs hP hD hS => ?_)
  have hP : va_P D vwCl (pp_w cI cJ cS x0 xm xb f0 xp xq xr (va_up adr i u) (va_up hh i (some (sh_0 0))) (pt_s (pt_n X (pp_n X + 1)) (pp_s X + 1)) ++ sh_w cI ad u.1 u.2.1 u.2.2 T) H := hP
  have hD : va_D A (pp_w cI cJ cS x0 xm xb f0 xp xq xr (va_up adr i u) (va_up hh i (some (sh_0 0))) (pt_s (pt_n X (pp_n X + 1)) (pp_s X + 1)) ++ sh_w cI ad u.1 u.2.1 u.2.2 T) := hD
  refine lv_aload_n hx hb dX3_point_50 rfl (lv_at hl 2 rfl) ?_
  refine lv_dup hx hb dX3_point_51 rfl ?_
  refine va_get (D := D) (ci := 3) (v := .int (pp_o X)) (C := RX3) (T := TX3) (N := 10) hx hb hts in_X3 hown hK hP 0 rfl rfl 3 (by decide) lk_22 (fun _ h9 => h9) rfl dX3_point_52 ?_
  refine lv_iconst (v := 1) hx hb dX3_point_55 (by decide) ?_
  refine lv_iadd hx hb dX3_point_56 ?_
  refine va_put (D := D) (ci := 3) (v := .int ((pp_o X) + 1)) (ty := .int) (C := RX3) (T := TX3) (N := 10) hx hb hts in_X3 tyX3 tyX3_ok nmX3 hown hK hP hD hS 0 rfl rfl 3 (by decide) lk_22 (fun _ h9 => h9) rfl (by decide +kernel) rfl rfl (Nat.le_of_ble_eq_true rfl) dX3_point_57 (fun H locs hP hD hS => ?_)
  have hP : va_P D vwCl (pp_w cI cJ cS x0 xm xb f0 xp xq xr (va_up adr i u) (va_up hh i (some (sh_0 0))) (pt_o (pt_s (pt_n X (pp_n X + 1)) (pp_s X + 1)) (pp_o X + 1)) ++ sh_w cI ad u.1 u.2.1 u.2.2 T) H := hP
  have hD : va_D A (pp_w cI cJ cS x0 xm xb f0 xp xq xr (va_up adr i u) (va_up hh i (some (sh_0 0))) (pt_o (pt_s (pt_n X (pp_n X + 1)) (pp_s X + 1)) (pp_o X + 1)) ++ sh_w cI ad u.1 u.2.1 u.2.2 T) := hD
  have hP : va_P D vwCl (pp_wf cI cJ cS x0 xm xb f0 xp xq xr (pp_f (va_up adr i u) (va_up hh i (some (sh_0 0)))) (pt_o (pt_s (pt_n X (pp_n X + 1)) (pp_s X + 1)) (pp_o X + 1)) ++ sh_wa cI ad u T) H := hP
  have hD : va_D A (pp_wf cI cJ cS x0 xm xb f0 xp xq xr (pp_f (va_up adr i u) (va_up hh i (some (sh_0 0)))) (pt_o (pt_s (pt_n X (pp_n X + 1)) (pp_s X + 1)) (pp_o X + 1)) ++ sh_wa cI ad u T) := hD
  rw [pp_f_set (va_up adr i u) (va_up hh i (some (sh_0 0))) i (S := sh_0 0) (by simp [va_up]) T, bx_uu] at hP hD
  refine lv_iload_n hx hb dX3_point_60 rfl (lv_at hl 1 rfl) ?_
  exact W.iret (v := pp_n X) hx hb hr (fun t ht hW => ⟨⟨_, u, rfl, rfl, by rw [ht]; exact hP, hD⟩, hS.F ht⟩) hS.2.2 dX3_point_61
abbrev rm_X3_corner_ok : Room := { frames := 7, cells := 0, slots := 0, locals := 156 }
theorem in_X3_corner_ok_X2 : ∀ w ∈ wsX20, w ∈ wsX3_corner := by decide +kernel
theorem in_X3_corner_ok_X3 : ∀ w ∈ wsX30, w ∈ wsX3_corner := by decide +kernel
set_option maxHeartbeats 4000000 in
set_option maxRecDepth 100000 in
theorem c_X3_corner_ok (l : Launch) (D : va_G) (cI cJ cZ cS : ClassId) (ad : Nat → Nat) (x0 xm xb f0 xp xq xr : Nat) (adr : ad_T) (X : pp_T) (hh : Nat → Option sh_T) (sz : Nat) (p1 p2 p3 : Int32) (F : Nat) (S T : sh_T) (hkS : sh_k S < 3) (hst : s_X3_standing 0 X hh p1 = some (some S)) (hk0 : ¬ sh_k S = 0) (hpl : s_X3_isPlace 0 p2 p3 = some 1) (ho : ¬ 400 ≤ pp_o X) (hz : sh_z S < en_m (sh_k S)) (ha : s_X2_add F S p2 p3 = some T) : Met l yX3_corner wsX3_corner rm_X3_corner_ok (gm_P D cI cJ cZ cS ad sz (pp_w cI cJ cS x0 xm xb f0 xp xq xr adr hh X ++ sh_wa cI ad (adr p1.toNatClampNeg) S) [] [.ref x0, .int p1, .int p2, .int p3]) (va_Qi (fun x (_ : Unit) => x = sh_z T) (fun _ t => va_P D vwCl (pp_w cI cJ cS x0 xm xb f0 xp xq xr adr (va_up hh p1.toNatClampNeg (some T)) (pt_o X (pp_o X + 1)) ++ sh_wa cI ad (adr p1.toNatClampNeg) T) t.heap ∧ va_D (va_A (pp_w cI cJ cS x0 xm xb f0 xp xq xr adr hh X ++ sh_wa cI ad (adr p1.toNatClampNeg) S) sz) (pp_w cI cJ cS x0 xm xb f0 xp xq xr adr (va_up hh p1.toNatClampNeg (some T)) (pt_o X (pp_o X + 1)) ++ sh_wa cI ad (adr p1.toNatClampNeg) T)) (va_A (pp_w cI cJ cS x0 xm xb f0 xp xq xr adr hh X ++ sh_wa cI ad (adr p1.toNatClampNeg) S) sz)) 0 0 (va_A (pp_w cI cJ cS x0 xm xb f0 xp xq xr adr hh X ++ sh_wa cI ad (adr p1.toNatClampNeg) S) sz) := by
  refine Met.ofW (cc := cX3_corner) (maxL := 5) (ret := (some .int)) (by decide) rfl ?_
  intro p e s m args below meth c s₁ B hml hv
  obtain ⟨rfl, hsz, hK, hE, hP, hD0, hR, hRn0⟩ := hv
  have hx := B.exec
  have hb := B.bytes
  have hr := B.returns
  have hts := atoms_spec (ws := wsX3_corner) B.pre
  have hown : s.vm.findClass RX3 = some m.cls := findClass_of_methodNamed B.named
  have hlocks := B.notSynchronized
  subst hsz
  have hD := hD0.self (sz := s.heap.size)
  generalize hAe : va_A (pp_w cI cJ cS x0 xm xb f0 xp xq xr adr hh X ++ sh_wa cI ad (adr p1.toNatClampNeg) S) s.heap.size = A at hD hE ⊢
  have hA : ∀ q : Nat, s.heap.size ≤ q → A q := fun q h => by rw [← hAe]; exact Or.inr h
  have hS : va_S A s.heap s.heap [] := va_S.rf
  have lk_22 := hts (.fieldLink RX3 22 "PlacePoints" "cornersUsed" "I") (by decide +kernel)
  have lk_77 := hts (.fieldLink RX3 77 "PlacePoints$Shape" "kind" "LPlacePoints$Kind;") (by decide +kernel)
  have lk_80 := hts (.fieldLink RX3 80 "PlacePoints$Shape" "size" "I") (by decide +kernel)
  have in_X2 := in_X3_corner_ok_X2
  have in_X3 := in_X3_corner_ok_X3
  have hl := lv_entry ([.ref x0, .int p1, .int p2, .int p3]) (n := 5) (Nat.le_of_ble_eq_true rfl)
  rw [lg_entry_eq]
  generalize (lg_sl ([.ref x0, .int p1, .int p2, .int p3]) ++ List.replicate (5 - (lg_sl ([.ref x0, .int p1, .int p2, .int p3])).length) Slot.unset).toArray = ls at hl ⊢
  have hl : lv_has ls 5 [(0, .ref x0), (1, .int p1), (2, .int p2), (3, .int p3)] := hl
  refine lv_aload_n hx hb dX3_corner_0 rfl (lv_at hl 0 rfl) ?_
  refine lv_iload_n hx hb dX3_corner_1 rfl (lv_at hl 1 rfl) ?_
  refine gx_cSq (va_Run.run (va_runV (As := [.int p1]) (rest := []) ⟨hx, hb, hml, hown, hts⟩ (c_X3_standing l D cI cJ cZ cS ad x0 xm xb f0 xp xq xr adr X hh p1 0 _ hst) (cwV 1 hts gX3_corner_X3_standing rfl rfl rfl (by decide +kernel) ⟨Nat.le_of_ble_eq_true rfl, Nat.le_of_ble_eq_true rfl⟩) ⟨gl_blind, va_recv hK hP (ci := 3) (q0 := 0) rfl rfl, gl_ok hK (gl_Ek hE hS) (hP.sub [0, 1, 2, 3, 4, 5, 6] rfl)⟩ rfl rfl hl.1 rfl (lv_room (Nat.le_of_ble_eq_true rfl)) dX3_corner_2 ⟨Nat.le_of_ble_eq_true rfl, Nat.le_of_ble_eq_true rfl⟩)) ?_
  refine W.eq (g2 := F0 m 5 ls [.ref (adr p1.toNatClampNeg).1]) rfl ?_
  refine lv_astore (lv' := [(4, .ref (adr p1.toNatClampNeg).1), (0, .ref x0), (1, .int p1), (2, .int p2), (3, .int p3)]) hx hb dX3_corner_5 hl (by decide) rfl (fun ls hl => ?_)
  refine lv_aload hx hb dX3_corner_7 (lv_at hl 0 rfl) ?_
  refine lv_ifnull hx hb dX3_corner_9 ?_
  refine lv_aload hx hb dX3_corner_12 (lv_at hl 0 rfl) ?_
  refine va_get (D := D) (ci := 2) (v := .ref (ad (sh_k S))) (C := RX2) (T := TX2) (N := 9) hx hb hts in_X2 hown hK hP 7 rfl rfl 0 (by decide) lk_77 (fun _ h9 => h9) rfl dX3_corner_14 ?_
  refine va_gets hx hb (hE.1 0 (by decide)).1 hS hown (hts (.fieldLink RX3 53 "PlacePoints$Kind" "POINT" "LPlacePoints$Kind;") (by decide +kernel)) (fun _ h9 => h9) dX3_corner_17 ?_
  refine W.eq (g2 := F0 m 20 ls [.ref (ad 0), .ref (ad (sh_k S))]) rfl ?_
  refine gx_acmp_eq (tgt := 31) hE hkS (show 0 < 3 by decide) hx hb dX3_corner_20 (by decide) (fun c_20 => absurd c_20 hk0) (fun _ => ?_)
  refine lv_iload_n hx hb dX3_corner_23 rfl (lv_at hl 3 rfl) ?_
  refine lv_iload_n hx hb dX3_corner_24 rfl (lv_at hl 4 rfl) ?_
  refine gx_cSi (va_Run.run (va_runS (As := [.int p2, .int p3]) (rest := []) ⟨hx, hb, hml, hown, hts⟩ (c_X3_isPlace l D cI cJ cZ cS ad p2 p3 0 1 hpl) (va_cwS 2 hts gX3_corner_X3_isPlace rfl rfl rfl (by decide +kernel) ⟨Nat.le_of_ble_eq_true rfl, Nat.le_of_ble_eq_true rfl⟩) ⟨gl_blind, gl_ok hK (gl_Ek hE hS) trivial⟩ rfl rfl hl.1 rfl (lv_room (Nat.le_of_ble_eq_true rfl)) dX3_corner_25 ⟨Nat.le_of_ble_eq_true rfl, Nat.le_of_ble_eq_true rfl⟩)) ?_
  refine lv_if_ne (tgt := 33) hx hb dX3_corner_28 (by decide) (fun _ => ?_) (fun c_28 => absurd c_28 (by decide))
  refine lv_aload_n hx hb dX3_corner_33 rfl (lv_at hl 1 rfl) ?_
  refine va_get (D := D) (ci := 3) (v := .int (pp_o X)) (C := RX3) (T := TX3) (N := 10) hx hb hts in_X3 hown hK hP 0 rfl rfl 3 (by decide) lk_22 (fun _ h9 => h9) rfl dX3_corner_34 ?_
  refine lv_sipush (v := 400) hx hb dX3_corner_37 (by decide) ?_
  refine lv_icmp_ge (tgt := 59) hx hb dX3_corner_40 (by decide) (fun c_40 => absurd c_40 (ho)) (fun _ => ?_)
  refine lv_aload hx hb dX3_corner_43 (lv_at hl 0 rfl) ?_
  refine va_get (D := D) (ci := 2) (v := .int (sh_z S)) (C := RX2) (T := TX2) (N := 9) hx hb hts in_X2 hown hK hP 7 rfl rfl 1 (by decide) lk_80 (fun _ h9 => h9) rfl dX3_corner_45 ?_
  refine lv_aload hx hb dX3_corner_48 (lv_at hl 0 rfl) ?_
  refine va_get (D := D) (ci := 2) (v := .ref (ad (sh_k S))) (C := RX2) (T := TX2) (N := 9) hx hb hts in_X2 hown hK hP 7 rfl rfl 0 (by decide) lk_77 (fun _ h9 => h9) rfl dX3_corner_50 ?_
  refine va_getE (q := ("PlacePoints$Kind", "most", "I", [1, 24, 24])) hx hb hE (show sh_k S < 3 from hkS) hS hown (by simp) (hts (.fieldLink RX3 83 "PlacePoints$Kind" "most" "I") (by decide +kernel)) (fun _ h9 => h9) dX3_corner_53 ?_
  refine W.eq (g2 := F0 m 56 ls [.int (en_m (sh_k S)), .int (sh_z S)]) rfl ?_
  refine lv_icmp_lt (tgt := 62) hx hb dX3_corner_56 (by decide) (fun _ => ?_) (fun c_56 => absurd (hz) c_56)
  refine lv_aload hx hb dX3_corner_62 (lv_at hl 0 rfl) ?_
  refine lv_iload_n hx hb dX3_corner_64 rfl (lv_at hl 3 rfl) ?_
  refine lv_iload_n hx hb dX3_corner_65 rfl (lv_at hl 4 rfl) ?_
  have hFc := va_free (wc := sh_w cI ad (adr p1.toNatClampNeg).1 (adr p1.toNatClampNeg).2.1 (adr p1.toNatClampNeg).2.2 S) hD hS hA [7, 8, 9] rfl
  refine gx_cPv (wf := fun V => sh_w cI ad (adr p1.toNatClampNeg).1 (adr p1.toNatClampNeg).2.1 (adr p1.toNatClampNeg).2.2 V) (wr := pp_w cI cJ cS x0 xm xb f0 xp xq xr adr hh X) (w' := pp_w cI cJ cS x0 xm xb f0 xp xq xr adr hh X ++ sh_w cI ad (adr p1.toNatClampNeg).1 (adr p1.toNatClampNeg).2.1 (adr p1.toNatClampNeg).2.2 T) (va_runV (As := [.int p2, .int p3]) (rest := []) ⟨hx, hb, hml, hown, hts⟩ (c_X2_add l D cI cJ cZ cS ad (adr p1.toNatClampNeg).1 (adr p1.toNatClampNeg).2.1 (adr p1.toNatClampNeg).2.2 _ S p2 p3 F hkS T ha) (cwV 2 hts gX3_corner_X2_add rfl rfl rfl (by decide +kernel) ⟨Nat.le_of_ble_eq_true rfl, Nat.le_of_ble_eq_true rfl⟩) ⟨gm_blind, va_recv hK hP (ci := 2) (q0 := 7) rfl rfl, gm_ok hK hE hS hFc (hP.sub [7, 8, 9] rfl) (hD.sub [7, 8, 9] (by decide) rfl) va_nil0 gx_nil⟩ rfl rfl hl.1 rfl (lv_room (Nat.le_of_ble_eq_true rfl)) dX3_corner_66 ⟨Nat.le_of_ble_eq_true rfl, Nat.le_of_ble_eq_true rfl⟩) hP hD hS hFc [7, 8, 9] [0, 1, 2, 3, 4, 5, 6] rfl rfl (by decide) (by decide) [0, 1, 2, 3, 4, 5, 6, 7, 8, 9] (by decide) rfl (fun H locs hP hD hS => ?_)
  have hP : va_P D vwCl (pp_w cI cJ cS x0 xm xb f0 xp xq xr adr hh X ++ sh_w cI ad (adr p1.toNatClampNeg).1 (adr p1.toNatClampNeg).2.1 (adr p1.toNatClampNeg).2.2 T) H := hP
  have hD : va_D A (pp_w cI cJ cS x0 xm xb f0 xp xq xr adr hh X ++ sh_w cI ad (adr p1.toNatClampNeg).1 (adr p1.toNatClampNeg).2.1 (adr p1.toNatClampNeg).2.2 T) := hD
  refine lv_aload_n hx hb dX3_corner_69 rfl (lv_at hl 1 rfl) ?_
  refine lv_dup hx hb dX3_corner_70 rfl ?_
  refine va_get (D := D) (ci := 3) (v := .int (pp_o X)) (C := RX3) (T := TX3) (N := 10) hx hb hts in_X3 hown hK hP 0 rfl rfl 3 (by decide) lk_22 (fun _ h9 => h9) rfl dX3_corner_71 ?_
  refine lv_iconst (v := 1) hx hb dX3_corner_74 (by decide) ?_
  refine lv_iadd hx hb dX3_corner_75 ?_
  refine va_put (D := D) (ci := 3) (v := .int ((pp_o X) + 1)) (ty := .int) (C := RX3) (T := TX3) (N := 10) hx hb hts in_X3 tyX3 tyX3_ok nmX3 hown hK hP hD hS 0 rfl rfl 3 (by decide) lk_22 (fun _ h9 => h9) rfl (by decide +kernel) rfl rfl (Nat.le_of_ble_eq_true rfl) dX3_corner_76 (fun H locs hP hD hS => ?_)
  have hP : va_P D vwCl (pp_w cI cJ cS x0 xm xb f0 xp xq xr adr hh (pt_o X (pp_o X + 1)) ++ sh_w cI ad (adr p1.toNatClampNeg).1 (adr p1.toNatClampNeg).2.1 (adr p1.toNatClampNeg).2.2 T) H := hP
  have hD : va_D A (pp_w cI cJ cS x0 xm xb f0 xp xq xr adr hh (pt_o X (pp_o X + 1)) ++ sh_w cI ad (adr p1.toNatClampNeg).1 (adr p1.toNatClampNeg).2.1 (adr p1.toNatClampNeg).2.2 T) := hD
  refine lv_aload hx hb dX3_corner_79 (lv_at hl 0 rfl) ?_
  refine va_get (D := D) (ci := 2) (v := .int (sh_z T)) (C := RX2) (T := TX2) (N := 9) hx hb hts in_X2 hown hK hP 7 rfl rfl 1 (by decide) lk_80 (fun _ h9 => h9) rfl dX3_corner_81 ?_
  have hP : va_P D vwCl (pp_wf cI cJ cS x0 xm xb f0 xp xq xr (pp_f adr hh) (pt_o X (pp_o X + 1)) ++ sh_wa cI ad (adr p1.toNatClampNeg) T) H := hP
  have hD : va_D A (pp_wf cI cJ cS x0 xm xb f0 xp xq xr (pp_f adr hh) (pt_o X (pp_o X + 1)) ++ sh_wa cI ad (adr p1.toNatClampNeg) T) := hD
  rw [pp_f_set adr hh p1.toNatClampNeg (st_h hst) T] at hP hD
  exact W.iret (v := sh_z T) hx hb hr (fun t ht hW => ⟨⟨_, (), rfl, rfl, by rw [ht]; exact hP, hD⟩, hS.F ht⟩) hS.2.2 dX3_corner_84
abbrev rm_X3_remove_ok : Room := { frames := 1, cells := 0, slots := 0, locals := 21 }
theorem in_X3_remove_ok_X3 : ∀ w ∈ wsX30, w ∈ wsX3_remove := by decide +kernel
set_option maxHeartbeats 4000000 in
set_option maxRecDepth 100000 in
theorem c_X3_remove_ok (l : Launch) (D : va_G) (cI cJ cZ cS : ClassId) (ad : Nat → Nat) (x0 xm xb f0 xp xq xr : Nat) (adr : ad_T) (X : pp_T) (hh : Nat → Option sh_T) (sz : Nat) (p1 : Int32) (S : sh_T) (hst : s_X3_standing 0 X hh p1 = some (some S)) : Met l yX3_remove wsX3_remove rm_X3_remove_ok (gm_P D cI cJ cZ cS ad sz (pp_w cI cJ cS x0 xm xb f0 xp xq xr adr hh X) [] [.ref x0, .int p1]) (va_Qi (fun x (_ : Unit) => x = 1) (fun _ t => va_P D vwCl (pp_w cI cJ cS x0 xm xb f0 xp xq xr adr (va_up hh p1.toNatClampNeg none) (pt_s X (pp_s X - 1))) t.heap ∧ va_D (va_A (pp_w cI cJ cS x0 xm xb f0 xp xq xr adr hh X) sz) (pp_w cI cJ cS x0 xm xb f0 xp xq xr adr (va_up hh p1.toNatClampNeg none) (pt_s X (pp_s X - 1)))) (va_A (pp_w cI cJ cS x0 xm xb f0 xp xq xr adr hh X) sz)) 0 0 (va_A (pp_w cI cJ cS x0 xm xb f0 xp xq xr adr hh X) sz) := by
  refine Met.ofW (cc := cX3_remove) (maxL := 2) (ret := (some .int)) (by decide) rfl ?_
  intro p e s m args below meth c s₁ B hml hv
  obtain ⟨rfl, hsz, hK, hE, hP, hD0, hR, hRn0⟩ := hv
  have hx := B.exec
  have hb := B.bytes
  have hr := B.returns
  have hts := atoms_spec (ws := wsX3_remove) B.pre
  have hown : s.vm.findClass RX3 = some m.cls := findClass_of_methodNamed B.named
  have hlocks := B.notSynchronized
  subst hsz
  have hD := hD0.self (sz := s.heap.size)
  generalize hAe : va_A (pp_w cI cJ cS x0 xm xb f0 xp xq xr adr hh X) s.heap.size = A at hD hE ⊢
  have hA : ∀ q : Nat, s.heap.size ≤ q → A q := fun q h => by rw [← hAe]; exact Or.inr h
  have hS : va_S A s.heap s.heap [] := va_S.rf
  have lk_11 := hts (.fieldLink RX3 11 "PlacePoints" "made" "[LPlacePoints$Shape;") (by decide +kernel)
  have lk_19 := hts (.fieldLink RX3 19 "PlacePoints" "standingCount" "I") (by decide +kernel)
  have in_X3 := in_X3_remove_ok_X3
  have hl := lv_entry ([.ref x0, .int p1]) (n := 2) (Nat.le_of_ble_eq_true rfl)
  rw [lg_entry_eq]
  generalize (lg_sl ([.ref x0, .int p1]) ++ List.replicate (2 - (lg_sl ([.ref x0, .int p1])).length) Slot.unset).toArray = ls at hl ⊢
  have hl : lv_has ls 2 [(0, .ref x0), (1, .int p1)] := hl
  refine lv_aload_n hx hb dX3_remove_0 rfl (lv_at hl 0 rfl) ?_
  refine lv_iload_n hx hb dX3_remove_1 rfl (lv_at hl 1 rfl) ?_
  refine gx_cSq (va_Run.run (va_runV (As := [.int p1]) (rest := []) ⟨hx, hb, hml, hown, hts⟩ (c_X3_standing l D cI cJ cZ cS ad x0 xm xb f0 xp xq xr adr X hh p1 0 _ hst) (cwV 1 hts gX3_remove_X3_standing rfl rfl rfl (by decide +kernel) ⟨Nat.le_of_ble_eq_true rfl, Nat.le_of_ble_eq_true rfl⟩) ⟨gl_blind, va_recv hK hP (ci := 3) (q0 := 0) rfl rfl, gl_ok hK (gl_Ek hE hS) (hP.sub [0, 1, 2, 3, 4, 5, 6] rfl)⟩ rfl rfl hl.1 rfl (lv_room (Nat.le_of_ble_eq_true rfl)) dX3_remove_2 ⟨Nat.le_of_ble_eq_true rfl, Nat.le_of_ble_eq_true rfl⟩)) ?_
  refine W.eq (g2 := F0 m 5 ls [.ref (adr p1.toNatClampNeg).1]) rfl ?_
  refine lv_ifnonnull (tgt := 10) hx hb dX3_remove_5 (by decide) ?_
  refine lv_aload_n hx hb dX3_remove_10 rfl (lv_at hl 0 rfl) ?_
  refine va_get (D := D) (ci := 3) (v := .ref xm) (C := RX3) (T := TX3) (N := 10) hx hb hts in_X3 hown hK hP 0 rfl rfl 0 (by decide) lk_11 (fun _ h9 => h9) rfl dX3_remove_11 ?_
  refine lv_iload_n hx hb dX3_remove_14 rfl (lv_at hl 1 rfl) ?_
  refine lv_null hx hb dX3_remove_15 ?_
  refine va_astqN (C := "PlacePoints$Shape") hx hb hK hP hD hS 1 3 rfl rfl (st_in hst) dX3_remove_16 (fun H locs hP hD hS => ?_)
  have hP : va_P D vwCl (pp_wf cI cJ cS x0 xm xb f0 xp xq xr (va_up (pp_f adr hh) p1.toNatClampNeg none) X) H := hP
  have hD : va_D A (pp_wf cI cJ cS x0 xm xb f0 xp xq xr (va_up (pp_f adr hh) p1.toNatClampNeg none) X) := hD
  rw [pp_f_del] at hP hD
  have hP : va_P D vwCl (pp_w cI cJ cS x0 xm xb f0 xp xq xr adr (va_up hh p1.toNatClampNeg none) X) H := hP
  have hD : va_D A (pp_w cI cJ cS x0 xm xb f0 xp xq xr adr (va_up hh p1.toNatClampNeg none) X) := hD
  refine lv_aload_n hx hb dX3_remove_17 rfl (lv_at hl 0 rfl) ?_
  refine lv_dup hx hb dX3_remove_18 rfl ?_
  refine va_get (D := D) (ci := 3) (v := .int (pp_s X)) (C := RX3) (T := TX3) (N := 10) hx hb hts in_X3 hown hK hP 0 rfl rfl 2 (by decide) lk_19 (fun _ h9 => h9) rfl dX3_remove_19 ?_
  refine lv_iconst (v := 1) hx hb dX3_remove_22 (by decide) ?_
  refine lv_isub hx hb dX3_remove_23 ?_
  refine va_put (D := D) (ci := 3) (v := .int ((pp_s X) - 1)) (ty := .int) (C := RX3) (T := TX3) (N := 10) hx hb hts in_X3 tyX3 tyX3_ok nmX3 hown hK hP hD hS 0 rfl rfl 2 (by decide) lk_19 (fun _ h9 => h9) rfl (by decide +kernel) rfl rfl (Nat.le_of_ble_eq_true rfl) dX3_remove_24 (fun H locs hP hD hS => ?_)
  have hP : va_P D vwCl (pp_w cI cJ cS x0 xm xb f0 xp xq xr adr (va_up hh p1.toNatClampNeg none) (pt_s X (pp_s X - 1))) H := hP
  have hD : va_D A (pp_w cI cJ cS x0 xm xb f0 xp xq xr adr (va_up hh p1.toNatClampNeg none) (pt_s X (pp_s X - 1))) := hD
  refine lv_iconst (v := 1) hx hb dX3_remove_27 (by decide) ?_
  exact W.iret (v := 1) hx hb hr (fun t ht hW => ⟨⟨_, (), rfl, rfl, by rw [ht]; exact hP, hD⟩, hS.F ht⟩) hS.2.2 dX3_remove_28
