section GXAQ
variable {p : Program} {l : Launch} {e : Env} {R : Room} {s : State} {m : MethodId} {args : Array Value} {below : List Frame} {meth : Method} {c : Code} {H : Heap} {locs : List Loc} {cells slots : Nat} {Q : State → Prop}
variable {cc : ByteArray} {pc : Nat} {ls : Array Slot} {rest : List Value} {D : va_G} {A : Nat → Prop} {ws : va_W} {H0 : Heap} {cI cJ cZ cS : ClassId}
theorem gx_bq (n : Nat) (h : n ≤ 2000) : n * 4 ≤ 536870912 := Nat.le_trans (Nat.mul_le_mul_right _ h) (by decide)
theorem gx_newQ (hexec : p.tables.exec = Jvm.exec) (hb : c.code = cc) {own : String} {index : Nat} (hown : s.vm.findClass own = some m.cls) (hclink : (Cond.classLink own index RX2).before args s = true) (hover : va_AO "PlacePoints$Shape" s) (hK : gl_K D cI cJ cZ cS s) (hP : va_P D vwCl ws H) (hD : va_D A ws) (hS : va_S A H0 H locs) (hA : ∀ q, H0.size ≤ q → A q) {n : Int32} {N : Nat} (hn : ¬ n < 0) (hN : n.toNatClampNeg = N) (hbd : N ≤ 2000) (hcells : cells + 1 ≤ R.cells) (hslots : slots + N ≤ R.slots) (hdg : decode cc pc = .ok (.anewarray index, 3))
    (kk : ∀ (q : Nat) (H1 : Heap), va_P D vwCl (ws ++ [(q, .inl (cS, N, .inr (.inr (.inr (.inr (fun _ => none))))))]) H1 → va_D A (ws ++ [(q, .inl (cS, N, .inr (.inr (.inr (.inr (fun _ => none))))))]) → va_S A H0 H1 locs → W p l e R s m args below meth c H1 locs (cells + 1) (slots + N) Q (F0 m (pc + 3) ls (.ref q :: rest))) : W p l e R s m args below meth c H locs cells slots Q (F0 m pc ls (.int n :: rest)) :=
  va_newq (C := "PlacePoints$Shape") hexec hb hown hclink hover hK hP hD hS hA hn hN (gx_bq N hbd) hcells hslots hdg (fun q cA H1 hK9 hP1 hD1 hS1 => by
    obtain rfl := gx_cS hK hK9
    exact kk q H1 hP1 hD1 hS1)
end GXAQ
abbrev pp_0 : pp_T := (0, 0, 0, fun _ => 0, 0, 0, 1, fun _ => 0, fun _ => 0, fun _ => 0)
abbrev rm_X3_init : Room := { frames := 2, cells := 6, slots := 302, locals := 32 }
theorem in_X3_init_X3 : ∀ w ∈ wsX30, w ∈ wsX3_init := by decide +kernel
theorem in_X3_init_X0 : ∀ w ∈ wsX00, w ∈ wsX3_init := by decide +kernel
set_option maxHeartbeats 4000000 in
set_option maxRecDepth 100000 in
theorem c_X3_init (l : Launch) (D : va_G) (cI cJ cZ cS : ClassId) (ad : Nat → Nat) (x0 : Nat) (adr : ad_T) (sz : Nat) : Met l yX3_init wsX3_init rm_X3_init (gc_P D cI cJ cZ cS ad sz [(x0, .inr (3, [.null, .int 0, .int 0, .int 0, .null, .int 0, .null, .null, .null, .null]))] (fun U => va_AO "PlacePoints$Shape" U ∧ va_Nw (.methodLinkNest RX3 34 yX0_init "PlacePoints") U) [.ref x0]) (va_Qv (fun _ : Nat × Nat × Nat × Nat × Nat × Nat => True) (fun u t => va_P D vwCl (pp_w cI cJ cS x0 u.1 u.2.1 u.2.2.1 u.2.2.2.1 u.2.2.2.2.1 u.2.2.2.2.2 adr (fun _ => none) pp_0) t.heap ∧ va_D (va_A ([(x0, .inr (3, [.null, .int 0, .int 0, .int 0, .null, .int 0, .null, .null, .null, .null]))] : va_W) sz) (pp_w cI cJ cS x0 u.1 u.2.1 u.2.2.1 u.2.2.2.1 u.2.2.2.2.1 u.2.2.2.2.2 adr (fun _ => none) pp_0)) (va_A ([(x0, .inr (3, [.null, .int 0, .int 0, .int 0, .null, .int 0, .null, .null, .null, .null]))] : va_W) sz)) 6 302 (va_A ([(x0, .inr (3, [.null, .int 0, .int 0, .int 0, .null, .int 0, .null, .null, .null, .null]))] : va_W) sz) := by
  refine Met.ofW (cc := cX3_init) (maxL := 1) (ret := none) (by decide) rfl ?_
  intro p e s m args below meth c s₁ B hml hv
  obtain ⟨rfl, hsz, hK, hE, hP, hD0, hZ⟩ := hv
  have hx := B.exec
  have hb := B.bytes
  have hr := B.returns
  have hts := atoms_spec (ws := wsX3_init) B.pre
  have hown : s.vm.findClass RX3 = some m.cls := findClass_of_methodNamed B.named
  have hlocks := B.notSynchronized
  have hin : meth.name = "<init>" := (name_of_methodNamed B.named B.method).1
  subst hsz
  have hD := hD0.self (sz := s.heap.size)
  generalize hAe : va_A ([(x0, .inr (3, [.null, .int 0, .int 0, .int 0, .null, .int 0, .null, .null, .null, .null]))] : va_W) s.heap.size = A at hD hE ⊢
  have hA : ∀ q : Nat, s.heap.size ≤ q → A q := fun q h => by rw [← hAe]; exact Or.inr h
  have hS : va_S A s.heap s.heap [] := va_S.rf
  have in_X := in_X3_init_X3
  have in_X0 := in_X3_init_X0
  have hl := lv_entry ([.ref x0]) (n := 1) (Nat.le_of_ble_eq_true rfl)
  rw [lg_entry_eq]
  generalize (lg_sl ([.ref x0]) ++ List.replicate (1 - (lg_sl ([.ref x0])).length) Slot.unset).toArray = ls at hl ⊢
  have hl : lv_has ls 1 [(0, .ref x0)] := hl
  refine lv_aload_n hx hb dX3_init_0 rfl (lv_at hl 0 rfl) ?_
  refine W.objInit hx hb hown (hts (.methodLink RX3 1 objectInit) (by decide +kernel)) (hts (.instanceMethod objectInit) (by decide +kernel)) (hts _ (List.mem_cons_of_mem _ (List.mem_append_left _ (List.mem_append_left _ (List.mem_of_getElem? (i := 2) rfl))))) rfl (by rw [hml]; exact hl.1) rfl dX3_init_1 (Nat.le_of_ble_eq_true rfl) (Nat.le_of_ble_eq_true rfl) ?_
  refine W.eq (g2 := F0 m 4 ls []) rfl ?_
  refine lv_aload_n hx hb dX3_init_4 rfl (lv_at hl 0 rfl) ?_
  refine lv_bipush (v := 60) hx hb dX3_init_5 (by decide) ?_
  refine gx_newQ (N := 60) hx hb hown (hts (.classLink RX3 9 RX2) (by decide +kernel)) hZ.1 hK hP hD hS hA (by decide) rfl (by decide) (Nat.le_of_ble_eq_true rfl) (Nat.le_of_ble_eq_true rfl) dX3_init_7 (fun q_7 H hP hD hS => ?_)
  refine W.widen (k := 1) (n := 60) (by omega) (by omega) ?_
  have hP : va_P D vwCl [(x0, .inr (3, [.null, .int 0, .int 0, .int 0, .null, .int 0, .null, .null, .null, .null])), (q_7, .inl (cS, 60, .inr (.inr (.inr (.inr (fun _ => none))))))] H := hP
  have hD : va_D A [(x0, .inr (3, [.null, .int 0, .int 0, .int 0, .null, .int 0, .null, .null, .null, .null])), (q_7, .inl (cS, 60, .inr (.inr (.inr (.inr (fun _ => none))))))] := hD
  refine va_putF (D := D) (ci := 3) (v := .ref q_7) (ty := .array (.object "PlacePoints$Shape")) (C := RX3) (T := TX3) (N := 10) hx hb hts in_X tyX3 tyX3_ok nmX3 hown hK hP hD hS 0 rfl rfl 0 (by decide) (hts (.fieldLink RX3 11 "PlacePoints" "made" "[LPlacePoints$Shape;") (by decide +kernel)) (fun _ h9 => h9) rfl hin rfl (by decide +kernel) rfl rfl (Nat.le_of_ble_eq_true rfl) dX3_init_10 (fun H locs hP hD hS => ?_)
  have hP : va_P D vwCl [(x0, .inr (3, [.ref q_7, .int 0, .int 0, .int 0, .null, .int 0, .null, .null, .null, .null])), (q_7, .inl (cS, 60, .inr (.inr (.inr (.inr (fun _ => none))))))] H := hP
  have hD : va_D A [(x0, .inr (3, [.ref q_7, .int 0, .int 0, .int 0, .null, .int 0, .null, .null, .null, .null])), (q_7, .inl (cS, 60, .inr (.inr (.inr (.inr (fun _ => none))))))] := hD
  refine lv_aload_n hx hb dX3_init_13 rfl (lv_at hl 0 rfl) ?_
  refine lv_iconst (v := 0) hx hb dX3_init_14 (by decide) ?_
  refine va_put (D := D) (ci := 3) (v := .int 0) (ty := .int) (C := RX3) (T := TX3) (N := 10) hx hb hts in_X tyX3 tyX3_ok nmX3 hown hK hP hD hS 0 rfl rfl 1 (by decide) (hts (.fieldLink RX3 15 "PlacePoints" "madeCount" "I") (by decide +kernel)) (fun _ h9 => h9) rfl (by decide +kernel) rfl rfl (Nat.le_of_ble_eq_true rfl) dX3_init_15 (fun H locs hP hD hS => ?_)
  have hP : va_P D vwCl [(x0, .inr (3, [.ref q_7, .int 0, .int 0, .int 0, .null, .int 0, .null, .null, .null, .null])), (q_7, .inl (cS, 60, .inr (.inr (.inr (.inr (fun _ => none))))))] H := hP
  have hD : va_D A [(x0, .inr (3, [.ref q_7, .int 0, .int 0, .int 0, .null, .int 0, .null, .null, .null, .null])), (q_7, .inl (cS, 60, .inr (.inr (.inr (.inr (fun _ => none))))))] := hD
  refine lv_aload_n hx hb dX3_init_18 rfl (lv_at hl 0 rfl) ?_
  refine lv_iconst (v := 0) hx hb dX3_init_19 (by decide) ?_
  refine va_put (D := D) (ci := 3) (v := .int 0) (ty := .int) (C := RX3) (T := TX3) (N := 10) hx hb hts in_X tyX3 tyX3_ok nmX3 hown hK hP hD hS 0 rfl rfl 2 (by decide) (hts (.fieldLink RX3 19 "PlacePoints" "standingCount" "I") (by decide +kernel)) (fun _ h9 => h9) rfl (by decide +kernel) rfl rfl (Nat.le_of_ble_eq_true rfl) dX3_init_20 (fun H locs hP hD hS => ?_)
  have hP : va_P D vwCl [(x0, .inr (3, [.ref q_7, .int 0, .int 0, .int 0, .null, .int 0, .null, .null, .null, .null])), (q_7, .inl (cS, 60, .inr (.inr (.inr (.inr (fun _ => none))))))] H := hP
  have hD : va_D A [(x0, .inr (3, [.ref q_7, .int 0, .int 0, .int 0, .null, .int 0, .null, .null, .null, .null])), (q_7, .inl (cS, 60, .inr (.inr (.inr (.inr (fun _ => none))))))] := hD
  refine lv_aload_n hx hb dX3_init_23 rfl (lv_at hl 0 rfl) ?_
  refine lv_iconst (v := 0) hx hb dX3_init_24 (by decide) ?_
  refine va_put (D := D) (ci := 3) (v := .int 0) (ty := .int) (C := RX3) (T := TX3) (N := 10) hx hb hts in_X tyX3 tyX3_ok nmX3 hown hK hP hD hS 0 rfl rfl 3 (by decide) (hts (.fieldLink RX3 22 "PlacePoints" "cornersUsed" "I") (by decide +kernel)) (fun _ h9 => h9) rfl (by decide +kernel) rfl rfl (Nat.le_of_ble_eq_true rfl) dX3_init_25 (fun H locs hP hD hS => ?_)
  have hP : va_P D vwCl [(x0, .inr (3, [.ref q_7, .int 0, .int 0, .int 0, .null, .int 0, .null, .null, .null, .null])), (q_7, .inl (cS, 60, .inr (.inr (.inr (.inr (fun _ => none))))))] H := hP
  have hD : va_D A [(x0, .inr (3, [.ref q_7, .int 0, .int 0, .int 0, .null, .int 0, .null, .null, .null, .null])), (q_7, .inl (cS, 60, .inr (.inr (.inr (.inr (fun _ => none))))))] := hD
  refine lv_aload_n hx hb dX3_init_28 rfl (lv_at hl 0 rfl) ?_
  refine lv_bipush (v := 60) hx hb dX3_init_29 (by decide) ?_
  refine gx_newI (N := 60) hx hb (hts (.arrayClass .int) (by decide +kernel)) hK hP hD hS hA (by decide) rfl (by decide) (Nat.le_of_ble_eq_true rfl) (Nat.le_of_ble_eq_true rfl) dX3_init_31 (fun q_31 H hP hD hS => ?_)
  refine W.widen (k := 2) (n := 120) (by omega) (by omega) ?_
  have hP : va_P D vwCl [(x0, .inr (3, [.ref q_7, .int 0, .int 0, .int 0, .null, .int 0, .null, .null, .null, .null])), (q_7, .inl (cS, 60, .inr (.inr (.inr (.inr (fun _ => none)))))), (q_31, .inl (cI, 60, .inl (fun _ => 0)))] H := hP
  have hD : va_D A [(x0, .inr (3, [.ref q_7, .int 0, .int 0, .int 0, .null, .int 0, .null, .null, .null, .null])), (q_7, .inl (cS, 60, .inr (.inr (.inr (.inr (fun _ => none)))))), (q_31, .inl (cI, 60, .inl (fun _ => 0)))] := hD
  refine va_putF (D := D) (ci := 3) (v := .ref q_31) (ty := .array .int) (C := RX3) (T := TX3) (N := 10) hx hb hts in_X tyX3 tyX3_ok nmX3 hown hK hP hD hS 0 rfl rfl 4 (by decide) (hts (.fieldLink RX3 25 "PlacePoints" "boxedNumbers" "[I") (by decide +kernel)) (fun _ h9 => h9) rfl hin rfl (by decide +kernel) rfl rfl (Nat.le_of_ble_eq_true rfl) dX3_init_33 (fun H locs hP hD hS => ?_)
  have hP : va_P D vwCl [(x0, .inr (3, [.ref q_7, .int 0, .int 0, .int 0, .ref q_31, .int 0, .null, .null, .null, .null])), (q_7, .inl (cS, 60, .inr (.inr (.inr (.inr (fun _ => none)))))), (q_31, .inl (cI, 60, .inl (fun _ => 0)))] H := hP
  have hD : va_D A [(x0, .inr (3, [.ref q_7, .int 0, .int 0, .int 0, .ref q_31, .int 0, .null, .null, .null, .null])), (q_7, .inl (cS, 60, .inr (.inr (.inr (.inr (fun _ => none)))))), (q_31, .inl (cI, 60, .inl (fun _ => 0)))] := hD
  refine lv_aload_n hx hb dX3_init_36 rfl (lv_at hl 0 rfl) ?_
  refine lv_iconst (v := 0) hx hb dX3_init_37 (by decide) ?_
  refine va_put (D := D) (ci := 3) (v := .int 0) (ty := .int) (C := RX3) (T := TX3) (N := 10) hx hb hts in_X tyX3 tyX3_ok nmX3 hown hK hP hD hS 0 rfl rfl 5 (by decide) (hts (.fieldLink RX3 29 "PlacePoints" "boxedCount" "I") (by decide +kernel)) (fun _ h9 => h9) rfl (by decide +kernel) rfl rfl (Nat.le_of_ble_eq_true rfl) dX3_init_38 (fun H locs hP hD hS => ?_)
  have hP : va_P D vwCl [(x0, .inr (3, [.ref q_7, .int 0, .int 0, .int 0, .ref q_31, .int 0, .null, .null, .null, .null])), (q_7, .inl (cS, 60, .inr (.inr (.inr (.inr (fun _ => none)))))), (q_31, .inl (cI, 60, .inl (fun _ => 0)))] H := hP
  have hD : va_D A [(x0, .inr (3, [.ref q_7, .int 0, .int 0, .int 0, .ref q_31, .int 0, .null, .null, .null, .null])), (q_7, .inl (cS, 60, .inr (.inr (.inr (.inr (fun _ => none)))))), (q_31, .inl (cI, 60, .inl (fun _ => 0)))] := hD
  refine lv_aload_n hx hb dX3_init_41 rfl (lv_at hl 0 rfl) ?_
  refine va_new (ci := 1) (fs := [.long 0, .long 0]) (C := RX0) (T := TX0) (N := 2) hx hb hts in_X0 tyX0 tyX0_ok hown (hts (.classLink RX3 32 RX0) (by decide +kernel)) (hts (.instantiable RX0 2) (by decide +kernel)) (hts (.initialized RX0) (by decide +kernel)) hK hP hD hS hA rfl (fun j hj => by rcases (show j = 0 ∨ j = 1 by omega) with rfl | rfl <;> rfl) (Nat.le_of_ble_eq_true rfl) (Nat.le_of_ble_eq_true rfl) dX3_init_42 (fun q_42 H hP hD hS => ?_)
  refine W.widen (k := 3) (n := 122) (by omega) (by omega) ?_
  have hP : va_P D vwCl [(x0, .inr (3, [.ref q_7, .int 0, .int 0, .int 0, .ref q_31, .int 0, .null, .null, .null, .null])), (q_7, .inl (cS, 60, .inr (.inr (.inr (.inr (fun _ => none)))))), (q_31, .inl (cI, 60, .inl (fun _ => 0))), (q_42, .inr (1, [.long 0, .long 0]))] H := hP
  have hD : va_D A [(x0, .inr (3, [.ref q_7, .int 0, .int 0, .int 0, .ref q_31, .int 0, .null, .null, .null, .null])), (q_7, .inl (cS, 60, .inr (.inr (.inr (.inr (fun _ => none)))))), (q_31, .inl (cI, 60, .inl (fun _ => 0))), (q_42, .inr (1, [.long 0, .long 0]))] := hD
  refine lv_dup hx hb dX3_init_45 rfl ?_
  have hFc := va_free (wc := fr_w q_42 (0, 0)) hD hS hA [3] rfl
  refine gx_cPv (v := ((0, 1) : fr_T)) (wf := fun u => fr_w q_42 u) (wr := ([(x0, .inr (3, [.ref q_7, .int 0, .int 0, .int 0, .ref q_31, .int 0, .null, .null, .null, .null])), (q_7, .inl (cS, 60, .inr (.inr (.inr (.inr (fun _ => none)))))), (q_31, .inl (cI, 60, .inl (fun _ => 0))), (q_42, .inr (1, [.long 0, .long 0]))] : va_W).eraseIdx 3) (w' := [(x0, .inr (3, [.ref q_7, .int 0, .int 0, .int 0, .ref q_31, .int 0, .null, .null, .null, .null])), (q_7, .inl (cS, 60, .inr (.inr (.inr (.inr (fun _ => none)))))), (q_31, .inl (cI, 60, .inl (fun _ => 0))), (q_42, .inr (1, [.long 0, .long 1]))]) (va_runIN (As := []) (rest := [.ref q_42, .ref x0]) ⟨hx, hb, hml, hown, hts⟩ (c_X0_init l D cI cJ cZ cS ad q_42 _ (0, 0) 0 (0, 1) rfl) ⟨va_cnB 0 hts gX3_init_X0_init_n34 rfl rfl rfl hZ.2 (hts (.initialized RX0) (by decide +kernel)) (by decide +kernel) ⟨Nat.le_of_ble_eq_true rfl, Nat.le_of_ble_eq_true rfl⟩, rfl, hts (.instanceMethod yX0_init) (by decide +kernel)⟩ ⟨gm_blind, gm_ok hK hE hS hFc (hP.sub [3] rfl) (hD.sub [3] (by decide) rfl) va_nil0 gx_nil⟩ rfl rfl hl.1 rfl (lv_room (Nat.le_of_ble_eq_true rfl)) dX3_init_46 ⟨Nat.le_of_ble_eq_true rfl, Nat.le_of_ble_eq_true rfl⟩) hP hD hS hFc [3] [0, 1, 2] rfl rfl (by decide) (by decide) [0, 1, 2, 3] (by decide) rfl (fun H locs hP hD hS => ?_)
  have hP : va_P D vwCl [(x0, .inr (3, [.ref q_7, .int 0, .int 0, .int 0, .ref q_31, .int 0, .null, .null, .null, .null])), (q_7, .inl (cS, 60, .inr (.inr (.inr (.inr (fun _ => none)))))), (q_31, .inl (cI, 60, .inl (fun _ => 0))), (q_42, .inr (1, [.long 0, .long 1]))] H := hP
  have hD : va_D A [(x0, .inr (3, [.ref q_7, .int 0, .int 0, .int 0, .ref q_31, .int 0, .null, .null, .null, .null])), (q_7, .inl (cS, 60, .inr (.inr (.inr (.inr (fun _ => none)))))), (q_31, .inl (cI, 60, .inl (fun _ => 0))), (q_42, .inr (1, [.long 0, .long 1]))] := hD
  refine va_putF (D := D) (ci := 3) (v := .ref q_42) (ty := .object "PlacePoints$Fraction") (C := RX3) (T := TX3) (N := 10) hx hb hts in_X tyX3 tyX3_ok nmX3 hown hK hP hD hS 0 rfl rfl 6 (by decide) (hts (.fieldLink RX3 35 "PlacePoints" "gap" "LPlacePoints$Fraction;") (by decide +kernel)) (fun _ h9 => h9) rfl hin rfl (by decide +kernel) rfl rfl (Nat.le_of_ble_eq_true rfl) dX3_init_49 (fun H locs hP hD hS => ?_)
  have hP : va_P D vwCl [(x0, .inr (3, [.ref q_7, .int 0, .int 0, .int 0, .ref q_31, .int 0, .ref q_42, .null, .null, .null])), (q_7, .inl (cS, 60, .inr (.inr (.inr (.inr (fun _ => none)))))), (q_31, .inl (cI, 60, .inl (fun _ => 0))), (q_42, .inr (1, [.long 0, .long 1]))] H := hP
  have hD : va_D A [(x0, .inr (3, [.ref q_7, .int 0, .int 0, .int 0, .ref q_31, .int 0, .ref q_42, .null, .null, .null])), (q_7, .inl (cS, 60, .inr (.inr (.inr (.inr (fun _ => none)))))), (q_31, .inl (cI, 60, .inl (fun _ => 0))), (q_42, .inr (1, [.long 0, .long 1]))] := hD
  refine lv_aload_n hx hb dX3_init_52 rfl (lv_at hl 0 rfl) ?_
  refine lv_bipush (v := 60) hx hb dX3_init_53 (by decide) ?_
  refine gx_newJ (N := 60) hx hb (hts (.arrayClass .long) (by decide +kernel)) hK hP hD hS hA (by decide) rfl (by decide) (Nat.le_of_ble_eq_true rfl) (Nat.le_of_ble_eq_true rfl) dX3_init_55 (fun q_55 H hP hD hS => ?_)
  refine W.widen (k := 4) (n := 182) (by omega) (by omega) ?_
  have hP : va_P D vwCl [(x0, .inr (3, [.ref q_7, .int 0, .int 0, .int 0, .ref q_31, .int 0, .ref q_42, .null, .null, .null])), (q_7, .inl (cS, 60, .inr (.inr (.inr (.inr (fun _ => none)))))), (q_31, .inl (cI, 60, .inl (fun _ => 0))), (q_42, .inr (1, [.long 0, .long 1])), (q_55, .inl (cJ, 60, .inr (.inl (fun _ => 0))))] H := hP
  have hD : va_D A [(x0, .inr (3, [.ref q_7, .int 0, .int 0, .int 0, .ref q_31, .int 0, .ref q_42, .null, .null, .null])), (q_7, .inl (cS, 60, .inr (.inr (.inr (.inr (fun _ => none)))))), (q_31, .inl (cI, 60, .inl (fun _ => 0))), (q_42, .inr (1, [.long 0, .long 1])), (q_55, .inl (cJ, 60, .inr (.inl (fun _ => 0))))] := hD
  refine va_putF (D := D) (ci := 3) (v := .ref q_55) (ty := .array .long) (C := RX3) (T := TX3) (N := 10) hx hb hts in_X tyX3 tyX3_ok nmX3 hown hK hP hD hS 0 rfl rfl 7 (by decide) (hts (.fieldLink RX3 39 "PlacePoints" "gapUppers" "[J") (by decide +kernel)) (fun _ h9 => h9) rfl hin rfl (by decide +kernel) rfl rfl (Nat.le_of_ble_eq_true rfl) dX3_init_57 (fun H locs hP hD hS => ?_)
  have hP : va_P D vwCl [(x0, .inr (3, [.ref q_7, .int 0, .int 0, .int 0, .ref q_31, .int 0, .ref q_42, .ref q_55, .null, .null])), (q_7, .inl (cS, 60, .inr (.inr (.inr (.inr (fun _ => none)))))), (q_31, .inl (cI, 60, .inl (fun _ => 0))), (q_42, .inr (1, [.long 0, .long 1])), (q_55, .inl (cJ, 60, .inr (.inl (fun _ => 0))))] H := hP
  have hD : va_D A [(x0, .inr (3, [.ref q_7, .int 0, .int 0, .int 0, .ref q_31, .int 0, .ref q_42, .ref q_55, .null, .null])), (q_7, .inl (cS, 60, .inr (.inr (.inr (.inr (fun _ => none)))))), (q_31, .inl (cI, 60, .inl (fun _ => 0))), (q_42, .inr (1, [.long 0, .long 1])), (q_55, .inl (cJ, 60, .inr (.inl (fun _ => 0))))] := hD
  refine lv_aload_n hx hb dX3_init_60 rfl (lv_at hl 0 rfl) ?_
  refine lv_bipush (v := 60) hx hb dX3_init_61 (by decide) ?_
  refine gx_newJ (N := 60) hx hb (hts (.arrayClass .long) (by decide +kernel)) hK hP hD hS hA (by decide) rfl (by decide) (Nat.le_of_ble_eq_true rfl) (Nat.le_of_ble_eq_true rfl) dX3_init_63 (fun q_63 H hP hD hS => ?_)
  refine W.widen (k := 5) (n := 242) (by omega) (by omega) ?_
  have hP : va_P D vwCl [(x0, .inr (3, [.ref q_7, .int 0, .int 0, .int 0, .ref q_31, .int 0, .ref q_42, .ref q_55, .null, .null])), (q_7, .inl (cS, 60, .inr (.inr (.inr (.inr (fun _ => none)))))), (q_31, .inl (cI, 60, .inl (fun _ => 0))), (q_42, .inr (1, [.long 0, .long 1])), (q_55, .inl (cJ, 60, .inr (.inl (fun _ => 0)))), (q_63, .inl (cJ, 60, .inr (.inl (fun _ => 0))))] H := hP
  have hD : va_D A [(x0, .inr (3, [.ref q_7, .int 0, .int 0, .int 0, .ref q_31, .int 0, .ref q_42, .ref q_55, .null, .null])), (q_7, .inl (cS, 60, .inr (.inr (.inr (.inr (fun _ => none)))))), (q_31, .inl (cI, 60, .inl (fun _ => 0))), (q_42, .inr (1, [.long 0, .long 1])), (q_55, .inl (cJ, 60, .inr (.inl (fun _ => 0)))), (q_63, .inl (cJ, 60, .inr (.inl (fun _ => 0))))] := hD
  refine va_putF (D := D) (ci := 3) (v := .ref q_63) (ty := .array .long) (C := RX3) (T := TX3) (N := 10) hx hb hts in_X tyX3 tyX3_ok nmX3 hown hK hP hD hS 0 rfl rfl 8 (by decide) (hts (.fieldLink RX3 43 "PlacePoints" "gapLowers" "[J") (by decide +kernel)) (fun _ h9 => h9) rfl hin rfl (by decide +kernel) rfl rfl (Nat.le_of_ble_eq_true rfl) dX3_init_65 (fun H locs hP hD hS => ?_)
  have hP : va_P D vwCl [(x0, .inr (3, [.ref q_7, .int 0, .int 0, .int 0, .ref q_31, .int 0, .ref q_42, .ref q_55, .ref q_63, .null])), (q_7, .inl (cS, 60, .inr (.inr (.inr (.inr (fun _ => none)))))), (q_31, .inl (cI, 60, .inl (fun _ => 0))), (q_42, .inr (1, [.long 0, .long 1])), (q_55, .inl (cJ, 60, .inr (.inl (fun _ => 0)))), (q_63, .inl (cJ, 60, .inr (.inl (fun _ => 0))))] H := hP
  have hD : va_D A [(x0, .inr (3, [.ref q_7, .int 0, .int 0, .int 0, .ref q_31, .int 0, .ref q_42, .ref q_55, .ref q_63, .null])), (q_7, .inl (cS, 60, .inr (.inr (.inr (.inr (fun _ => none)))))), (q_31, .inl (cI, 60, .inl (fun _ => 0))), (q_42, .inr (1, [.long 0, .long 1])), (q_55, .inl (cJ, 60, .inr (.inl (fun _ => 0)))), (q_63, .inl (cJ, 60, .inr (.inl (fun _ => 0))))] := hD
  refine lv_aload_n hx hb dX3_init_68 rfl (lv_at hl 0 rfl) ?_
  refine lv_bipush (v := 60) hx hb dX3_init_69 (by decide) ?_
  refine gx_newI (N := 60) hx hb (hts (.arrayClass .int) (by decide +kernel)) hK hP hD hS hA (by decide) rfl (by decide) (Nat.le_of_ble_eq_true rfl) (Nat.le_of_ble_eq_true rfl) dX3_init_71 (fun q_71 H hP hD hS => ?_)
  refine W.widen (k := 6) (n := 302) (by omega) (by omega) ?_
  have hP : va_P D vwCl [(x0, .inr (3, [.ref q_7, .int 0, .int 0, .int 0, .ref q_31, .int 0, .ref q_42, .ref q_55, .ref q_63, .null])), (q_7, .inl (cS, 60, .inr (.inr (.inr (.inr (fun _ => none)))))), (q_31, .inl (cI, 60, .inl (fun _ => 0))), (q_42, .inr (1, [.long 0, .long 1])), (q_55, .inl (cJ, 60, .inr (.inl (fun _ => 0)))), (q_63, .inl (cJ, 60, .inr (.inl (fun _ => 0)))), (q_71, .inl (cI, 60, .inl (fun _ => 0)))] H := hP
  have hD : va_D A [(x0, .inr (3, [.ref q_7, .int 0, .int 0, .int 0, .ref q_31, .int 0, .ref q_42, .ref q_55, .ref q_63, .null])), (q_7, .inl (cS, 60, .inr (.inr (.inr (.inr (fun _ => none)))))), (q_31, .inl (cI, 60, .inl (fun _ => 0))), (q_42, .inr (1, [.long 0, .long 1])), (q_55, .inl (cJ, 60, .inr (.inl (fun _ => 0)))), (q_63, .inl (cJ, 60, .inr (.inl (fun _ => 0)))), (q_71, .inl (cI, 60, .inl (fun _ => 0)))] := hD
  refine va_putF (D := D) (ci := 3) (v := .ref q_71) (ty := .array .int) (C := RX3) (T := TX3) (N := 10) hx hb hts in_X tyX3 tyX3_ok nmX3 hown hK hP hD hS 0 rfl rfl 9 (by decide) (hts (.fieldLink RX3 46 "PlacePoints" "sortedNumbers" "[I") (by decide +kernel)) (fun _ h9 => h9) rfl hin rfl (by decide +kernel) rfl rfl (Nat.le_of_ble_eq_true rfl) dX3_init_73 (fun H locs hP hD hS => ?_)
  have hP : va_P D vwCl [(x0, .inr (3, [.ref q_7, .int 0, .int 0, .int 0, .ref q_31, .int 0, .ref q_42, .ref q_55, .ref q_63, .ref q_71])), (q_7, .inl (cS, 60, .inr (.inr (.inr (.inr (fun _ => none)))))), (q_31, .inl (cI, 60, .inl (fun _ => 0))), (q_42, .inr (1, [.long 0, .long 1])), (q_55, .inl (cJ, 60, .inr (.inl (fun _ => 0)))), (q_63, .inl (cJ, 60, .inr (.inl (fun _ => 0)))), (q_71, .inl (cI, 60, .inl (fun _ => 0)))] H := hP
  have hD : va_D A [(x0, .inr (3, [.ref q_7, .int 0, .int 0, .int 0, .ref q_31, .int 0, .ref q_42, .ref q_55, .ref q_63, .ref q_71])), (q_7, .inl (cS, 60, .inr (.inr (.inr (.inr (fun _ => none)))))), (q_31, .inl (cI, 60, .inl (fun _ => 0))), (q_42, .inr (1, [.long 0, .long 1])), (q_55, .inl (cJ, 60, .inr (.inl (fun _ => 0)))), (q_63, .inl (cJ, 60, .inr (.inl (fun _ => 0)))), (q_71, .inl (cI, 60, .inl (fun _ => 0)))] := hD
  exact W.vret hx hb hr (fun t ht hW => ⟨⟨(q_7, q_31, q_42, q_55, q_63, q_71), rfl, trivial, by rw [ht]; exact hP, hD⟩, hS.F ht⟩) hS.2.2 dX3_init_76
