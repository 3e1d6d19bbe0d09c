abbrev en_n (k : Nat) : Nat := ([2, 25, 25] : List Nat).getD k 0
abbrev sh_0 (k : Nat) : sh_T := (k, 0, 0, en_n k, fun _ => 0, fun _ => 0, 10000, 10000, -10000, -10000)
theorem en_nn {k : Nat} (hk : k < 3) : ¬ (en_m k + 1) < 0 := by
  rcases (show k = 0 ∨ k = 1 ∨ k = 2 by omega) with rfl | rfl | rfl <;> decide
theorem en_nN {k : Nat} (hk : k < 3) : (en_m k + 1).toNatClampNeg = en_n k := by
  rcases (show k = 0 ∨ k = 1 ∨ k = 2 by omega) with rfl | rfl | rfl <;> decide
theorem en_nb {k : Nat} (hk : k < 3) : en_n k ≤ 25 := by
  rcases (show k = 0 ∨ k = 1 ∨ k = 2 by omega) with rfl | rfl | rfl <;> decide
theorem gx_cI {D : va_G} {cI cJ cZ cS cA : ClassId} {s : State} (hK : gl_K D cI cJ cZ cS s) (h : va_K D vwCl ([(cI, .int), (cJ, .long), (cZ, .boolean), (cS, .object "PlacePoints$Shape")] ++ [(cA, .int)]) s) : cI = cA := by
  have h1 : s.vm.findClass ("[" ++ FieldType.int.toString) = some cI := (hK.2 0 _ rfl).2
  have h2 : s.vm.findClass ("[" ++ FieldType.int.toString) = some cA := (h.2 4 _ rfl).2
  exact Option.some.inj (h1.symm.trans h2)
theorem gx_cJ {D : va_G} {cI cJ cZ cS cA : ClassId} {s : State} (hK : gl_K D cI cJ cZ cS s) (h : va_K D vwCl ([(cI, .int), (cJ, .long), (cZ, .boolean), (cS, .object "PlacePoints$Shape")] ++ [(cA, .long)]) s) : cJ = cA := by
  have h1 : s.vm.findClass ("[" ++ FieldType.long.toString) = some cJ := (hK.2 1 _ rfl).2
  have h2 : s.vm.findClass ("[" ++ FieldType.long.toString) = some cA := (h.2 4 _ rfl).2
  exact Option.some.inj (h1.symm.trans h2)
theorem gx_cZ {D : va_G} {cI cJ cZ cS cA : ClassId} {s : State} (hK : gl_K D cI cJ cZ cS s) (h : va_K D vwCl ([(cI, .int), (cJ, .long), (cZ, .boolean), (cS, .object "PlacePoints$Shape")] ++ [(cA, .boolean)]) s) : cZ = cA := by
  have h1 : s.vm.findClass ("[" ++ FieldType.boolean.toString) = some cZ := (hK.2 2 _ rfl).2
  have h2 : s.vm.findClass ("[" ++ FieldType.boolean.toString) = some cA := (h.2 4 _ rfl).2
  exact Option.some.inj (h1.symm.trans h2)
theorem gx_cS {D : va_G} {cI cJ cZ cS cA : ClassId} {s : State} (hK : gl_K D cI cJ cZ cS s) (h : va_K D vwCl ([(cI, .int), (cJ, .long), (cZ, .boolean), (cS, .object "PlacePoints$Shape")] ++ [(cA, .object "PlacePoints$Shape")]) s) : cS = cA := by
  obtain ⟨_, _, -, -, -, h1⟩ := (hK.2 3 _ rfl).2
  obtain ⟨_, _, -, -, -, h2⟩ := (h.2 4 _ rfl).2
  exact Option.some.inj (h1.symm.trans h2)
section GXA
variable {p : Program} {l : Launch} {e : Env} {R : Room} {s : State} {m : MethodId} {args : Array Value} {below : List Frame} {meth : Method} {c : Code} {H : Heap} {locs : List Loc} {cells slots : Nat} {Q : State → Prop}
variable {cc : ByteArray} {pc : Nat} {ls : Array Slot} {rest : List Value} {D : va_G} {A : Nat → Prop} {ws : va_W} {H0 : Heap} {cI cJ cZ cS : ClassId}
theorem gx_b4 (n : Nat) (h : n ≤ 2000) : n * componentBytes .int ≤ 536870912 := Nat.le_trans (Nat.mul_le_mul_right _ h) (by decide)
theorem gx_b8 (n : Nat) (h : n ≤ 2000) : n * componentBytes .long ≤ 536870912 := Nat.le_trans (Nat.mul_le_mul_right _ h) (by decide)
theorem gx_b1 (n : Nat) (h : n ≤ 2000) : n * componentBytes .boolean ≤ 536870912 := Nat.le_trans (Nat.mul_le_mul_right _ h) (by decide)
theorem gx_newI (hexec : p.tables.exec = Jvm.exec) (hb : c.code = cc) (harr : (Cond.arrayClass .int).before args s = true) (hK : gl_K D cI cJ cZ cS s) (hP : va_P D vwCl ws H) (hD : va_D A ws) (hS : va_S A H0 H locs) (hA : ∀ q, H0.size ≤ q → A q) {n : Int32} {N : Nat} (hn : ¬ n < 0) (hN : n.toNatClampNeg = N) (hbd : N ≤ 2000) (hcells : cells + 1 ≤ R.cells) (hslots : slots + N ≤ R.slots) (hdg : decode cc pc = .ok (.newarray .int, 2))
    (kk : ∀ (q : Nat) (H1 : Heap), va_P D vwCl (ws ++ [(q, .inl (cI, N, .inl (fun _ => 0)))]) H1 → va_D A (ws ++ [(q, .inl (cI, N, .inl (fun _ => 0)))]) → va_S A H0 H1 locs → W p l e R s m args below meth c H1 locs (cells + 1) (slots + N) Q (F0 m (pc + 2) ls (.ref q :: rest))) : W p l e R s m args below meth c H locs cells slots Q (F0 m pc ls (.int n :: rest)) :=
  va_newa (atype := .int) (ty := .int) (a0 := (N, .inl (fun _ => 0))) hexec hb harr rfl hK hP hD hS hA (fun cA => vp_cell_i cA N (fun _ => 0)) hn hN (gx_b4 N hbd) hcells hslots hdg (fun q cA H1 hK9 hP1 hD1 hS1 => by
    obtain rfl := gx_cI hK hK9
    exact kk q H1 hP1 hD1 hS1)
theorem gx_newJ (hexec : p.tables.exec = Jvm.exec) (hb : c.code = cc) (harr : (Cond.arrayClass .long).before args s = true) (hK : gl_K D cI cJ cZ cS s) (hP : va_P D vwCl ws H) (hD : va_D A ws) (hS : va_S A H0 H locs) (hA : ∀ q, H0.size ≤ q → A q) {n : Int32} {N : Nat} (hn : ¬ n < 0) (hN : n.toNatClampNeg = N) (hbd : N ≤ 2000) (hcells : cells + 1 ≤ R.cells) (hslots : slots + N ≤ R.slots) (hdg : decode cc pc = .ok (.newarray .long, 2))
    (kk : ∀ (q : Nat) (H1 : Heap), va_P D vwCl (ws ++ [(q, .inl (cJ, N, .inr (.inl (fun _ => 0))))]) H1 → va_D A (ws ++ [(q, .inl (cJ, N, .inr (.inl (fun _ => 0))))]) → va_S A H0 H1 locs → W p l e R s m args below meth c H1 locs (cells + 1) (slots + N) Q (F0 m (pc + 2) ls (.ref q :: rest))) : W p l e R s m args below meth c H locs cells slots Q (F0 m pc ls (.int n :: rest)) :=
  va_newa (atype := .long) (ty := .long) (a0 := (N, .inr (.inl (fun _ => 0)))) hexec hb harr rfl hK hP hD hS hA (fun cA => vp_cell_l cA N (fun _ => 0)) hn hN (gx_b8 N hbd) hcells hslots hdg (fun q cA H1 hK9 hP1 hD1 hS1 => by
    obtain rfl := gx_cJ hK hK9
    exact kk q H1 hP1 hD1 hS1)
theorem gx_newZ (hexec : p.tables.exec = Jvm.exec) (hb : c.code = cc) (harr : (Cond.arrayClass .boolean).before args s = true) (hK : gl_K D cI cJ cZ cS s) (hP : va_P D vwCl ws H) (hD : va_D A ws) (hS : va_S A H0 H locs) (hA : ∀ q, H0.size ≤ q → A q) {n : Int32} {N : Nat} (hn : ¬ n < 0) (hN : n.toNatClampNeg = N) (hbd : N ≤ 2000) (hcells : cells + 1 ≤ R.cells) (hslots : slots + N ≤ R.slots) (hdg : decode cc pc = .ok (.newarray .boolean, 2))
    (kk : ∀ (q : Nat) (H1 : Heap), va_P D vwCl (ws ++ [(q, .inl (cZ, N, .inl (fun _ => 0)))]) H1 → va_D A (ws ++ [(q, .inl (cZ, N, .inl (fun _ => 0)))]) → va_S A H0 H1 locs → W p l e R s m args below meth c H1 locs (cells + 1) (slots + N) Q (F0 m (pc + 2) ls (.ref q :: rest))) : W p l e R s m args below meth c H locs cells slots Q (F0 m pc ls (.int n :: rest)) :=
  va_newa (atype := .boolean) (ty := .boolean) (a0 := (N, .inl (fun _ => 0))) hexec hb harr rfl hK hP hD hS hA (fun cA => vp_cell_i cA N (fun _ => 0)) hn hN (gx_b1 N hbd) hcells hslots hdg (fun q cA H1 hK9 hP1 hD1 hS1 => by
    obtain rfl := gx_cZ hK hK9
    exact kk q H1 hP1 hD1 hS1)
end GXA
theorem gx_sl (a b : Nat) {n : Nat} (h : n ≤ 25) (hb : a + 25 ≤ b) : a + n ≤ b := by omega
/-- the start of a constructor -/
def gc_P (D : va_G) (cI cJ cZ cS : ClassId) (ad : Nat → Nat) (sz : Nat) (w : va_W) (Z : State → Prop) (av : List Value) : Array Value → State → Prop := va_Pc av (fun U => U.heap.size = sz ∧ gl_K D cI cJ cZ cS U ∧ gl_E ad (va_A w sz) U U.heap ∧ va_P D vwCl w U.heap ∧ va_D (fun _ => True) w ∧ Z U)
abbrev rm_X0_init : Room := { frames := 1, cells := 0, slots := 0, locals := 12 }
theorem in_X0_init_X0 : ∀ w ∈ wsX00, w ∈ wsX0_init := by decide +kernel
set_option maxHeartbeats 4000000 in
set_option maxRecDepth 100000 in
theorem c_X0_init (l : Launch) (D : va_G) (cI cJ cZ cS : ClassId) (ad : Nat → Nat) (f0 : Nat) (sz : Nat) (Q : fr_T) (F : Nat) (r : fr_T) (hs : ((0, 1) : fr_T) = r) : Met l yX0_init wsX0_init rm_X0_init (gm_P D cI cJ cZ cS ad sz (fr_w f0 Q) ([]) [.ref f0]) (va_Qv (fun u : fr_T => u = r) (fun u t => va_P D vwCl (fr_w f0 u) t.heap ∧ va_D (va_A (fr_w f0 Q) sz) (fr_w f0 u)) (va_A (fr_w f0 Q) sz)) 0 0 (va_A (fr_w f0 Q) sz) := by
  subst hs
  refine Met.ofW (cc := cX0_init) (maxL := 1) (ret := none) (by decide) rfl ?_
  intro p e s m args below meth c s₁ B hml hv
  obtain ⟨rfl, hsz, hK, hE, hP, hD0, hR, hRn0⟩ := hv
  have hx := B.exec
  have hb := B.bytes
  have hr := B.returns
  have hts := atoms_spec (ws := wsX0_init) B.pre
  have hown : s.vm.findClass RX0 = some m.cls := findClass_of_methodNamed B.named
  have hlocks := B.notSynchronized
  subst hsz
  have hD := hD0.self (sz := s.heap.size)
  generalize hAe : va_A (fr_w f0 Q) s.heap.size = A at hD hE ⊢
  have hA : ∀ q : Nat, s.heap.size ≤ q → A q := fun q h => by rw [← hAe]; exact Or.inr h
  have hS : va_S A s.heap s.heap [] := va_S.rf
  have in_X0 := in_X0_init_X0
  have hl := lv_entry ([.ref f0]) (n := 1) (Nat.le_of_ble_eq_true rfl)
  rw [lg_entry_eq]
  generalize (lg_sl ([.ref f0]) ++ List.replicate (1 - (lg_sl ([.ref f0])).length) Slot.unset).toArray = ls at hl ⊢
  have hl : lv_has ls 1 [(0, .ref f0)] := hl
  refine lv_aload_n hx hb dX0_init_0 rfl (lv_at hl 0 rfl) ?_
  refine W.objInit hx hb hown (hts (.methodLink RX0 1 objectInit) (by decide +kernel)) (hts (.instanceMethod objectInit) (by decide +kernel)) (hts _ (List.mem_cons_of_mem _ (List.mem_append_left _ (List.mem_of_getElem? (i := 2) rfl)))) rfl (by rw [hml]; exact hl.1) rfl dX0_init_1 (Nat.le_of_ble_eq_true rfl) (Nat.le_of_ble_eq_true rfl) ?_
  refine W.eq (g2 := F0 m 4 ls []) rfl ?_
  refine lv_aload_n hx hb dX0_init_4 rfl (lv_at hl 0 rfl) ?_
  refine lv_lconst (v := 0) hx hb dX0_init_5 (by decide) ?_
  refine va_put (D := D) (ci := 1) (v := .long 0) (ty := .long) (C := RX0) (T := TX0) (N := 2) hx hb hts in_X0 tyX0 tyX0_ok nmX0 hown hK hP hD hS 0 rfl rfl 0 (by decide) (hts (.fieldLink RX0 7 "PlacePoints$Fraction" "upper" "J") (by decide +kernel)) (fun _ h9 => h9) rfl (by decide +kernel) rfl rfl (Nat.le_of_ble_eq_true rfl) dX0_init_6 (fun H locs hP hD hS => ?_)
  have hP : va_P D vwCl (fr_w f0 (fs_u Q 0)) H := hP
  have hD : va_D A (fr_w f0 (fs_u Q 0)) := hD
  refine lv_aload_n hx hb dX0_init_9 rfl (lv_at hl 0 rfl) ?_
  refine lv_lconst (v := 1) hx hb dX0_init_10 (by decide) ?_
  refine va_put (D := D) (ci := 1) (v := .long 1) (ty := .long) (C := RX0) (T := TX0) (N := 2) hx hb hts in_X0 tyX0 tyX0_ok nmX0 hown hK hP hD hS 0 rfl rfl 1 (by decide) (hts (.fieldLink RX0 13 "PlacePoints$Fraction" "lower" "J") (by decide +kernel)) (fun _ h9 => h9) rfl (by decide +kernel) rfl rfl (Nat.le_of_ble_eq_true rfl) dX0_init_11 (fun H locs hP hD hS => ?_)
  have hP : va_P D vwCl (fr_w f0 (0, 1)) H := hP
  have hD : va_D A (fr_w f0 (0, 1)) := hD
  exact W.vret hx hb hr (fun t ht hW => ⟨⟨_, rfl, rfl, by rw [ht]; exact hP, hD⟩, hS.F ht⟩) hS.2.2 dX0_init_14
abbrev rm_X2_init : Room := { frames := 1, cells := 2, slots := 50, locals := 12 }
theorem in_X2_init_X2 : ∀ w ∈ wsX20, w ∈ wsX2_init := by decide +kernel
set_option maxHeartbeats 4000000 in
set_option maxRecDepth 100000 in
theorem c_X2_init (l : Launch) (D : va_G) (cI cJ cZ cS : ClassId) (ad : Nat → Nat) (h0 k : Nat) (hk : k < 3) (sz : Nat) : Met l yX2_init wsX2_init rm_X2_init (gc_P D cI cJ cZ cS ad sz [(h0, .inr (2, [.null, .int 0, .int 0, .null, .null, .int 0, .int 0, .int 0, .int 0]))] (fun _ => True) [.ref h0, .ref (ad k)]) (va_Qv (fun _ : Nat × Nat => True) (fun u t => va_P D vwCl (sh_w cI ad h0 u.1 u.2 (sh_0 k)) t.heap ∧ va_D (va_A ([(h0, .inr (2, [.null, .int 0, .int 0, .null, .null, .int 0, .int 0, .int 0, .int 0]))] : va_W) sz) (sh_w cI ad h0 u.1 u.2 (sh_0 k))) (va_A ([(h0, .inr (2, [.null, .int 0, .int 0, .null, .null, .int 0, .int 0, .int 0, .int 0]))] : va_W) sz)) 2 50 (va_A ([(h0, .inr (2, [.null, .int 0, .int 0, .null, .null, .int 0, .int 0, .int 0, .int 0]))] : va_W) sz) := by
  refine Met.ofW (cc := cX2_init) (maxL := 2) (ret := none) (by decide) rfl ?_
  intro p e s m args below meth c s₁ B hml hv
  obtain ⟨rfl, hsz, hK, hE, hP, hD0, hZ⟩ := hv
  have hx := B.exec
  have hb := B.bytes
  have hr := B.returns
  have hts := atoms_spec (ws := wsX2_init) B.pre
  have hown : s.vm.findClass RX2 = some m.cls := findClass_of_methodNamed B.named
  have hlocks := B.notSynchronized
  have hin : meth.name = "<init>" := (name_of_methodNamed B.named B.method).1
  subst hsz
  have hD := hD0.self (sz := s.heap.size)
  generalize hAe : va_A ([(h0, .inr (2, [.null, .int 0, .int 0, .null, .null, .int 0, .int 0, .int 0, .int 0]))] : va_W) s.heap.size = A at hD hE ⊢
  have hA : ∀ q : Nat, s.heap.size ≤ q → A q := fun q h => by rw [← hAe]; exact Or.inr h
  have hS : va_S A s.heap s.heap [] := va_S.rf
  have in_X := in_X2_init_X2
  have hl := lv_entry ([.ref h0, .ref (ad k)]) (n := 2) (Nat.le_of_ble_eq_true rfl)
  rw [lg_entry_eq]
  generalize (lg_sl ([.ref h0, .ref (ad k)]) ++ List.replicate (2 - (lg_sl ([.ref h0, .ref (ad k)])).length) Slot.unset).toArray = ls at hl ⊢
  have hl : lv_has ls 2 [(0, .ref h0), (1, .ref (ad k))] := hl
  refine lv_aload_n hx hb dX2_init_0 rfl (lv_at hl 0 rfl) ?_
  refine W.objInit hx hb hown (hts (.methodLink RX2 3 objectInit) (by decide +kernel)) (hts (.instanceMethod objectInit) (by decide +kernel)) (hts _ (List.mem_cons_of_mem _ (List.mem_append_left _ (List.mem_of_getElem? (i := 2) rfl)))) rfl (by rw [hml]; exact hl.1) rfl dX2_init_1 (Nat.le_of_ble_eq_true rfl) (Nat.le_of_ble_eq_true rfl) ?_
  refine W.eq (g2 := F0 m 4 ls []) rfl ?_
  refine lv_aload_n hx hb dX2_init_4 rfl (lv_at hl 0 rfl) ?_
  refine lv_iconst (v := 0) hx hb dX2_init_5 (by decide) ?_
  refine va_put (D := D) (ci := 2) (v := .int 0) (ty := .int) (C := RX2) (T := TX2) (N := 9) hx hb hts in_X tyX2 tyX2_ok nmX2 hown hK hP hD hS 0 rfl rfl 1 (by decide) (hts (.fieldLink RX2 9 "PlacePoints$Shape" "size" "I") (by decide +kernel)) (fun _ h9 => h9) rfl (by decide +kernel) rfl rfl (Nat.le_of_ble_eq_true rfl) dX2_init_6 (fun H locs hP hD hS => ?_)
  have hP : va_P D vwCl [(h0, .inr (2, [.null, .int 0, .int 0, .null, .null, .int 0, .int 0, .int 0, .int 0]))] H := hP
  have hD : va_D A [(h0, .inr (2, [.null, .int 0, .int 0, .null, .null, .int 0, .int 0, .int 0, .int 0]))] := hD
  refine lv_aload_n hx hb dX2_init_9 rfl (lv_at hl 0 rfl) ?_
  refine lv_iconst (v := 0) hx hb dX2_init_10 (by decide) ?_
  refine va_put (D := D) (ci := 2) (v := .int 0) (ty := .int) (C := RX2) (T := TX2) (N := 9) hx hb hts in_X tyX2 tyX2_ok nmX2 hown hK hP hD hS 0 rfl rfl 2 (by decide) (hts (.fieldLink RX2 15 "PlacePoints$Shape" "verdict" "I") (by decide +kernel)) (fun _ h9 => h9) rfl (by decide +kernel) rfl rfl (Nat.le_of_ble_eq_true rfl) dX2_init_11 (fun H locs hP hD hS => ?_)
  have hP : va_P D vwCl [(h0, .inr (2, [.null, .int 0, .int 0, .null, .null, .int 0, .int 0, .int 0, .int 0]))] H := hP
  have hD : va_D A [(h0, .inr (2, [.null, .int 0, .int 0, .null, .null, .int 0, .int 0, .int 0, .int 0]))] := hD
  refine lv_aload_n hx hb dX2_init_14 rfl (lv_at hl 0 rfl) ?_
  refine lv_sipush (v := 10000) hx hb dX2_init_15 (by decide) ?_
  refine va_put (D := D) (ci := 2) (v := .int 10000) (ty := .int) (C := RX2) (T := TX2) (N := 9) hx hb hts in_X tyX2 tyX2_ok nmX2 hown hK hP hD hS 0 rfl rfl 5 (by decide) (hts (.fieldLink RX2 18 "PlacePoints$Shape" "lowX" "I") (by decide +kernel)) (fun _ h9 => h9) rfl (by decide +kernel) rfl rfl (Nat.le_of_ble_eq_true rfl) dX2_init_18 (fun H locs hP hD hS => ?_)
  have hP : va_P D vwCl [(h0, .inr (2, [.null, .int 0, .int 0, .null, .null, .int 10000, .int 0, .int 0, .int 0]))] H := hP
  have hD : va_D A [(h0, .inr (2, [.null, .int 0, .int 0, .null, .null, .int 10000, .int 0, .int 0, .int 0]))] := hD
  refine lv_aload_n hx hb dX2_init_21 rfl (lv_at hl 0 rfl) ?_
  refine lv_sipush (v := 10000) hx hb dX2_init_22 (by decide) ?_
  refine va_put (D := D) (ci := 2) (v := .int 10000) (ty := .int) (C := RX2) (T := TX2) (N := 9) hx hb hts in_X tyX2 tyX2_ok nmX2 hown hK hP hD hS 0 rfl rfl 6 (by decide) (hts (.fieldLink RX2 21 "PlacePoints$Shape" "lowY" "I") (by decide +kernel)) (fun _ h9 => h9) rfl (by decide +kernel) rfl rfl (Nat.le_of_ble_eq_true rfl) dX2_init_25 (fun H locs hP hD hS => ?_)
  have hP : va_P D vwCl [(h0, .inr (2, [.null, .int 0, .int 0, .null, .null, .int 10000, .int 10000, .int 0, .int 0]))] H := hP
  have hD : va_D A [(h0, .inr (2, [.null, .int 0, .int 0, .null, .null, .int 10000, .int 10000, .int 0, .int 0]))] := hD
  refine lv_aload_n hx hb dX2_init_28 rfl (lv_at hl 0 rfl) ?_
  refine lv_sipush (v := -10000) hx hb dX2_init_29 (by decide) ?_
  refine va_put (D := D) (ci := 2) (v := .int (-10000)) (ty := .int) (C := RX2) (T := TX2) (N := 9) hx hb hts in_X tyX2 tyX2_ok nmX2 hown hK hP hD hS 0 rfl rfl 7 (by decide) (hts (.fieldLink RX2 24 "PlacePoints$Shape" "highX" "I") (by decide +kernel)) (fun _ h9 => h9) rfl (by decide +kernel) rfl rfl (Nat.le_of_ble_eq_true rfl) dX2_init_32 (fun H locs hP hD hS => ?_)
  have hP : va_P D vwCl [(h0, .inr (2, [.null, .int 0, .int 0, .null, .null, .int 10000, .int 10000, .int (-10000), .int 0]))] H := hP
  have hD : va_D A [(h0, .inr (2, [.null, .int 0, .int 0, .null, .null, .int 10000, .int 10000, .int (-10000), .int 0]))] := hD
  refine lv_aload_n hx hb dX2_init_35 rfl (lv_at hl 0 rfl) ?_
  refine lv_sipush (v := -10000) hx hb dX2_init_36 (by decide) ?_
  refine va_put (D := D) (ci := 2) (v := .int (-10000)) (ty := .int) (C := RX2) (T := TX2) (N := 9) hx hb hts in_X tyX2 tyX2_ok nmX2 hown hK hP hD hS 0 rfl rfl 8 (by decide) (hts (.fieldLink RX2 27 "PlacePoints$Shape" "highY" "I") (by decide +kernel)) (fun _ h9 => h9) rfl (by decide +kernel) rfl rfl (Nat.le_of_ble_eq_true rfl) dX2_init_39 (fun H locs hP hD hS => ?_)
  have hP : va_P D vwCl [(h0, .inr (2, [.null, .int 0, .int 0, .null, .null, .int 10000, .int 10000, .int (-10000), .int (-10000)]))] H := hP
  have hD : va_D A [(h0, .inr (2, [.null, .int 0, .int 0, .null, .null, .int 10000, .int 10000, .int (-10000), .int (-10000)]))] := hD
  refine lv_aload_n hx hb dX2_init_42 rfl (lv_at hl 0 rfl) ?_
  refine lv_aload_n hx hb dX2_init_43 rfl (lv_at hl 1 rfl) ?_
  refine va_putF (D := D) (ci := 2) (v := .ref (ad k)) (ty := .object "PlacePoints$Kind") (C := RX2) (T := TX2) (N := 9) hx hb hts in_X tyX2 tyX2_ok nmX2 hown hK hP hD hS 0 rfl rfl 0 (by decide) (hts (.fieldLink RX2 30 "PlacePoints$Shape" "kind" "LPlacePoints$Kind;") (by decide +kernel)) (fun _ h9 => h9) rfl hin rfl (by decide +kernel) rfl rfl (Nat.le_of_ble_eq_true rfl) dX2_init_44 (fun H locs hP hD hS => ?_)
  have hP : va_P D vwCl [(h0, .inr (2, [.ref (ad k), .int 0, .int 0, .null, .null, .int 10000, .int 10000, .int (-10000), .int (-10000)]))] H := hP
  have hD : va_D A [(h0, .inr (2, [.ref (ad k), .int 0, .int 0, .null, .null, .int 10000, .int 10000, .int (-10000), .int (-10000)]))] := hD
  refine lv_aload_n hx hb dX2_init_47 rfl (lv_at hl 0 rfl) ?_
  refine lv_aload_n hx hb dX2_init_48 rfl (lv_at hl 1 rfl) ?_
  refine va_getE (q := ("PlacePoints$Kind", "most", "I", [1, 24, 24])) hx hb hE (show k < 3 from hk) hS hown (by simp) (hts (.fieldLink RX2 34 "PlacePoints$Kind" "most" "I") (by decide +kernel)) (fun _ h9 => h9) dX2_init_49 ?_
  refine W.eq (g2 := F0 m 52 ls [.int (en_m k), .ref h0]) rfl ?_
  refine lv_iconst (v := 1) hx hb dX2_init_52 (by decide) ?_
  refine lv_iadd hx hb dX2_init_53 ?_
  refine gx_newI (N := en_n k) hx hb (hts (.arrayClass .int) (by decide +kernel)) hK hP hD hS hA (en_nn hk) (en_nN hk) (Nat.le_trans (en_nb hk) (by decide)) (Nat.le_of_ble_eq_true rfl) (gx_sl 0 50 (en_nb hk) (by decide)) dX2_init_54 (fun q_54 H hP hD hS => ?_)
  refine W.widen (k := 1) (n := 25) (by omega) (by have := en_nb hk; omega) ?_
  have hP : va_P D vwCl [(h0, .inr (2, [.ref (ad k), .int 0, .int 0, .null, .null, .int 10000, .int 10000, .int (-10000), .int (-10000)])), (q_54, .inl (cI, en_n k, .inl (fun _ => 0)))] H := hP
  have hD : va_D A [(h0, .inr (2, [.ref (ad k), .int 0, .int 0, .null, .null, .int 10000, .int 10000, .int (-10000), .int (-10000)])), (q_54, .inl (cI, en_n k, .inl (fun _ => 0)))] := hD
  refine va_putF (D := D) (ci := 2) (v := .ref q_54) (ty := .array .int) (C := RX2) (T := TX2) (N := 9) hx hb hts in_X tyX2 tyX2_ok nmX2 hown hK hP hD hS 0 rfl rfl 3 (by decide) (hts (.fieldLink RX2 39 "PlacePoints$Shape" "xs" "[I") (by decide +kernel)) (fun _ h9 => h9) rfl hin rfl (by decide +kernel) rfl rfl (Nat.le_of_ble_eq_true rfl) dX2_init_56 (fun H locs hP hD hS => ?_)
  have hP : va_P D vwCl [(h0, .inr (2, [.ref (ad k), .int 0, .int 0, .ref q_54, .null, .int 10000, .int 10000, .int (-10000), .int (-10000)])), (q_54, .inl (cI, en_n k, .inl (fun _ => 0)))] H := hP
  have hD : va_D A [(h0, .inr (2, [.ref (ad k), .int 0, .int 0, .ref q_54, .null, .int 10000, .int 10000, .int (-10000), .int (-10000)])), (q_54, .inl (cI, en_n k, .inl (fun _ => 0)))] := hD
  refine lv_aload_n hx hb dX2_init_59 rfl (lv_at hl 0 rfl) ?_
  refine lv_aload_n hx hb dX2_init_60 rfl (lv_at hl 1 rfl) ?_
  refine va_getE (q := ("PlacePoints$Kind", "most", "I", [1, 24, 24])) hx hb hE (show k < 3 from hk) hS hown (by simp) (hts (.fieldLink RX2 34 "PlacePoints$Kind" "most" "I") (by decide +kernel)) (fun _ h9 => h9) dX2_init_61 ?_
  refine W.eq (g2 := F0 m 64 ls [.int (en_m k), .ref h0]) rfl ?_
  refine lv_iconst (v := 1) hx hb dX2_init_64 (by decide) ?_
  refine lv_iadd hx hb dX2_init_65 ?_
  refine gx_newI (N := en_n k) hx hb (hts (.arrayClass .int) (by decide +kernel)) hK hP hD hS hA (en_nn hk) (en_nN hk) (Nat.le_trans (en_nb hk) (by decide)) (Nat.le_of_ble_eq_true rfl) (gx_sl 25 50 (en_nb hk) (by decide)) dX2_init_66 (fun q_66 H hP hD hS => ?_)
  refine W.widen (k := 2) (n := 50) (by omega) (by have := en_nb hk; omega) ?_
  have hP : va_P D vwCl [(h0, .inr (2, [.ref (ad k), .int 0, .int 0, .ref q_54, .null, .int 10000, .int 10000, .int (-10000), .int (-10000)])), (q_54, .inl (cI, en_n k, .inl (fun _ => 0))), (q_66, .inl (cI, en_n k, .inl (fun _ => 0)))] H := hP
  have hD : va_D A [(h0, .inr (2, [.ref (ad k), .int 0, .int 0, .ref q_54, .null, .int 10000, .int 10000, .int (-10000), .int (-10000)])), (q_54, .inl (cI, en_n k, .inl (fun _ => 0))), (q_66, .inl (cI, en_n k, .inl (fun _ => 0)))] := hD
  refine va_putF (D := D) (ci := 2) (v := .ref q_66) (ty := .array .int) (C := RX2) (T := TX2) (N := 9) hx hb hts in_X tyX2 tyX2_ok nmX2 hown hK hP hD hS 0 rfl rfl 4 (by decide) (hts (.fieldLink RX2 43 "PlacePoints$Shape" "ys" "[I") (by decide +kernel)) (fun _ h9 => h9) rfl hin rfl (by decide +kernel) rfl rfl (Nat.le_of_ble_eq_true rfl) dX2_init_68 (fun H locs hP hD hS => ?_)
  have hP : va_P D vwCl [(h0, .inr (2, [.ref (ad k), .int 0, .int 0, .ref q_54, .ref q_66, .int 10000, .int 10000, .int (-10000), .int (-10000)])), (q_54, .inl (cI, en_n k, .inl (fun _ => 0))), (q_66, .inl (cI, en_n k, .inl (fun _ => 0)))] H := hP
  have hD : va_D A [(h0, .inr (2, [.ref (ad k), .int 0, .int 0, .ref q_54, .ref q_66, .int 10000, .int 10000, .int (-10000), .int (-10000)])), (q_54, .inl (cI, en_n k, .inl (fun _ => 0))), (q_66, .inl (cI, en_n k, .inl (fun _ => 0)))] := hD
  exact W.vret hx hb hr (fun t ht hW => ⟨⟨(q_54, q_66), rfl, trivial, by rw [ht]; exact hP, hD⟩, hS.F ht⟩) hS.2.2 dX2_init_71
