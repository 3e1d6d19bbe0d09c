-- throwing: the words of a throw, and the two statics that it reads
def tz (n d : String) (A : Nat → Prop) (U : State) (H : Heap) : Prop := va_Zq Bundle.tN n d A U H ∧ ∃ (c : ClassId) (k : Class) (i : Nat) (f : Field) (a : Nat) (cell : Cell), U.vm.findClass Bundle.tN = some c ∧ U.fieldFound? Bundle.tN n d = some (c, k, i, f) ∧ f.isStatic = true ∧ k.statics = some a ∧ H[a]? = some cell ∧ cell.vm.isStatics = true ∧ cell.cls = c ∧ f.slot < cell.slots.size ∧ k.staticTypes[f.slot]? = some f.type ∧ ¬ A a
theorem tz.moved {n d : String} {A : Nat → Prop} {u U : State} {H : Heap} (hvm : u.vm.Alike U.vm) (h : tz n d A u H) : tz n d A U H := by
  obtain ⟨h0, c, k, i, f, a, cell, h1, h2, h3, h4, h5, h6, h7, h8, h9, h10⟩ := h
  obtain ⟨k', e1, e2⟩ := State.fieldFound?_setVm hvm h2
  exact ⟨va_Zq.moved hvm h0, c, k', i, f, a, cell, by rw [hvm.findClass]; exact h1, e1, h3, by rw [e2]; exact h4, h5, h6, h7, h8, by rw [e2]; exact h9, h10⟩
theorem tz.kept {n d : String} {A : Nat → Prop} {U : State} {H H1 : Heap} (h : tz n d A U H) (hq : ∀ a : Nat, a < H.size → ¬ A a → H1[a]? = H[a]?) : tz n d A U H1 := by
  obtain ⟨h0, c, k, i, f, a, cell, h1, h2, h3, h4, h5, h6, h7, h8, h9, h10⟩ := h
  exact ⟨va_Zq.kept h0 hq, c, k, i, f, a, cell, h1, h2, h3, h4, (hq a (Array.getElem?_eq_some_iff.mp h5).1 h10).trans h5, h6, h7, h8, h9, h10⟩
theorem tz.narrow {n d : String} {A B : Nat → Prop} {U : State} {H : Heap} (h : tz n d A U H) (hAB : ∀ q, B q → A q) : tz n d B U H := by
  obtain ⟨h0, c, k, i, f, a, cell, h1, h2, h3, h4, h5, h6, h7, h8, h9, h10⟩ := h
  exact ⟨va_Zq.narrow h0 hAB, c, k, i, f, a, cell, h1, h2, h3, h4, h5, h6, h7, h8, h9, fun z => h10 (hAB a z)⟩
theorem tz.lays {n d : String} {A : Nat → Prop} {s : State} {args : Array Value} (h : tz n d A s s.heap) : (Cond.laysStatic Bundle.tN n d).before args s = true := by
  obtain ⟨-, c, k, i, f, a, cell, h1, h2, h3, h4, h5, h6, h7, h8, h9, -⟩ := h
  exact Cond.laysStatic_of (args := args) (first := s) (o := none) (idx := []) h1 h2 h3 h4 h5 h6 h7 h8 h9
theorem tz.ref {n d : String} {A : Nat → Prop} {s : State} {args : Array Value} (h : tz n d A s s.heap) : (Cond.isRef (.static Bundle.tN n d)).before args s = true := by
  have e : ∀ v : Value, va_Z Bundle.tN n d v A s s.heap → (Term.static Bundle.tN n d).eval args s none [] s = some v := by
    intro v hv
    obtain ⟨cf, kf, fi, f, a, cell, h1, h2, h3, h4, h5, h6, h7, -⟩ := hv
    simp [Term.eval, State.fieldNamed?, h1, h2, h4, h5, h6, h7]
  rcases h.1 with q | ⟨t, q⟩
  · simp [Cond.before, Cond.holds, Cond.value, e _ q]
  · simp [Cond.before, Cond.holds, Cond.value, e _ q]
theorem tz_of {args : Array Value} {s : State} {n d : String} {A : Nat → Prop} (hl : (Cond.laysStatic Bundle.tN n d).before args s = true) (hini : (Cond.initialized Bundle.tN).before args s = true) (h : (Cond.isRef (.static Bundle.tN n d)).before args s = true) (hA : ∀ a : Nat, a < s.heap.size → ¬ A a) : tz n d A s s.heap := by
  obtain ⟨c, k, i, f, a, cell, h1, h2, h3, h4, h5, h6, h7, h8, h9⟩ := Cond.laysStatic_spec hl
  exact ⟨va_Zqof hl hini h hA, c, k, i, f, a, cell, h1, h2, h3, h4, h5, h6, h7, h8, h9, hA a (Array.getElem?_eq_some_iff.mp h5).1⟩
def TZ (A : Nat → Prop) (U : State) (H : Heap) : Prop := tz "UNASSIGNED_STACK" Bundle.steD A U H ∧ tz "SUPPRESSED_SENTINEL" Bundle.listD A U H
def thw : List Cond := [.isRef (.static Bundle.tN "UNASSIGNED_STACK" Bundle.steD), .isRef (.static Bundle.tN "SUPPRESSED_SENTINEL" Bundle.listD), .laysStatic Bundle.tN "UNASSIGNED_STACK" Bundle.steD, .laysStatic Bundle.tN "SUPPRESSED_SENTINEL" Bundle.listD]
def thn : List String := ["java/lang/IndexOutOfBoundsException", "java/lang/RuntimeException", "java/lang/Exception"]
def tho : List Cond := Cond.classLink RL 13 RJx00060 :: (Bundle.ownAtoms0 RX3 129 RJx00060 thn).filter (fun w => decide (w ∉ thw))
def OW (U : State) : Prop := ∀ w ∈ tho, w.before #[] U = true
theorem tho_f : ∀ w ∈ tho, (w.onTables && w.keepsFace) = true := by decide +kernel
theorem wd_f {args a' : Array Value} {s U : State} {w : Cond} (hW : s.WarmedH U.vm) (hg : (w.onTables && w.keepsFace) = true) (h : w.before args s = true) : w.before a' U = true := by
  rw [Bool.and_eq_true] at hg
  have h1 : w.before args (s.setVm U.vm) = true := Cond.before_shiftedFace (State.Shifted.of_warmed hW) w hg.2 h
  rw [Cond.onTables_vm (A' := a') (U' := U) U.vm w hg.1, State.setVm_self] at h1
  exact h1
theorem OW.moved {s U : State} (hW : s.WarmedH U.vm) (h : OW s) : OW U := fun w hw => wd_f hW (tho_f w hw) (h w hw)
theorem OW.blind {U : State} {g : JFrame} {mk : MethodId} {a : Array Value} (h : OW U) : OW (U.calling g mk a) := h.moved (State.WarmedH.refl U)
theorem ow_all {s : State} {args : Array Value} {A : Nat → Prop} (h : OW s) (k : TZ A s s.heap) : ∀ w ∈ Bundle.ownAtoms0 RX3 129 RJx00060 thn, w.before args s = true := by
  intro w hw
  by_cases q : w ∈ thw
  · have e1 : w = .isRef (.static Bundle.tN "UNASSIGNED_STACK" Bundle.steD) ∨ w = .isRef (.static Bundle.tN "SUPPRESSED_SENTINEL" Bundle.listD) ∨ w = .laysStatic Bundle.tN "UNASSIGNED_STACK" Bundle.steD ∨ w = .laysStatic Bundle.tN "SUPPRESSED_SENTINEL" Bundle.listD := by
      simpa [thw] using q
    rcases e1 with e | e | e | e <;> rw [e]
    · exact k.1.ref
    · exact k.2.ref
    · exact k.1.lays
    · exact k.2.lays
  · have hm : w ∈ tho := List.mem_cons_of_mem _ (List.mem_filter.mpr ⟨hw, decide_eq_true q⟩)
    exact wd_f (State.WarmedH.refl s) (tho_f w hm) (h w hm)
-- X3.found, where it throws
/-- what is left behind a throw: a new cell of the exception's class, and nothing else is changed -/
def th_Q (_ : Array Value) (st : State) (o : Outcome) (t : State) : Prop := ∃ (q : Addr) (ce : Cell), o = .threw q ∧ t.heap[q]? = some ce ∧ ce.vm = .none ∧ st.vm.findClass RJx00060 = some ce.cls ∧ st.WarmedH t.vm ∧ st.sameButNew ({ t with vm := st.vm } : State) [] 1 6
def th_P (D : va_G) (cI cJ cZ cS : ClassId) (av : List Value) (w : va_W) : Array Value → State → Prop := va_Pc av (fun U => gl_K D cI cJ cZ cS U ∧ va_P D vwCl w U.heap ∧ OW U ∧ TZ (fun _ => False) U U.heap)
theorem th_blind {D : va_G} {cI cJ cZ cS : ClassId} {av : List Value} {w : va_W} : FrameBlind (th_P D cI cJ cZ cS av w) := by
  intro a U g mk q
  obtain ⟨q0, qK, qP, qO, qZ⟩ := q
  exact ⟨q0, va_K.moved (u := U) (U := U.calling g mk a) (Vm.Alike.refl U.vm) qK, qP, qO.blind, qZ.1.moved (u := U) (U := U.calling g mk a) (Vm.Alike.refl U.vm), qZ.2.moved (u := U) (U := U.calling g mk a) (Vm.Alike.refl U.vm)⟩
abbrev rm_X3_foundT : Room := { frames := 7, cells := 1, slots := 6, locals := 100 }
set_option maxHeartbeats 4000000 in
set_option maxRecDepth 100000 in
theorem c_X3_foundT (l : Launch) (hfl : l.flags = pinnedFlags ++ [noTraceFlag]) (D : va_G) (cI cJ cZ cS : ClassId) (x0 xm xb f0 xp xq xr : Nat) (adr : ad_T) (X : pp_T) (hh : Nat → Option sh_T) (p1 : Int32) (hp : p1 < 0 ∨ ¬ p1 < 0 ∧ ¬ p1 < pp_m X) : MetFree l yX3_found (headSpec wsX3_found rm_X3_foundT) (th_P D cI cJ cZ cS [.ref x0, .int p1] (pp_w cI cJ cS x0 xm xb f0 xp xq xr adr hh X)) (fun _ _ _ _ _ => True) th_Q := by
  refine MetFree.of_bodyS (code := cX3_found) (maxLocals := 2) (ret := some .int) (by decide) ?_ ?_
  · intro args s m h hn
    obtain ⟨meth, c, h1, h2, h3, h4, h5, h6, -, -⟩ := Cond.code_spec hn (atoms_spec (ws := wsX3_found) h _ (show _ ∈ wsX3_found from List.mem_cons_self))
    exact ⟨meth, c, h1, h2, h3, h4, h5, h6⟩
  · intro p e s m args below meth c s₁ B hml hv _
    obtain ⟨rfl, hK, hP, hO, hZ⟩ := hv
    have hx := B.exec
    have hb := B.bytes
    have hts := atoms_spec (ws := wsX3_found) B.pre
    have hown : s.vm.findClass RX3 = some m.cls := findClass_of_methodNamed B.named
    have hlocks := B.notSynchronized
    have hnoh : c.exceptionTable.isEmpty = true := B.noHandlers (hts (.code yX3_found cX3_found 2 (some .int)) (by decide +kernel))
    have hout : ∀ x ∈ c.exceptionTable.toList, covers x 19 = false := by
      intro x hx9
      have : c.exceptionTable.toList = [] := by simpa using hnoh
      rw [this] at hx9
      cases hx9
    have lk_29 := hts (.fieldLink RX3 29 "PlacePoints" "boxedCount" "I") (by decide +kernel)
    have lk_127 := hts (.classLink RX3 127 RJx00060) (by decide +kernel)
    have lk_in := hts (.instantiable RJx00060 6) (by decide +kernel)
    have lk_it := hts (.initialized RJx00060) (by decide +kernel)
    have in_X3 := in_X3_found_X3
    have hown0 : ∀ w ∈ Bundle.ownAtoms0 RX3 129 RJx00060 thn, w.before ([.ref x0, .int p1] : List Value).toArray s = true := ow_all hO hZ
    have J_12 : ∀ ls : Array Slot, lv_has ls 2 [] → W p l e rm_X3_foundT s m ([.ref x0, .int p1] : List Value).toArray below meth c s.heap [] 0 0 (fun t => ∃ o, t.status = .running ∧ Ended t below o ∧ th_Q ([.ref x0, .int p1] : List Value).toArray s o t) (F0 m 12 ls []) := by
      intro ls hl
      refine W.newc (own := RX3) (C := RJx00060) (index := 127) (n := 6) hx hb hown lk_127 lk_in lk_it rfl dX3_found_12 (by decide) (by decide) (fun cC kC h1 h2 h3 h4 => ?_)
      refine lv_dup hx hb dX3_found_15 rfl ?_
      intro T hT X9
      have htr : e.platform.stackTraces = false := Launch.traces_off hfl X9.admits
      have hcell : T.heap[s.heap.size]? = some (freshCell cC kC) := by rw [hT]; simp [freshCell]
      obtain ⟨U, hsteps, hrun, hend, hWm, hsame, ce, hce, hO9⟩ := X9.ctorThrow0 hx htr (own := RX3) (cls := RJx00060) (names := thn) (ic := 129) hown (by decide +kernel) (by decide +kernel) hown0 (fun x hx9 => by cases hx9) h1 h2 hcell (Nat.le_refl _)
        (g := F0 m 16 ls [.ref s.heap.size, .ref s.heap.size]) rfl (hl.1.trans hml.symm) rfl rfl (rest := []) rfl (by rw [hb]; exact dX3_found_16) (by rw [hb]; exact dX3_found_19) hout (by decide) (by show 2 * 0 + 1 + (13 * (3 + 1) + 41) ≤ 100; decide) hlocks
      exact ⟨U, hsteps, .threw s.heap.size, hrun, hend, s.heap.size, ce, rfl, hce, hO9.vm, hO9.cls, hWm, hsame⟩
    have hl := lv_entry ([.ref x0, .int p1]) (n := 2) (Nat.le_of_ble_eq_true rfl)
    have K : W p l e rm_X3_foundT s m ([.ref x0, .int p1] : List Value).toArray below meth c s.heap [] 0 0 (fun t => ∃ o, t.status = .running ∧ Ended t below o ∧ th_Q ([.ref x0, .int p1] : List Value).toArray s o t) (entryFrame m ([.ref x0, .int p1] : List Value).toArray 2) := by
      rw [lg_entry_eq]
      generalize (lg_sl ([.ref x0, .int p1]) ++ List.replicate (2 - (lg_sl ([.ref x0, .int p1])).length) Slot.unset).toArray = ls at hl ⊢
      have hl : lv_has ls 2 [(0, .ref x0), (1, .int p1)] := hl
      refine lv_iload_n hx hb dX3_found_0 rfl (lv_at hl 1 rfl) ?_
      refine lv_if_lt (tgt := 12) hx hb dX3_found_1 (by decide) (fun c_1 => ?_) (fun c_1 => ?_)
      · exact J_12 _ (lv_sub hl [] rfl)
      · refine lv_iload_n hx hb dX3_found_4 rfl (lv_at hl 1 rfl) ?_
        refine lv_aload_n hx hb dX3_found_5 rfl (lv_at hl 0 rfl) ?_
        refine va_get (D := D) (ci := 3) (v := .int (pp_m X)) (C := RX3) (T := TX3) (N := 10) hx hb hts in_X3 hown hK hP 0 rfl rfl 5 (by decide) lk_29 (fun _ h9 => h9) rfl dX3_found_6 ?_
        refine lv_icmp_lt (tgt := 20) hx hb dX3_found_9 (by decide) (fun c_9 => ?_) (fun c_9 => ?_)
        · rcases hp with q | ⟨-, q⟩
          · exact absurd q c_1
          · exact absurd c_9 q
        · exact J_12 _ (lv_sub hl [] rfl)
    have hh0 : s₁.heap = s.heap := by rw [B.state]; rfl
    obtain ⟨t, a1, o, b1, b2, b3⟩ := K s₁ hh0 (Stand.of_body B)
    exact ⟨t, o, a1, b1, b2, b3⟩
