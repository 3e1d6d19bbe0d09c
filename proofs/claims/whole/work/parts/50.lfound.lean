-- L.found
theorem D_1 {A : Nat → Prop} {a : Nat} {e : va_E} (h : A a) : va_D A [(a, e)] := by
  refine ⟨fun i j p q hi hj _ => ?_, fun k q hk => ?_⟩
  · rcases i with _ | i
    · rcases j with _ | j
      · rfl
      · simp at hj
    · simp at hi
  · rcases k with _ | k
    · simp at hk; rw [← hk]; exact h
    · simp at hk
/-- the law's own row of one long -/
abbrev ou_w (cJ : ClassId) (o0 : Nat) (f : Nat → Int64) : va_W := [(o0, .inl (cJ, 1, .inr (.inl f)))]
def lf_P (D : va_G) (cI cJ cZ cS : ClassId) (ad : Nat → Nat) (x0 xm xb f0 xp xq xr : Nat) (adr : ad_T) (X : pp_T) (hh : Nat → Option sh_T) (o0 : Nat) (f : Nat → Int64) (av : List Value) : Array Value → State → Prop := va_Pc av (fun U => gl_K D cI cJ cZ cS U ∧ gl_E ad (fun _ => False) U U.heap ∧ va_P D vwCl (ou_w cJ o0 f) U.heap ∧ pp_B D cI cJ cS ad x0 xm xb f0 xp xq xr adr X hh U.heap ∧ OW U ∧ TZ (fun _ => False) U U.heap)
theorem lf_blind {D : va_G} {cI cJ cZ cS : ClassId} {ad : Nat → Nat} {x0 xm xb f0 xp xq xr : Nat} {adr : ad_T} {X : pp_T} {hh : Nat → Option sh_T} {o0 : Nat} {f : Nat → Int64} {av : List Value} : FrameBlind (lf_P D cI cJ cZ cS ad x0 xm xb f0 xp xq xr adr X hh o0 f av) := by
  intro a U g mk q
  obtain ⟨q0, qK, qE, qP, qB, qO, qZ⟩ := q
  exact ⟨q0, va_K.moved (u := U) (U := U.calling g mk a) (Vm.Alike.refl U.vm) qK, va_En.moved (u := U) (U := U.calling g mk a) (Vm.Alike.refl U.vm) qE, qP, qB, qO.blind, qZ.1.moved (u := U) (U := U.calling g mk a) (Vm.Alike.refl U.vm), qZ.2.moved (u := U) (U := U.calling g mk a) (Vm.Alike.refl U.vm)⟩
theorem lf_ok {D : va_G} {cI cJ cZ cS : ClassId} {ad : Nat → Nat} {x0 xm xb f0 xp xq xr : Nat} {adr : ad_T} {X : pp_T} {hh : Nat → Option sh_T} {o0 : Nat} {f : Nat → Int64} {av : List Value} {s : State} {H : Heap} (hK : gl_K D cI cJ cZ cS s) (hE : gl_E ad (fun _ => False) s H) (hP : va_P D vwCl (ou_w cJ o0 f) H) (hB : pp_B D cI cJ cS ad x0 xm xb f0 xp xq xr adr X hh H) (hO : OW s) (hZ : TZ (fun _ => False) s H) : ∀ U : State, U.heap = H → s.WarmedH U.vm → lf_P D cI cJ cZ cS ad x0 xm xb f0 xp xq xr adr X hh o0 f av av.toArray U := fun U hU hW => ⟨rfl, va_K.moved hW.alike hK, by rw [hU]; exact va_En.moved hW.alike hE, by rw [hU]; exact hP, by rw [hU]; exact hB, hO.moved hW, by rw [hU]; exact ⟨hZ.1.moved hW.alike, hZ.2.moved hW.alike⟩⟩
theorem th_ok {D : va_G} {cI cJ cZ cS : ClassId} {av : List Value} {w : va_W} {s : State} {H : Heap} (hK : gl_K D cI cJ cZ cS s) (hP : va_P D vwCl w H) (hO : OW s) (hZ : TZ (fun _ => False) s H) : ∀ U : State, U.heap = H → s.WarmedH U.vm → th_P D cI cJ cZ cS av w av.toArray U := fun U hU hW => ⟨rfl, va_K.moved hW.alike hK, by rw [hU]; exact hP, hO.moved hW, by rw [hU]; exact ⟨hZ.1.moved hW.alike, hZ.2.moved hW.alike⟩⟩
abbrev rm_L_found : Room := { frames := 8, cells := 0, slots := 0, locals := 130 }
abbrev rm_L_foundT : Room := { frames := 8, cells := 1, slots := 6, locals := 130 }
theorem z0_in : vp_in 0 1 := nI_in (c := 0) (N := 1) (by decide) (by decide)
theorem z0_cl : (0 : Int32).toNatClampNeg = 0 := by decide
set_option maxHeartbeats 4000000 in
set_option maxRecDepth 100000 in
theorem c_L_found (l : Launch) (D : va_G) (cI cJ cZ cS : ClassId) (ad : Nat → Nat) (x0 xm xb f0 xp xq xr : Nat) (adr : ad_T) (X : pp_T) (hh : Nat → Option sh_T) (o0 : Nat) (f : Nat → Int64) (p1 : Int32) (F : Nat) (r : Int32) (hs : s_X3_found F X hh p1 = some r) : Met l yL_found wsL_found rm_L_found (lf_P D cI cJ cZ cS ad x0 xm xb f0 xp xq xr adr X hh o0 f [.ref x0, .int p1, .ref o0]) (va_Qi (fun x (u : Nat → Int64) => x = 0 ∧ u = vp_updL f 0 r.toInt64) (fun u t => va_P D vwCl (ou_w cJ o0 u) t.heap) (fun q => q = o0)) 0 0 (fun q => q = o0) := by
  refine va_MetW (cc := cL_found) (maxL := 4) (ret := some .int) (hh := [(0, 9, 12, 13)]) (by decide) rfl ?_
  intro p e s m args below meth c s₁ B hml hv
  obtain ⟨rfl, hK, hE, hP, hB, hO, hZ⟩ := hv
  have hx := B.exec
  have hb := B.bytes
  have hr := B.returns
  have hts := atoms_spec (ws := wsL_found) B.pre
  have hown : s.vm.findClass RL = some m.cls := findClass_of_methodNamed B.named
  have hlocks := B.notSynchronized
  have hS : va_S (fun q => q = o0) s.heap s.heap [] := ⟨Nat.le_refl _, fun _ _ _ => rfl, fun _ h => by cases h⟩
  have hD : va_D (fun q => q = o0) (ou_w cJ o0 f) := D_1 rfl
  have hl := lv_entry ([.ref x0, .int p1, .ref o0]) (n := 4) (Nat.le_of_ble_eq_true rfl)
  rw [lg_entry_eq]
  generalize (lg_sl ([.ref x0, .int p1, .ref o0]) ++ List.replicate (4 - (lg_sl ([.ref x0, .int p1, .ref o0])).length) Slot.unset).toArray = ls at hl ⊢
  have hl : lv_has ls 4 [(0, .ref x0), (1, .int p1), (2, .ref o0)] := hl
  refine lv_aload_n hx hb dL_found_0 rfl (lv_at hl 2 rfl) ?_
  refine lv_iconst (v := 0) hx hb dL_found_1 (by decide) ?_
  refine lv_aload_n hx hb dL_found_2 rfl (lv_at hl 0 rfl) ?_
  refine lv_iload_n hx hb dL_found_3 rfl (lv_at hl 1 rfl) ?_
  refine gx_cSi (va_Run.run (va_runV (As := [.int p1]) (rest := [.int 0, .ref o0]) ⟨hx, hb, hml, hown, hts⟩ (c_X3_found l D cI cJ cZ cS ad x0 xm xb f0 xp xq xr adr X hh p1 F r hs) (cwV 1 hts gL_found_X3_found rfl rfl rfl (by decide +kernel) ⟨Nat.le_of_ble_eq_true rfl, Nat.le_of_ble_eq_true rfl⟩) ⟨gl_blind, va_recv hK hB.1 (ci := 3) (q0 := 0) rfl rfl, gl_ok hK hE hB⟩ rfl rfl hl.1 rfl (lv_room (Nat.le_of_ble_eq_true rfl)) dL_found_4 ⟨Nat.le_of_ble_eq_true rfl, Nat.le_of_ble_eq_true rfl⟩)) ?_
  refine lv_i2l hx hb dL_found_7 rfl ?_
  refine va_last hx hb hK hP hD hS 0 1 rfl rfl z0_in dL_found_8 (fun H locs hP hD hS => ?_)
  refine lv_goto (tgt := 15) hx hb dL_found_9 (by decide) ?_
  refine lv_iconst (v := 0) hx hb dL_found_15 (by decide) ?_
  exact W.iret hx hb hr (fun t ht hW => ⟨⟨0, vp_updL f 0 r.toInt64, rfl, ⟨rfl, rfl⟩, by show va_P D vwCl (ou_w cJ o0 _) t.heap; rw [ht]; exact hP⟩, hS.F ht⟩) hS.2.2 dL_found_16
set_option maxHeartbeats 4000000 in
set_option maxRecDepth 100000 in
theorem c_L_foundT (l : Launch) (hfl : l.flags = pinnedFlags ++ [noTraceFlag]) (D : va_G) (cI cJ cZ cS : ClassId) (ad : Nat → Nat) (x0 xm xb f0 xp xq xr : Nat) (adr : ad_T) (X : pp_T) (hh : Nat → Option sh_T) (o0 : Nat) (f : Nat → Int64) (p1 : Int32) (hp : p1 < 0 ∨ ¬ p1 < 0 ∧ ¬ p1 < pp_m X) : Met l yL_found wsL_found rm_L_foundT (lf_P D cI cJ cZ cS ad x0 xm xb f0 xp xq xr adr X hh o0 f [.ref x0, .int p1, .ref o0]) (va_Qi (fun x (u : Nat → Int64) => x = 1 ∧ u = f) (fun u t => va_P D vwCl (ou_w cJ o0 u) t.heap) (fun _ => False)) 1 6 (fun _ => False) := by
  refine va_MetW (cc := cL_found) (maxL := 4) (ret := some .int) (hh := [(0, 9, 12, 13)]) (by decide) rfl ?_
  intro p e s m args below meth c s₁ B hml hv
  obtain ⟨rfl, hK, hE, hP, hB, hO, hZ⟩ := hv
  have hx := B.exec
  have hb := B.bytes
  have hr := B.returns
  have hts := atoms_spec (ws := wsL_found) B.pre
  have hown : s.vm.findClass RL = some m.cls := findClass_of_methodNamed B.named
  have hlocks := B.notSynchronized
  have htab : ∃ x : ExceptionTableEntry, c.exceptionTable.toList = [x] ∧ x.startPc = 0 ∧ x.endPc = 9 ∧ x.handlerPc = 12 ∧ x.catchType = 13 := by
    obtain ⟨m9, meth9, c9, hn9, hm9, hc9, -, -, htb, -⟩ := Cond.codeWith_spec (hts (.codeWith yL_found cL_found 4 (some .int) [(0, 9, 12, 13)]) (show _ ∈ wsL_found from List.mem_cons_self))
    cases B.named.symm.trans hn9
    cases B.method.symm.trans hm9
    cases (Stand.of_body B).code.symm.trans hc9
    cases hx0 : c.exceptionTable.toList with
    | nil => rw [hx0] at htb; simp at htb
    | cons x t =>
      cases t with
      | nil =>
        rw [hx0] at htb
        simp at htb
        exact ⟨x, rfl, htb.1, htb.2.1, htb.2.2.1, htb.2.2.2⟩
      | cons y t => rw [hx0] at htb; simp at htb
  obtain ⟨x, ht1, ht2, ht3, ht4, ht5⟩ := htab
  have hlink : (Cond.classLink RL x.catchType RJx00060).before ([.ref x0, .int p1, .ref o0] : List Value).toArray s = true := by
    rw [ht5]
    exact wd_f (State.WarmedH.refl s) (by decide +kernel) (hO (.classLink RL 13 RJx00060) List.mem_cons_self)
  have hcast : (Cond.castable RJx00060 RJx00060).before ([.ref x0, .int p1, .ref o0] : List Value).toArray s = true := wd_f (State.WarmedH.refl s) (by decide +kernel) (hO (.castable RJx00060 RJx00060) (by decide +kernel))
  have hl := lv_entry ([.ref x0, .int p1, .ref o0]) (n := 4) (Nat.le_of_ble_eq_true rfl)
  rw [lg_entry_eq]
  generalize (lg_sl ([.ref x0, .int p1, .ref o0]) ++ List.replicate (4 - (lg_sl ([.ref x0, .int p1, .ref o0])).length) Slot.unset).toArray = ls at hl ⊢
  have hl : lv_has ls 4 [(0, .ref x0), (1, .int p1), (2, .ref o0)] := hl
  refine lv_aload_n hx hb dL_found_0 rfl (lv_at hl 2 rfl) ?_
  refine lv_iconst (v := 0) hx hb dL_found_1 (by decide) ?_
  refine lv_aload_n hx hb dL_found_2 rfl (lv_at hl 0 rfl) ?_
  refine lv_iload_n hx hb dL_found_3 rfl (lv_at hl 1 rfl) ?_
  refine th_call (x := x) hx hb (hml.trans hl.1.symm) hown (c_X3_foundT l hfl D cI cJ cZ cS x0 xm xb f0 xp xq xr adr X hh p1 hp) (cwV 1 hts gL_found_X3_found rfl rfl rfl (by decide +kernel) ⟨Nat.le_of_ble_eq_true rfl, Nat.le_of_ble_eq_true rfl⟩) ⟨th_blind, va_recv hK hB.1 (ci := 3) (q0 := 0) rfl rfl, th_ok hK hB.1 hO hZ⟩ (Nat.le_of_ble_eq_true rfl) dL_found_4 ⟨Nat.le_of_ble_eq_true rfl, Nat.le_of_ble_eq_true rfl⟩ ht1 (by unfold covers; rw [ht2, ht3]; decide) (by rw [ht5]; decide) hlink hcast (fun H1 q e1 e2 => ?_)
  rw [ht4]
  refine lv_astore_n (lv' := [(3, .ref q), (0, .ref x0), (1, .int p1), (2, .ref o0)]) hx hb dL_found_12 rfl hl (by decide) rfl (fun ls hl => ?_)
  refine lv_iconst (v := 1) hx hb dL_found_13 (by decide) ?_
  exact W.iret hx hb hr (fun t ht hW => ⟨⟨1, f, rfl, ⟨rfl, rfl⟩, by show va_P D vwCl (ou_w cJ o0 _) t.heap; rw [ht]; exact hP.kept (fun k q hk => e2 q.1 (hP k q hk).lt)⟩, ⟨by rw [ht]; exact e1, fun q h1 _ => by rw [ht]; exact e2 q h1⟩⟩) (fun _ h => by cases h) dL_found_14
section TRS
variable {p : Program} {l : Launch} {e : Env} {R : Room} {s : State} {m : MethodId} {args : Array Value} {below : List Frame} {meth : Method} {c : Code} {H : Heap} {locs : List Loc} {cells slots : Nat}
variable {y : MethodName} {bytes cc : ByteArray} {maxL nL mc ms n index : Nat} {ret : Option FieldType} {ws ws' : List Cond} {hh : List (Nat × Nat × Nat × Nat)} {rm : Room} {Pc : Array Value → State → Prop} {Qc : Array Value → State → Outcome → State → Prop} {free : Addr → Prop} {Ts : List Cond} {own : String} {As rest : List Value} {g : JFrame}
/-- a static call of a method that has a table -/
theorem th_runS (S : CallFix p m c cc nL s args Ts own) (hM : Met l y ws rm Pc Qc mc ms free) (hT : GoodIn Ts (va_wsS own index y ws)) (hw : ws = Cond.codeWith y bytes maxL ret hh :: ws') (hrc : rm.cells = mc) (hrs : rm.slots = ms) (hd : y.cls ≠ "java/lang/invoke/MethodHandle" ∧ y.cls ≠ "java/lang/invoke/VarHandle" ∧ (parseMethodDescriptor y.desc).map (fun d => d.parameters.length) = some n) (hR : rm.frames + 1 ≤ R.frames ∧ 8 + (maxL + 11) + rm.locals ≤ R.locals) (hp : PreS s H Pc As)
    (hg : g.method = m) (hn : As.length = n) (hsize : g.locals.size = nL) (hstack : g.stack = As.reverse ++ rest) (hW : 2 * g.monitorRoom + (rest.map fun v => v.category).sum ≤ 8) (hdg : decode cc g.pc = .ok (.invokestatic index, 3)) (hf : cells + mc ≤ R.cells ∧ slots + ms ≤ R.slots) :
    va_Run p l e R s m args below meth c H locs cells slots mc ms g rest (Qc As.toArray) (free) := by
  obtain ⟨hx, hb, hml, ho, hts⟩ := S
  have ok : ∀ w ∈ va_wsS own index y ws, w.before args s = true := fun w h => hts w (hT w h).1
  have hG : GoodIn Ts ws := fun w h => hT w (by unfold va_wsS; exact List.mem_append_right _ h)
  have hcw : Cond.codeWith y bytes maxL ret hh ∈ ws := by rw [hw]; exact List.mem_cons_self
  have hini : (Cond.initialized y.cls).before args s = true := ok _ (by simp [va_wsS])
  have hstat : (Cond.static y).before args s = true := ok _ (by simp [va_wsS])
  have hlink : (Cond.methodLink own index y).before args s = true := ok _ (by simp [va_wsS])
  have hK : Back l R p e below s args y 3 8 (PreOf R mc ms Pc) (PostOf Qc mc ms free) := va_backW (hh := hh) (bytes := bytes) (maxL := maxL) (ret := ret) hM hp.1 hrc hrs hR.1 hR.2 (pay_in hts hG) hcw (fun a' U hW => word_at hW (Or.inl (by first | rfl | simp [Cond.onTables, Cond.keeps, Cond.steady])) hini)
  intro T hT9 X
  obtain ⟨mk, methM, cM, hnamed, hmethM, -, -, -, -, -, -, hsigM⟩ := Cond.codeWith_spec (hts _ (hG _ hcw).1)
  have hstatic : methM.isStatic = true := Cond.static_spec hnamed hmethM hstat
  obtain ⟨kP, hkP, -⟩ := className_of_methodNamed hnamed
  have hinitP : kP.init = .initialized := Cond.initialized_spec (findClass_of_methodNamed hnamed) hkP hini
  have hlen : As.length = methM.sig.parameters.length := by
    have h2 := hd.2.2
    rw [hsigM] at h2
    exact hn.trans (Option.some.inj h2).symm
  obtain ⟨vm₁, X₁, hstep₁⟩ := X.invokestatic hx ho hlink hnamed hmethM hstatic hkP hinitP ⟨hd.1, hd.2.1⟩ (g := g) hg (argsL := As) (rest := rest) hlen hstack (by rw [hb]; exact hdg)
  obtain ⟨v, B, X', hpost, hsteps⟩ := hK m meth c ⟨T.setVm vm₁, locs, cells, slots⟩ { g with stack := rest } (.invokestatic index) mk As.toArray X₁ hg (hsize.trans hml.symm) (by rw [hb]; exact hdg) hW (X₁.named hnamed) ⟨hf.1, hf.2, hp.2 (T.setVm vm₁) hT9 X₁.warmed⟩
  obtain ⟨U', l2, c2, s2⟩ := B
  obtain ⟨g', mk', t, L, e1, e2, hq, h1, hL, h2, h3⟩ := hpost
  dsimp only [Pt.U, Pt.locs, Pt.cells, Pt.slots] at X' e1 e2 h1 h2 h3 hsteps
  subst h1; subst h2; subst h3
  exact ⟨v, (T.setVm vm₁).calling g' mk' As.toArray, t, U', L, hT9, X', hL, e1, e2, hq, fun tg h => hstep₁ _ fun acts => by rw [doInvoke_state]; exact hsteps.trans h⟩
end TRS
