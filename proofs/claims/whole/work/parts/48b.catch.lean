-- catching: L.found
theorem th_same {s U : State} {k n : Nat} (h : s.sameButNew U [] k n) : s.heap.size ≤ U.heap.size ∧ ∀ q : Nat, q < s.heap.size → U.heap[q]? = s.heap[q]? := by
  obtain ⟨-, h2, -, -, -, h6⟩ := h
  refine ⟨h2, fun q hq => ?_⟩
  cases hc : s.heap[q]? with
  | none => exact absurd hc (by simp [hq])
  | some cell =>
    obtain ⟨c', e1, e2, -, e4⟩ := h6 q cell hc
    have es : c'.slots = cell.slots := Array.ext_getElem? fun i => e4 i (fun z => by cases z)
    rw [es] at e2
    rw [e1, e2]
section TCA
variable {p : Program} {l : Launch} {e : Env} {R : Room} {s : State} {m : MethodId} {args : Array Value} {below : List Frame} {meth : Method} {c : Code} {T : State} {H : Heap} {locs : List Loc} {cells slots : Nat} {Q : State → Prop}
theorem th_finds {g : JFrame} {S : State} {x : ExceptionTableEntry} {cT : ClassId} {cell : Cell} {q : Addr} (hm : S.vm.method? g.method = some meth) (hc : meth.code = some c) (htab : c.exceptionTable.toList = [x]) (hx : covers x g.pc = true) (h0 : x.catchType ≠ 0) (hl : S.vm.ClassLinks e.platform g.method.cls x.catchType cT) (hcell : S.heap[q]? = some cell) (hobj : ∀ k, cell.vm ≠ .statics k) (hk : ∃ k, S.vm.classes[cell.cls]? = some k) (hk2 : ∃ k, S.vm.classes[cT]? = some k) (hfit : S.vm.assignable cell.cls cT = true) :
    ∀ Q E d acts, Sem.wp (findHandler g q) Q E e d acts S ↔ Q (.found x.handlerPc) d acts (S.setVm (S.vm.noted g.method.cls x.catchType (.cls cT))) := by
  intro Q E d acts
  rw [Jvm.W.findHandler_eq hm hc, htab]
  simp only [covers] at hx
  obtain ⟨r1, r2⟩ := (resolveClass_links e.toSetting hl).op (op := VmOp.resolveClass g.method.cls x.catchType) rfl
  have hal : S.vm.Alike (S.vm.noted g.method.cls x.catchType (.cls cT)) := (Vm.Alike.refl S.vm).noted _ _ _
  obtain ⟨k1, hk1⟩ := hk
  obtain ⟨k2, hk2⟩ := hk2
  obtain ⟨k3, hk3, -⟩ := hal.2.2 _ _ hk1
  obtain ⟨k4, hk4, -⟩ := hal.2.2 _ _ hk2
  have hf : (S.vm.noted g.method.cls x.catchType (.cls cT)).assignable cell.cls cT = true := by rw [hal.assignable]; exact hfit
  simp [findHandler.go, hx, h0, r1, r2, hcell, hobj, hk3, hk4, hf, VmOp.dirties, VmOp.acts]
theorem th_caught (X : Stand p l e R s m args below meth c T locs cells slots) {q : Addr} {g : JFrame} (hg : g.method = m) {own name E : String} {cell : Cell} {x : ExceptionTableEntry} (hown : s.vm.findClass own = some m.cls) (htab : c.exceptionTable.toList = [x]) (hx : covers x g.pc = true) (h0 : x.catchType ≠ 0) (hlink : (Cond.classLink own x.catchType name).before args s = true) (hcast : (Cond.castable E name).before args s = true) (hcell : T.heap[q]? = some cell) (hv : cell.vm = .none) (hcl : s.vm.findClass E = some cell.cls) :
    ∃ vm', Stand p l e R s m args below meth c (T.setVm vm') locs cells slots ∧ ∀ tg, Steps p.tables e below ((T.setVm vm').setTop { g with pc := x.handlerPc, stack := [.ref q] }) tg → Steps p.tables e below ((T.setTop g).pushFrame (.throwing q)) tg := by
  subst hg
  have hpl : e.platform.magicAccessors = ({} : Platform).magicAccessors := by rw [X.admits.platform]
  obtain ⟨c3, c4, hc3, hc4, hasg⟩ := Cond.castable_spec hcast
  cases Option.some.inj (hc3.symm.trans hcl)
  obtain ⟨c5, hc5, hl0⟩ := Cond.classLink_spec hown hlink e.platform hpl
  cases Option.some.inj (hc4.symm.trans hc5)
  have hW := X.warmed
  have hl1 := hW.classLinks hl0
  obtain ⟨dk, _, _, kt, hd, _, _, _, _, hkt, _, hopen⟩ := hl0.here
  have hWn : s.WarmedH (T.vm.noted g.method.cls x.catchType (.cls c4)) := hW.noted hd hopen (State.rightAt_cls hl0)
  obtain ⟨kt', hkt', -⟩ := hW.alike.2.2 _ _ hkt
  obtain ⟨k0, hk0, -⟩ := Vm.findClass_spec hcl
  obtain ⟨k0', hk0', -⟩ := hW.alike.2.2 _ _ hk0
  obtain ⟨S, hS⟩ : ∃ S, S = (T.setTop g).pushFrame (.throwing q) := ⟨_, rfl⟩
  have hSv : S.vm = T.vm := by rw [hS]; exact throwing_vm T g q
  have hSh : S.heap = T.heap := by rw [hS]; exact throwing_heap T g q
  have hfind := th_finds (e := e) (S := S) (g := g) (q := q) (meth := meth) (c := c) (x := x) (cT := c4) (cell := cell) (by rw [hSv]; exact X.method') X.code htab hx h0 (by rw [hSv]; exact hl1) (by rw [hSh]; exact hcell) (fun k z => by rw [hv] at z; cases z) (by rw [hSv]; exact ⟨k0', hk0'⟩) (by rw [hSv]; exact ⟨kt', hkt'⟩) (by rw [hSv, hW.alike.assignable]; exact hasg)
  rw [hSv] at hfind
  refine ⟨_, X.noted hWn, fun tg hrest => ?_⟩
  obtain ⟨hgo, hw⟩ := X.here.throwing q
  refine Steps.head hgo hw ?_
  have hstep : ∀ r : List Frame, (stepThrowing e S q (.java g :: r)).Is ((S.setVm (T.vm.noted g.method.cls x.catchType (.cls c4))).setFrames (.java { g with pc := x.handlerPc, stack := [.ref q] } :: r)) [] := by
    intro r
    simp only [stepThrowing, searchFrame, vmDo]
    generalize hr : Sem.go _ e false [] S = res
    obtain ⟨as, rfl, ha⟩ := Sem.eq_ok_of hr (a := Handler.found x.handlerPc) (s' := S.setVm (T.vm.noted g.method.cls x.catchType (.cls c4))) (acts' := []) (by simp [hfind])
    exact ⟨rfl, ha⟩
  rw [stepThread_throwing (frames_entered X.here.top _), ← hS, (hstep _).1, hS]
  obtain ⟨g₀, hg0⟩ := Option.isSome_iff_exists.mp X.here.top
  obtain ⟨r, hr⟩ := State.topJava?_eq_some.mp hg0
  have hr' : (T.setVm (T.vm.noted g.method.cls x.catchType (.cls c4))).frames = .java g₀ :: r := hr
  rw [State.setTop_of_frames _ hr'] at hrest
  show Steps p.tables e below ((((T.setVm (T.vm.noted g.method.cls x.catchType (.cls c4))).setTop g).pushFrame (.throwing q)).setFrames _) tg
  rw [State.pushFrame, State.setFrames_setFrames, State.setTop_of_frames _ hr', State.setFrames_setFrames, hr]
  exact hrest
/-- the call of X3.found that throws, caught here -/
theorem th_call {cc : ByteArray} {Pc : Array Value → State → Prop} {x0 : Addr} {p1 : Int32} {ls : Array Slot} {rest : List Value} {pc : Nat} {x : ExceptionTableEntry} (hexec : p.tables.exec = Jvm.exec) (hb : c.code = cc) (hml : c.maxLocals = ls.size) (ho : s.vm.findClass RL = some m.cls)
    (hM : MetFree l yX3_found (headSpec wsX3_found rm_X3_foundT) Pc (fun _ _ _ _ _ => True) th_Q) (cw : CallW R s args RL RX3 7 yX3_found cX3_found 2 (some .int) wsX3_found rm_X3_foundT 1 6 1) (hp : PreV s H RX3 x0 Pc [.int p1])
    (hW : (rest.map fun v => v.category).sum ≤ 8) (hdg : decode cc pc = .ok (.invokevirtual 7, 3)) (hf : cells + 1 ≤ R.cells ∧ slots + 6 ≤ R.slots)
    (htab : c.exceptionTable.toList = [x]) (hcov : covers x pc = true) (h0 : x.catchType ≠ 0) (hlink : (Cond.classLink RL x.catchType RJx00060).before args s = true) (hcast : (Cond.castable RJx00060 RJx00060).before args s = true)
    (kk : ∀ (H1 : Heap) (q : Addr), H.size ≤ H1.size → (∀ z : Nat, z < H.size → H1[z]? = H[z]?) → W p l e R s m args below meth c H1 locs (cells + 1) (slots + 6) Q (F0 m x.handlerPc ls [.ref q])) : W p l e R s m args below meth c H locs cells slots Q (F0 m pc ls (.int p1 :: .ref x0 :: rest)) := by
  obtain ⟨⟨hrc, hrs, hfr, hlo, hws, hcw, hcode, hini, hy, hlen, hl⟩, hin, hse⟩ := cw
  obtain ⟨hbl, ⟨cellB, hcB, hoB, hclB⟩, hPc⟩ := hp
  intro T hT X
  obtain ⟨mk, methM, hnamed, hmethM, hstM, habM⟩ := Cond.instanceMethod_spec hin
  obtain ⟨methM', cM, hmethM', -, -, -, -, -, -, hsigM⟩ := Cond.code_spec hnamed hcode
  cases hmethM.symm.trans hmethM'
  obtain ⟨c2, r2, m2, q1, q2, q3, q4, kP, hkP, hkPi⟩ := Cond.selects_spec hse
  cases hclB.symm.trans q1
  cases (State.methodFound?_of_named hnamed hy).symm.trans q2
  cases hnamed.symm.trans q3
  have hselP : selectMethod e.platform s.vm cellB.cls mk = .method mk := by rw [Launch.admits_selectMethod X.admits]; exact q4
  have hlen1 : ([.int p1] : List Value).length = methM.sig.parameters.length := hlen _ hsigM
  obtain ⟨vm₁, X₁, hstep₁⟩ := X.invokevirtual hexec ho hl hnamed hmethM hstM hkP hkPi hy (a := x0) (cell := cellB) (by rw [hT]; exact hcB) (fun z h => by rw [h] at hoB; cases hoB) hselP hmethM habM hkP hkPi
    (g := F0 m pc ls (.int p1 :: .ref x0 :: rest)) rfl (argsL := [.int p1]) (rest := rest) hlen1 rfl (by rw [hb]; exact hdg)
  have hn1 := X₁.named hnamed
  obtain ⟨methY, cY, hmY, hcY, -, hlY, -, -, -, -⟩ := Cond.code_spec hn1 (hws _ hcw #[] (T.setVm vm₁) X₁.warmed)
  obtain ⟨kY, hkY, -⟩ := className_of_methodNamed hn1
  have hinitY : kY.init = .initialized := Cond.initialized_spec (findClass_of_methodNamed hn1) hkY (word_at (a' := #[]) X₁.warmed (Or.inl (by first | rfl | simp [Cond.onTables, Cond.keeps, Cond.steady])) hini)
  have h : At (T.setVm vm₁) (F0 m pc ls rest).method c below := X₁.here
  have happ : (headSpec wsX3_found rm_X3_foundT).appliesLoose yX3_found e.platform ((T.setVm vm₁).calling (F0 m pc ls rest) mk ([.ref x0, .int p1] : List Value).toArray) = true :=
    Spec.appliesLoose_calling (g := F0 m pc ls rest) h (by rw [hb]; exact hdg) hn1 hkY hinitY
      (X₁.room_calling (g := F0 m pc ls rest) (R' := rm_X3_foundT) hml.symm hmY hcY hfr (by rw [hlY]; show 2 * 0 + (rest.map fun v => v.category).sum + (2 + 11) + rm_X3_foundT.locals ≤ R.locals; omega) hf.1 hf.2) (atoms_intro fun w hw => hws w hw _ _ X₁.warmed)
  obtain ⟨mid, hmid⟩ := h.above
  have hfr9 : ((T.setVm vm₁).setTop (F0 m pc ls rest)).frames = (.java (F0 m pc ls rest) :: mid) ++ below := by rw [State.frames_setTop' (F0 m pc ls rest) h.top, hmid]; rfl
  obtain ⟨o, s₂, hsteps, -, hend, hq⟩ := Steps.callFree hM p X₁.admits X₁.cas X₁.clock (acts := []) hfr9 happ (hbl _ _ (F0 m pc ls rest) mk (hPc (T.setVm vm₁) hT X₁.warmed)) trivial
  obtain ⟨q, ce, rfl, hce, hcv, hccl, hW2, hsame⟩ := hq
  rw [State.frames_setTop' (F0 m pc ls rest) h.top, X₁.tail] at hend
  obtain ⟨T', X', hWT, hsT, ht⟩ := X₁.outOfThrown (g := F0 m pc ls rest) rfl hend hW2 hsame
  have hT'h : T'.heap = s₂.heap := by rw [ht]; exact (throwing_heap T' _ q).symm
  obtain ⟨z1, z2⟩ := th_same hsT
  have hcl9 : s.vm.findClass RJx00060 = some ce.cls := by
    have : (T.setVm vm₁).vm.findClass RJx00060 = some ce.cls := hccl
    rw [X₁.warmed.alike.findClass] at this
    exact this
  obtain ⟨vm', X'', st2⟩ := th_caught X' (q := q) (g := F0 m pc ls rest) rfl (own := RL) (name := RJx00060) (E := RJx00060) (cell := ce) ho htab hcov h0 hlink hcast (by rw [hT'h]; exact hce) hcv hcl9
  rw [List.append_nil] at X''
  have e1 : T.heap.size ≤ T'.heap.size := z1
  have e2 : ∀ q : Nat, q < T.heap.size → T'.heap[q]? = T.heap[q]? := z2
  rw [hT] at e1 e2
  obtain ⟨t2, a1, b1⟩ := kk T'.heap q e1 e2 (T'.setVm vm') rfl X''
  refine ⟨t2, hstep₁ _ (fun acts => ?_), b1⟩
  rw [doInvoke_state]
  refine hsteps.trans ?_
  rw [ht]
  exact st2 _ a1
end TCA
