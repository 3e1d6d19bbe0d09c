-- the law's calls
abbrev lA (s : State) : Nat → Prop := fun q => s.heap.size ≤ q
def LC (p : Program) (l : Launch) (s : State) (m : MethodId) (c : Code) (b L : Nat) (xs : Nat → Int32) (D : va_G) (cI cJ cZ cS : ClassId) (ad : Nat → Nat) : Prop := p.tables.exec = Jvm.exec ∧ c.code = code ∧ c.maxLocals = 7 ∧ s.vm.findClass RL = some m.cls ∧ (∀ w ∈ wsL_law, w.before #[Value.ref b] s = true) ∧ va_X b L xs s s.heap ∧ b < s.heap.size ∧ gl_K D cI cJ cZ cS s ∧ gl_E ad (lA s) s s.heap ∧ OW s ∧ TZ (lA s) s s.heap ∧ l.flags = pinnedFlags ++ [noTraceFlag] ∧ L ≤ 2560
section LCA
variable {p : Program} {l : Launch} {e : Env} {s : State} {m : MethodId} {below : List Frame} {meth : Method} {c : Code} {H : Heap} {locs : List Loc} {cells slots : Nat} {Q : State → Prop}
variable {b L : Nat} {xs : Nat → Int32} {D : va_G} {cI cJ cZ cS : ClassId} {ad : Nat → Nat} {B : la_T} {adr : ad_T} {hh : Nat → Option sh_T} {X X' : pp_T} {M M' : mo_T} {f f' : Nat → Int64}
variable {y : MethodName} {bytes : ByteArray} {maxL index n : Nat} {ret9 : Option FieldType} {ws ws' : List Cond} {rm : Room} {As rest st : List Value} {ls : Array Slot} {pc i k : Nat}
theorem lw_F {w : va_W} (hS : va_S (lA s) s.heap H locs) (hD : va_D (lA s) w) : ∀ q, va_A w H.size q → lA s q := by
  intro q hq
  rcases hq with ⟨k, e, hk⟩ | h
  · exact hD.2 k _ hk
  · exact Nat.le_trans hS.1 h
/-- script[i + k] -/
theorem arg5 (C : LC p l s m c b L xs D cI cJ cZ cS ad) (hS : va_S (lA s) s.heap H locs) {a1 a2 a3 : Nat} (hl : lv_has ls 7 [(0, .ref b), (1, .ref a1), (2, .ref a2), (3, .ref a3), (4, .int (nI i))]) (hi : i + k < L) {n : Int} (hv : Int32.ofInt n = nI k) (d0 : decode code pc = .ok (.aload_n 0, 1)) (d1 : decode code (pc + 1) = .ok (.iload 4, 2)) (d3 : decode code (pc + 3) = .ok (.iconst n, 1)) (d4 : decode code (pc + 4) = .ok (.iadd, 1)) (d5 : decode code (pc + 5) = .ok (.iaload, 1))
    (kk : W p l e room_1 s m #[Value.ref b] below meth c H locs cells slots Q (F0 m (pc + 6) ls (.int (xs (i + k)) :: st))) : W p l e room_1 s m #[Value.ref b] below meth c H locs cells slots Q (F0 m pc ls st) := by
  obtain ⟨hx, hb, hml, hown, hts, hX, hbl, hK, hE, hO, hZ, hfl, hL⟩ := C
  refine lv_aload_n hx hb d0 rfl (lv_at hl 0 rfl) ?_
  refine lv_iload hx hb d1 (lv_at hl 4 rfl) ?_
  refine lv_iconst (v := nI k) hx hb d3 hv ?_
  refine lv_iadd hx hb d4 ?_
  refine gx_ni (nI_add i k) ?_
  refine va_sld hx hb hX hbl (Nat.not_le.mpr hbl) hS (nI_in hi (by omega)) d5 ?_
  rw [nI_clamp (by omega)]
  exact kk
theorem lx_ri (C : LC p l s m c b L xs D cI cJ cZ cS ad) (hW : LW D cI cJ cZ cS ad (lA s) B adr hh X M f H) (hS : va_S (lA s) s.heap H locs) {r : Int32} (hls : ls.size = 7) (hM : Met l y ws rm (gl_P D cI cJ cZ cS ad (.ref (la_x B) :: As) (fun H => va_P D vwCl (lx_w cI cJ cS B adr hh X) H ∧ pl_P D cI ad adr hh H)) (vp_Si (fun v => v = r)) 0 0 (fun _ => False)) (cw : CallW room_1 s #[Value.ref b] RL RX3 index y bytes maxL ret9 ws rm 0 0 n) (hn : As.length = n) (hst : st = As.reverse ++ .ref (la_x B) :: rest) (hr : (rest.map fun v => v.category).sum ≤ 8) (hdg : decode code pc = .ok (.invokevirtual index, 3)) (hc : cells ≤ 601024) (hs : slots ≤ 7293034)
    (kk : W p l e room_1 s m #[Value.ref b] below meth c H locs cells slots Q (F0 m (pc + 3) ls (.int r :: rest))) : W p l e room_1 s m #[Value.ref b] below meth c H locs cells slots Q (F0 m pc ls st) := by
  obtain ⟨hx, hb, hml, hown, hts, hX, hbl, hK, hE, hO, hZ, hfl, hL⟩ := C
  exact gx_cSi (va_Run.run (va_runV (As := As) (rest := rest) ⟨hx, hb, hml, hown, hts⟩ hM cw ⟨gl_blind, va_recv hK hW.1 (ci := 3) (q0 := 0) rfl rfl, gl_ok hK (va_En.narrow (va_En.kept hE hS.2.1) (fun _ h => h.elim)) ⟨hW.1, hW.2.2.2.1⟩⟩ rfl hn hls hst (lv_room hr) hdg ⟨hc, hs⟩)) kk
theorem lx_rl (C : LC p l s m c b L xs D cI cJ cZ cS ad) (hW : LW D cI cJ cZ cS ad (lA s) B adr hh X M f H) (hS : va_S (lA s) s.heap H locs) {r : Int64} (hls : ls.size = 7) (hM : Met l y ws rm (gl_P D cI cJ cZ cS ad (.ref (la_x B) :: As) (fun H => va_P D vwCl (lx_w cI cJ cS B adr hh X) H ∧ pl_P D cI ad adr hh H)) (vp_Sl (fun v => v = r)) 0 0 (fun _ => False)) (cw : CallW room_1 s #[Value.ref b] RL RX3 index y bytes maxL ret9 ws rm 0 0 n) (hn : As.length = n) (hst : st = As.reverse ++ .ref (la_x B) :: rest) (hr : (rest.map fun v => v.category).sum ≤ 8) (hdg : decode code pc = .ok (.invokevirtual index, 3)) (hc : cells ≤ 601024) (hs : slots ≤ 7293034)
    (kk : W p l e room_1 s m #[Value.ref b] below meth c H locs cells slots Q (F0 m (pc + 3) ls (.long r :: rest))) : W p l e room_1 s m #[Value.ref b] below meth c H locs cells slots Q (F0 m pc ls st) := by
  obtain ⟨hx, hb, hml, hown, hts, hX, hbl, hK, hE, hO, hZ, hfl, hL⟩ := C
  exact gx_cSl (va_Run.run (va_runV (As := As) (rest := rest) ⟨hx, hb, hml, hown, hts⟩ hM cw ⟨gl_blind, va_recv hK hW.1 (ci := 3) (q0 := 0) rfl rfl, gl_ok hK (va_En.narrow (va_En.kept hE hS.2.1) (fun _ h => h.elim)) ⟨hW.1, hW.2.2.2.1⟩⟩ rfl hn hls hst (lv_room hr) hdg ⟨hc, hs⟩)) kk
theorem gp_ok2 {w : va_W} {av : List Value} (hK : gl_K D cI cJ cZ cS s) (hE : gl_E ad (lA s) s s.heap) (hS : va_S (lA s) s.heap H locs) (hP : va_P D vwCl w H) (hD : va_D (lA s) w) (hQ : pl_P D cI ad adr hh H) (hsep : ∀ (k : Nat) (S : sh_T), hh k = some S → ∀ (i : Nat) (q : Nat × va_E), (sh_wa cI ad (adr k) S)[i]? = some q → ∀ (j : Nat) (e : va_E), ¬ w[j]? = some (q.1, e)) : ∀ U : State, U.heap = H → s.WarmedH U.vm → gp_P D cI cJ cZ cS ad adr hh H.size w av av.toArray U := fun U hU hW => ⟨rfl, by rw [hU], va_K.moved hW.alike hK, by rw [hU]; exact va_En.moved hW.alike (va_En.narrow (va_En.kept hE hS.2.1) (lw_F hS hD)), by rw [hU]; exact hP, hD.weaken (fun _ _ _ _ => trivial), by rw [hU]; exact hQ, hsep⟩
/-- a call of the class that writes its own cells: an int -/
theorem lx_wi {mc ms : Nat} (C : LC p l s m c b L xs D cI cJ cZ cS ad) (hW : LW D cI cJ cZ cS ad (lA s) B adr hh X M f H) (hS : va_S (lA s) s.heap H locs) {r : Int32} (hls : ls.size = 7) (hM : Met l y ws rm (gp_P D cI cJ cZ cS ad adr hh H.size (lx_w cI cJ cS B adr hh X) (.ref (la_x B) :: As)) (va_Qi (fun x (u : pp_T) => x = r ∧ u = X') (fun u t => va_P D vwCl (lx_w cI cJ cS B adr hh u) t.heap ∧ va_D (va_A (lx_w cI cJ cS B adr hh X) H.size) (lx_w cI cJ cS B adr hh u)) (va_A (lx_w cI cJ cS B adr hh X) H.size)) mc ms (va_A (lx_w cI cJ cS B adr hh X) H.size)) (cw : CallW room_1 s #[Value.ref b] RL RX3 index y bytes maxL ret9 ws rm mc ms n) (hn : As.length = n) (hst : st = As.reverse ++ .ref (la_x B) :: rest) (hr : (rest.map fun v => v.category).sum ≤ 8) (hdg : decode code pc = .ok (.invokevirtual index, 3)) (hc : cells + mc ≤ 601024) (hs : slots + ms ≤ 7293034)
    (kk : ∀ (H1 : Heap) (locs1 : List Loc), LW D cI cJ cZ cS ad (lA s) B adr hh X' M f H1 → va_S (lA s) s.heap H1 locs1 → W p l e room_1 s m #[Value.ref b] below meth c H1 locs1 (cells + mc) (slots + ms) Q (F0 m (pc + 3) ls (.int r :: rest))) : W p l e room_1 s m #[Value.ref b] below meth c H locs cells slots Q (F0 m pc ls st) := by
  obtain ⟨hx, hb, hml, hown, hts, hX, hbl, hK, hE, hO, hZ, hfl, hL⟩ := C
  have hF := lw_F hS hW.dX
  refine va_calli (A0 := lA s) (va_runV (As := As) (rest := rest) ⟨hx, hb, hml, hown, hts⟩ hM cw ⟨gp_blind, va_recv hK hW.1 (ci := 3) (q0 := 0) rfl rfl, gp_ok2 hK hE hS hW.1 hW.dX hW.2.2.2.1 hW.sep⟩ rfl hn hls hst (lv_room hr) hdg ⟨hc, hs⟩) hS (fun q _ h => hF q h) hF (fun v u t H1 locs1 ht hvm hw hB hz1 hk1 hS1 => ?_)
  obtain ⟨rfl, rfl⟩ := hw
  rw [ht] at hB
  exact kk H1 locs1 (hW.x hk1 hB.1) hS1
/-- .. a long -/
theorem lx_wl {mc ms : Nat} (C : LC p l s m c b L xs D cI cJ cZ cS ad) (hW : LW D cI cJ cZ cS ad (lA s) B adr hh X M f H) (hS : va_S (lA s) s.heap H locs) {r : Int64} (hls : ls.size = 7) (hM : Met l y ws rm (gp_P D cI cJ cZ cS ad adr hh H.size (lx_w cI cJ cS B adr hh X) (.ref (la_x B) :: As)) (va_Ql (fun x (u : pp_T) => x = r ∧ u = X') (fun u t => va_P D vwCl (lx_w cI cJ cS B adr hh u) t.heap ∧ va_D (va_A (lx_w cI cJ cS B adr hh X) H.size) (lx_w cI cJ cS B adr hh u)) (va_A (lx_w cI cJ cS B adr hh X) H.size)) mc ms (va_A (lx_w cI cJ cS B adr hh X) H.size)) (cw : CallW room_1 s #[Value.ref b] RL RX3 index y bytes maxL ret9 ws rm mc ms n) (hn : As.length = n) (hst : st = As.reverse ++ .ref (la_x B) :: rest) (hr : (rest.map fun v => v.category).sum ≤ 8) (hdg : decode code pc = .ok (.invokevirtual index, 3)) (hc : cells + mc ≤ 601024) (hs : slots + ms ≤ 7293034)
    (kk : ∀ (H1 : Heap) (locs1 : List Loc), LW D cI cJ cZ cS ad (lA s) B adr hh X' M f H1 → va_S (lA s) s.heap H1 locs1 → W p l e room_1 s m #[Value.ref b] below meth c H1 locs1 (cells + mc) (slots + ms) Q (F0 m (pc + 3) ls (.long r :: rest))) : W p l e room_1 s m #[Value.ref b] below meth c H locs cells slots Q (F0 m pc ls st) := by
  obtain ⟨hx, hb, hml, hown, hts, hX, hbl, hK, hE, hO, hZ, hfl, hL⟩ := C
  have hF := lw_F hS hW.dX
  refine va_calll (A0 := lA s) (va_runV (As := As) (rest := rest) ⟨hx, hb, hml, hown, hts⟩ hM cw ⟨gp_blind, va_recv hK hW.1 (ci := 3) (q0 := 0) rfl rfl, gp_ok2 hK hE hS hW.1 hW.dX hW.2.2.2.1 hW.sep⟩ rfl hn hls hst (lv_room hr) hdg ⟨hc, hs⟩) hS (fun q _ h => hF q h) hF (fun v u t H1 locs1 ht hvm hw hB hz1 hk1 hS1 => ?_)
  obtain ⟨rfl, rfl⟩ := hw
  rw [ht] at hB
  exact kk H1 locs1 (hW.x hk1 hB.1) hS1
/-- a call of the model: an int -/
theorem lm_i (C : LC p l s m c b L xs D cI cJ cZ cS ad) (hW : LW D cI cJ cZ cS ad (lA s) B adr hh X M f H) (hS : va_S (lA s) s.heap H locs) {r : Int32} (hls : ls.size = 7) (hM : Met l y ws rm (gm_P D cI cJ cZ cS ad H.size (lm_w cI cJ cZ B M) [] (.ref (la_m B) :: As)) (va_Qi (fun x (u : mo_T) => x = r ∧ u = M') (fun u t => va_P D vwCl (lm_w cI cJ cZ B u) t.heap ∧ va_D (va_A (lm_w cI cJ cZ B M) H.size) (lm_w cI cJ cZ B u)) (va_A (lm_w cI cJ cZ B M) H.size)) 0 0 (va_A (lm_w cI cJ cZ B M) H.size)) (cw : CallW room_1 s #[Value.ref b] RL RX4 index y bytes maxL ret9 ws rm 0 0 n) (hn : As.length = n) (hst : st = As.reverse ++ .ref (la_m B) :: rest) (hr : (rest.map fun v => v.category).sum ≤ 8) (hdg : decode code pc = .ok (.invokevirtual index, 3)) (hc : cells ≤ 601024) (hs : slots ≤ 7293034)
    (kk : ∀ (H1 : Heap) (locs1 : List Loc), LW D cI cJ cZ cS ad (lA s) B adr hh X M' f H1 → va_S (lA s) s.heap H1 locs1 → W p l e room_1 s m #[Value.ref b] below meth c H1 locs1 cells slots Q (F0 m (pc + 3) ls (.int r :: rest))) : W p l e room_1 s m #[Value.ref b] below meth c H locs cells slots Q (F0 m pc ls st) := by
  obtain ⟨hx, hb, hml, hown, hts, hX, hbl, hK, hE, hO, hZ, hfl, hL⟩ := C
  have hF := lw_F hS hW.dM
  refine va_calli (A0 := lA s) (va_runV (As := As) (rest := rest) ⟨hx, hb, hml, hown, hts⟩ hM cw ⟨gm_blind, va_recv hK hW.2.1 (ci := 4) (q0 := 0) rfl rfl, gm_ok hK hE hS hF hW.2.1 hW.dM (fun k q h => by cases h) gx_nil⟩ rfl hn hls hst (lv_room hr) hdg ⟨hc, hs⟩) hS (fun q _ h => hF q h) hF (fun v u t H1 locs1 ht hvm hw hB hz1 hk1 hS1 => ?_)
  obtain ⟨rfl, rfl⟩ := hw
  rw [ht] at hB
  exact kk H1 locs1 (hW.m hk1 hB.1) hS1
/-- .. a long -/
theorem lm_l (C : LC p l s m c b L xs D cI cJ cZ cS ad) (hW : LW D cI cJ cZ cS ad (lA s) B adr hh X M f H) (hS : va_S (lA s) s.heap H locs) {r : Int64} (hls : ls.size = 7) (hM : Met l y ws rm (gm_P D cI cJ cZ cS ad H.size (lm_w cI cJ cZ B M) [] (.ref (la_m B) :: As)) (va_Ql (fun x (u : mo_T) => x = r ∧ u = M') (fun u t => va_P D vwCl (lm_w cI cJ cZ B u) t.heap ∧ va_D (va_A (lm_w cI cJ cZ B M) H.size) (lm_w cI cJ cZ B u)) (va_A (lm_w cI cJ cZ B M) H.size)) 0 0 (va_A (lm_w cI cJ cZ B M) H.size)) (cw : CallW room_1 s #[Value.ref b] RL RX4 index y bytes maxL ret9 ws rm 0 0 n) (hn : As.length = n) (hst : st = As.reverse ++ .ref (la_m B) :: rest) (hr : (rest.map fun v => v.category).sum ≤ 8) (hdg : decode code pc = .ok (.invokevirtual index, 3)) (hc : cells ≤ 601024) (hs : slots ≤ 7293034)
    (kk : ∀ (H1 : Heap) (locs1 : List Loc), LW D cI cJ cZ cS ad (lA s) B adr hh X M' f H1 → va_S (lA s) s.heap H1 locs1 → W p l e room_1 s m #[Value.ref b] below meth c H1 locs1 cells slots Q (F0 m (pc + 3) ls (.long r :: rest))) : W p l e room_1 s m #[Value.ref b] below meth c H locs cells slots Q (F0 m pc ls st) := by
  obtain ⟨hx, hb, hml, hown, hts, hX, hbl, hK, hE, hO, hZ, hfl, hL⟩ := C
  have hF := lw_F hS hW.dM
  refine va_calll (A0 := lA s) (va_runV (As := As) (rest := rest) ⟨hx, hb, hml, hown, hts⟩ hM cw ⟨gm_blind, va_recv hK hW.2.1 (ci := 4) (q0 := 0) rfl rfl, gm_ok hK hE hS hF hW.2.1 hW.dM (fun k q h => by cases h) gx_nil⟩ rfl hn hls hst (lv_room hr) hdg ⟨hc, hs⟩) hS (fun q _ h => hF q h) hF (fun v u t H1 locs1 ht hvm hw hB hz1 hk1 hS1 => ?_)
  obtain ⟨rfl, rfl⟩ := hw
  rw [ht] at hB
  exact kk H1 locs1 (hW.m hk1 hB.1) hS1
/-- the model's thrown(): it reads alone -/
theorem lm_r (C : LC p l s m c b L xs D cI cJ cZ cS ad) (hW : LW D cI cJ cZ cS ad (lA s) B adr hh X M f H) (hS : va_S (lA s) s.heap H locs) {r : Int32} (hls : ls.size = 7) (hM : Met l y ws rm (gl_P D cI cJ cZ cS ad (.ref (la_m B) :: As) (fun H => va_P D vwCl (lm_w cI cJ cZ B M) H)) (vp_Si (fun v => v = r)) 0 0 (fun _ => False)) (cw : CallW room_1 s #[Value.ref b] RL RX4 index y bytes maxL ret9 ws rm 0 0 n) (hn : As.length = n) (hst : st = As.reverse ++ .ref (la_m B) :: rest) (hr : (rest.map fun v => v.category).sum ≤ 8) (hdg : decode code pc = .ok (.invokevirtual index, 3)) (hc : cells ≤ 601024) (hs : slots ≤ 7293034)
    (kk : W p l e room_1 s m #[Value.ref b] below meth c H locs cells slots Q (F0 m (pc + 3) ls (.int r :: rest))) : W p l e room_1 s m #[Value.ref b] below meth c H locs cells slots Q (F0 m pc ls st) := by
  obtain ⟨hx, hb, hml, hown, hts, hX, hbl, hK, hE, hO, hZ, hfl, hL⟩ := C
  exact gx_cSi (va_Run.run (va_runV (As := As) (rest := rest) ⟨hx, hb, hml, hown, hts⟩ hM cw ⟨gl_blind, va_recv hK hW.2.1 (ci := 4) (q0 := 0) rfl rfl, gl_ok hK (va_En.narrow (va_En.kept hE hS.2.1) (fun _ h => h.elim)) hW.2.1⟩ rfl hn hls hst (lv_room hr) hdg ⟨hc, hs⟩)) kk
/-- a call of the class that makes a shape -/
theorem lx_new (C : LC p l s m c b L xs D cI cJ cZ cS ad) (hW : LW D cI cJ cZ cS ad (lA s) B adr hh X M f H) (hS : va_S (lA s) s.heap H locs) {r : Int32} {S : sh_T} (hi : hh i = none) (hS3 : sh_k S < 3) (hls : ls.size = 7) (hM : Met l y ws rm (gm_P D cI cJ cZ cS ad H.size (lx_w cI cJ cS B adr hh X) [] (.ref (la_x B) :: As)) (va_Qi (fun x (_ : Nat × Nat × Nat) => x = r) (fun u t => va_P D vwCl (lx_w cI cJ cS B (va_up adr i u) (va_up hh i (some S)) X' ++ sh_wa cI ad u S) t.heap ∧ va_D (va_A (lx_w cI cJ cS B adr hh X) H.size) (lx_w cI cJ cS B (va_up adr i u) (va_up hh i (some S)) X' ++ sh_wa cI ad u S)) (va_A (lx_w cI cJ cS B adr hh X) H.size)) 3 59 (va_A (lx_w cI cJ cS B adr hh X) H.size)) (cw : CallW room_1 s #[Value.ref b] RL RX3 index y bytes maxL ret9 ws rm 3 59 n) (hn : As.length = n) (hst : st = As.reverse ++ .ref (la_x B) :: rest) (hr : (rest.map fun v => v.category).sum ≤ 8) (hdg : decode code pc = .ok (.invokevirtual index, 3)) (hc : cells + 3 ≤ 601024) (hs : slots + 59 ≤ 7293034)
    (kk : ∀ (u : Nat × Nat × Nat) (H1 : Heap) (locs1 : List Loc), LW D cI cJ cZ cS ad (lA s) B (va_up adr i u) (va_up hh i (some S)) X' M f H1 → va_S (lA s) s.heap H1 locs1 → W p l e room_1 s m #[Value.ref b] below meth c H1 locs1 (cells + 3) (slots + 59) Q (F0 m (pc + 3) ls (.int r :: rest))) : W p l e room_1 s m #[Value.ref b] below meth c H locs cells slots Q (F0 m pc ls st) := by
  obtain ⟨hx, hb, hml, hown, hts, hX, hbl, hK, hE, hO, hZ, hfl, hL⟩ := C
  have hF := lw_F hS hW.dX
  refine va_calli (A0 := lA s) (va_runV (As := As) (rest := rest) ⟨hx, hb, hml, hown, hts⟩ hM cw ⟨gm_blind, va_recv hK hW.1 (ci := 3) (q0 := 0) rfl rfl, gm_ok hK hE hS hF hW.1 hW.dX (fun k q h => by cases h) gx_nil⟩ rfl hn hls hst (lv_room hr) hdg ⟨hc, hs⟩) hS (fun q _ h => hF q h) hF (fun v u t H1 locs1 ht hvm hw hB hz1 hk1 hS1 => ?_)
  obtain rfl := hw
  rw [ht] at hB
  exact kk u H1 locs1 (hW.new hi hS3 (fun q hq => Nat.le_trans hS.1 hq) hk1 hB.1 hB.2) hS1
/-- corner -/
theorem lx_set (C : LC p l s m c b L xs D cI cJ cZ cS ad) (hW : LW D cI cJ cZ cS ad (lA s) B adr hh X M f H) (hS : va_S (lA s) s.heap H locs) {r : Int32} {S T : sh_T} (hi : hh i = some S) (hT3 : sh_k T < 3) (hls : ls.size = 7) (hM : Met l y ws rm (gm_P D cI cJ cZ cS ad H.size (lx_w cI cJ cS B adr hh X ++ sh_wa cI ad (adr i) S) [] (.ref (la_x B) :: As)) (va_Qi (fun x (_ : Unit) => x = r) (fun _ t => va_P D vwCl (lx_w cI cJ cS B adr (va_up hh i (some T)) X' ++ sh_wa cI ad (adr i) T) t.heap ∧ va_D (va_A (lx_w cI cJ cS B adr hh X ++ sh_wa cI ad (adr i) S) H.size) (lx_w cI cJ cS B adr (va_up hh i (some T)) X' ++ sh_wa cI ad (adr i) T)) (va_A (lx_w cI cJ cS B adr hh X ++ sh_wa cI ad (adr i) S) H.size)) 0 0 (va_A (lx_w cI cJ cS B adr hh X ++ sh_wa cI ad (adr i) S) H.size)) (cw : CallW room_1 s #[Value.ref b] RL RX3 index y bytes maxL ret9 ws rm 0 0 n) (hn : As.length = n) (hst : st = As.reverse ++ .ref (la_x B) :: rest) (hr : (rest.map fun v => v.category).sum ≤ 8) (hdg : decode code pc = .ok (.invokevirtual index, 3)) (hc : cells ≤ 601024) (hs : slots ≤ 7293034)
    (kk : ∀ (H1 : Heap) (locs1 : List Loc), LW D cI cJ cZ cS ad (lA s) B adr (va_up hh i (some T)) X' M f H1 → va_S (lA s) s.heap H1 locs1 → W p l e room_1 s m #[Value.ref b] below meth c H1 locs1 cells slots Q (F0 m (pc + 3) ls (.int r :: rest))) : W p l e room_1 s m #[Value.ref b] below meth c H locs cells slots Q (F0 m pc ls st) := by
  obtain ⟨hx, hb, hml, hown, hts, hX, hbl, hK, hE, hO, hZ, hfl, hL⟩ := C
  have hF := lw_F hS (hW.dS hi)
  refine va_calli (A0 := lA s) (va_runV (As := As) (rest := rest) ⟨hx, hb, hml, hown, hts⟩ hM cw ⟨gm_blind, va_recv hK hW.1 (ci := 3) (q0 := 0) rfl rfl, gm_ok hK hE hS hF (va_P.app hW.1 (hW.2.2.2.1 i S hi).1) (hW.dS hi) (fun k q h => by cases h) gx_nil⟩ rfl hn hls hst (lv_room hr) hdg ⟨hc, hs⟩) hS (fun q _ h => hF q h) hF (fun v u t H1 locs1 ht hvm hw hB hz1 hk1 hS1 => ?_)
  obtain rfl := hw
  rw [ht] at hB
  exact kk H1 locs1 (hW.set hi hT3 hk1 hB.1) hS1
/-- remove -/
theorem lx_del (C : LC p l s m c b L xs D cI cJ cZ cS ad) (hW : LW D cI cJ cZ cS ad (lA s) B adr hh X M f H) (hS : va_S (lA s) s.heap H locs) {r : Int32} (hls : ls.size = 7) (hM : Met l y ws rm (gm_P D cI cJ cZ cS ad H.size (lx_w cI cJ cS B adr hh X) [] (.ref (la_x B) :: As)) (va_Qi (fun x (_ : Unit) => x = r) (fun _ t => va_P D vwCl (lx_w cI cJ cS B adr (va_up hh i none) X') t.heap ∧ va_D (va_A (lx_w cI cJ cS B adr hh X) H.size) (lx_w cI cJ cS B adr (va_up hh i none) X')) (va_A (lx_w cI cJ cS B adr hh X) H.size)) 0 0 (va_A (lx_w cI cJ cS B adr hh X) H.size)) (cw : CallW room_1 s #[Value.ref b] RL RX3 index y bytes maxL ret9 ws rm 0 0 n) (hn : As.length = n) (hst : st = As.reverse ++ .ref (la_x B) :: rest) (hr : (rest.map fun v => v.category).sum ≤ 8) (hdg : decode code pc = .ok (.invokevirtual index, 3)) (hc : cells ≤ 601024) (hs : slots ≤ 7293034)
    (kk : ∀ (H1 : Heap) (locs1 : List Loc), LW D cI cJ cZ cS ad (lA s) B adr (va_up hh i none) X' M f H1 → va_S (lA s) s.heap H1 locs1 → W p l e room_1 s m #[Value.ref b] below meth c H1 locs1 cells slots Q (F0 m (pc + 3) ls (.int r :: rest))) : W p l e room_1 s m #[Value.ref b] below meth c H locs cells slots Q (F0 m pc ls st) := by
  obtain ⟨hx, hb, hml, hown, hts, hX, hbl, hK, hE, hO, hZ, hfl, hL⟩ := C
  have hF := lw_F hS hW.dX
  refine va_calli (A0 := lA s) (va_runV (As := As) (rest := rest) ⟨hx, hb, hml, hown, hts⟩ hM cw ⟨gm_blind, va_recv hK hW.1 (ci := 3) (q0 := 0) rfl rfl, gm_ok hK hE hS hF hW.1 hW.dX (fun k q h => by cases h) gx_nil⟩ rfl hn hls hst (lv_room hr) hdg ⟨hc, hs⟩) hS (fun q _ h => hF q h) hF (fun v u t H1 locs1 ht hvm hw hB hz1 hk1 hS1 => ?_)
  obtain rfl := hw
  rw [ht] at hB
  exact kk H1 locs1 (hW.del hk1 hB.1) hS1
theorem tz_f (hZ : TZ (lA s) s s.heap) (hS : va_S (lA s) s.heap H locs) : TZ (fun _ => False) s H := ⟨(hZ.1.kept hS.2.1).narrow (fun _ h => h.elim), (hZ.2.kept hS.2.1).narrow (fun _ h => h.elim)⟩
/-- found: the answer stands in the law's row -/
theorem lf_ri (C : LC p l s m c b L xs D cI cJ cZ cS ad) (hW : LW D cI cJ cZ cS ad (lA s) B adr hh X M f H) (hS : va_S (lA s) s.heap H locs) {p1 r : Int32} {F : Nat} (hls : ls.size = 7) (hsf : s_X3_found F X hh p1 = some r) (hdg : decode code pc = .ok (.invokestatic 73, 3)) (hc : cells ≤ 601024) (hs : slots ≤ 7293034)
    (kk : ∀ (H1 : Heap) (locs1 : List Loc), LW D cI cJ cZ cS ad (lA s) B adr hh X M (vp_updL f 0 r.toInt64) H1 → va_S (lA s) s.heap H1 locs1 → W p l e room_1 s m #[Value.ref b] below meth c H1 locs1 cells slots Q (F0 m (pc + 3) ls [.int 0])) : W p l e room_1 s m #[Value.ref b] below meth c H locs cells slots Q (F0 m pc ls [.ref (la_o B), .int p1, .ref (la_x B)]) := by
  obtain ⟨hx, hb, hml, hown, hts, hX, hbl, hK, hE, hO, hZ, hfl, hL⟩ := C
  have hF : ∀ q, q = la_o B → lA s q := fun q h => by rw [h]; exact hW.2.2.2.2.1.2.2.2.2
  refine va_calli (A0 := lA s) (th_runS (As := [.ref (la_x B), .int p1, .ref (la_o B)]) (rest := []) (hh := [(0, 9, 12, 13)]) (n := 3) ⟨hx, hb, hml, hown, hts⟩ (c_L_found l D cI cJ cZ cS ad _ _ _ _ _ _ _ adr X hh (la_o B) f p1 F r hsf) gL_law_L_found rfl rfl rfl (by decide +kernel) ⟨Nat.le_of_ble_eq_true rfl, Nat.le_of_ble_eq_true rfl⟩ ⟨lf_blind, lf_ok hK (va_En.narrow (va_En.kept hE hS.2.1) (fun _ h => h.elim)) hW.2.2.1 ⟨hW.1, hW.2.2.2.1⟩ hO (tz_f hZ hS)⟩ rfl rfl hls rfl (lv_room (Nat.le_of_ble_eq_true rfl)) hdg ⟨hc, hs⟩) hS (fun q _ h => hF q h) hF (fun v u t H1 locs1 ht hvm hw hB hz1 hk1 hS1 => ?_)
  obtain ⟨rfl, rfl⟩ := hw
  rw [ht] at hB
  exact kk H1 locs1 (hW.o hk1 hB) hS1
/-- found throws, and the law catches it -/
theorem lf_rt (C : LC p l s m c b L xs D cI cJ cZ cS ad) (hW : LW D cI cJ cZ cS ad (lA s) B adr hh X M f H) (hS : va_S (lA s) s.heap H locs) {p1 : Int32} (hls : ls.size = 7) (hp : p1 < 0 ∨ ¬ p1 < 0 ∧ ¬ p1 < pp_m X) (hdg : decode code pc = .ok (.invokestatic 73, 3)) (hc : cells + 1 ≤ 601024) (hs : slots + 6 ≤ 7293034)
    (kk : ∀ (H1 : Heap) (locs1 : List Loc), LW D cI cJ cZ cS ad (lA s) B adr hh X M f H1 → va_S (lA s) s.heap H1 locs1 → W p l e room_1 s m #[Value.ref b] below meth c H1 locs1 (cells + 1) (slots + 6) Q (F0 m (pc + 3) ls [.int 1])) : W p l e room_1 s m #[Value.ref b] below meth c H locs cells slots Q (F0 m pc ls [.ref (la_o B), .int p1, .ref (la_x B)]) := by
  obtain ⟨hx, hb, hml, hown, hts, hX, hbl, hK, hE, hO, hZ, hfl, hL⟩ := C
  refine va_calli (A0 := lA s) (th_runS (As := [.ref (la_x B), .int p1, .ref (la_o B)]) (rest := []) (hh := [(0, 9, 12, 13)]) (n := 3) ⟨hx, hb, hml, hown, hts⟩ (c_L_foundT l hfl D cI cJ cZ cS ad _ _ _ _ _ _ _ adr X hh (la_o B) f p1 hp) gL_law_L_found rfl rfl rfl (by decide +kernel) ⟨Nat.le_of_ble_eq_true rfl, Nat.le_of_ble_eq_true rfl⟩ ⟨lf_blind, lf_ok hK (va_En.narrow (va_En.kept hE hS.2.1) (fun _ h => h.elim)) hW.2.2.1 ⟨hW.1, hW.2.2.2.1⟩ hO (tz_f hZ hS)⟩ rfl rfl hls rfl (lv_room (Nat.le_of_ble_eq_true rfl)) hdg ⟨hc, hs⟩) hS (fun q _ h => h.elim) (fun q h => h.elim) (fun v u t H1 locs1 ht hvm hw hB hz1 hk1 hS1 => ?_)
  obtain ⟨rfl, rfl⟩ := hw
  rw [ht] at hB
  exact kk H1 locs1 (hW.g (fun q hq => hk1 q hq (fun h => h))) hS1
end LCA
