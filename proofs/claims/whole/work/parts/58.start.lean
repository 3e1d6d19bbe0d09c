-- the law's first instructions
theorem gcZ_blind {D : va_G} {cI cJ cZ cS : ClassId} {ad : Nat → Nat} {sz : Nat} {w : va_W} {av : List Value} : FrameBlind (gc_P D cI cJ cZ cS ad sz w (fun U => va_AO "PlacePoints$Shape" U ∧ va_Nw (.methodLinkNest RX3 34 yX0_init "PlacePoints") U) av) := by
  intro a U g mk q
  obtain ⟨q0, qs, qK, qE, qP, qD, qA, qN⟩ := q
  exact ⟨q0, qs, va_K.moved (u := U) (U := U.calling g mk a) (Vm.Alike.refl U.vm) qK, va_En.moved (u := U) (U := U.calling g mk a) (Vm.Alike.refl U.vm) qE, qP, qD, va_AO.moved (u := U) (U := U.calling g mk a) (Vm.Alike.refl U.vm) qA, va_Nw.same rfl rfl qN⟩
theorem gcZ_ok {D : va_G} {cI cJ cZ cS : ClassId} {ad : Nat → Nat} {w : va_W} {av : List Value} {s : State} {H : Heap} {A : Nat → Prop} {locs : List Loc} (hK : gl_K D cI cJ cZ cS s) (hE : gl_E ad A s s.heap) (hS : va_S A s.heap H locs) (hF : ∀ q, va_A w H.size q → A q) (hP : va_P D vwCl w H) (hD : va_D A w) (hZ : va_AO "PlacePoints$Shape" s ∧ va_Nw (.methodLinkNest RX3 34 yX0_init "PlacePoints") s) : ∀ U : State, U.heap = H → s.WarmedH U.vm → gc_P D cI cJ cZ cS ad H.size w (fun U => va_AO "PlacePoints$Shape" U ∧ va_Nw (.methodLinkNest RX3 34 yX0_init "PlacePoints") U) av av.toArray U := fun U hU hW => ⟨rfl, by rw [hU], va_K.moved hW.alike hK, by rw [hU]; exact va_En.moved hW.alike (va_En.narrow (va_En.kept hE hS.2.1) hF), by rw [hU]; exact hP, hD.weaken (fun _ _ _ _ => trivial), va_AO.moved hW.alike hZ.1, va_Nw.warmM hW hZ.2⟩
/-- the world of the law's start -/
theorem LW_0 {D : va_G} {cI cJ cZ cS : ClassId} {ad : Nat → Nat} {A : Nat → Prop} {B : la_T} {adr : ad_T} {H : Heap} (hP : va_P D vwCl ((lx_w cI cJ cS B adr (fun _ => none) pp_0 ++ lm_w cI cJ cZ B mo_0) ++ lo_w cJ B (fun _ => 0)) H) (hD : va_D A ((lx_w cI cJ cS B adr (fun _ => none) pp_0 ++ lm_w cI cJ cZ B mo_0) ++ lo_w cJ B (fun _ => 0))) : LW D cI cJ cZ cS ad A B adr (fun _ => none) pp_0 mo_0 (fun _ => 0) H := by
  have nd : ((la_X B ++ la_M B) ++ [la_o B]).Nodup := D_nd hD
  have n1 := List.nodup_append.mp nd
  have n2 := List.nodup_append.mp n1.1
  have hA : ∀ q ∈ (la_X B ++ la_M B) ++ [la_o B], A q := by
    intro q hq
    have hm : q ∈ ((lx_w cI cJ cS B adr (fun _ => none) pp_0 ++ lm_w cI cJ cZ B mo_0) ++ lo_w cJ B (fun _ => 0)).map Prod.fst := by
      rw [List.map_append, List.map_append]
      exact hq
    obtain ⟨k, e, hk⟩ := w_ex hm
    exact hD.2 k _ hk
  refine ⟨gx_Psub hP [0, 1, 2, 3, 4, 5, 6] rfl, gx_Psub hP [7, 8, 9, 10, 11, 12, 13, 14, 15] rfl, gx_Psub hP [16] rfl, (fun k S h => by cases h), ⟨n2.1, n2.2.1, fun q hq => ⟨fun z => n2.2.2 q hq q z rfl, fun z => n1.2.2 q (List.mem_append_left _ hq) (la_o B) (List.mem_singleton.mpr rfl) z, hA q (List.mem_append_left _ (List.mem_append_left _ hq))⟩, fun q hq => ⟨fun z => n1.2.2 q (List.mem_append_right _ hq) (la_o B) (List.mem_singleton.mpr rfl) z, hA q (List.mem_append_left _ (List.mem_append_right _ hq))⟩, hA _ (List.mem_append_right _ (List.mem_singleton.mpr rfl))⟩, fun k h => absurd rfl h⟩
set_option maxHeartbeats 8000000 in
set_option maxRecDepth 100000 in
theorem whole_start {p : Program} {e : Env} {s : State} {m : MethodId} {below : List Frame} {meth : Method} {c : Code} (l : Launch) (hfl : l.flags = pinnedFlags ++ [noTraceFlag]) {b L : Nat} {xs : Nat → Int32} (hL : L ≤ 2560) (C0 : lw_At p s m meth c b L xs) : W p l e room_1 s m #[Value.ref b] below meth c s.heap [] 0 0 (lw_Z below #[Value.ref b] s) (entryFrame m ([Value.ref b] : List Value).toArray 7) := by
  obtain ⟨hx, hb, hr, hml, hown, htb, hX, hbl, hlocks, hgv⟩ := id C0
  have hown : s.vm.findClass RL = some m.cls := hown
  have hts : ∀ w ∈ wsL_law, w.before #[Value.ref b] s = true := fun w h => htb w (wsL_law_in w h)
  have hA : ∀ q : Nat, s.heap.size ≤ q → lA s q := fun _ h => h
  obtain ⟨D, cI, cJ, cZ, cS, hK⟩ := st_K htb
  obtain ⟨ad, hE⟩ := st_E htb hgv
  have hQ := st_Q htb
  have C : LC p l s m c b L xs D cI cJ cZ cS ad := ⟨hx, hb, hml, hown, hts, hX, hbl, hK, hE, st_O htb, st_Z htb hgv, hfl, hL⟩
  have hS : va_S (lA s) s.heap s.heap [] := va_S.rf
  have hP : va_P D vwCl [] s.heap := fun k q h => by simp at h
  have hD : va_D (lA s) [] := ⟨fun i j p q h => by simp at h, fun k q h => by simp at h⟩
  have hl := lv_entry ([.ref b]) (n := 7) (Nat.le_of_ble_eq_true rfl)
  rw [lg_entry_eq]
  generalize (lg_sl ([.ref b]) ++ List.replicate (7 - (lg_sl ([.ref b])).length) Slot.unset).toArray = ls at hl ⊢
  have hl : lv_has ls 7 [(0, .ref b)] := hl
  refine va_new (ci := 3) (fs := [.null, .int 0, .int 0, .int 0, .null, .int 0, .null, .null, .null, .null]) (C := RX3) (T := TX3) (N := 10) hx hb hts inlX3 tyX3 tyX3_ok hown (hts (.classLink RL 8 RX3) (by decide +kernel)) (hts (.instantiable RX3 10) (by decide +kernel)) (hts (.initialized RX3) (by decide +kernel)) hK hP hD hS hA rfl (fun j hj => by rcases (show j = 0 ∨ j = 1 ∨ j = 2 ∨ j = 3 ∨ j = 4 ∨ j = 5 ∨ j = 6 ∨ j = 7 ∨ j = 8 ∨ j = 9 by omega) with rfl | rfl | rfl | rfl | rfl | rfl | rfl | rfl | rfl | rfl <;> rfl) (Nat.le_of_ble_eq_true rfl) (Nat.le_of_ble_eq_true rfl) dL_law_0 (fun x0 H hP hD hS => ?_)
  refine lv_dup hx hb dL_law_3 rfl ?_
  have hFc := lw_F hS hD
  refine gx_cCv (wf := fun u : Nat × Nat × Nat × Nat × Nat × Nat => pp_w cI cJ cS x0 u.1 u.2.1 u.2.2.1 u.2.2.2.1 u.2.2.2.2.1 u.2.2.2.2.2 (fun _ => (0, 0, 0)) (fun _ => none) pp_0) (wr := []) (va_runI (As := []) (rest := [.ref x0]) ⟨hx, hb, hml, hown, hts⟩ (c_X3_init l D cI cJ cZ cS ad x0 (fun _ => (0, 0, 0)) _) (cwI 0 hts gL_law_X3_init rfl rfl rfl (hts (.initialized RX3) (by decide +kernel)) (hts (.methodLink RL 15 yX3_init) (by decide +kernel)) (hts (.instanceMethod yX3_init) (by decide +kernel)) rfl (by decide +kernel) ⟨Nat.le_of_ble_eq_true rfl, Nat.le_of_ble_eq_true rfl⟩) ⟨gcZ_blind, gcZ_ok hK hE hS hFc hP hD hQ⟩ rfl rfl hl.1 rfl (lv_room (Nat.le_of_ble_eq_true rfl)) dL_law_4 ⟨Nat.le_of_ble_eq_true rfl, Nat.le_of_ble_eq_true rfl⟩) hP hD hS hFc [0] [] rfl rfl (by decide) (by decide) (fun u H locs hP hD hS => ?_)
  refine lv_astore_n (lv' := [(1, .ref x0), (0, .ref b)]) hx hb dL_law_7 rfl hl (by decide) rfl (fun ls hl => ?_)
  refine va_new (ci := 4) (fs := [.null, .null, .null, .null, .int 0, .int 0, .int 0, .null, .int 0, .long 0, .long 0, .int 0, .null, .null, .null]) (C := RX4) (T := TX4) (N := 15) hx hb hts inlX4 tyX4 tyX4_ok hown (hts (.classLink RL 16 RX4) (by decide +kernel)) (hts (.instantiable RX4 15) (by decide +kernel)) (hts (.initialized RX4) (by decide +kernel)) hK hP hD hS hA rfl (fun j hj => by rcases (show j = 0 ∨ j = 1 ∨ j = 2 ∨ j = 3 ∨ j = 4 ∨ j = 5 ∨ j = 6 ∨ j = 7 ∨ j = 8 ∨ j = 9 ∨ j = 10 ∨ j = 11 ∨ j = 12 ∨ j = 13 ∨ j = 14 by omega) with rfl | rfl | rfl | rfl | rfl | rfl | rfl | rfl | rfl | rfl | rfl | rfl | rfl | rfl | rfl <;> rfl) (Nat.le_of_ble_eq_true rfl) (Nat.le_of_ble_eq_true rfl) dL_law_8 (fun m0 H hP hD hS => ?_)
  refine lv_dup hx hb dL_law_11 rfl ?_
  have hDm := hD.sub (ws' := [(m0, .inr (4, [.null, .null, .null, .null, .int 0, .int 0, .int 0, .null, .int 0, .long 0, .long 0, .int 0, .null, .null, .null]))]) [7] (by decide) rfl
  have hFm := lw_F hS hDm
  refine gx_cCv (wf := fun v : Nat × Nat × Nat × Nat × Nat × Nat × Nat × Nat => mo_w cI cJ cZ m0 v.1 v.2.1 v.2.2.1 v.2.2.2.1 v.2.2.2.2.1 v.2.2.2.2.2.1 v.2.2.2.2.2.2.1 v.2.2.2.2.2.2.2 mo_0) (wr := pp_w cI cJ cS x0 u.1 u.2.1 u.2.2.1 u.2.2.2.1 u.2.2.2.2.1 u.2.2.2.2.2 (fun _ => (0, 0, 0)) (fun _ => none) pp_0) (va_runI (As := []) (rest := [.ref m0]) ⟨hx, hb, hml, hown, hts⟩ (c_X4_init l D cI cJ cZ cS ad m0 _) (cwI 0 hts gL_law_X4_init rfl rfl rfl (hts (.initialized RX4) (by decide +kernel)) (hts (.methodLink RL 18 yX4_init) (by decide +kernel)) (hts (.instanceMethod yX4_init) (by decide +kernel)) rfl (by decide +kernel) ⟨Nat.le_of_ble_eq_true rfl, Nat.le_of_ble_eq_true rfl⟩) ⟨gc_blind, gc_ok hK hE hS hFm (hP.sub [7] rfl) hDm⟩ rfl rfl hl.1 rfl (lv_room (Nat.le_of_ble_eq_true rfl)) dL_law_12 ⟨Nat.le_of_ble_eq_true rfl, Nat.le_of_ble_eq_true rfl⟩) hP hD hS hFm [7] [0, 1, 2, 3, 4, 5, 6] rfl rfl (by decide) (by decide) (fun v H locs hP hD hS => ?_)
  refine lv_astore_n (lv' := [(2, .ref m0), (1, .ref x0), (0, .ref b)]) hx hb dL_law_15 rfl hl (by decide) rfl (fun ls hl => ?_)
  refine lv_iconst (v := 1) hx hb dL_law_16 (by decide) ?_
  refine gx_newJ (N := 1) hx hb (hts (.arrayClass .long) (by decide +kernel)) hK hP hD hS hA (by decide) (by decide) (by decide) (Nat.le_of_ble_eq_true rfl) (Nat.le_of_ble_eq_true rfl) dL_law_17 (fun o0 H hP hD hS => ?_)
  refine lv_astore_n (lv' := [(3, .ref o0), (2, .ref m0), (1, .ref x0), (0, .ref b)]) hx hb dL_law_19 rfl hl (by decide) rfl (fun ls hl => ?_)
  refine lv_iconst (v := 0) hx hb dL_law_20 (by decide) ?_
  refine lv_istore (lv' := [(4, .int 0), (3, .ref o0), (2, .ref m0), (1, .ref x0), (0, .ref b)]) hx hb dL_law_21 hl (by decide) rfl (fun ls hl => ?_)
  exact law_loop (B := (x0, u.1, u.2.1, u.2.2.1, u.2.2.2.1, u.2.2.2.2.1, u.2.2.2.2.2, m0, v.1, v.2.1, v.2.2.1, v.2.2.2.1, v.2.2.2.2.1, v.2.2.2.2.2.1, v.2.2.2.2.2.2.1, v.2.2.2.2.2.2.2, o0)) C hr hlocks L 0 (fun _ => (0, 0, 0)) (fun _ => none) pp_0 mo_0 (fun _ => 0) H locs _ _ ls (by omega) (by omega) (LW_0 hP hD) Rl_0 hS (lv_sub hl [4, 3, 2, 1, 0] rfl) (by decide) (by decide)
