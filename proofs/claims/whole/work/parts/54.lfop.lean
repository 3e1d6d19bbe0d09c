-- the law's case 12: found
section LOF
variable {p : Program} {l : Launch} {e : Env} {s : State} {m : MethodId} {below : List Frame} {meth : Method} {c : Code} {H : Heap} {locs : List Loc} {cells slots : Nat} {Q : State → Prop}
variable {b L : Nat} {xs : Nat → Int32} {D : va_G} {cI cJ cZ cS : ClassId} {ad : Nat → Nat} {B : la_T} {adr : ad_T} {hh : Nat → Option sh_T} {X : pp_T} {M : mo_T} {f : Nat → Int64} {ls : Array Slot} {i : Nat}
set_option maxHeartbeats 4000000 in
set_option maxRecDepth 100000 in
theorem op_found (C : LC p l s m c b L xs D cI cJ cZ cS ad) (hW : LW D cI cJ cZ cS ad (lA s) B adr hh X M f H) (hR : Rl X hh M) (hS : va_S (lA s) s.heap H locs) (hl : lv_has ls 7 [(0, .ref b), (1, .ref (la_x B)), (2, .ref (la_m B)), (3, .ref (la_o B)), (4, .int (nI i))]) (hi : i + 5 ≤ L) (hc : cells ≤ 100 + 3 * i) (hs : slots ≤ 5000 + 59 * i) (K : LK p l e s m below meth c b D cI cJ cZ cS ad B i cells slots Q) : W p l e room_1 s m #[Value.ref b] below meth c H locs cells slots Q (F0 m 542 ls []) := by
  have hx := C.1
  have hb := C.2.1
  have hts := C.2.2.2.2.1
  have hK := C.2.2.2.2.2.2.2.1
  have hL : L ≤ 2560 := C.2.2.2.2.2.2.2.2.2.2.2.2
  refine lv_aload_n hx hb dL_law_542 rfl (lv_at hl 1 rfl) ?_
  refine arg5 (k := 1) C hS hl (by omega) (by decide) dL_law_543 dL_law_544 dL_law_546 dL_law_547 dL_law_548 ?_
  refine lv_aload_n hx hb dL_law_549 rfl (lv_at hl 3 rfl) ?_
  rcases o_found hR (xs (i + 1)) 1000 with ⟨r, h1, h2⟩ | ⟨hp, h2⟩
  · refine lf_ri (p1 := xs (i + 1)) (r := r) C hW hS hl.1 h1 dL_law_550 (by omega) (by omega) (fun H locs hW hS => ?_)
    refine lv_istore (lv' := [(5, .int 0), (0, .ref b), (1, .ref (la_x B)), (2, .ref (la_m B)), (3, .ref (la_o B)), (4, .int (nI i))]) hx hb dL_law_553 hl (by decide) rfl (fun ls hl => ?_)
    refine lv_aload_n hx hb dL_law_555 rfl (lv_at hl 3 rfl) ?_
    refine arg5 (k := 1) C hS (lv_sub hl [1, 2, 3, 4, 5] rfl) (by omega) (by decide) dL_law_556 dL_law_557 dL_law_559 dL_law_560 dL_law_561 ?_
    refine lm_i (As := [.int (xs (i + 1))]) (rest := []) (r := r) (M' := ms_t M 0) C hW hS hl.1 (c_X4_found l D cI cJ cZ cS ad _ _ _ _ _ _ _ _ _ _ M (xs (i + 1)) 1000 (r, ms_t M 0) h2) (cwV 1 hts gL_law_X4_found rfl rfl rfl (by decide +kernel) ⟨Nat.le_of_ble_eq_true rfl, Nat.le_of_ble_eq_true rfl⟩) rfl rfl (Nat.le_of_ble_eq_true rfl) dL_law_562 (by omega) (by omega) (fun H locs hW hS => ?_)
    refine lv_istore (lv' := [(6, .int r), (5, .int 0), (0, .ref b), (1, .ref (la_x B)), (2, .ref (la_m B)), (3, .ref (la_o B)), (4, .int (nI i))]) hx hb dL_law_565 hl (by decide) rfl (fun ls hl => ?_)
    refine lv_aload_n hx hb dL_law_567 rfl (lv_at hl 4 rfl) ?_
    refine lm_r (As := []) (rest := []) (r := 0) C hW hS hl.1 (c_X4_thrown l D cI cJ cZ cS ad _ _ _ _ _ _ _ _ _ (ms_t M 0) 1000 0 rfl) (cwV 0 hts gL_law_X4_thrown rfl rfl rfl (by decide +kernel) ⟨Nat.le_of_ble_eq_true rfl, Nat.le_of_ble_eq_true rfl⟩) rfl rfl (Nat.le_of_ble_eq_true rfl) dL_law_568 (by omega) (by omega) ?_
    refine lv_iload hx hb dL_law_571 (lv_at hl 1 rfl) ?_
    refine lv_icmp_eq (tgt := 578) hx hb dL_law_573 (by decide) (fun _ => ?_) (fun q => absurd rfl q)
    refine lv_iload hx hb dL_law_578 (lv_at hl 1 rfl) ?_
    refine lv_if_ne (tgt := 595) hx hb dL_law_580 (by decide) (fun q => absurd rfl q) (fun _ => ?_)
    refine lv_aload_n hx hb dL_law_583 rfl (lv_at hl 5 rfl) ?_
    refine lv_iconst (v := 0) hx hb dL_law_584 (by decide) ?_
    refine gx_lald (v := r.toInt64) hx hb hK hW.2.2.1 0 1 rfl rfl (by rw [← nI_0, rl_ok (by decide) (by decide), ul_s]) dL_law_585 ?_
    refine lv_iload hx hb dL_law_586 (lv_at hl 0 rfl) ?_
    refine lv_i2l hx hb dL_law_588 rfl ?_
    refine W.lcmp hx hb dL_law_589 ?_
    refine lv_if_eq (tgt := 595) hx hb dL_law_590 (by decide) (fun _ => ?_) (fun q => absurd ((lg_cmp_eq _ _).mpr rfl) q)
    refine lv_goto (tgt := 611) hx hb dL_law_595 (by decide) ?_
    exact K _ _ _ _ _ _ _ _ _ _ hW hR hS (lv_sub hl [2, 3, 4, 5, 6] rfl) (by omega) (by omega)
  · refine lf_rt (p1 := xs (i + 1)) C hW hS hl.1 hp dL_law_550 (by omega) (by omega) (fun H locs hW hS => ?_)
    refine lv_istore (lv' := [(5, .int 1), (0, .ref b), (1, .ref (la_x B)), (2, .ref (la_m B)), (3, .ref (la_o B)), (4, .int (nI i))]) hx hb dL_law_553 hl (by decide) rfl (fun ls hl => ?_)
    refine lv_aload_n hx hb dL_law_555 rfl (lv_at hl 3 rfl) ?_
    refine arg5 (k := 1) C hS (lv_sub hl [1, 2, 3, 4, 5] rfl) (by omega) (by decide) dL_law_556 dL_law_557 dL_law_559 dL_law_560 dL_law_561 ?_
    refine lm_i (As := [.int (xs (i + 1))]) (rest := []) (r := 0) (M' := ms_t M 1) C hW hS hl.1 (c_X4_found l D cI cJ cZ cS ad _ _ _ _ _ _ _ _ _ _ M (xs (i + 1)) 1000 (0, ms_t M 1) h2) (cwV 1 hts gL_law_X4_found rfl rfl rfl (by decide +kernel) ⟨Nat.le_of_ble_eq_true rfl, Nat.le_of_ble_eq_true rfl⟩) rfl rfl (Nat.le_of_ble_eq_true rfl) dL_law_562 (by omega) (by omega) (fun H locs hW hS => ?_)
    refine lv_istore (lv' := [(6, .int 0), (5, .int 1), (0, .ref b), (1, .ref (la_x B)), (2, .ref (la_m B)), (3, .ref (la_o B)), (4, .int (nI i))]) hx hb dL_law_565 hl (by decide) rfl (fun ls hl => ?_)
    refine lv_aload_n hx hb dL_law_567 rfl (lv_at hl 4 rfl) ?_
    refine lm_r (As := []) (rest := []) (r := 1) C hW hS hl.1 (c_X4_thrown l D cI cJ cZ cS ad _ _ _ _ _ _ _ _ _ (ms_t M 1) 1000 1 rfl) (cwV 0 hts gL_law_X4_thrown rfl rfl rfl (by decide +kernel) ⟨Nat.le_of_ble_eq_true rfl, Nat.le_of_ble_eq_true rfl⟩) rfl rfl (Nat.le_of_ble_eq_true rfl) dL_law_568 (by omega) (by omega) ?_
    refine lv_iload hx hb dL_law_571 (lv_at hl 1 rfl) ?_
    refine lv_icmp_eq (tgt := 578) hx hb dL_law_573 (by decide) (fun _ => ?_) (fun q => absurd rfl q)
    refine lv_iload hx hb dL_law_578 (lv_at hl 1 rfl) ?_
    refine lv_if_ne (tgt := 595) hx hb dL_law_580 (by decide) (fun _ => ?_) (fun q => absurd q (by decide))
    refine lv_goto (tgt := 611) hx hb dL_law_595 (by decide) ?_
    exact K _ _ _ _ _ _ _ _ _ _ hW hR hS (lv_sub hl [2, 3, 4, 5, 6] rfl) (by omega) (by omega)
end LOF
