-- the law's loop
theorem and15 (z : Int32) : ∃ j : Nat, j < 16 ∧ z &&& 15 = nI j := by
  refine ⟨(z.toBitVec &&& 15#32).toNat, ?_, ?_⟩
  · have h : (z.toBitVec &&& 15#32).toNat ≤ 15 := by
      rw [BitVec.toNat_and]
      exact Nat.and_le_right
    omega
  · apply Int32.toBitVec_inj.mp
    rw [Int32.toBitVec_and]
    show _ = (Int32.ofNat _).toBitVec
    rw [Int32.toBitVec_ofNat']
    simp
theorem len5 {i L : Nat} (hi : i < 10000) (hL : L ≤ 2560) : (nI L - nI 5 < nI i) ↔ L < i + 5 := by
  rw [nI_i, nI_i, nI_i, iI_sub, iI_lt ⟨by omega, by omega⟩ ⟨by omega, by omega⟩]
  omega
section LLO
variable {p : Program} {l : Launch} {e : Env} {s : State} {m : MethodId} {below : List Frame} {meth : Method} {c : Code}
variable {b L : Nat} {xs : Nat → Int32} {D : va_G} {cI cJ cZ cS : ClassId} {ad : Nat → Nat} {B : la_T}
set_option maxHeartbeats 8000000 in
set_option maxRecDepth 100000 in
theorem law_loop (C : LC p l s m c b L xs D cI cJ cZ cS ad) (hr : meth.sig.returnType = ret) (hlocks : meth.locks = false) : ∀ (d i : Nat) (adr : ad_T) (hh : Nat → Option sh_T) (X : pp_T) (M : mo_T) (f : Nat → Int64) (H : Heap) (locs : List Loc) (cells slots : Nat) (ls : Array Slot), L ≤ i + 5 * d → i ≤ L + 5 → LW D cI cJ cZ cS ad (lA s) B adr hh X M f H → Rl X hh M → va_S (lA s) s.heap H locs → lv_has ls 7 [(0, .ref b), (1, .ref (la_x B)), (2, .ref (la_m B)), (3, .ref (la_o B)), (4, .int (nI i))] → cells ≤ 100 + 3 * i → slots ≤ 5000 + 59 * i → W p l e room_1 s m #[Value.ref b] below meth c H locs cells slots (lw_Z below #[Value.ref b] s) (F0 m 23 ls []) := by
  have hx := C.1
  have hb := C.2.1
  have hX := C.2.2.2.2.2.1
  have hbl := C.2.2.2.2.2.2.1
  have hL : L ≤ 2560 := C.2.2.2.2.2.2.2.2.2.2.2.2
  intro d
  induction d with
  | zero =>
    intro i adr hh X M f H locs cells slots ls hd hiL hW hR hS hl hc hs
    refine lv_iload hx hb dL_law_23 (lv_at hl 4 rfl) ?_
    refine lv_aload_n hx hb dL_law_25 rfl (lv_at hl 0 rfl) ?_
    refine va_slen hx hb hX hbl (Nat.not_le.mpr hbl) hS dL_law_26 ?_
    refine lv_iconst (v := nI 5) hx hb dL_law_27 (by decide) ?_
    refine lv_isub hx hb dL_law_28 ?_
    refine lv_icmp_gt (tgt := 617) hx hb dL_law_29 (by decide) (fun _ => ?_) (fun q => absurd ((len5 (by omega) hL).mpr (by omega)) q)
    refine lv_iconst (v := 1) hx hb dL_law_617 (by decide) ?_
    refine va_forget (fun q hq => hS.2.2 q hq) ?_
    refine W.widen (k := 601024) (n := 7293034) (by omega) (by omega) ?_
    exact lw_ret hx hb hr hlocks dL_law_618
  | succ d ih =>
    intro i adr hh X M f H locs cells slots ls hd hiL hW hR hS hl hc hs
    refine lv_iload hx hb dL_law_23 (lv_at hl 4 rfl) ?_
    refine lv_aload_n hx hb dL_law_25 rfl (lv_at hl 0 rfl) ?_
    refine va_slen hx hb hX hbl (Nat.not_le.mpr hbl) hS dL_law_26 ?_
    refine lv_iconst (v := nI 5) hx hb dL_law_27 (by decide) ?_
    refine lv_isub hx hb dL_law_28 ?_
    refine lv_icmp_gt (tgt := 617) hx hb dL_law_29 (by decide) (fun _ => ?_) (fun q => ?_)
    · refine lv_iconst (v := 1) hx hb dL_law_617 (by decide) ?_
      refine va_forget (fun q hq => hS.2.2 q hq) ?_
      refine W.widen (k := 601024) (n := 7293034) (by omega) (by omega) ?_
      exact lw_ret hx hb hr hlocks dL_law_618
    have hi : i + 5 ≤ L := Nat.not_lt.mp (fun w => q ((len5 (by omega) hL).mpr w))
    have K : LK p l e s m below meth c b D cI cJ cZ cS ad B i cells slots (lw_Z below #[Value.ref b] s) := by
      intro adr hh X M f H locs cells' slots' ls hW hR hS hl hc' hs'
      refine lv_iinc (lv' := [(4, .int (nI (i + 5))), (0, .ref b), (1, .ref (la_x B)), (2, .ref (la_m B)), (3, .ref (la_o B))]) (k := 4) hx hb dL_law_611 hl rfl (nI_add i 5) (by decide) rfl (fun ls hl => ?_)
      refine lv_goto (tgt := 23) hx hb dL_law_614 (by decide) ?_
      exact ih (i + 5) adr hh X M f H locs cells' slots' ls (by omega) (by omega) hW hR hS (lv_sub hl [1, 2, 3, 4, 0] rfl) (by omega) (by omega)
    refine lv_aload_n hx hb dL_law_32 rfl (lv_at hl 0 rfl) ?_
    refine lv_iload hx hb dL_law_33 (lv_at hl 4 rfl) ?_
    refine va_sld hx hb hX hbl (Nat.not_le.mpr hbl) hS (nI_in (by omega) (by omega)) dL_law_35 ?_
    refine lv_bipush (v := 15) hx hb dL_law_36 (by decide) ?_
    refine lv_iand hx hb dL_law_38 ?_
    obtain ⟨j, hj, ej⟩ := and15 (xs (nI i).toNatClampNeg)
    refine gx_ni ej ?_
    rcases (show j = 0 ∨ j = 1 ∨ j = 2 ∨ j = 3 ∨ j = 4 ∨ j = 5 ∨ j = 6 ∨ j = 7 ∨ j = 8 ∨ j = 9 ∨ j = 10 ∨ j = 11 ∨ j = 12 ∨ j = 13 ∨ j = 14 ∨ j = 15 by omega) with rfl | rfl | rfl | rfl | rfl | rfl | rfl | rfl | rfl | rfl | rfl | rfl | rfl | rfl | rfl | rfl
    · exact lv_tableIn (off := 69) (tgt := 108) hx hb dL_law_39 (by decide) (by decide) (by decide) (by decide) (op_point C hW hR hS hl hi hc hs K)
    · exact lv_tableIn (off := 106) (tgt := 145) hx hb dL_law_39 (by decide) (by decide) (by decide) (by decide) (op_line C hW hR hS hl hi hc hs K)
    · exact lv_tableIn (off := 119) (tgt := 158) hx hb dL_law_39 (by decide) (by decide) (by decide) (by decide) (op_polygon C hW hR hS hl hi hc hs K)
    · exact lv_tableIn (off := 132) (tgt := 171) hx hb dL_law_39 (by decide) (by decide) (by decide) (by decide) (op_corner C hW hR hS hl hi hc hs K)
    · exact lv_tableIn (off := 181) (tgt := 220) hx hb dL_law_39 (by decide) (by decide) (by decide) (by decide) (op_remove C hW hR hS hl hi hc hs K)
    · exact lv_tableIn (off := 206) (tgt := 245) hx hb dL_law_39 (by decide) (by decide) (by decide) (by decide) (op_check C hW hR hS hl hi hc hs K)
    · exact lv_tableIn (off := 231) (tgt := 270) hx hb dL_law_39 (by decide) (by decide) (by decide) (by decide) (op_inside C hW hR hS hl hi hc hs K)
    · exact lv_tableIn (off := 280) (tgt := 319) hx hb dL_law_39 (by decide) (by decide) (by decide) (by decide) (op_meets C hW hR hS hl hi hc hs K)
    · exact lv_tableIn (off := 317) (tgt := 356) hx hb dL_law_39 (by decide) (by decide) (by decide) (by decide) (op_square C hW hR hS hl hi hc hs K)
    · exact lv_tableIn (off := 367) (tgt := 406) hx hb dL_law_39 (by decide) (by decide) (by decide) (by decide) (op_near C hW hR hS hl hi hc hs K)
    · exact lv_tableIn (off := 416) (tgt := 455) hx hb dL_law_39 (by decide) (by decide) (by decide) (by decide) (op_area C hW hR hS hl hi hc hs K)
    · exact lv_tableIn (off := 442) (tgt := 481) hx hb dL_law_39 (by decide) (by decide) (by decide) (by decide) (op_boxed C hW hR hS hl hi hc hs K)
    · exact lv_tableIn (off := 503) (tgt := 542) hx hb dL_law_39 (by decide) (by decide) (by decide) (by decide) (op_found C hW hR hS hl hi hc hs K)
    · exact lv_tableIn (off := 559) (tgt := 598) hx hb dL_law_39 (by decide) (by decide) (by decide) (by decide) (op_shapes C hW hR hS hl hi hc hs K)
    · exact lv_tableOut (tgt := 611) hx hb dL_law_39 (by decide) (by decide) (K _ _ _ _ _ _ _ _ _ _ hW hR hS hl (by omega) (by omega))
    · exact lv_tableOut (tgt := 611) hx hb dL_law_39 (by decide) (by decide) (K _ _ _ _ _ _ _ _ _ _ hW hR hS hl (by omega) (by omega))
end LLO
