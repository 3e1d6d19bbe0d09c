def s_X2_whereIs_167 (F : Nat) (S : sh_T) (p1 : Int32) (p2 : Int32) (kc_5 : Int32 → Int32 → Option Int32) (x3 : Int32) (x4 : Int32) : Option Int32 :=
  if x3 = 0 then
    (some (x4 + 1)).bind fun e_177 =>
    kc_5 1 e_177
  else
    (some (x4 + 1)).bind fun e_177 =>
    kc_5 0 e_177
def s_X2_whereIs_155 (F : Nat) (S : sh_T) (p1 : Int32) (p2 : Int32) (kc_5 : Int32 → Int32 → Option Int32) (x3 : Int32) (x4 : Int32) (x5 : Int64) (x8 : Int32) : Option Int32 :=
  if x8 = 0 then
    (some (x4 + 1)).bind fun e_177 =>
    kc_5 x3 e_177
  else
    if 0 ≤ (lg_cmp x5 0) then
      (some (x4 + 1)).bind fun e_177 =>
      kc_5 x3 e_177
    else
      s_X2_whereIs_167 F S p1 p2 kc_5 x3 x4
def s_X2_whereIs_141 (F : Nat) (S : sh_T) (p1 : Int32) (p2 : Int32) (kc_5 : Int32 → Int32 → Option Int32) (x3 : Int32) (x4 : Int32) (x5 : Int64) (x7 : Int32) (t0 : Int32) : Option Int32 :=
  if x7 = 0 then
    s_X2_whereIs_155 F S p1 p2 kc_5 x3 x4 x5 t0
  else
    if 0 < (lg_cmp x5 0) then
      s_X2_whereIs_167 F S p1 p2 kc_5 x3 x4
    else
      s_X2_whereIs_155 F S p1 p2 kc_5 x3 x4 x5 t0
def s_X2_whereIs_110 (F : Nat) (S : sh_T) (p1 : Int32) (p2 : Int32) (kc_5 : Int32 → Int32 → Option Int32) (x3 : Int32) (x4 : Int32) (x5 : Int64) (t0 : Int32) : Option Int32 :=
  (rd_i (sh_n S) (sh_y S) (x4 + 1)).bind fun v_120 =>
  if p2 < v_120 then
    s_X2_whereIs_141 F S p1 p2 kc_5 x3 x4 x5 t0 0
  else
    (rd_i (sh_n S) (sh_y S) x4).bind fun v_132 =>
    if v_132 ≤ p2 then
      s_X2_whereIs_141 F S p1 p2 kc_5 x3 x4 x5 t0 0
    else
      s_X2_whereIs_141 F S p1 p2 kc_5 x3 x4 x5 t0 1
def s_X2_whereIs_81 (F : Nat) (S : sh_T) (p1 : Int32) (p2 : Int32) (kc_5 : Int32 → Int32 → Option Int32) (x3 : Int32) (x4 : Int32) (x5 : Int64) : Option Int32 :=
  (rd_i (sh_n S) (sh_y S) x4).bind fun v_87 =>
  if p2 < v_87 then
    s_X2_whereIs_110 F S p1 p2 kc_5 x3 x4 x5 0
  else
    (rd_i (sh_n S) (sh_y S) (x4 + 1)).bind fun v_101 =>
    if v_101 ≤ p2 then
      s_X2_whereIs_110 F S p1 p2 kc_5 x3 x4 x5 0
    else
      s_X2_whereIs_110 F S p1 p2 kc_5 x3 x4 x5 1
def s_X2_whereIs_5 (F : Nat) (S : sh_T) (p1 : Int32) (p2 : Int32) : Nat → Int32 → Int32 → Option Int32
  | 0, _, _ => none
  | n + 1, x3, x4 =>
    if (sh_z S) ≤ x4 then
      if x3 = 0 then
        some 0
      else
        some 1
    else
      (s_X2_turn F S x4 p1 p2).bind fun v_19 =>
      if (lg_cmp v_19 0) = 0 then
        (rd_i (sh_n S) (sh_x S) x4).bind fun v_37 =>
        (rd_i (sh_n S) (sh_x S) (x4 + 1)).bind fun v_46 =>
        (s_X2_overlap F v_37 v_46 p1 p1).bind fun v_49 =>
        if v_49 = 0 then
          s_X2_whereIs_81 F S p1 p2 (fun y0 y1 => s_X2_whereIs_5 F S p1 p2 n y0 y1) x3 x4 v_19
        else
          (rd_i (sh_n S) (sh_y S) x4).bind fun v_61 =>
          (rd_i (sh_n S) (sh_y S) (x4 + 1)).bind fun v_70 =>
          (s_X2_overlap F v_61 v_70 p2 p2).bind fun v_73 =>
          if v_73 = 0 then
            s_X2_whereIs_81 F S p1 p2 (fun y0 y1 => s_X2_whereIs_5 F S p1 p2 n y0 y1) x3 x4 v_19
          else
            some 2
      else
        s_X2_whereIs_81 F S p1 p2 (fun y0 y1 => s_X2_whereIs_5 F S p1 p2 n y0 y1) x3 x4 v_19
def s_X2_whereIs (F : Nat) (S : sh_T) (p1 : Int32) (p2 : Int32) : Option Int32 :=
  s_X2_whereIs_5 F S p1 p2 F 0 0
abbrev rm_X2_whereIs : Room := { frames := 2, cells := 0, slots := 0, locals := 44 }
theorem in_X2_whereIs_X2 : ∀ w ∈ wsX20, w ∈ wsX2_whereIs := by decide +kernel
set_option maxHeartbeats 4000000 in
set_option maxRecDepth 100000 in
theorem c_X2_whereIs (l : Launch) (D : va_G) (cI cJ cZ cS : ClassId) (ad : Nat → Nat) (h0 sx sy : Nat) (S : sh_T) (p1 : Int32) (p2 : Int32) (F : Nat) (hkS : sh_k S < 3) (r : Int32) (hs : s_X2_whereIs F S p1 p2 = some r) : Met l yX2_whereIs wsX2_whereIs rm_X2_whereIs (gl_P D cI cJ cZ cS ad [.ref h0, .int p1, .int p2] (fun H => va_P D vwCl (sh_w cI ad h0 sx sy S) H)) (vp_Si (fun v => v = r)) 0 0 (fun _ => False) := by
  refine Met.ofW (cc := cX2_whereIs) (maxL := 9) (ret := (some .int)) (by decide) rfl ?_
  intro p e s m args below meth c s₁ B hml hv
  obtain ⟨rfl, hK, hE, hP⟩ := hv
  have hx := B.exec
  have hb := B.bytes
  have hr := B.returns
  have hts := atoms_spec (ws := wsX2_whereIs) B.pre
  have hown : s.vm.findClass RX2 = some m.cls := findClass_of_methodNamed B.named
  have hlocks := B.notSynchronized
  have lk_9 := hts (.fieldLink RX2 9 "PlacePoints$Shape" "size" "I") (by decide +kernel)
  have lk_39 := hts (.fieldLink RX2 39 "PlacePoints$Shape" "xs" "[I") (by decide +kernel)
  have lk_43 := hts (.fieldLink RX2 43 "PlacePoints$Shape" "ys" "[I") (by decide +kernel)
  have in_X2 := in_X2_whereIs_X2
  have J_5 : ∀ (n_5 : Nat) (x3 : Int32) (x4 : Int32), s_X2_whereIs_5 F S p1 p2 n_5 x3 x4 = some r → ∀ ls : Array Slot, lv_has ls 9 [(0, .ref h0), (1, .int p1), (2, .int p2), (3, .int x3), (4, .int x4)] → W p l e (headSpec wsX2_whereIs rm_X2_whereIs).room s m ([.ref h0, .int p1, .int p2] : List Value).toArray below meth c s.heap [] 0 0 (MQ below (vp_Si (fun v => v = r)) ([.ref h0, .int p1, .int p2] : List Value).toArray s 0 0 (fun _ => False)) (F0 m 5 ls []) := by
    intro n_5
    induction n_5 with
    | zero =>
      intro x3 x4 hs
      cases hs
    | succ n_5 ih_5 =>
      have J_167 : ∀ (x3 : Int32) (x4 : Int32), s_X2_whereIs_167 F S p1 p2 (fun y0 y1 => s_X2_whereIs_5 F S p1 p2 n_5 y0 y1) x3 x4 = some r → ∀ ls : Array Slot, lv_has ls 9 [(0, .ref h0), (1, .int p1), (2, .int p2), (3, .int x3), (4, .int x4)] → W p l e (headSpec wsX2_whereIs rm_X2_whereIs).room s m ([.ref h0, .int p1, .int p2] : List Value).toArray below meth c s.heap [] 0 0 (MQ below (vp_Si (fun v => v = r)) ([.ref h0, .int p1, .int p2] : List Value).toArray s 0 0 (fun _ => False)) (F0 m 167 ls []) := by
        intro x3 x4 hs ls hl
        rw [s_X2_whereIs_167] at hs
        refine lv_iload_n hx hb dX2_whereIs_167 rfl (lv_at hl 3 rfl) ?_
        refine lv_if_ne (tgt := 175) hx hb dX2_whereIs_168 (by decide) (fun c_168 => ?_) (fun c_168 => ?_)
        · replace hs := it_f c_168 hs
          refine lv_iconst (v := 0) hx hb dX2_whereIs_175 (by decide) ?_
          refine lv_istore_n (lv' := [(3, .int 0), (0, .ref h0), (1, .int p1), (2, .int p2), (4, .int x4)]) hx hb dX2_whereIs_176 rfl hl (by decide) rfl (fun ls hl => ?_)
          obtain ⟨e_177, hv_177, hs⟩ := op_bd hs
          refine lv_iinc (v := e_177) (lv' := [(4, .int e_177), (3, .int 0), (0, .ref h0), (1, .int p1), (2, .int p2)]) hx hb dX2_whereIs_177 hl (k := 4) rfl (Option.some.inj hv_177) (by decide) rfl (fun ls hl => ?_)
          refine lv_goto (tgt := 5) hx hb dX2_whereIs_180 (by decide) ?_
          exact ih_5 0 e_177 hs _ (lv_sub hl [2, 3, 4, 1, 0] rfl)
        · replace hs := it_t c_168 hs
          refine lv_iconst (v := 1) hx hb dX2_whereIs_171 (by decide) ?_
          refine lv_goto (tgt := 176) hx hb dX2_whereIs_172 (by decide) ?_
          refine lv_istore_n (lv' := [(3, .int 1), (0, .ref h0), (1, .int p1), (2, .int p2), (4, .int x4)]) hx hb dX2_whereIs_176 rfl hl (by decide) rfl (fun ls hl => ?_)
          obtain ⟨e_177, hv_177, hs⟩ := op_bd hs
          refine lv_iinc (v := e_177) (lv' := [(4, .int e_177), (3, .int 1), (0, .ref h0), (1, .int p1), (2, .int p2)]) hx hb dX2_whereIs_177 hl (k := 4) rfl (Option.some.inj hv_177) (by decide) rfl (fun ls hl => ?_)
          refine lv_goto (tgt := 5) hx hb dX2_whereIs_180 (by decide) ?_
          exact ih_5 1 e_177 hs _ (lv_sub hl [2, 3, 4, 1, 0] rfl)
      have J_155 : ∀ (x3 : Int32) (x4 : Int32) (x5 : Int64) (x8 : Int32), s_X2_whereIs_155 F S p1 p2 (fun y0 y1 => s_X2_whereIs_5 F S p1 p2 n_5 y0 y1) x3 x4 x5 x8 = some r → ∀ ls : Array Slot, lv_has ls 9 [(0, .ref h0), (1, .int p1), (2, .int p2), (3, .int x3), (4, .int x4), (5, .long x5), (8, .int x8)] → W p l e (headSpec wsX2_whereIs rm_X2_whereIs).room s m ([.ref h0, .int p1, .int p2] : List Value).toArray below meth c s.heap [] 0 0 (MQ below (vp_Si (fun v => v = r)) ([.ref h0, .int p1, .int p2] : List Value).toArray s 0 0 (fun _ => False)) (F0 m 155 ls []) := by
        intro x3 x4 x5 x8 hs ls hl
        rw [s_X2_whereIs_155] at hs
        refine lv_iload hx hb dX2_whereIs_155 (lv_at hl 6 rfl) ?_
        refine lv_if_eq (tgt := 177) hx hb dX2_whereIs_157 (by decide) (fun c_157 => ?_) (fun c_157 => ?_)
        · replace hs := it_t c_157 hs
          obtain ⟨e_177, hv_177, hs⟩ := op_bd hs
          refine lv_iinc (v := e_177) (lv' := [(4, .int e_177), (0, .ref h0), (1, .int p1), (2, .int p2), (3, .int x3), (5, .long x5), (8, .int x8)]) hx hb dX2_whereIs_177 hl (k := 4) rfl (Option.some.inj hv_177) (by decide) rfl (fun ls hl => ?_)
          refine lv_goto (tgt := 5) hx hb dX2_whereIs_180 (by decide) ?_
          exact ih_5 x3 e_177 hs _ (lv_sub hl [1, 2, 3, 4, 0] rfl)
        · replace hs := it_f c_157 hs
          refine lv_lload hx hb dX2_whereIs_160 (lv_at hl 5 rfl) ?_
          refine lv_lconst (v := 0) hx hb dX2_whereIs_162 (by decide) ?_
          refine W.lcmp hx hb dX2_whereIs_163 ?_
          refine lv_if_ge (tgt := 177) hx hb dX2_whereIs_164 (by decide) (fun c_164 => ?_) (fun c_164 => ?_)
          · replace hs := it_t c_164 hs
            obtain ⟨e_177, hv_177, hs⟩ := op_bd hs
            refine lv_iinc (v := e_177) (lv' := [(4, .int e_177), (0, .ref h0), (1, .int p1), (2, .int p2), (3, .int x3), (5, .long x5), (8, .int x8)]) hx hb dX2_whereIs_177 hl (k := 4) rfl (Option.some.inj hv_177) (by decide) rfl (fun ls hl => ?_)
            refine lv_goto (tgt := 5) hx hb dX2_whereIs_180 (by decide) ?_
            exact ih_5 x3 e_177 hs _ (lv_sub hl [1, 2, 3, 4, 0] rfl)
          · replace hs := it_f c_164 hs
            exact J_167 x3 x4 hs _ (lv_sub hl [0, 1, 2, 3, 4] rfl)
      have J_141 : ∀ (x3 : Int32) (x4 : Int32) (x5 : Int64) (x7 : Int32) (t0 : Int32), s_X2_whereIs_141 F S p1 p2 (fun y0 y1 => s_X2_whereIs_5 F S p1 p2 n_5 y0 y1) x3 x4 x5 x7 t0 = some r → ∀ ls : Array Slot, lv_has ls 9 [(0, .ref h0), (1, .int p1), (2, .int p2), (3, .int x3), (4, .int x4), (5, .long x5), (7, .int x7)] → W p l e (headSpec wsX2_whereIs rm_X2_whereIs).room s m ([.ref h0, .int p1, .int p2] : List Value).toArray below meth c s.heap [] 0 0 (MQ below (vp_Si (fun v => v = r)) ([.ref h0, .int p1, .int p2] : List Value).toArray s 0 0 (fun _ => False)) (F0 m 141 ls [.int t0]) := by
        intro x3 x4 x5 x7 t0 hs ls hl
        rw [s_X2_whereIs_141] at hs
        refine lv_istore (lv' := [(8, .int t0), (0, .ref h0), (1, .int p1), (2, .int p2), (3, .int x3), (4, .int x4), (5, .long x5), (7, .int x7)]) hx hb dX2_whereIs_141 hl (by decide) rfl (fun ls hl => ?_)
        refine lv_iload hx hb dX2_whereIs_143 (lv_at hl 7 rfl) ?_
        refine lv_if_eq (tgt := 155) hx hb dX2_whereIs_145 (by decide) (fun c_145 => ?_) (fun c_145 => ?_)
        · replace hs := it_t c_145 hs
          exact J_155 x3 x4 x5 t0 hs _ (lv_sub hl [1, 2, 3, 4, 5, 6, 0] rfl)
        · replace hs := it_f c_145 hs
          refine lv_lload hx hb dX2_whereIs_148 (lv_at hl 6 rfl) ?_
          refine lv_lconst (v := 0) hx hb dX2_whereIs_150 (by decide) ?_
          refine W.lcmp hx hb dX2_whereIs_151 ?_
          refine lv_if_gt (tgt := 167) hx hb dX2_whereIs_152 (by decide) (fun c_152 => ?_) (fun c_152 => ?_)
          · replace hs := it_t c_152 hs
            exact J_167 x3 x4 hs _ (lv_sub hl [1, 2, 3, 4, 5] rfl)
          · replace hs := it_f c_152 hs
            exact J_155 x3 x4 x5 t0 hs _ (lv_sub hl [1, 2, 3, 4, 5, 6, 0] rfl)
      have J_110 : ∀ (x3 : Int32) (x4 : Int32) (x5 : Int64) (t0 : Int32), s_X2_whereIs_110 F S p1 p2 (fun y0 y1 => s_X2_whereIs_5 F S p1 p2 n_5 y0 y1) x3 x4 x5 t0 = some r → ∀ ls : Array Slot, lv_has ls 9 [(0, .ref h0), (1, .int p1), (2, .int p2), (3, .int x3), (4, .int x4), (5, .long x5)] → W p l e (headSpec wsX2_whereIs rm_X2_whereIs).room s m ([.ref h0, .int p1, .int p2] : List Value).toArray below meth c s.heap [] 0 0 (MQ below (vp_Si (fun v => v = r)) ([.ref h0, .int p1, .int p2] : List Value).toArray s 0 0 (fun _ => False)) (F0 m 110 ls [.int t0]) := by
        intro x3 x4 x5 t0 hs ls hl
        rw [s_X2_whereIs_110] at hs
        refine lv_istore (lv' := [(7, .int t0), (0, .ref h0), (1, .int p1), (2, .int p2), (3, .int x3), (4, .int x4), (5, .long x5)]) hx hb dX2_whereIs_110 hl (by decide) rfl (fun ls hl => ?_)
        refine lv_aload_n hx hb dX2_whereIs_112 rfl (lv_at hl 1 rfl) ?_
        refine va_get (D := D) (ci := 2) (v := .ref sy) (C := RX2) (T := TX2) (N := 9) hx hb hts in_X2 hown hK hP 0 rfl rfl 4 (by decide) lk_43 (fun _ h9 => h9) rfl dX2_whereIs_113 ?_
        refine lv_iload hx hb dX2_whereIs_116 (lv_at hl 5 rfl) ?_
        refine lv_iconst (v := 1) hx hb dX2_whereIs_118 (by decide) ?_
        refine lv_iadd hx hb dX2_whereIs_119 ?_
        obtain ⟨v_120, hv_120, hs⟩ := op_bd hs
        refine gx_iald hx hb hK hP 2 0 rfl rfl hv_120 dX2_whereIs_120 ?_
        refine lv_iload_n hx hb dX2_whereIs_121 rfl (lv_at hl 3 rfl) ?_
        refine lv_icmp_gt (tgt := 140) hx hb dX2_whereIs_122 (by decide) (fun c_122 => ?_) (fun c_122 => ?_)
        · replace hs := it_t c_122 hs
          refine lv_iconst (v := 0) hx hb dX2_whereIs_140 (by decide) ?_
          exact J_141 x3 x4 x5 t0 0 hs _ (lv_sub hl [1, 2, 3, 4, 5, 6, 0] rfl)
        · replace hs := it_f c_122 hs
          refine lv_iload_n hx hb dX2_whereIs_125 rfl (lv_at hl 3 rfl) ?_
          refine lv_aload_n hx hb dX2_whereIs_126 rfl (lv_at hl 1 rfl) ?_
          refine va_get (D := D) (ci := 2) (v := .ref sy) (C := RX2) (T := TX2) (N := 9) hx hb hts in_X2 hown hK hP 0 rfl rfl 4 (by decide) lk_43 (fun _ h9 => h9) rfl dX2_whereIs_127 ?_
          refine lv_iload hx hb dX2_whereIs_130 (lv_at hl 5 rfl) ?_
          obtain ⟨v_132, hv_132, hs⟩ := op_bd hs
          refine gx_iald hx hb hK hP 2 0 rfl rfl hv_132 dX2_whereIs_132 ?_
          refine lv_icmp_ge (tgt := 140) hx hb dX2_whereIs_133 (by decide) (fun c_133 => ?_) (fun c_133 => ?_)
          · replace hs := it_t c_133 hs
            refine lv_iconst (v := 0) hx hb dX2_whereIs_140 (by decide) ?_
            exact J_141 x3 x4 x5 t0 0 hs _ (lv_sub hl [1, 2, 3, 4, 5, 6, 0] rfl)
          · replace hs := it_f c_133 hs
            refine lv_iconst (v := 1) hx hb dX2_whereIs_136 (by decide) ?_
            refine lv_goto (tgt := 141) hx hb dX2_whereIs_137 (by decide) ?_
            exact J_141 x3 x4 x5 t0 1 hs _ (lv_sub hl [1, 2, 3, 4, 5, 6, 0] rfl)
      have J_81 : ∀ (x3 : Int32) (x4 : Int32) (x5 : Int64), s_X2_whereIs_81 F S p1 p2 (fun y0 y1 => s_X2_whereIs_5 F S p1 p2 n_5 y0 y1) x3 x4 x5 = some r → ∀ ls : Array Slot, lv_has ls 9 [(0, .ref h0), (1, .int p1), (2, .int p2), (3, .int x3), (4, .int x4), (5, .long x5)] → W p l e (headSpec wsX2_whereIs rm_X2_whereIs).room s m ([.ref h0, .int p1, .int p2] : List Value).toArray below meth c s.heap [] 0 0 (MQ below (vp_Si (fun v => v = r)) ([.ref h0, .int p1, .int p2] : List Value).toArray s 0 0 (fun _ => False)) (F0 m 81 ls []) := by
        intro x3 x4 x5 hs ls hl
        rw [s_X2_whereIs_81] at hs
        refine lv_aload_n hx hb dX2_whereIs_81 rfl (lv_at hl 0 rfl) ?_
        refine va_get (D := D) (ci := 2) (v := .ref sy) (C := RX2) (T := TX2) (N := 9) hx hb hts in_X2 hown hK hP 0 rfl rfl 4 (by decide) lk_43 (fun _ h9 => h9) rfl dX2_whereIs_82 ?_
        refine lv_iload hx hb dX2_whereIs_85 (lv_at hl 4 rfl) ?_
        obtain ⟨v_87, hv_87, hs⟩ := op_bd hs
        refine gx_iald hx hb hK hP 2 0 rfl rfl hv_87 dX2_whereIs_87 ?_
        refine lv_iload_n hx hb dX2_whereIs_88 rfl (lv_at hl 2 rfl) ?_
        refine lv_icmp_gt (tgt := 109) hx hb dX2_whereIs_89 (by decide) (fun c_89 => ?_) (fun c_89 => ?_)
        · replace hs := it_t c_89 hs
          refine lv_iconst (v := 0) hx hb dX2_whereIs_109 (by decide) ?_
          exact J_110 x3 x4 x5 0 hs _ (lv_sub hl [0, 1, 2, 3, 4, 5] rfl)
        · replace hs := it_f c_89 hs
          refine lv_iload_n hx hb dX2_whereIs_92 rfl (lv_at hl 2 rfl) ?_
          refine lv_aload_n hx hb dX2_whereIs_93 rfl (lv_at hl 0 rfl) ?_
          refine va_get (D := D) (ci := 2) (v := .ref sy) (C := RX2) (T := TX2) (N := 9) hx hb hts in_X2 hown hK hP 0 rfl rfl 4 (by decide) lk_43 (fun _ h9 => h9) rfl dX2_whereIs_94 ?_
          refine lv_iload hx hb dX2_whereIs_97 (lv_at hl 4 rfl) ?_
          refine lv_iconst (v := 1) hx hb dX2_whereIs_99 (by decide) ?_
          refine lv_iadd hx hb dX2_whereIs_100 ?_
          obtain ⟨v_101, hv_101, hs⟩ := op_bd hs
          refine gx_iald hx hb hK hP 2 0 rfl rfl hv_101 dX2_whereIs_101 ?_
          refine lv_icmp_ge (tgt := 109) hx hb dX2_whereIs_102 (by decide) (fun c_102 => ?_) (fun c_102 => ?_)
          · replace hs := it_t c_102 hs
            refine lv_iconst (v := 0) hx hb dX2_whereIs_109 (by decide) ?_
            exact J_110 x3 x4 x5 0 hs _ (lv_sub hl [0, 1, 2, 3, 4, 5] rfl)
          · replace hs := it_f c_102 hs
            refine lv_iconst (v := 1) hx hb dX2_whereIs_105 (by decide) ?_
            refine lv_goto (tgt := 110) hx hb dX2_whereIs_106 (by decide) ?_
            exact J_110 x3 x4 x5 1 hs _ (lv_sub hl [0, 1, 2, 3, 4, 5] rfl)
      intro x3 x4 hs ls hl
      rw [s_X2_whereIs_5] at hs
      refine lv_iload hx hb dX2_whereIs_5 (lv_at hl 4 rfl) ?_
      refine lv_aload_n hx hb dX2_whereIs_7 rfl (lv_at hl 0 rfl) ?_
      refine va_get (D := D) (ci := 2) (v := .int (sh_z S)) (C := RX2) (T := TX2) (N := 9) hx hb hts in_X2 hown hK hP 0 rfl rfl 1 (by decide) lk_9 (fun _ h9 => h9) rfl dX2_whereIs_8 ?_
      refine lv_icmp_ge (tgt := 183) hx hb dX2_whereIs_11 (by decide) (fun c_11 => ?_) (fun c_11 => ?_)
      · replace hs := it_t c_11 hs
        refine lv_iload_n hx hb dX2_whereIs_183 rfl (lv_at hl 3 rfl) ?_
        refine lv_if_eq (tgt := 191) hx hb dX2_whereIs_184 (by decide) (fun c_184 => ?_) (fun c_184 => ?_)
        · replace hs := it_t c_184 hs
          refine lv_iconst (v := 0) hx hb dX2_whereIs_191 (by decide) ?_
          obtain rfl := Option.some.inj hs
          exact W.iret hx hb hr (fun t ht hW => ⟨_, rfl, rfl, ht⟩) (fun _ h => by cases h) dX2_whereIs_192
        · replace hs := it_f c_184 hs
          refine lv_iconst (v := 1) hx hb dX2_whereIs_187 (by decide) ?_
          refine lv_goto (tgt := 192) hx hb dX2_whereIs_188 (by decide) ?_
          obtain rfl := Option.some.inj hs
          exact W.iret hx hb hr (fun t ht hW => ⟨_, rfl, rfl, ht⟩) (fun _ h => by cases h) dX2_whereIs_192
      · replace hs := it_f c_11 hs
        refine lv_aload_n hx hb dX2_whereIs_14 rfl (lv_at hl 0 rfl) ?_
        refine lv_iload hx hb dX2_whereIs_15 (lv_at hl 4 rfl) ?_
        refine lv_iload_n hx hb dX2_whereIs_17 rfl (lv_at hl 1 rfl) ?_
        refine lv_iload_n hx hb dX2_whereIs_18 rfl (lv_at hl 2 rfl) ?_
        obtain ⟨v_19, hc_19, hs⟩ := op_bd hs
        refine gx_cSl (va_Run.run (va_runV (As := [.int x4, .int p1, .int p2]) (rest := []) ⟨hx, hb, hml, hown, hts⟩ (c_X2_turn l D cI cJ cZ cS ad h0 sx sy S x4 p1 p2 F hkS v_19 hc_19) (cwV 3 hts gX2_whereIs_X2_turn rfl rfl rfl (by decide +kernel) ⟨Nat.le_of_ble_eq_true rfl, Nat.le_of_ble_eq_true rfl⟩) ⟨gl_blind, va_recv hK hP (ci := 2) (q0 := 0) rfl rfl, gl_ok hK hE (hP.sub [0, 1, 2] rfl)⟩ rfl rfl hl.1 rfl (lv_room (Nat.le_of_ble_eq_true rfl)) dX2_whereIs_19 ⟨Nat.le_of_ble_eq_true rfl, Nat.le_of_ble_eq_true rfl⟩)) ?_
        refine lv_lstore (lv' := [(5, .long v_19), (0, .ref h0), (1, .int p1), (2, .int p2), (3, .int x3), (4, .int x4)]) hx hb dX2_whereIs_22 hl (by decide) rfl (fun ls hl => ?_)
        refine lv_lload hx hb dX2_whereIs_24 (lv_at hl 0 rfl) ?_
        refine lv_lconst (v := 0) hx hb dX2_whereIs_26 (by decide) ?_
        refine W.lcmp hx hb dX2_whereIs_27 ?_
        refine lv_if_ne (tgt := 81) hx hb dX2_whereIs_28 (by decide) (fun c_28 => ?_) (fun c_28 => ?_)
        · replace hs := it_f c_28 hs
          exact J_81 x3 x4 v_19 hs _ (lv_sub hl [1, 2, 3, 4, 5, 0] rfl)
        · replace hs := it_t c_28 hs
          refine lv_aload_n hx hb dX2_whereIs_31 rfl (lv_at hl 1 rfl) ?_
          refine va_get (D := D) (ci := 2) (v := .ref sx) (C := RX2) (T := TX2) (N := 9) hx hb hts in_X2 hown hK hP 0 rfl rfl 3 (by decide) lk_39 (fun _ h9 => h9) rfl dX2_whereIs_32 ?_
          refine lv_iload hx hb dX2_whereIs_35 (lv_at hl 5 rfl) ?_
          obtain ⟨v_37, hv_37, hs⟩ := op_bd hs
          refine gx_iald hx hb hK hP 1 0 rfl rfl hv_37 dX2_whereIs_37 ?_
          refine lv_aload_n hx hb dX2_whereIs_38 rfl (lv_at hl 1 rfl) ?_
          refine va_get (D := D) (ci := 2) (v := .ref sx) (C := RX2) (T := TX2) (N := 9) hx hb hts in_X2 hown hK hP 0 rfl rfl 3 (by decide) lk_39 (fun _ h9 => h9) rfl dX2_whereIs_39 ?_
          refine lv_iload hx hb dX2_whereIs_42 (lv_at hl 5 rfl) ?_
          refine lv_iconst (v := 1) hx hb dX2_whereIs_44 (by decide) ?_
          refine lv_iadd hx hb dX2_whereIs_45 ?_
          obtain ⟨v_46, hv_46, hs⟩ := op_bd hs
          refine gx_iald hx hb hK hP 1 0 rfl rfl hv_46 dX2_whereIs_46 ?_
          refine lv_iload_n hx hb dX2_whereIs_47 rfl (lv_at hl 2 rfl) ?_
          refine lv_iload_n hx hb dX2_whereIs_48 rfl (lv_at hl 2 rfl) ?_
          obtain ⟨v_49, hc_49, hs⟩ := op_bd hs
          refine gx_cSi (va_Run.run (va_runS (As := [.int v_37, .int v_46, .int p1, .int p1]) (rest := []) ⟨hx, hb, hml, hown, hts⟩ (c_X2_overlap l D cI cJ cZ cS ad v_37 v_46 p1 p1 F  v_49 hc_49) (va_cwS 4 hts gX2_whereIs_X2_overlap rfl rfl rfl (by decide +kernel) ⟨Nat.le_of_ble_eq_true rfl, Nat.le_of_ble_eq_true rfl⟩) ⟨gl_blind, gl_ok hK hE trivial⟩ rfl rfl hl.1 rfl (lv_room (Nat.le_of_ble_eq_true rfl)) dX2_whereIs_49 ⟨Nat.le_of_ble_eq_true rfl, Nat.le_of_ble_eq_true rfl⟩)) ?_
          refine lv_if_eq (tgt := 81) hx hb dX2_whereIs_52 (by decide) (fun c_52 => ?_) (fun c_52 => ?_)
          · replace hs := it_t c_52 hs
            exact J_81 x3 x4 v_19 hs _ (lv_sub hl [1, 2, 3, 4, 5, 0] rfl)
          · replace hs := it_f c_52 hs
            refine lv_aload_n hx hb dX2_whereIs_55 rfl (lv_at hl 1 rfl) ?_
            refine va_get (D := D) (ci := 2) (v := .ref sy) (C := RX2) (T := TX2) (N := 9) hx hb hts in_X2 hown hK hP 0 rfl rfl 4 (by decide) lk_43 (fun _ h9 => h9) rfl dX2_whereIs_56 ?_
            refine lv_iload hx hb dX2_whereIs_59 (lv_at hl 5 rfl) ?_
            obtain ⟨v_61, hv_61, hs⟩ := op_bd hs
            refine gx_iald hx hb hK hP 2 0 rfl rfl hv_61 dX2_whereIs_61 ?_
            refine lv_aload_n hx hb dX2_whereIs_62 rfl (lv_at hl 1 rfl) ?_
            refine va_get (D := D) (ci := 2) (v := .ref sy) (C := RX2) (T := TX2) (N := 9) hx hb hts in_X2 hown hK hP 0 rfl rfl 4 (by decide) lk_43 (fun _ h9 => h9) rfl dX2_whereIs_63 ?_
            refine lv_iload hx hb dX2_whereIs_66 (lv_at hl 5 rfl) ?_
            refine lv_iconst (v := 1) hx hb dX2_whereIs_68 (by decide) ?_
            refine lv_iadd hx hb dX2_whereIs_69 ?_
            obtain ⟨v_70, hv_70, hs⟩ := op_bd hs
            refine gx_iald hx hb hK hP 2 0 rfl rfl hv_70 dX2_whereIs_70 ?_
            refine lv_iload_n hx hb dX2_whereIs_71 rfl (lv_at hl 3 rfl) ?_
            refine lv_iload_n hx hb dX2_whereIs_72 rfl (lv_at hl 3 rfl) ?_
            obtain ⟨v_73, hc_73, hs⟩ := op_bd hs
            refine gx_cSi (va_Run.run (va_runS (As := [.int v_61, .int v_70, .int p2, .int p2]) (rest := []) ⟨hx, hb, hml, hown, hts⟩ (c_X2_overlap l D cI cJ cZ cS ad v_61 v_70 p2 p2 F  v_73 hc_73) (va_cwS 4 hts gX2_whereIs_X2_overlap rfl rfl rfl (by decide +kernel) ⟨Nat.le_of_ble_eq_true rfl, Nat.le_of_ble_eq_true rfl⟩) ⟨gl_blind, gl_ok hK hE trivial⟩ rfl rfl hl.1 rfl (lv_room (Nat.le_of_ble_eq_true rfl)) dX2_whereIs_73 ⟨Nat.le_of_ble_eq_true rfl, Nat.le_of_ble_eq_true rfl⟩)) ?_
            refine lv_if_eq (tgt := 81) hx hb dX2_whereIs_76 (by decide) (fun c_76 => ?_) (fun c_76 => ?_)
            · replace hs := it_t c_76 hs
              exact J_81 x3 x4 v_19 hs _ (lv_sub hl [1, 2, 3, 4, 5, 0] rfl)
            · replace hs := it_f c_76 hs
              refine lv_iconst (v := 2) hx hb dX2_whereIs_79 (by decide) ?_
              obtain rfl := Option.some.inj hs
              exact W.iret hx hb hr (fun t ht hW => ⟨_, rfl, rfl, ht⟩) (fun _ h => by cases h) dX2_whereIs_80
  have hl := lv_entry ([.ref h0, .int p1, .int p2]) (n := 9) (Nat.le_of_ble_eq_true rfl)
  rw [lg_entry_eq]
  generalize (lg_sl ([.ref h0, .int p1, .int p2]) ++ List.replicate (9 - (lg_sl ([.ref h0, .int p1, .int p2])).length) Slot.unset).toArray = ls at hl ⊢
  have hl : lv_has ls 9 [(0, .ref h0), (1, .int p1), (2, .int p2)] := hl
  rw [s_X2_whereIs] at hs
  refine lv_iconst (v := 0) hx hb dX2_whereIs_0 (by decide) ?_
  refine lv_istore_n (lv' := [(3, .int 0), (0, .ref h0), (1, .int p1), (2, .int p2)]) hx hb dX2_whereIs_1 rfl hl (by decide) rfl (fun ls hl => ?_)
  refine lv_iconst (v := 0) hx hb dX2_whereIs_2 (by decide) ?_
  refine lv_istore (lv' := [(4, .int 0), (3, .int 0), (0, .ref h0), (1, .int p1), (2, .int p2)]) hx hb dX2_whereIs_3 hl (by decide) rfl (fun ls hl => ?_)
  exact J_5 F 0 0 hs _ (lv_sub hl [2, 3, 4, 1, 0] rfl)
def s_X2_holds (F : Nat) (S : sh_T) (p1 : Int32) (p2 : Int32) : Option Int32 :=
  if (sh_k S) = 2 then
    (s_X2_whereIs F S p1 p2).bind fun v_13 =>
    if v_13 = 0 then
      some 0
    else
      some 1
  else
    some 0
abbrev rm_X2_holds : Room := { frames := 3, cells := 0, slots := 0, locals := 72 }
theorem in_X2_holds_X2 : ∀ w ∈ wsX20, w ∈ wsX2_holds := by decide +kernel
set_option maxHeartbeats 4000000 in
set_option maxRecDepth 100000 in
theorem c_X2_holds (l : Launch) (D : va_G) (cI cJ cZ cS : ClassId) (ad : Nat → Nat) (h0 sx sy : Nat) (S : sh_T) (p1 : Int32) (p2 : Int32) (F : Nat) (hkS : sh_k S < 3) (r : Int32) (hs : s_X2_holds F S p1 p2 = some r) : Met l yX2_holds wsX2_holds rm_X2_holds (gl_P D cI cJ cZ cS ad [.ref h0, .int p1, .int p2] (fun H => va_P D vwCl (sh_w cI ad h0 sx sy S) H)) (vp_Si (fun v => v = r)) 0 0 (fun _ => False) := by
  refine Met.ofW (cc := cX2_holds) (maxL := 3) (ret := (some .boolean)) (by decide) rfl ?_
  intro p e s m args below meth c s₁ B hml hv
  obtain ⟨rfl, hK, hE, hP⟩ := hv
  have hx := B.exec
  have hb := B.bytes
  have hr := B.returns
  have hts := atoms_spec (ws := wsX2_holds) B.pre
  have hown : s.vm.findClass RX2 = some m.cls := findClass_of_methodNamed B.named
  have hlocks := B.notSynchronized
  have lk_30 := hts (.fieldLink RX2 30 "PlacePoints$Shape" "kind" "LPlacePoints$Kind;") (by decide +kernel)
  have in_X2 := in_X2_holds_X2
  have hl := lv_entry ([.ref h0, .int p1, .int p2]) (n := 3) (Nat.le_of_ble_eq_true rfl)
  rw [lg_entry_eq]
  generalize (lg_sl ([.ref h0, .int p1, .int p2]) ++ List.replicate (3 - (lg_sl ([.ref h0, .int p1, .int p2])).length) Slot.unset).toArray = ls at hl ⊢
  have hl : lv_has ls 3 [(0, .ref h0), (1, .int p1), (2, .int p2)] := hl
  rw [s_X2_holds] at hs
  refine lv_aload_n hx hb dX2_holds_0 rfl (lv_at hl 0 rfl) ?_
  refine va_get (D := D) (ci := 2) (v := .ref (ad (sh_k S))) (C := RX2) (T := TX2) (N := 9) hx hb hts in_X2 hown hK hP 0 rfl rfl 0 (by decide) lk_30 (fun _ h9 => h9) rfl dX2_holds_1 ?_
  refine va_gets hx hb (hE.1 2 (by decide)).1 va_S.rf hown (hts (.fieldLink RX2 103 "PlacePoints$Kind" "POLYGON" "LPlacePoints$Kind;") (by decide +kernel)) (fun _ h9 => h9) dX2_holds_4 ?_
  refine W.eq (g2 := F0 m 7 ls [.ref (ad 2), .ref (ad (sh_k S))]) rfl ?_
  refine gx_acmp_ne (tgt := 23) hE (show (sh_k S) < 3 from hkS) (show 2 < 3 from (by decide)) hx hb dX2_holds_7 (by decide) (fun c_7 => ?_) (fun c_7 => ?_)
  · replace hs := it_f c_7 hs
    refine lv_iconst (v := 0) hx hb dX2_holds_23 (by decide) ?_
    obtain rfl := Option.some.inj hs
    exact W.zret hx hb hr rfl (fun t ht hW => ⟨_, rfl, rfl, ht⟩) (fun _ h => by cases h) dX2_holds_24
  · replace hs := it_t c_7 hs
    refine lv_aload_n hx hb dX2_holds_10 rfl (lv_at hl 0 rfl) ?_
    refine lv_iload_n hx hb dX2_holds_11 rfl (lv_at hl 1 rfl) ?_
    refine lv_iload_n hx hb dX2_holds_12 rfl (lv_at hl 2 rfl) ?_
    obtain ⟨v_13, hc_13, hs⟩ := op_bd hs
    refine gx_cSi (va_Run.run (va_runV (As := [.int p1, .int p2]) (rest := []) ⟨hx, hb, hml, hown, hts⟩ (c_X2_whereIs l D cI cJ cZ cS ad h0 sx sy S p1 p2 F hkS v_13 hc_13) (cwV 2 hts gX2_holds_X2_whereIs rfl rfl rfl (by decide +kernel) ⟨Nat.le_of_ble_eq_true rfl, Nat.le_of_ble_eq_true rfl⟩) ⟨gl_blind, va_recv hK hP (ci := 2) (q0 := 0) rfl rfl, gl_ok hK hE (hP.sub [0, 1, 2] rfl)⟩ rfl rfl hl.1 rfl (lv_room (Nat.le_of_ble_eq_true rfl)) dX2_holds_13 ⟨Nat.le_of_ble_eq_true rfl, Nat.le_of_ble_eq_true rfl⟩)) ?_
    refine lv_if_eq (tgt := 23) hx hb dX2_holds_16 (by decide) (fun c_16 => ?_) (fun c_16 => ?_)
    · replace hs := it_t c_16 hs
      refine lv_iconst (v := 0) hx hb dX2_holds_23 (by decide) ?_
      obtain rfl := Option.some.inj hs
      exact W.zret hx hb hr rfl (fun t ht hW => ⟨_, rfl, rfl, ht⟩) (fun _ h => by cases h) dX2_holds_24
    · replace hs := it_f c_16 hs
      refine lv_iconst (v := 1) hx hb dX2_holds_19 (by decide) ?_
      refine lv_goto (tgt := 24) hx hb dX2_holds_20 (by decide) ?_
      obtain rfl := Option.some.inj hs
      exact W.zret hx hb hr rfl (fun t ht hW => ⟨_, rfl, rfl, ht⟩) (fun _ h => by cases h) dX2_holds_24
def s_X2_touches_12 (F : Nat) (S : sh_T) (T : sh_T) (kc_2 : Int32 → Option Int32) : Nat → Int32 → Int32 → Option Int32
  | 0, _, _ => none
  | n + 1, x2, x3 =>
    (s_X2_sideCount F T).bind fun v_14 =>
    if v_14 ≤ x3 then
      (some (x2 + 1)).bind fun e_38 =>
      kc_2 e_38
    else
      (s_X2_sideTouches F S x2 T x3).bind fun v_24 =>
      if v_24 = 0 then
        (some (x3 + 1)).bind fun e_32 =>
        s_X2_touches_12 F S T kc_2 n x2 e_32
      else
        some 1
def s_X2_touches_2 (F : Nat) (S : sh_T) (T : sh_T) : Nat → Int32 → Option Int32
  | 0, _ => none
  | n + 1, x2 =>
    (s_X2_sideCount F S).bind fun v_4 =>
    if v_4 ≤ x2 then
      (rd_i (sh_n T) (sh_x T) 0).bind fun v_50 =>
      (rd_i (sh_n T) (sh_y T) 0).bind fun v_56 =>
      (s_X2_holds F S v_50 v_56).bind fun v_57 =>
      if v_57 = 0 then
        (rd_i (sh_n S) (sh_x S) 0).bind fun v_69 =>
        (rd_i (sh_n S) (sh_y S) 0).bind fun v_75 =>
        (s_X2_holds F T v_69 v_75).bind fun v_76 =>
        if v_76 = 0 then
          some 0
        else
          some 1
      else
        some 1
    else
      s_X2_touches_12 F S T (fun y0 => s_X2_touches_2 F S T n y0) F x2 0
def s_X2_touches (F : Nat) (S : sh_T) (T : sh_T) : Option Int32 :=
  s_X2_touches_2 F S T F 0
abbrev rm_X2_touches : Room := { frames := 4, cells := 0, slots := 0, locals := 94 }
theorem in_X2_touches_X2 : ∀ w ∈ wsX20, w ∈ wsX2_touches := by decide +kernel
set_option maxHeartbeats 4000000 in
set_option maxRecDepth 100000 in
theorem c_X2_touches (l : Launch) (D : va_G) (cI cJ cZ cS : ClassId) (ad : Nat → Nat) (h0 sx sy k0 kx ky : Nat) (S : sh_T) (T : sh_T) (F : Nat) (hkS : sh_k S < 3) (hkT : sh_k T < 3) (r : Int32) (hs : s_X2_touches F S T = some r) : Met l yX2_touches wsX2_touches rm_X2_touches (gl_P D cI cJ cZ cS ad [.ref h0, .ref k0] (fun H => va_P D vwCl (sh_w cI ad h0 sx sy S ++ sh_w cI ad k0 kx ky T) H)) (vp_Si (fun v => v = r)) 0 0 (fun _ => False) := by
  refine Met.ofW (cc := cX2_touches) (maxL := 4) (ret := (some .boolean)) (by decide) rfl ?_
  intro p e s m args below meth c s₁ B hml hv
  obtain ⟨rfl, hK, hE, hP⟩ := hv
  have hx := B.exec
  have hb := B.bytes
  have hr := B.returns
  have hts := atoms_spec (ws := wsX2_touches) B.pre
  have hown : s.vm.findClass RX2 = some m.cls := findClass_of_methodNamed B.named
  have hlocks := B.notSynchronized
  have lk_39 := hts (.fieldLink RX2 39 "PlacePoints$Shape" "xs" "[I") (by decide +kernel)
  have lk_43 := hts (.fieldLink RX2 43 "PlacePoints$Shape" "ys" "[I") (by decide +kernel)
  have in_X2 := in_X2_touches_X2
  have J_2 : ∀ (n_2 : Nat) (x2 : Int32), s_X2_touches_2 F S T n_2 x2 = some r → ∀ ls : Array Slot, lv_has ls 4 [(0, .ref h0), (1, .ref k0), (2, .int x2)] → W p l e (headSpec wsX2_touches rm_X2_touches).room s m ([.ref h0, .ref k0] : List Value).toArray below meth c s.heap [] 0 0 (MQ below (vp_Si (fun v => v = r)) ([.ref h0, .ref k0] : List Value).toArray s 0 0 (fun _ => False)) (F0 m 2 ls []) := by
    intro n_2
    induction n_2 with
    | zero =>
      intro x2 hs
      cases hs
    | succ n_2 ih_2 =>
      have J_12 : ∀ (n_12 : Nat) (x2 : Int32) (x3 : Int32), s_X2_touches_12 F S T (fun y0 => s_X2_touches_2 F S T n_2 y0) n_12 x2 x3 = some r → ∀ ls : Array Slot, lv_has ls 4 [(0, .ref h0), (1, .ref k0), (2, .int x2), (3, .int x3)] → W p l e (headSpec wsX2_touches rm_X2_touches).room s m ([.ref h0, .ref k0] : List Value).toArray below meth c s.heap [] 0 0 (MQ below (vp_Si (fun v => v = r)) ([.ref h0, .ref k0] : List Value).toArray s 0 0 (fun _ => False)) (F0 m 12 ls []) := by
        intro n_12
        induction n_12 with
        | zero =>
          intro x2 x3 hs
          cases hs
        | succ n_12 ih_12 =>
          intro x2 x3 hs ls hl
          rw [s_X2_touches_12] at hs
          refine lv_iload_n hx hb dX2_touches_12 rfl (lv_at hl 3 rfl) ?_
          refine lv_aload_n hx hb dX2_touches_13 rfl (lv_at hl 1 rfl) ?_
          obtain ⟨v_14, hc_14, hs⟩ := op_bd hs
          refine gx_cSi (va_Run.run (va_runV (As := []) (rest := [.int x3]) ⟨hx, hb, hml, hown, hts⟩ (c_X2_sideCount l D cI cJ cZ cS ad k0 kx ky T F hkT v_14 hc_14) (cwV 0 hts gX2_touches_X2_sideCount rfl rfl rfl (by decide +kernel) ⟨Nat.le_of_ble_eq_true rfl, Nat.le_of_ble_eq_true rfl⟩) ⟨gl_blind, va_recv hK hP (ci := 2) (q0 := 3) rfl rfl, gl_ok hK hE (hP.sub [3, 4, 5] rfl)⟩ rfl rfl hl.1 rfl (lv_room (Nat.le_of_ble_eq_true rfl)) dX2_touches_14 ⟨Nat.le_of_ble_eq_true rfl, Nat.le_of_ble_eq_true rfl⟩)) ?_
          refine lv_icmp_ge (tgt := 38) hx hb dX2_touches_17 (by decide) (fun c_17 => ?_) (fun c_17 => ?_)
          · replace hs := it_t c_17 hs
            obtain ⟨e_38, hv_38, hs⟩ := op_bd hs
            refine lv_iinc (v := e_38) (lv' := [(2, .int e_38), (0, .ref h0), (1, .ref k0), (3, .int x3)]) hx hb dX2_touches_38 hl (k := 2) rfl (Option.some.inj hv_38) (by decide) rfl (fun ls hl => ?_)
            refine lv_goto (tgt := 2) hx hb dX2_touches_41 (by decide) ?_
            exact ih_2 e_38 hs _ (lv_sub hl [1, 2, 0] rfl)
          · replace hs := it_f c_17 hs
            refine lv_aload_n hx hb dX2_touches_20 rfl (lv_at hl 0 rfl) ?_
            refine lv_iload_n hx hb dX2_touches_21 rfl (lv_at hl 2 rfl) ?_
            refine lv_aload_n hx hb dX2_touches_22 rfl (lv_at hl 1 rfl) ?_
            refine lv_iload_n hx hb dX2_touches_23 rfl (lv_at hl 3 rfl) ?_
            obtain ⟨v_24, hc_24, hs⟩ := op_bd hs
            refine gx_cSi (va_Run.run (va_runV (As := [.int x2, .ref k0, .int x3]) (rest := []) ⟨hx, hb, hml, hown, hts⟩ (c_X2_sideTouches l D cI cJ cZ cS ad h0 sx sy k0 kx ky S x2 T x3 F hkS hkT v_24 hc_24) (cwV 3 hts gX2_touches_X2_sideTouches rfl rfl rfl (by decide +kernel) ⟨Nat.le_of_ble_eq_true rfl, Nat.le_of_ble_eq_true rfl⟩) ⟨gl_blind, va_recv hK hP (ci := 2) (q0 := 0) rfl rfl, gl_ok hK hE (hP.sub [0, 1, 2, 3, 4, 5] rfl)⟩ rfl rfl hl.1 rfl (lv_room (Nat.le_of_ble_eq_true rfl)) dX2_touches_24 ⟨Nat.le_of_ble_eq_true rfl, Nat.le_of_ble_eq_true rfl⟩)) ?_
            refine lv_if_eq (tgt := 32) hx hb dX2_touches_27 (by decide) (fun c_27 => ?_) (fun c_27 => ?_)
            · replace hs := it_t c_27 hs
              obtain ⟨e_32, hv_32, hs⟩ := op_bd hs
              refine lv_iinc (v := e_32) (lv' := [(3, .int e_32), (0, .ref h0), (1, .ref k0), (2, .int x2)]) hx hb dX2_touches_32 hl (k := 3) rfl (Option.some.inj hv_32) (by decide) rfl (fun ls hl => ?_)
              refine lv_goto (tgt := 12) hx hb dX2_touches_35 (by decide) ?_
              exact ih_12 x2 e_32 hs _ (lv_sub hl [1, 2, 3, 0] rfl)
            · replace hs := it_f c_27 hs
              refine lv_iconst (v := 1) hx hb dX2_touches_30 (by decide) ?_
              obtain rfl := Option.some.inj hs
              exact W.zret hx hb hr rfl (fun t ht hW => ⟨_, rfl, rfl, ht⟩) (fun _ h => by cases h) dX2_touches_31
      intro x2 hs ls hl
      rw [s_X2_touches_2] at hs
      refine lv_iload_n hx hb dX2_touches_2 rfl (lv_at hl 2 rfl) ?_
      refine lv_aload_n hx hb dX2_touches_3 rfl (lv_at hl 0 rfl) ?_
      obtain ⟨v_4, hc_4, hs⟩ := op_bd hs
      refine gx_cSi (va_Run.run (va_runV (As := []) (rest := [.int x2]) ⟨hx, hb, hml, hown, hts⟩ (c_X2_sideCount l D cI cJ cZ cS ad h0 sx sy S F hkS v_4 hc_4) (cwV 0 hts gX2_touches_X2_sideCount rfl rfl rfl (by decide +kernel) ⟨Nat.le_of_ble_eq_true rfl, Nat.le_of_ble_eq_true rfl⟩) ⟨gl_blind, va_recv hK hP (ci := 2) (q0 := 0) rfl rfl, gl_ok hK hE (hP.sub [0, 1, 2] rfl)⟩ rfl rfl hl.1 rfl (lv_room (Nat.le_of_ble_eq_true rfl)) dX2_touches_4 ⟨Nat.le_of_ble_eq_true rfl, Nat.le_of_ble_eq_true rfl⟩)) ?_
      refine lv_icmp_ge (tgt := 44) hx hb dX2_touches_7 (by decide) (fun c_7 => ?_) (fun c_7 => ?_)
      · replace hs := it_t c_7 hs
        refine lv_aload_n hx hb dX2_touches_44 rfl (lv_at hl 0 rfl) ?_
        refine lv_aload_n hx hb dX2_touches_45 rfl (lv_at hl 1 rfl) ?_
        refine va_get (D := D) (ci := 2) (v := .ref kx) (C := RX2) (T := TX2) (N := 9) hx hb hts in_X2 hown hK hP 3 rfl rfl 3 (by decide) lk_39 (fun _ h9 => h9) rfl dX2_touches_46 ?_
        refine lv_iconst (v := 0) hx hb dX2_touches_49 (by decide) ?_
        obtain ⟨v_50, hv_50, hs⟩ := op_bd hs
        refine gx_iald hx hb hK hP 4 0 rfl rfl hv_50 dX2_touches_50 ?_
        refine lv_aload_n hx hb dX2_touches_51 rfl (lv_at hl 1 rfl) ?_
        refine va_get (D := D) (ci := 2) (v := .ref ky) (C := RX2) (T := TX2) (N := 9) hx hb hts in_X2 hown hK hP 3 rfl rfl 4 (by decide) lk_43 (fun _ h9 => h9) rfl dX2_touches_52 ?_
        refine lv_iconst (v := 0) hx hb dX2_touches_55 (by decide) ?_
        obtain ⟨v_56, hv_56, hs⟩ := op_bd hs
        refine gx_iald hx hb hK hP 5 0 rfl rfl hv_56 dX2_touches_56 ?_
        obtain ⟨v_57, hc_57, hs⟩ := op_bd hs
        refine gx_cSi (va_Run.run (va_runV (As := [.int v_50, .int v_56]) (rest := []) ⟨hx, hb, hml, hown, hts⟩ (c_X2_holds l D cI cJ cZ cS ad h0 sx sy S v_50 v_56 F hkS v_57 hc_57) (cwV 2 hts gX2_touches_X2_holds rfl rfl rfl (by decide +kernel) ⟨Nat.le_of_ble_eq_true rfl, Nat.le_of_ble_eq_true rfl⟩) ⟨gl_blind, va_recv hK hP (ci := 2) (q0 := 0) rfl rfl, gl_ok hK hE (hP.sub [0, 1, 2] rfl)⟩ rfl rfl hl.1 rfl (lv_room (Nat.le_of_ble_eq_true rfl)) dX2_touches_57 ⟨Nat.le_of_ble_eq_true rfl, Nat.le_of_ble_eq_true rfl⟩)) ?_
        refine lv_if_ne (tgt := 82) hx hb dX2_touches_60 (by decide) (fun c_60 => ?_) (fun c_60 => ?_)
        · replace hs := it_f c_60 hs
          refine lv_iconst (v := 1) hx hb dX2_touches_82 (by decide) ?_
          refine lv_goto (tgt := 87) hx hb dX2_touches_83 (by decide) ?_
          obtain rfl := Option.some.inj hs
          exact W.zret hx hb hr rfl (fun t ht hW => ⟨_, rfl, rfl, ht⟩) (fun _ h => by cases h) dX2_touches_87
        · replace hs := it_t c_60 hs
          refine lv_aload_n hx hb dX2_touches_63 rfl (lv_at hl 1 rfl) ?_
          refine lv_aload_n hx hb dX2_touches_64 rfl (lv_at hl 0 rfl) ?_
          refine va_get (D := D) (ci := 2) (v := .ref sx) (C := RX2) (T := TX2) (N := 9) hx hb hts in_X2 hown hK hP 0 rfl rfl 3 (by decide) lk_39 (fun _ h9 => h9) rfl dX2_touches_65 ?_
          refine lv_iconst (v := 0) hx hb dX2_touches_68 (by decide) ?_
          obtain ⟨v_69, hv_69, hs⟩ := op_bd hs
          refine gx_iald hx hb hK hP 1 0 rfl rfl hv_69 dX2_touches_69 ?_
          refine lv_aload_n hx hb dX2_touches_70 rfl (lv_at hl 0 rfl) ?_
          refine va_get (D := D) (ci := 2) (v := .ref sy) (C := RX2) (T := TX2) (N := 9) hx hb hts in_X2 hown hK hP 0 rfl rfl 4 (by decide) lk_43 (fun _ h9 => h9) rfl dX2_touches_71 ?_
          refine lv_iconst (v := 0) hx hb dX2_touches_74 (by decide) ?_
          obtain ⟨v_75, hv_75, hs⟩ := op_bd hs
          refine gx_iald hx hb hK hP 2 0 rfl rfl hv_75 dX2_touches_75 ?_
          obtain ⟨v_76, hc_76, hs⟩ := op_bd hs
          refine gx_cSi (va_Run.run (va_runV (As := [.int v_69, .int v_75]) (rest := []) ⟨hx, hb, hml, hown, hts⟩ (c_X2_holds l D cI cJ cZ cS ad k0 kx ky T v_69 v_75 F hkT v_76 hc_76) (cwV 2 hts gX2_touches_X2_holds rfl rfl rfl (by decide +kernel) ⟨Nat.le_of_ble_eq_true rfl, Nat.le_of_ble_eq_true rfl⟩) ⟨gl_blind, va_recv hK hP (ci := 2) (q0 := 3) rfl rfl, gl_ok hK hE (hP.sub [3, 4, 5] rfl)⟩ rfl rfl hl.1 rfl (lv_room (Nat.le_of_ble_eq_true rfl)) dX2_touches_76 ⟨Nat.le_of_ble_eq_true rfl, Nat.le_of_ble_eq_true rfl⟩)) ?_
          refine lv_if_eq (tgt := 86) hx hb dX2_touches_79 (by decide) (fun c_79 => ?_) (fun c_79 => ?_)
          · replace hs := it_t c_79 hs
            refine lv_iconst (v := 0) hx hb dX2_touches_86 (by decide) ?_
            obtain rfl := Option.some.inj hs
            exact W.zret hx hb hr rfl (fun t ht hW => ⟨_, rfl, rfl, ht⟩) (fun _ h => by cases h) dX2_touches_87
          · replace hs := it_f c_79 hs
            refine lv_iconst (v := 1) hx hb dX2_touches_82 (by decide) ?_
            refine lv_goto (tgt := 87) hx hb dX2_touches_83 (by decide) ?_
            obtain rfl := Option.some.inj hs
            exact W.zret hx hb hr rfl (fun t ht hW => ⟨_, rfl, rfl, ht⟩) (fun _ h => by cases h) dX2_touches_87
      · replace hs := it_f c_7 hs
        refine lv_iconst (v := 0) hx hb dX2_touches_10 (by decide) ?_
        refine lv_istore_n (lv' := [(3, .int 0), (0, .ref h0), (1, .ref k0), (2, .int x2)]) hx hb dX2_touches_11 rfl hl (by decide) rfl (fun ls hl => ?_)
        exact J_12 F x2 0 hs _ (lv_sub hl [1, 2, 3, 0] rfl)
  have hl := lv_entry ([.ref h0, .ref k0]) (n := 4) (Nat.le_of_ble_eq_true rfl)
  rw [lg_entry_eq]
  generalize (lg_sl ([.ref h0, .ref k0]) ++ List.replicate (4 - (lg_sl ([.ref h0, .ref k0])).length) Slot.unset).toArray = ls at hl ⊢
  have hl : lv_has ls 4 [(0, .ref h0), (1, .ref k0)] := hl
  rw [s_X2_touches] at hs
  refine lv_iconst (v := 0) hx hb dX2_touches_0 (by decide) ?_
  refine lv_istore_n (lv' := [(2, .int 0), (0, .ref h0), (1, .ref k0)]) hx hb dX2_touches_1 rfl hl (by decide) rfl (fun ls hl => ?_)
  exact J_2 F 0 hs _ (lv_sub hl [1, 2, 0] rfl)
def s_X2_isWrongSide_52 (F : Nat) (S : sh_T) (p1 : Int32) : Nat → Int32 → Option Int32
  | 0, _ => none
  | n + 1, x2 =>
    if (sh_z S) ≤ x2 then
      some 0
    else
      (s_X2_clash F S p1 x2).bind fun v_63 =>
      if v_63 = 0 then
        (some (x2 + 1)).bind fun e_71 =>
        s_X2_isWrongSide_52 F S p1 n e_71
      else
        some 1
def s_X2_isWrongSide_36 (F : Nat) (S : sh_T) (p1 : Int32) : Option Int32 :=
  if (sh_k S) = 2 then
    (some ((p1 + 1))).bind fun e_51 =>
    s_X2_isWrongSide_52 F S p1 F e_51
  else
    some 0
def s_X2_isWrongSide (F : Nat) (S : sh_T) (p1 : Int32) : Option Int32 :=
  (rd_i (sh_n S) (sh_x S) p1).bind fun v_5 =>
  (rd_i (sh_n S) (sh_x S) (p1 + 1)).bind fun v_13 =>
  if v_5 = v_13 then
    (rd_i (sh_n S) (sh_y S) p1).bind fun v_22 =>
    (rd_i (sh_n S) (sh_y S) (p1 + 1)).bind fun v_30 =>
    if v_22 = v_30 then
      some 1
    else
      s_X2_isWrongSide_36 F S p1 
  else
    s_X2_isWrongSide_36 F S p1 
abbrev rm_X2_isWrongSide : Room := { frames := 4, cells := 0, slots := 0, locals := 91 }
theorem in_X2_isWrongSide_X2 : ∀ w ∈ wsX20, w ∈ wsX2_isWrongSide := by decide +kernel
set_option maxHeartbeats 4000000 in
set_option maxRecDepth 100000 in
theorem c_X2_isWrongSide (l : Launch) (D : va_G) (cI cJ cZ cS : ClassId) (ad : Nat → Nat) (h0 sx sy : Nat) (S : sh_T) (p1 : Int32) (F : Nat) (hkS : sh_k S < 3) (r : Int32) (hs : s_X2_isWrongSide F S p1 = some r) : Met l yX2_isWrongSide wsX2_isWrongSide rm_X2_isWrongSide (gl_P D cI cJ cZ cS ad [.ref h0, .int p1] (fun H => va_P D vwCl (sh_w cI ad h0 sx sy S) H)) (vp_Si (fun v => v = r)) 0 0 (fun _ => False) := by
  refine Met.ofW (cc := cX2_isWrongSide) (maxL := 3) (ret := (some .boolean)) (by decide) rfl ?_
  intro p e s m args below meth c s₁ B hml hv
  obtain ⟨rfl, hK, hE, hP⟩ := hv
  have hx := B.exec
  have hb := B.bytes
  have hr := B.returns
  have hts := atoms_spec (ws := wsX2_isWrongSide) B.pre
  have hown : s.vm.findClass RX2 = some m.cls := findClass_of_methodNamed B.named
  have hlocks := B.notSynchronized
  have lk_9 := hts (.fieldLink RX2 9 "PlacePoints$Shape" "size" "I") (by decide +kernel)
  have lk_30 := hts (.fieldLink RX2 30 "PlacePoints$Shape" "kind" "LPlacePoints$Kind;") (by decide +kernel)
  have lk_39 := hts (.fieldLink RX2 39 "PlacePoints$Shape" "xs" "[I") (by decide +kernel)
  have lk_43 := hts (.fieldLink RX2 43 "PlacePoints$Shape" "ys" "[I") (by decide +kernel)
  have in_X2 := in_X2_isWrongSide_X2
  have J_52 : ∀ (n_52 : Nat) (x2 : Int32), s_X2_isWrongSide_52 F S p1 n_52 x2 = some r → ∀ ls : Array Slot, lv_has ls 3 [(0, .ref h0), (1, .int p1), (2, .int x2)] → W p l e (headSpec wsX2_isWrongSide rm_X2_isWrongSide).room s m ([.ref h0, .int p1] : List Value).toArray below meth c s.heap [] 0 0 (MQ below (vp_Si (fun v => v = r)) ([.ref h0, .int p1] : List Value).toArray s 0 0 (fun _ => False)) (F0 m 52 ls []) := by
    intro n_52
    induction n_52 with
    | zero =>
      intro x2 hs
      cases hs
    | succ n_52 ih_52 =>
      intro x2 hs ls hl
      rw [s_X2_isWrongSide_52] at hs
      refine lv_iload_n hx hb dX2_isWrongSide_52 rfl (lv_at hl 2 rfl) ?_
      refine lv_aload_n hx hb dX2_isWrongSide_53 rfl (lv_at hl 0 rfl) ?_
      refine va_get (D := D) (ci := 2) (v := .int (sh_z S)) (C := RX2) (T := TX2) (N := 9) hx hb hts in_X2 hown hK hP 0 rfl rfl 1 (by decide) lk_9 (fun _ h9 => h9) rfl dX2_isWrongSide_54 ?_
      refine lv_icmp_ge (tgt := 77) hx hb dX2_isWrongSide_57 (by decide) (fun c_57 => ?_) (fun c_57 => ?_)
      · replace hs := it_t c_57 hs
        refine lv_iconst (v := 0) hx hb dX2_isWrongSide_77 (by decide) ?_
        obtain rfl := Option.some.inj hs
        exact W.zret hx hb hr rfl (fun t ht hW => ⟨_, rfl, rfl, ht⟩) (fun _ h => by cases h) dX2_isWrongSide_78
      · replace hs := it_f c_57 hs
        refine lv_aload_n hx hb dX2_isWrongSide_60 rfl (lv_at hl 0 rfl) ?_
        refine lv_iload_n hx hb dX2_isWrongSide_61 rfl (lv_at hl 1 rfl) ?_
        refine lv_iload_n hx hb dX2_isWrongSide_62 rfl (lv_at hl 2 rfl) ?_
        obtain ⟨v_63, hc_63, hs⟩ := op_bd hs
        refine gx_cSi (va_Run.run (va_runV (As := [.int p1, .int x2]) (rest := []) ⟨hx, hb, hml, hown, hts⟩ (c_X2_clash l D cI cJ cZ cS ad h0 sx sy S p1 x2 F hkS v_63 hc_63) (cwV 2 hts gX2_isWrongSide_X2_clash rfl rfl rfl (by decide +kernel) ⟨Nat.le_of_ble_eq_true rfl, Nat.le_of_ble_eq_true rfl⟩) ⟨gl_blind, va_recv hK hP (ci := 2) (q0 := 0) rfl rfl, gl_ok hK hE (hP.sub [0, 1, 2] rfl)⟩ rfl rfl hl.1 rfl (lv_room (Nat.le_of_ble_eq_true rfl)) dX2_isWrongSide_63 ⟨Nat.le_of_ble_eq_true rfl, Nat.le_of_ble_eq_true rfl⟩)) ?_
        refine lv_if_eq (tgt := 71) hx hb dX2_isWrongSide_66 (by decide) (fun c_66 => ?_) (fun c_66 => ?_)
        · replace hs := it_t c_66 hs
          obtain ⟨e_71, hv_71, hs⟩ := op_bd hs
          refine lv_iinc (v := e_71) (lv' := [(2, .int e_71), (0, .ref h0), (1, .int p1)]) hx hb dX2_isWrongSide_71 hl (k := 2) rfl (Option.some.inj hv_71) (by decide) rfl (fun ls hl => ?_)
          refine lv_goto (tgt := 52) hx hb dX2_isWrongSide_74 (by decide) ?_
          exact ih_52 e_71 hs _ (lv_sub hl [1, 2, 0] rfl)
        · replace hs := it_f c_66 hs
          refine lv_iconst (v := 1) hx hb dX2_isWrongSide_69 (by decide) ?_
          obtain rfl := Option.some.inj hs
          exact W.zret hx hb hr rfl (fun t ht hW => ⟨_, rfl, rfl, ht⟩) (fun _ h => by cases h) dX2_isWrongSide_70
  have J_36 : s_X2_isWrongSide_36 F S p1 = some r → ∀ ls : Array Slot, lv_has ls 3 [(0, .ref h0), (1, .int p1)] → W p l e (headSpec wsX2_isWrongSide rm_X2_isWrongSide).room s m ([.ref h0, .int p1] : List Value).toArray below meth c s.heap [] 0 0 (MQ below (vp_Si (fun v => v = r)) ([.ref h0, .int p1] : List Value).toArray s 0 0 (fun _ => False)) (F0 m 36 ls []) := by
    intro  hs ls hl
    rw [s_X2_isWrongSide_36] at hs
    refine lv_aload_n hx hb dX2_isWrongSide_36 rfl (lv_at hl 0 rfl) ?_
    refine va_get (D := D) (ci := 2) (v := .ref (ad (sh_k S))) (C := RX2) (T := TX2) (N := 9) hx hb hts in_X2 hown hK hP 0 rfl rfl 0 (by decide) lk_30 (fun _ h9 => h9) rfl dX2_isWrongSide_37 ?_
    refine va_gets hx hb (hE.1 2 (by decide)).1 va_S.rf hown (hts (.fieldLink RX2 103 "PlacePoints$Kind" "POLYGON" "LPlacePoints$Kind;") (by decide +kernel)) (fun _ h9 => h9) dX2_isWrongSide_40 ?_
    refine W.eq (g2 := F0 m 43 ls [.ref (ad 2), .ref (ad (sh_k S))]) rfl ?_
    refine gx_acmp_eq (tgt := 48) hE (show (sh_k S) < 3 from hkS) (show 2 < 3 from (by decide)) hx hb dX2_isWrongSide_43 (by decide) (fun c_43 => ?_) (fun c_43 => ?_)
    · replace hs := it_t c_43 hs
      refine lv_iload_n hx hb dX2_isWrongSide_48 rfl (lv_at hl 1 rfl) ?_
      refine lv_iconst (v := 1) hx hb dX2_isWrongSide_49 (by decide) ?_
      refine lv_iadd hx hb dX2_isWrongSide_50 ?_
      obtain ⟨e_51, hv_51, hs⟩ := op_bd hs
      refine gx_ni (Option.some.inj hv_51) ?_
      refine lv_istore_n (lv' := [(2, .int e_51), (0, .ref h0), (1, .int p1)]) hx hb dX2_isWrongSide_51 rfl hl (by decide) rfl (fun ls hl => ?_)
      exact J_52 F e_51 hs _ (lv_sub hl [1, 2, 0] rfl)
    · replace hs := it_f c_43 hs
      refine lv_iconst (v := 0) hx hb dX2_isWrongSide_46 (by decide) ?_
      obtain rfl := Option.some.inj hs
      exact W.zret hx hb hr rfl (fun t ht hW => ⟨_, rfl, rfl, ht⟩) (fun _ h => by cases h) dX2_isWrongSide_47
  have hl := lv_entry ([.ref h0, .int p1]) (n := 3) (Nat.le_of_ble_eq_true rfl)
  rw [lg_entry_eq]
  generalize (lg_sl ([.ref h0, .int p1]) ++ List.replicate (3 - (lg_sl ([.ref h0, .int p1])).length) Slot.unset).toArray = ls at hl ⊢
  have hl : lv_has ls 3 [(0, .ref h0), (1, .int p1)] := hl
  rw [s_X2_isWrongSide] at hs
  refine lv_aload_n hx hb dX2_isWrongSide_0 rfl (lv_at hl 0 rfl) ?_
  refine va_get (D := D) (ci := 2) (v := .ref sx) (C := RX2) (T := TX2) (N := 9) hx hb hts in_X2 hown hK hP 0 rfl rfl 3 (by decide) lk_39 (fun _ h9 => h9) rfl dX2_isWrongSide_1 ?_
  refine lv_iload_n hx hb dX2_isWrongSide_4 rfl (lv_at hl 1 rfl) ?_
  obtain ⟨v_5, hv_5, hs⟩ := op_bd hs
  refine gx_iald hx hb hK hP 1 0 rfl rfl hv_5 dX2_isWrongSide_5 ?_
  refine lv_aload_n hx hb dX2_isWrongSide_6 rfl (lv_at hl 0 rfl) ?_
  refine va_get (D := D) (ci := 2) (v := .ref sx) (C := RX2) (T := TX2) (N := 9) hx hb hts in_X2 hown hK hP 0 rfl rfl 3 (by decide) lk_39 (fun _ h9 => h9) rfl dX2_isWrongSide_7 ?_
  refine lv_iload_n hx hb dX2_isWrongSide_10 rfl (lv_at hl 1 rfl) ?_
  refine lv_iconst (v := 1) hx hb dX2_isWrongSide_11 (by decide) ?_
  refine lv_iadd hx hb dX2_isWrongSide_12 ?_
  obtain ⟨v_13, hv_13, hs⟩ := op_bd hs
  refine gx_iald hx hb hK hP 1 0 rfl rfl hv_13 dX2_isWrongSide_13 ?_
  refine lv_icmp_ne (tgt := 36) hx hb dX2_isWrongSide_14 (by decide) (fun c_14 => ?_) (fun c_14 => ?_)
  · replace hs := it_f c_14 hs
    exact J_36  hs _ (lv_sub hl [0, 1] rfl)
  · replace hs := it_t c_14 hs
    refine lv_aload_n hx hb dX2_isWrongSide_17 rfl (lv_at hl 0 rfl) ?_
    refine va_get (D := D) (ci := 2) (v := .ref sy) (C := RX2) (T := TX2) (N := 9) hx hb hts in_X2 hown hK hP 0 rfl rfl 4 (by decide) lk_43 (fun _ h9 => h9) rfl dX2_isWrongSide_18 ?_
    refine lv_iload_n hx hb dX2_isWrongSide_21 rfl (lv_at hl 1 rfl) ?_
    obtain ⟨v_22, hv_22, hs⟩ := op_bd hs
    refine gx_iald hx hb hK hP 2 0 rfl rfl hv_22 dX2_isWrongSide_22 ?_
    refine lv_aload_n hx hb dX2_isWrongSide_23 rfl (lv_at hl 0 rfl) ?_
    refine va_get (D := D) (ci := 2) (v := .ref sy) (C := RX2) (T := TX2) (N := 9) hx hb hts in_X2 hown hK hP 0 rfl rfl 4 (by decide) lk_43 (fun _ h9 => h9) rfl dX2_isWrongSide_24 ?_
    refine lv_iload_n hx hb dX2_isWrongSide_27 rfl (lv_at hl 1 rfl) ?_
    refine lv_iconst (v := 1) hx hb dX2_isWrongSide_28 (by decide) ?_
    refine lv_iadd hx hb dX2_isWrongSide_29 ?_
    obtain ⟨v_30, hv_30, hs⟩ := op_bd hs
    refine gx_iald hx hb hK hP 2 0 rfl rfl hv_30 dX2_isWrongSide_30 ?_
    refine lv_icmp_ne (tgt := 36) hx hb dX2_isWrongSide_31 (by decide) (fun c_31 => ?_) (fun c_31 => ?_)
    · replace hs := it_f c_31 hs
      exact J_36  hs _ (lv_sub hl [0, 1] rfl)
    · replace hs := it_t c_31 hs
      refine lv_iconst (v := 1) hx hb dX2_isWrongSide_34 (by decide) ?_
      obtain rfl := Option.some.inj hs
      exact W.zret hx hb hr rfl (fun t ht hW => ⟨_, rfl, rfl, ht⟩) (fun _ h => by cases h) dX2_isWrongSide_35
def s_X2_judge_30 (F : Nat) (S : sh_T) : Nat → Int32 → Option Int32
  | 0, _ => none
  | n + 1, x1 =>
    (s_X2_sideCount F S).bind fun v_32 =>
    if v_32 ≤ x1 then
      some 1
    else
      (s_X2_isWrongSide F S x1).bind fun v_40 =>
      if v_40 = 0 then
        (some (x1 + 1)).bind fun e_51 =>
        s_X2_judge_30 F S n e_51
      else
        some ((-10) - x1)
def s_X2_judge (F : Nat) (S : sh_T) : Option Int32 :=
  if (en_l (sh_k S)) ≤ (sh_z S) then
    if (sh_k S) = 0 then
      some 1
    else
      s_X2_judge_30 F S F 0
  else
    some 0
abbrev rm_X2_judge : Room := { frames := 5, cells := 0, slots := 0, locals := 113 }
theorem in_X2_judge_X2 : ∀ w ∈ wsX20, w ∈ wsX2_judge := by decide +kernel
set_option maxHeartbeats 4000000 in
set_option maxRecDepth 100000 in
theorem c_X2_judge (l : Launch) (D : va_G) (cI cJ cZ cS : ClassId) (ad : Nat → Nat) (h0 sx sy : Nat) (S : sh_T) (F : Nat) (hkS : sh_k S < 3) (r : Int32) (hs : s_X2_judge F S = some r) : Met l yX2_judge wsX2_judge rm_X2_judge (gl_P D cI cJ cZ cS ad [.ref h0] (fun H => va_P D vwCl (sh_w cI ad h0 sx sy S) H)) (vp_Si (fun v => v = r)) 0 0 (fun _ => False) := by
  refine Met.ofW (cc := cX2_judge) (maxL := 2) (ret := (some .int)) (by decide) rfl ?_
  intro p e s m args below meth c s₁ B hml hv
  obtain ⟨rfl, hK, hE, hP⟩ := hv
  have hx := B.exec
  have hb := B.bytes
  have hr := B.returns
  have hts := atoms_spec (ws := wsX2_judge) B.pre
  have hown : s.vm.findClass RX2 = some m.cls := findClass_of_methodNamed B.named
  have hlocks := B.notSynchronized
  have lk_9 := hts (.fieldLink RX2 9 "PlacePoints$Shape" "size" "I") (by decide +kernel)
  have lk_30 := hts (.fieldLink RX2 30 "PlacePoints$Shape" "kind" "LPlacePoints$Kind;") (by decide +kernel)
  have in_X2 := in_X2_judge_X2
  have J_30 : ∀ (n_30 : Nat) (x1 : Int32), s_X2_judge_30 F S n_30 x1 = some r → ∀ ls : Array Slot, lv_has ls 2 [(0, .ref h0), (1, .int x1)] → W p l e (headSpec wsX2_judge rm_X2_judge).room s m ([.ref h0] : List Value).toArray below meth c s.heap [] 0 0 (MQ below (vp_Si (fun v => v = r)) ([.ref h0] : List Value).toArray s 0 0 (fun _ => False)) (F0 m 30 ls []) := by
    intro n_30
    induction n_30 with
    | zero =>
      intro x1 hs
      cases hs
    | succ n_30 ih_30 =>
      intro x1 hs ls hl
      rw [s_X2_judge_30] at hs
      refine lv_iload_n hx hb dX2_judge_30 rfl (lv_at hl 1 rfl) ?_
      refine lv_aload_n hx hb dX2_judge_31 rfl (lv_at hl 0 rfl) ?_
      obtain ⟨v_32, hc_32, hs⟩ := op_bd hs
      refine gx_cSi (va_Run.run (va_runV (As := []) (rest := [.int x1]) ⟨hx, hb, hml, hown, hts⟩ (c_X2_sideCount l D cI cJ cZ cS ad h0 sx sy S F hkS v_32 hc_32) (cwV 0 hts gX2_judge_X2_sideCount rfl rfl rfl (by decide +kernel) ⟨Nat.le_of_ble_eq_true rfl, Nat.le_of_ble_eq_true rfl⟩) ⟨gl_blind, va_recv hK hP (ci := 2) (q0 := 0) rfl rfl, gl_ok hK hE (hP.sub [0, 1, 2] rfl)⟩ rfl rfl hl.1 rfl (lv_room (Nat.le_of_ble_eq_true rfl)) dX2_judge_32 ⟨Nat.le_of_ble_eq_true rfl, Nat.le_of_ble_eq_true rfl⟩)) ?_
      refine lv_icmp_ge (tgt := 57) hx hb dX2_judge_35 (by decide) (fun c_35 => ?_) (fun c_35 => ?_)
      · replace hs := it_t c_35 hs
        refine lv_iconst (v := 1) hx hb dX2_judge_57 (by decide) ?_
        obtain rfl := Option.some.inj hs
        exact W.iret hx hb hr (fun t ht hW => ⟨_, rfl, rfl, ht⟩) (fun _ h => by cases h) dX2_judge_58
      · replace hs := it_f c_35 hs
        refine lv_aload_n hx hb dX2_judge_38 rfl (lv_at hl 0 rfl) ?_
        refine lv_iload_n hx hb dX2_judge_39 rfl (lv_at hl 1 rfl) ?_
        obtain ⟨v_40, hc_40, hs⟩ := op_bd hs
        refine gx_cSi (va_Run.run (va_runV (As := [.int x1]) (rest := []) ⟨hx, hb, hml, hown, hts⟩ (c_X2_isWrongSide l D cI cJ cZ cS ad h0 sx sy S x1 F hkS v_40 hc_40) (cwV 1 hts gX2_judge_X2_isWrongSide rfl rfl rfl (by decide +kernel) ⟨Nat.le_of_ble_eq_true rfl, Nat.le_of_ble_eq_true rfl⟩) ⟨gl_blind, va_recv hK hP (ci := 2) (q0 := 0) rfl rfl, gl_ok hK hE (hP.sub [0, 1, 2] rfl)⟩ rfl rfl hl.1 rfl (lv_room (Nat.le_of_ble_eq_true rfl)) dX2_judge_40 ⟨Nat.le_of_ble_eq_true rfl, Nat.le_of_ble_eq_true rfl⟩)) ?_
        refine lv_if_eq (tgt := 51) hx hb dX2_judge_43 (by decide) (fun c_43 => ?_) (fun c_43 => ?_)
        · replace hs := it_t c_43 hs
          obtain ⟨e_51, hv_51, hs⟩ := op_bd hs
          refine lv_iinc (v := e_51) (lv' := [(1, .int e_51), (0, .ref h0)]) hx hb dX2_judge_51 hl (k := 1) rfl (Option.some.inj hv_51) (by decide) rfl (fun ls hl => ?_)
          refine lv_goto (tgt := 30) hx hb dX2_judge_54 (by decide) ?_
          exact ih_30 e_51 hs _ (lv_sub hl [1, 0] rfl)
        · replace hs := it_f c_43 hs
          refine lv_bipush (v := -10) hx hb dX2_judge_46 (by decide) ?_
          refine lv_iload_n hx hb dX2_judge_48 rfl (lv_at hl 1 rfl) ?_
          refine lv_isub hx hb dX2_judge_49 ?_
          obtain rfl := Option.some.inj hs
          exact W.iret hx hb hr (fun t ht hW => ⟨_, rfl, rfl, ht⟩) (fun _ h => by cases h) dX2_judge_50
  have hl := lv_entry ([.ref h0]) (n := 2) (Nat.le_of_ble_eq_true rfl)
  rw [lg_entry_eq]
  generalize (lg_sl ([.ref h0]) ++ List.replicate (2 - (lg_sl ([.ref h0])).length) Slot.unset).toArray = ls at hl ⊢
  have hl : lv_has ls 2 [(0, .ref h0)] := hl
  rw [s_X2_judge] at hs
  refine lv_aload_n hx hb dX2_judge_0 rfl (lv_at hl 0 rfl) ?_
  refine va_get (D := D) (ci := 2) (v := .int (sh_z S)) (C := RX2) (T := TX2) (N := 9) hx hb hts in_X2 hown hK hP 0 rfl rfl 1 (by decide) lk_9 (fun _ h9 => h9) rfl dX2_judge_1 ?_
  refine lv_aload_n hx hb dX2_judge_4 rfl (lv_at hl 0 rfl) ?_
  refine va_get (D := D) (ci := 2) (v := .ref (ad (sh_k S))) (C := RX2) (T := TX2) (N := 9) hx hb hts in_X2 hown hK hP 0 rfl rfl 0 (by decide) lk_30 (fun _ h9 => h9) rfl dX2_judge_5 ?_
  refine va_getE (q := ("PlacePoints$Kind", "least", "I", [1, 2, 3])) hx hb hE (show (sh_k S) < 3 from hkS) va_S.rf hown (by simp) (hts (.fieldLink RX2 112 "PlacePoints$Kind" "least" "I") (by decide +kernel)) (fun _ h9 => h9) dX2_judge_8 ?_
  refine W.eq (g2 := F0 m 11 ls [.int (en_l (sh_k S)), .int (sh_z S)]) rfl ?_
  refine lv_icmp_ge (tgt := 16) hx hb dX2_judge_11 (by decide) (fun c_11 => ?_) (fun c_11 => ?_)
  · replace hs := it_t c_11 hs
    refine lv_aload_n hx hb dX2_judge_16 rfl (lv_at hl 0 rfl) ?_
    refine va_get (D := D) (ci := 2) (v := .ref (ad (sh_k S))) (C := RX2) (T := TX2) (N := 9) hx hb hts in_X2 hown hK hP 0 rfl rfl 0 (by decide) lk_30 (fun _ h9 => h9) rfl dX2_judge_17 ?_
    refine va_gets hx hb (hE.1 0 (by decide)).1 va_S.rf hown (hts (.fieldLink RX2 115 "PlacePoints$Kind" "POINT" "LPlacePoints$Kind;") (by decide +kernel)) (fun _ h9 => h9) dX2_judge_20 ?_
    refine W.eq (g2 := F0 m 23 ls [.ref (ad 0), .ref (ad (sh_k S))]) rfl ?_
    refine gx_acmp_ne (tgt := 28) hE (show (sh_k S) < 3 from hkS) (show 0 < 3 from (by decide)) hx hb dX2_judge_23 (by decide) (fun c_23 => ?_) (fun c_23 => ?_)
    · replace hs := it_f c_23 hs
      refine lv_iconst (v := 0) hx hb dX2_judge_28 (by decide) ?_
      refine lv_istore_n (lv' := [(1, .int 0), (0, .ref h0)]) hx hb dX2_judge_29 rfl hl (by decide) rfl (fun ls hl => ?_)
      exact J_30 F 0 hs _ (lv_sub hl [1, 0] rfl)
    · replace hs := it_t c_23 hs
      refine lv_iconst (v := 1) hx hb dX2_judge_26 (by decide) ?_
      obtain rfl := Option.some.inj hs
      exact W.iret hx hb hr (fun t ht hW => ⟨_, rfl, rfl, ht⟩) (fun _ h => by cases h) dX2_judge_27
  · replace hs := it_f c_11 hs
    refine lv_iconst (v := 0) hx hb dX2_judge_14 (by decide) ?_
    obtain rfl := Option.some.inj hs
    exact W.iret hx hb hr (fun t ht hW => ⟨_, rfl, rfl, ht⟩) (fun _ h => by cases h) dX2_judge_15
