def s_X4_isWrong_191 (F : Nat) (M : mo_T) (p1 : Int32) (p2 : Int32) (kc_74 : Int32 → Int32 → Int32 → Int32 → Option Int32) (x3 : Int32) (x4 : Int32) (x5 : Int32) (x6 : Int32) (t0 : Int32) : Option Int32 :=
  if t0 = 0 then
    (some (x6 + 1)).bind fun e_200 =>
    kc_74 x3 x4 x5 e_200
  else
    some 1
def s_X4_isWrong_124 (F : Nat) (M : mo_T) (p1 : Int32) (p2 : Int32) (kc_74 : Int32 → Int32 → Int32 → Int32 → Option Int32) (x3 : Int32) (x4 : Int32) (x5 : Int32) (x6 : Int32) (x7 : Int32) (t0 : Int32) : Option Int32 :=
  if x7 = 0 then
    if t0 = 0 then
      (s_X4_from F M p1 x6).bind fun v_178 =>
      (s_X4_to F M p1 x6).bind fun v_185 =>
      (s_X4_cut F M x3 x4 v_178 v_185).bind fun v_188 =>
      s_X4_isWrong_191 F M p1 p2 kc_74 x3 x4 x5 x6 v_188
    else
      (s_X4_from F M p1 x6).bind fun v_158 =>
      (s_X4_folds F M v_158 x3 x4).bind fun v_164 =>
      s_X4_isWrong_191 F M p1 p2 kc_74 x3 x4 x5 x6 v_164
  else
    (s_X4_to F M p1 x6).bind fun v_139 =>
    (s_X4_folds F M x3 x4 v_139).bind fun v_142 =>
    s_X4_isWrong_191 F M p1 p2 kc_74 x3 x4 x5 x6 v_142
def s_X4_isWrong_106 (F : Nat) (M : mo_T) (p1 : Int32) (p2 : Int32) (kc_74 : Int32 → Int32 → Int32 → Int32 → Option Int32) (x3 : Int32) (x4 : Int32) (x5 : Int32) (x6 : Int32) (t0 : Int32) : Option Int32 :=
  (nz_i x5).bind fun _ =>
  if ((x6 + 1) - (x6 + 1) / x5 * x5) = p2 then
    s_X4_isWrong_124 F M p1 p2 kc_74 x3 x4 x5 x6 t0 1
  else
    s_X4_isWrong_124 F M p1 p2 kc_74 x3 x4 x5 x6 t0 0
def s_X4_isWrong_74 (F : Nat) (M : mo_T) (p1 : Int32) (p2 : Int32) : Nat → Int32 → Int32 → Int32 → Int32 → Option Int32
  | 0, _, _, _, _ => none
  | n + 1, x3, x4, x5, x6 =>
    if x5 ≤ x6 then
      some 0
    else
      if x6 = p2 then
        (some (x6 + 1)).bind fun e_200 =>
        s_X4_isWrong_74 F M p1 p2 n x3 x4 x5 e_200
      else
        (nz_i x5).bind fun _ =>
        if ((p2 + 1) - (p2 + 1) / x5 * x5) = x6 then
          s_X4_isWrong_106 F M p1 p2 (fun y0 y1 y2 y3 => s_X4_isWrong_74 F M p1 p2 n y0 y1 y2 y3) x3 x4 x5 x6 1
        else
          s_X4_isWrong_106 F M p1 p2 (fun y0 y1 y2 y3 => s_X4_isWrong_74 F M p1 p2 n y0 y1 y2 y3) x3 x4 x5 x6 0
def s_X4_isWrong_51 (F : Nat) (M : mo_T) (p1 : Int32) (p2 : Int32) (x3 : Int32) (x4 : Int32) : Option Int32 :=
  (rd_i 60 (mo_k M) p1).bind fun v_56 =>
  if v_56 = 2 then
    some 0
  else
    (rd_i 60 (mo_c M) p1).bind fun v_68 =>
    s_X4_isWrong_74 F M p1 p2 F x3 x4 v_68 0
def s_X4_isWrong (F : Nat) (M : mo_T) (p1 : Int32) (p2 : Int32) : Option Int32 :=
  (s_X4_from F M p1 p2).bind fun v_3 =>
  (s_X4_to F M p1 p2).bind fun v_10 =>
  (rd_l 1500 (mo_x M) v_3).bind fun v_20 =>
  (rd_l 1500 (mo_x M) v_10).bind fun v_27 =>
  if (lg_cmp v_20 v_27) = 0 then
    (rd_l 1500 (mo_y M) v_3).bind fun v_37 =>
    (rd_l 1500 (mo_y M) v_10).bind fun v_44 =>
    if (lg_cmp v_37 v_44) = 0 then
      some 1
    else
      s_X4_isWrong_51 F M p1 p2 v_3 v_10
  else
    s_X4_isWrong_51 F M p1 p2 v_3 v_10
abbrev rm_X4_isWrong : Room := { frames := 4, cells := 0, slots := 0, locals := 117 }
theorem in_X4_isWrong_X4 : ∀ w ∈ wsX40, w ∈ wsX4_isWrong := by decide +kernel
set_option maxHeartbeats 4000000 in
set_option maxRecDepth 100000 in
theorem c_X4_isWrong (l : Launch) (D : va_G) (cI cJ cZ cS : ClassId) (ad : Nat → Nat) (m0 mk mc mx my mf mp mq mb : Nat) (M : mo_T) (p1 : Int32) (p2 : Int32) (F : Nat)  (r : Int32) (hs : s_X4_isWrong F M p1 p2 = some r) : Met l yX4_isWrong wsX4_isWrong rm_X4_isWrong (gl_P D cI cJ cZ cS ad [.ref m0, .int p1, .int p2] (fun H => va_P D vwCl (mo_w cI cJ cZ m0 mk mc mx my mf mp mq mb M) H)) (vp_Si (fun v => v = r)) 0 0 (fun _ => False) := by
  refine Met.ofW (cc := cX4_isWrong) (maxL := 10) (ret := (some .boolean)) (by decide) rfl ?_
  intro p e s m args below meth c s₁ B hml hv
  obtain ⟨rfl, hK, hE, hP⟩ := hv
  have hx := B.exec
  have hb := B.bytes
  have hr := B.returns
  have hts := atoms_spec (ws := wsX4_isWrong) B.pre
  have hown : s.vm.findClass RX4 = some m.cls := findClass_of_methodNamed B.named
  have hlocks := B.notSynchronized
  have lk_13 := hts (.fieldLink RX4 13 "PlacePointsModel" "kinds" "[I") (by decide +kernel)
  have lk_17 := hts (.fieldLink RX4 17 "PlacePointsModel" "counts" "[I") (by decide +kernel)
  have lk_20 := hts (.fieldLink RX4 20 "PlacePointsModel" "xs" "[J") (by decide +kernel)
  have lk_24 := hts (.fieldLink RX4 24 "PlacePointsModel" "ys" "[J") (by decide +kernel)
  have in_X4 := in_X4_isWrong_X4
  have J_74 : ∀ (n_74 : Nat) (x3 : Int32) (x4 : Int32) (x5 : Int32) (x6 : Int32), s_X4_isWrong_74 F M p1 p2 n_74 x3 x4 x5 x6 = some r → ∀ ls : Array Slot, lv_has ls 10 [(0, .ref m0), (1, .int p1), (2, .int p2), (3, .int x3), (4, .int x4), (5, .int x5), (6, .int x6)] → W p l e (headSpec wsX4_isWrong rm_X4_isWrong).room s m ([.ref m0, .int p1, .int p2] : List Value).toArray below meth c s.heap [] 0 0 (MQ below (vp_Si (fun v => v = r)) ([.ref m0, .int p1, .int p2] : List Value).toArray s 0 0 (fun _ => False)) (F0 m 74 ls []) := by
    intro n_74
    induction n_74 with
    | zero =>
      intro x3 x4 x5 x6 hs
      cases hs
    | succ n_74 ih_74 =>
      have J_191 : ∀ (x3 : Int32) (x4 : Int32) (x5 : Int32) (x6 : Int32) (t0 : Int32), s_X4_isWrong_191 F M p1 p2 (fun y0 y1 y2 y3 => s_X4_isWrong_74 F M p1 p2 n_74 y0 y1 y2 y3) x3 x4 x5 x6 t0 = some r → ∀ ls : Array Slot, lv_has ls 10 [(0, .ref m0), (1, .int p1), (2, .int p2), (3, .int x3), (4, .int x4), (5, .int x5), (6, .int x6)] → W p l e (headSpec wsX4_isWrong rm_X4_isWrong).room s m ([.ref m0, .int p1, .int p2] : List Value).toArray below meth c s.heap [] 0 0 (MQ below (vp_Si (fun v => v = r)) ([.ref m0, .int p1, .int p2] : List Value).toArray s 0 0 (fun _ => False)) (F0 m 191 ls [.int t0]) := by
        intro x3 x4 x5 x6 t0 hs ls hl
        rw [s_X4_isWrong_191] at hs
        refine lv_istore (lv' := [(9, .int t0), (0, .ref m0), (1, .int p1), (2, .int p2), (3, .int x3), (4, .int x4), (5, .int x5), (6, .int x6)]) hx hb dX4_isWrong_191 hl (by decide) rfl (fun ls hl => ?_)
        refine lv_iload hx hb dX4_isWrong_193 (lv_at hl 0 rfl) ?_
        refine lv_if_eq (tgt := 200) hx hb dX4_isWrong_195 (by decide) (fun c_195 => ?_) (fun c_195 => ?_)
        · replace hs := it_t c_195 hs
          obtain ⟨e_200, hv_200, hs⟩ := op_bd hs
          refine lv_iinc (v := e_200) (lv' := [(6, .int e_200), (9, .int t0), (0, .ref m0), (1, .int p1), (2, .int p2), (3, .int x3), (4, .int x4), (5, .int x5)]) hx hb dX4_isWrong_200 hl (k := 7) rfl (Option.some.inj hv_200) (by decide) rfl (fun ls hl => ?_)
          refine lv_goto (tgt := 74) hx hb dX4_isWrong_203 (by decide) ?_
          exact ih_74 x3 x4 x5 e_200 hs _ (lv_sub hl [2, 3, 4, 5, 6, 7, 0] rfl)
        · replace hs := it_f c_195 hs
          refine lv_iconst (v := 1) hx hb dX4_isWrong_198 (by decide) ?_
          obtain rfl := Option.some.inj hs
          exact W.zret hx hb hr rfl (fun t ht hW => ⟨_, rfl, rfl, ht⟩) (fun _ h => by cases h) dX4_isWrong_199
      have J_124 : ∀ (x3 : Int32) (x4 : Int32) (x5 : Int32) (x6 : Int32) (x7 : Int32) (t0 : Int32), s_X4_isWrong_124 F M p1 p2 (fun y0 y1 y2 y3 => s_X4_isWrong_74 F M p1 p2 n_74 y0 y1 y2 y3) x3 x4 x5 x6 x7 t0 = some r → ∀ ls : Array Slot, lv_has ls 10 [(0, .ref m0), (1, .int p1), (2, .int p2), (3, .int x3), (4, .int x4), (5, .int x5), (6, .int x6), (7, .int x7)] → W p l e (headSpec wsX4_isWrong rm_X4_isWrong).room s m ([.ref m0, .int p1, .int p2] : List Value).toArray below meth c s.heap [] 0 0 (MQ below (vp_Si (fun v => v = r)) ([.ref m0, .int p1, .int p2] : List Value).toArray s 0 0 (fun _ => False)) (F0 m 124 ls [.int t0]) := by
        intro x3 x4 x5 x6 x7 t0 hs ls hl
        rw [s_X4_isWrong_124] at hs
        refine lv_istore (lv' := [(8, .int t0), (0, .ref m0), (1, .int p1), (2, .int p2), (3, .int x3), (4, .int x4), (5, .int x5), (6, .int x6), (7, .int x7)]) hx hb dX4_isWrong_124 hl (by decide) rfl (fun ls hl => ?_)
        refine lv_iload hx hb dX4_isWrong_126 (lv_at hl 8 rfl) ?_
        refine lv_if_eq (tgt := 148) hx hb dX4_isWrong_128 (by decide) (fun c_128 => ?_) (fun c_128 => ?_)
        · replace hs := it_t c_128 hs
          refine lv_iload hx hb dX4_isWrong_148 (lv_at hl 0 rfl) ?_
          refine lv_if_eq (tgt := 170) hx hb dX4_isWrong_150 (by decide) (fun c_150 => ?_) (fun c_150 => ?_)
          · replace hs := it_t c_150 hs
            refine lv_aload_n hx hb dX4_isWrong_170 rfl (lv_at hl 1 rfl) ?_
            refine lv_iload_n hx hb dX4_isWrong_171 rfl (lv_at hl 4 rfl) ?_
            refine lv_iload hx hb dX4_isWrong_172 (lv_at hl 5 rfl) ?_
            refine lv_aload_n hx hb dX4_isWrong_174 rfl (lv_at hl 1 rfl) ?_
            refine lv_iload_n hx hb dX4_isWrong_175 rfl (lv_at hl 2 rfl) ?_
            refine lv_iload hx hb dX4_isWrong_176 (lv_at hl 7 rfl) ?_
            obtain ⟨v_178, hc_178, hs⟩ := op_bd hs
            refine gx_cSi (va_Run.run (va_runV (As := [.int p1, .int x6]) (rest := [.int x4, .int x3, .ref m0]) ⟨hx, hb, hml, hown, hts⟩ (c_X4_from l D cI cJ cZ cS ad m0 mk mc mx my mf mp mq mb M p1 x6 F  v_178 hc_178) (cwV 2 hts gX4_isWrong_X4_from rfl rfl rfl (by decide +kernel) ⟨Nat.le_of_ble_eq_true rfl, Nat.le_of_ble_eq_true rfl⟩) ⟨gl_blind, va_recv hK hP (ci := 4) (q0 := 0) rfl rfl, gl_ok hK hE hP⟩ rfl rfl hl.1 rfl (lv_room (Nat.le_of_ble_eq_true rfl)) dX4_isWrong_178 ⟨Nat.le_of_ble_eq_true rfl, Nat.le_of_ble_eq_true rfl⟩)) ?_
            refine lv_aload_n hx hb dX4_isWrong_181 rfl (lv_at hl 1 rfl) ?_
            refine lv_iload_n hx hb dX4_isWrong_182 rfl (lv_at hl 2 rfl) ?_
            refine lv_iload hx hb dX4_isWrong_183 (lv_at hl 7 rfl) ?_
            obtain ⟨v_185, hc_185, hs⟩ := op_bd hs
            refine gx_cSi (va_Run.run (va_runV (As := [.int p1, .int x6]) (rest := [.int v_178, .int x4, .int x3, .ref m0]) ⟨hx, hb, hml, hown, hts⟩ (c_X4_to l D cI cJ cZ cS ad m0 mk mc mx my mf mp mq mb M p1 x6 F  v_185 hc_185) (cwV 2 hts gX4_isWrong_X4_to rfl rfl rfl (by decide +kernel) ⟨Nat.le_of_ble_eq_true rfl, Nat.le_of_ble_eq_true rfl⟩) ⟨gl_blind, va_recv hK hP (ci := 4) (q0 := 0) rfl rfl, gl_ok hK hE hP⟩ rfl rfl hl.1 rfl (lv_room (Nat.le_of_ble_eq_true rfl)) dX4_isWrong_185 ⟨Nat.le_of_ble_eq_true rfl, Nat.le_of_ble_eq_true rfl⟩)) ?_
            obtain ⟨v_188, hc_188, hs⟩ := op_bd hs
            refine gx_cSi (va_Run.run (va_runV (As := [.int x3, .int x4, .int v_178, .int v_185]) (rest := []) ⟨hx, hb, hml, hown, hts⟩ (c_X4_cut l D cI cJ cZ cS ad m0 mk mc mx my mf mp mq mb M x3 x4 v_178 v_185 F  v_188 hc_188) (cwV 4 hts gX4_isWrong_X4_cut rfl rfl rfl (by decide +kernel) ⟨Nat.le_of_ble_eq_true rfl, Nat.le_of_ble_eq_true rfl⟩) ⟨gl_blind, va_recv hK hP (ci := 4) (q0 := 0) rfl rfl, gl_ok hK hE hP⟩ rfl rfl hl.1 rfl (lv_room (Nat.le_of_ble_eq_true rfl)) dX4_isWrong_188 ⟨Nat.le_of_ble_eq_true rfl, Nat.le_of_ble_eq_true rfl⟩)) ?_
            exact J_191 x3 x4 x5 x6 v_188 hs _ (lv_sub hl [1, 2, 3, 4, 5, 6, 7] rfl)
          · replace hs := it_f c_150 hs
            refine lv_aload_n hx hb dX4_isWrong_153 rfl (lv_at hl 1 rfl) ?_
            refine lv_aload_n hx hb dX4_isWrong_154 rfl (lv_at hl 1 rfl) ?_
            refine lv_iload_n hx hb dX4_isWrong_155 rfl (lv_at hl 2 rfl) ?_
            refine lv_iload hx hb dX4_isWrong_156 (lv_at hl 7 rfl) ?_
            obtain ⟨v_158, hc_158, hs⟩ := op_bd hs
            refine gx_cSi (va_Run.run (va_runV (As := [.int p1, .int x6]) (rest := [.ref m0]) ⟨hx, hb, hml, hown, hts⟩ (c_X4_from l D cI cJ cZ cS ad m0 mk mc mx my mf mp mq mb M p1 x6 F  v_158 hc_158) (cwV 2 hts gX4_isWrong_X4_from rfl rfl rfl (by decide +kernel) ⟨Nat.le_of_ble_eq_true rfl, Nat.le_of_ble_eq_true rfl⟩) ⟨gl_blind, va_recv hK hP (ci := 4) (q0 := 0) rfl rfl, gl_ok hK hE hP⟩ rfl rfl hl.1 rfl (lv_room (Nat.le_of_ble_eq_true rfl)) dX4_isWrong_158 ⟨Nat.le_of_ble_eq_true rfl, Nat.le_of_ble_eq_true rfl⟩)) ?_
            refine lv_iload_n hx hb dX4_isWrong_161 rfl (lv_at hl 4 rfl) ?_
            refine lv_iload hx hb dX4_isWrong_162 (lv_at hl 5 rfl) ?_
            obtain ⟨v_164, hc_164, hs⟩ := op_bd hs
            refine gx_cSi (va_Run.run (va_runV (As := [.int v_158, .int x3, .int x4]) (rest := []) ⟨hx, hb, hml, hown, hts⟩ (c_X4_folds l D cI cJ cZ cS ad m0 mk mc mx my mf mp mq mb M v_158 x3 x4 F  v_164 hc_164) (cwV 3 hts gX4_isWrong_X4_folds rfl rfl rfl (by decide +kernel) ⟨Nat.le_of_ble_eq_true rfl, Nat.le_of_ble_eq_true rfl⟩) ⟨gl_blind, va_recv hK hP (ci := 4) (q0 := 0) rfl rfl, gl_ok hK hE hP⟩ rfl rfl hl.1 rfl (lv_room (Nat.le_of_ble_eq_true rfl)) dX4_isWrong_164 ⟨Nat.le_of_ble_eq_true rfl, Nat.le_of_ble_eq_true rfl⟩)) ?_
            refine lv_goto (tgt := 191) hx hb dX4_isWrong_167 (by decide) ?_
            exact J_191 x3 x4 x5 x6 v_164 hs _ (lv_sub hl [1, 2, 3, 4, 5, 6, 7] rfl)
        · replace hs := it_f c_128 hs
          refine lv_aload_n hx hb dX4_isWrong_131 rfl (lv_at hl 1 rfl) ?_
          refine lv_iload_n hx hb dX4_isWrong_132 rfl (lv_at hl 4 rfl) ?_
          refine lv_iload hx hb dX4_isWrong_133 (lv_at hl 5 rfl) ?_
          refine lv_aload_n hx hb dX4_isWrong_135 rfl (lv_at hl 1 rfl) ?_
          refine lv_iload_n hx hb dX4_isWrong_136 rfl (lv_at hl 2 rfl) ?_
          refine lv_iload hx hb dX4_isWrong_137 (lv_at hl 7 rfl) ?_
          obtain ⟨v_139, hc_139, hs⟩ := op_bd hs
          refine gx_cSi (va_Run.run (va_runV (As := [.int p1, .int x6]) (rest := [.int x4, .int x3, .ref m0]) ⟨hx, hb, hml, hown, hts⟩ (c_X4_to l D cI cJ cZ cS ad m0 mk mc mx my mf mp mq mb M p1 x6 F  v_139 hc_139) (cwV 2 hts gX4_isWrong_X4_to rfl rfl rfl (by decide +kernel) ⟨Nat.le_of_ble_eq_true rfl, Nat.le_of_ble_eq_true rfl⟩) ⟨gl_blind, va_recv hK hP (ci := 4) (q0 := 0) rfl rfl, gl_ok hK hE hP⟩ rfl rfl hl.1 rfl (lv_room (Nat.le_of_ble_eq_true rfl)) dX4_isWrong_139 ⟨Nat.le_of_ble_eq_true rfl, Nat.le_of_ble_eq_true rfl⟩)) ?_
          obtain ⟨v_142, hc_142, hs⟩ := op_bd hs
          refine gx_cSi (va_Run.run (va_runV (As := [.int x3, .int x4, .int v_139]) (rest := []) ⟨hx, hb, hml, hown, hts⟩ (c_X4_folds l D cI cJ cZ cS ad m0 mk mc mx my mf mp mq mb M x3 x4 v_139 F  v_142 hc_142) (cwV 3 hts gX4_isWrong_X4_folds rfl rfl rfl (by decide +kernel) ⟨Nat.le_of_ble_eq_true rfl, Nat.le_of_ble_eq_true rfl⟩) ⟨gl_blind, va_recv hK hP (ci := 4) (q0 := 0) rfl rfl, gl_ok hK hE hP⟩ rfl rfl hl.1 rfl (lv_room (Nat.le_of_ble_eq_true rfl)) dX4_isWrong_142 ⟨Nat.le_of_ble_eq_true rfl, Nat.le_of_ble_eq_true rfl⟩)) ?_
          refine lv_goto (tgt := 191) hx hb dX4_isWrong_145 (by decide) ?_
          exact J_191 x3 x4 x5 x6 v_142 hs _ (lv_sub hl [1, 2, 3, 4, 5, 6, 7] rfl)
      have J_106 : ∀ (x3 : Int32) (x4 : Int32) (x5 : Int32) (x6 : Int32) (t0 : Int32), s_X4_isWrong_106 F M p1 p2 (fun y0 y1 y2 y3 => s_X4_isWrong_74 F M p1 p2 n_74 y0 y1 y2 y3) x3 x4 x5 x6 t0 = some r → ∀ ls : Array Slot, lv_has ls 10 [(0, .ref m0), (1, .int p1), (2, .int p2), (3, .int x3), (4, .int x4), (5, .int x5), (6, .int x6)] → W p l e (headSpec wsX4_isWrong rm_X4_isWrong).room s m ([.ref m0, .int p1, .int p2] : List Value).toArray below meth c s.heap [] 0 0 (MQ below (vp_Si (fun v => v = r)) ([.ref m0, .int p1, .int p2] : List Value).toArray s 0 0 (fun _ => False)) (F0 m 106 ls [.int t0]) := by
        intro x3 x4 x5 x6 t0 hs ls hl
        rw [s_X4_isWrong_106] at hs
        refine lv_istore (lv' := [(7, .int t0), (0, .ref m0), (1, .int p1), (2, .int p2), (3, .int x3), (4, .int x4), (5, .int x5), (6, .int x6)]) hx hb dX4_isWrong_106 hl (by decide) rfl (fun ls hl => ?_)
        refine lv_iload hx hb dX4_isWrong_108 (lv_at hl 7 rfl) ?_
        refine lv_iconst (v := 1) hx hb dX4_isWrong_110 (by decide) ?_
        refine lv_iadd hx hb dX4_isWrong_111 ?_
        refine lv_iload hx hb dX4_isWrong_112 (lv_at hl 6 rfl) ?_
        obtain ⟨_, hz_114, hs⟩ := op_bd hs
        refine lv_irem hx hb dX4_isWrong_114 (nz_i_ne hz_114) ?_
        refine lv_iload_n hx hb dX4_isWrong_115 rfl (lv_at hl 3 rfl) ?_
        refine lv_icmp_ne (tgt := 123) hx hb dX4_isWrong_116 (by decide) (fun c_116 => ?_) (fun c_116 => ?_)
        · replace hs := it_f c_116 hs
          refine lv_iconst (v := 0) hx hb dX4_isWrong_123 (by decide) ?_
          exact J_124 x3 x4 x5 x6 t0 0 hs _ (lv_sub hl [1, 2, 3, 4, 5, 6, 7, 0] rfl)
        · replace hs := it_t c_116 hs
          refine lv_iconst (v := 1) hx hb dX4_isWrong_119 (by decide) ?_
          refine lv_goto (tgt := 124) hx hb dX4_isWrong_120 (by decide) ?_
          exact J_124 x3 x4 x5 x6 t0 1 hs _ (lv_sub hl [1, 2, 3, 4, 5, 6, 7, 0] rfl)
      intro x3 x4 x5 x6 hs ls hl
      rw [s_X4_isWrong_74] at hs
      refine lv_iload hx hb dX4_isWrong_74 (lv_at hl 6 rfl) ?_
      refine lv_iload hx hb dX4_isWrong_76 (lv_at hl 5 rfl) ?_
      refine lv_icmp_ge (tgt := 206) hx hb dX4_isWrong_78 (by decide) (fun c_78 => ?_) (fun c_78 => ?_)
      · replace hs := it_t c_78 hs
        refine lv_iconst (v := 0) hx hb dX4_isWrong_206 (by decide) ?_
        obtain rfl := Option.some.inj hs
        exact W.zret hx hb hr rfl (fun t ht hW => ⟨_, rfl, rfl, ht⟩) (fun _ h => by cases h) dX4_isWrong_207
      · replace hs := it_f c_78 hs
        refine lv_iload hx hb dX4_isWrong_81 (lv_at hl 6 rfl) ?_
        refine lv_iload_n hx hb dX4_isWrong_83 rfl (lv_at hl 2 rfl) ?_
        refine lv_icmp_ne (tgt := 90) hx hb dX4_isWrong_84 (by decide) (fun c_84 => ?_) (fun c_84 => ?_)
        · replace hs := it_f c_84 hs
          refine lv_iload_n hx hb dX4_isWrong_90 rfl (lv_at hl 2 rfl) ?_
          refine lv_iconst (v := 1) hx hb dX4_isWrong_91 (by decide) ?_
          refine lv_iadd hx hb dX4_isWrong_92 ?_
          refine lv_iload hx hb dX4_isWrong_93 (lv_at hl 5 rfl) ?_
          obtain ⟨_, hz_95, hs⟩ := op_bd hs
          refine lv_irem hx hb dX4_isWrong_95 (nz_i_ne hz_95) ?_
          refine lv_iload hx hb dX4_isWrong_96 (lv_at hl 6 rfl) ?_
          refine lv_icmp_ne (tgt := 105) hx hb dX4_isWrong_98 (by decide) (fun c_98 => ?_) (fun c_98 => ?_)
          · replace hs := it_f c_98 hs
            refine lv_iconst (v := 0) hx hb dX4_isWrong_105 (by decide) ?_
            exact J_106 x3 x4 x5 x6 0 hs _ (lv_sub hl [0, 1, 2, 3, 4, 5, 6] rfl)
          · replace hs := it_t c_98 hs
            refine lv_iconst (v := 1) hx hb dX4_isWrong_101 (by decide) ?_
            refine lv_goto (tgt := 106) hx hb dX4_isWrong_102 (by decide) ?_
            exact J_106 x3 x4 x5 x6 1 hs _ (lv_sub hl [0, 1, 2, 3, 4, 5, 6] rfl)
        · replace hs := it_t c_84 hs
          refine lv_goto (tgt := 200) hx hb dX4_isWrong_87 (by decide) ?_
          obtain ⟨e_200, hv_200, hs⟩ := op_bd hs
          refine lv_iinc (v := e_200) (lv' := [(6, .int e_200), (0, .ref m0), (1, .int p1), (2, .int p2), (3, .int x3), (4, .int x4), (5, .int x5)]) hx hb dX4_isWrong_200 hl (k := 6) rfl (Option.some.inj hv_200) (by decide) rfl (fun ls hl => ?_)
          refine lv_goto (tgt := 74) hx hb dX4_isWrong_203 (by decide) ?_
          exact ih_74 x3 x4 x5 e_200 hs _ (lv_sub hl [1, 2, 3, 4, 5, 6, 0] rfl)
  have J_51 : ∀ (x3 : Int32) (x4 : Int32), s_X4_isWrong_51 F M p1 p2 x3 x4 = some r → ∀ ls : Array Slot, lv_has ls 10 [(0, .ref m0), (1, .int p1), (2, .int p2), (3, .int x3), (4, .int x4)] → W p l e (headSpec wsX4_isWrong rm_X4_isWrong).room s m ([.ref m0, .int p1, .int p2] : List Value).toArray below meth c s.heap [] 0 0 (MQ below (vp_Si (fun v => v = r)) ([.ref m0, .int p1, .int p2] : List Value).toArray s 0 0 (fun _ => False)) (F0 m 51 ls []) := by
    intro x3 x4 hs ls hl
    rw [s_X4_isWrong_51] at hs
    refine lv_aload_n hx hb dX4_isWrong_51 rfl (lv_at hl 0 rfl) ?_
    refine va_get (D := D) (ci := 4) (v := .ref mk) (C := RX4) (T := TX4) (N := 15) hx hb hts in_X4 hown hK hP 0 rfl rfl 0 (by decide) lk_13 (fun _ h9 => h9) rfl dX4_isWrong_52 ?_
    refine lv_iload_n hx hb dX4_isWrong_55 rfl (lv_at hl 1 rfl) ?_
    obtain ⟨v_56, hv_56, hs⟩ := op_bd hs
    refine gx_iald hx hb hK hP 1 0 rfl rfl hv_56 dX4_isWrong_56 ?_
    refine lv_iconst (v := 2) hx hb dX4_isWrong_57 (by decide) ?_
    refine lv_icmp_ne (tgt := 63) hx hb dX4_isWrong_58 (by decide) (fun c_58 => ?_) (fun c_58 => ?_)
    · replace hs := it_f c_58 hs
      refine lv_aload_n hx hb dX4_isWrong_63 rfl (lv_at hl 0 rfl) ?_
      refine va_get (D := D) (ci := 4) (v := .ref mc) (C := RX4) (T := TX4) (N := 15) hx hb hts in_X4 hown hK hP 0 rfl rfl 1 (by decide) lk_17 (fun _ h9 => h9) rfl dX4_isWrong_64 ?_
      refine lv_iload_n hx hb dX4_isWrong_67 rfl (lv_at hl 1 rfl) ?_
      obtain ⟨v_68, hv_68, hs⟩ := op_bd hs
      refine gx_iald hx hb hK hP 2 0 rfl rfl hv_68 dX4_isWrong_68 ?_
      refine lv_istore (lv' := [(5, .int v_68), (0, .ref m0), (1, .int p1), (2, .int p2), (3, .int x3), (4, .int x4)]) hx hb dX4_isWrong_69 hl (by decide) rfl (fun ls hl => ?_)
      refine lv_iconst (v := 0) hx hb dX4_isWrong_71 (by decide) ?_
      refine lv_istore (lv' := [(6, .int 0), (5, .int v_68), (0, .ref m0), (1, .int p1), (2, .int p2), (3, .int x3), (4, .int x4)]) hx hb dX4_isWrong_72 hl (by decide) rfl (fun ls hl => ?_)
      exact J_74 F x3 x4 v_68 0 hs _ (lv_sub hl [2, 3, 4, 5, 6, 1, 0] rfl)
    · replace hs := it_t c_58 hs
      refine lv_iconst (v := 0) hx hb dX4_isWrong_61 (by decide) ?_
      obtain rfl := Option.some.inj hs
      exact W.zret hx hb hr rfl (fun t ht hW => ⟨_, rfl, rfl, ht⟩) (fun _ h => by cases h) dX4_isWrong_62
  have hl := lv_entry ([.ref m0, .int p1, .int p2]) (n := 10) (Nat.le_of_ble_eq_true rfl)
  rw [lg_entry_eq]
  generalize (lg_sl ([.ref m0, .int p1, .int p2]) ++ List.replicate (10 - (lg_sl ([.ref m0, .int p1, .int p2])).length) Slot.unset).toArray = ls at hl ⊢
  have hl : lv_has ls 10 [(0, .ref m0), (1, .int p1), (2, .int p2)] := hl
  rw [s_X4_isWrong] at hs
  refine lv_aload_n hx hb dX4_isWrong_0 rfl (lv_at hl 0 rfl) ?_
  refine lv_iload_n hx hb dX4_isWrong_1 rfl (lv_at hl 1 rfl) ?_
  refine lv_iload_n hx hb dX4_isWrong_2 rfl (lv_at hl 2 rfl) ?_
  obtain ⟨v_3, hc_3, hs⟩ := op_bd hs
  refine gx_cSi (va_Run.run (va_runV (As := [.int p1, .int p2]) (rest := []) ⟨hx, hb, hml, hown, hts⟩ (c_X4_from l D cI cJ cZ cS ad m0 mk mc mx my mf mp mq mb M p1 p2 F  v_3 hc_3) (cwV 2 hts gX4_isWrong_X4_from rfl rfl rfl (by decide +kernel) ⟨Nat.le_of_ble_eq_true rfl, Nat.le_of_ble_eq_true rfl⟩) ⟨gl_blind, va_recv hK hP (ci := 4) (q0 := 0) rfl rfl, gl_ok hK hE hP⟩ rfl rfl hl.1 rfl (lv_room (Nat.le_of_ble_eq_true rfl)) dX4_isWrong_3 ⟨Nat.le_of_ble_eq_true rfl, Nat.le_of_ble_eq_true rfl⟩)) ?_
  refine lv_istore_n (lv' := [(3, .int v_3), (0, .ref m0), (1, .int p1), (2, .int p2)]) hx hb dX4_isWrong_6 rfl hl (by decide) rfl (fun ls hl => ?_)
  refine lv_aload_n hx hb dX4_isWrong_7 rfl (lv_at hl 1 rfl) ?_
  refine lv_iload_n hx hb dX4_isWrong_8 rfl (lv_at hl 2 rfl) ?_
  refine lv_iload_n hx hb dX4_isWrong_9 rfl (lv_at hl 3 rfl) ?_
  obtain ⟨v_10, hc_10, hs⟩ := op_bd hs
  refine gx_cSi (va_Run.run (va_runV (As := [.int p1, .int p2]) (rest := []) ⟨hx, hb, hml, hown, hts⟩ (c_X4_to l D cI cJ cZ cS ad m0 mk mc mx my mf mp mq mb M p1 p2 F  v_10 hc_10) (cwV 2 hts gX4_isWrong_X4_to rfl rfl rfl (by decide +kernel) ⟨Nat.le_of_ble_eq_true rfl, Nat.le_of_ble_eq_true rfl⟩) ⟨gl_blind, va_recv hK hP (ci := 4) (q0 := 0) rfl rfl, gl_ok hK hE hP⟩ rfl rfl hl.1 rfl (lv_room (Nat.le_of_ble_eq_true rfl)) dX4_isWrong_10 ⟨Nat.le_of_ble_eq_true rfl, Nat.le_of_ble_eq_true rfl⟩)) ?_
  refine lv_istore (lv' := [(4, .int v_10), (3, .int v_3), (0, .ref m0), (1, .int p1), (2, .int p2)]) hx hb dX4_isWrong_13 hl (by decide) rfl (fun ls hl => ?_)
  refine lv_aload_n hx hb dX4_isWrong_15 rfl (lv_at hl 2 rfl) ?_
  refine va_get (D := D) (ci := 4) (v := .ref mx) (C := RX4) (T := TX4) (N := 15) hx hb hts in_X4 hown hK hP 0 rfl rfl 2 (by decide) lk_20 (fun _ h9 => h9) rfl dX4_isWrong_16 ?_
  refine lv_iload_n hx hb dX4_isWrong_19 rfl (lv_at hl 1 rfl) ?_
  obtain ⟨v_20, hv_20, hs⟩ := op_bd hs
  refine gx_lald hx hb hK hP 3 1 rfl rfl hv_20 dX4_isWrong_20 ?_
  refine lv_aload_n hx hb dX4_isWrong_21 rfl (lv_at hl 2 rfl) ?_
  refine va_get (D := D) (ci := 4) (v := .ref mx) (C := RX4) (T := TX4) (N := 15) hx hb hts in_X4 hown hK hP 0 rfl rfl 2 (by decide) lk_20 (fun _ h9 => h9) rfl dX4_isWrong_22 ?_
  refine lv_iload hx hb dX4_isWrong_25 (lv_at hl 0 rfl) ?_
  obtain ⟨v_27, hv_27, hs⟩ := op_bd hs
  refine gx_lald hx hb hK hP 3 1 rfl rfl hv_27 dX4_isWrong_27 ?_
  refine W.lcmp hx hb dX4_isWrong_28 ?_
  refine lv_if_ne (tgt := 51) hx hb dX4_isWrong_29 (by decide) (fun c_29 => ?_) (fun c_29 => ?_)
  · replace hs := it_f c_29 hs
    exact J_51 v_3 v_10 hs _ (lv_sub hl [2, 3, 4, 1, 0] rfl)
  · replace hs := it_t c_29 hs
    refine lv_aload_n hx hb dX4_isWrong_32 rfl (lv_at hl 2 rfl) ?_
    refine va_get (D := D) (ci := 4) (v := .ref my) (C := RX4) (T := TX4) (N := 15) hx hb hts in_X4 hown hK hP 0 rfl rfl 3 (by decide) lk_24 (fun _ h9 => h9) rfl dX4_isWrong_33 ?_
    refine lv_iload_n hx hb dX4_isWrong_36 rfl (lv_at hl 1 rfl) ?_
    obtain ⟨v_37, hv_37, hs⟩ := op_bd hs
    refine gx_lald hx hb hK hP 4 1 rfl rfl hv_37 dX4_isWrong_37 ?_
    refine lv_aload_n hx hb dX4_isWrong_38 rfl (lv_at hl 2 rfl) ?_
    refine va_get (D := D) (ci := 4) (v := .ref my) (C := RX4) (T := TX4) (N := 15) hx hb hts in_X4 hown hK hP 0 rfl rfl 3 (by decide) lk_24 (fun _ h9 => h9) rfl dX4_isWrong_39 ?_
    refine lv_iload hx hb dX4_isWrong_42 (lv_at hl 0 rfl) ?_
    obtain ⟨v_44, hv_44, hs⟩ := op_bd hs
    refine gx_lald hx hb hK hP 4 1 rfl rfl hv_44 dX4_isWrong_44 ?_
    refine W.lcmp hx hb dX4_isWrong_45 ?_
    refine lv_if_ne (tgt := 51) hx hb dX4_isWrong_46 (by decide) (fun c_46 => ?_) (fun c_46 => ?_)
    · replace hs := it_f c_46 hs
      exact J_51 v_3 v_10 hs _ (lv_sub hl [2, 3, 4, 1, 0] rfl)
    · replace hs := it_t c_46 hs
      refine lv_iconst (v := 1) hx hb dX4_isWrong_49 (by decide) ?_
      obtain rfl := Option.some.inj hs
      exact W.zret hx hb hr rfl (fun t ht hW => ⟨_, rfl, rfl, ht⟩) (fun _ h => by cases h) dX4_isWrong_50
def s_X4_stands_157 (F : Nat) (M : mo_T) (p1 : Int64) (p2 : Int64) (p3 : Int32) (kc_6 : Int32 → Int32 → Option Int32) (x6 : Int32) (x7 : Int32) (x10 : Int32) (t0 : Int32) : Option Int32 :=
  (rd_l 1500 (mo_x M) x10).bind fun v_165 =>
  (rd_l 1500 (mo_y M) x10).bind fun v_172 =>
  (rd_l 1500 (mo_x M) t0).bind fun v_179 =>
  (rd_l 1500 (mo_y M) t0).bind fun v_186 =>
  (s_X4_hand F v_165 v_172 v_179 v_186 p1 p2).bind fun v_189 =>
  if v_189 ≤ 0 then
    (some (x7 + 1)).bind fun e_207 =>
    kc_6 x6 e_207
  else
    if x6 = 0 then
      (some (x7 + 1)).bind fun e_207 =>
      kc_6 1 e_207
    else
      (some (x7 + 1)).bind fun e_207 =>
      kc_6 0 e_207
def s_X4_stands_141 (F : Nat) (M : mo_T) (p1 : Int64) (p2 : Int64) (p3 : Int32) (kc_6 : Int32 → Int32 → Option Int32) (x6 : Int32) (x7 : Int32) (x8 : Int32) (x9 : Int32) (t0 : Int32) : Option Int32 :=
  if t0 = x8 then
    s_X4_stands_157 F M p1 p2 p3 kc_6 x6 x7 t0 x9
  else
    s_X4_stands_157 F M p1 p2 p3 kc_6 x6 x7 t0 x8
def s_X4_stands_110 (F : Nat) (M : mo_T) (p1 : Int64) (p2 : Int64) (p3 : Int32) (kc_6 : Int32 → Int32 → Option Int32) (x6 : Int32) (x7 : Int32) (x8 : Int32) (x9 : Int32) (t0 : Int32) (t1 : Int32) : Option Int32 :=
  if t1 = t0 then
    (some (x7 + 1)).bind fun e_207 =>
    kc_6 x6 e_207
  else
    (rd_l 1500 (mo_y M) x8).bind fun v_122 =>
    (rd_l 1500 (mo_y M) x9).bind fun v_129 =>
    if 0 ≤ (lg_cmp v_122 v_129) then
      s_X4_stands_141 F M p1 p2 p3 kc_6 x6 x7 x8 x9 x9
    else
      s_X4_stands_141 F M p1 p2 p3 kc_6 x6 x7 x8 x9 x8
def s_X4_stands_93 (F : Nat) (M : mo_T) (p1 : Int64) (p2 : Int64) (p3 : Int32) (kc_6 : Int32 → Int32 → Option Int32) (x6 : Int32) (x7 : Int32) (x8 : Int32) (x9 : Int32) (t0 : Int32) : Option Int32 :=
  (rd_l 1500 (mo_y M) x9).bind fun v_99 =>
  if (lg_cmp v_99 p2) ≤ 0 then
    s_X4_stands_110 F M p1 p2 p3 kc_6 x6 x7 x8 x9 0 t0
  else
    s_X4_stands_110 F M p1 p2 p3 kc_6 x6 x7 x8 x9 1 t0
def s_X4_stands_6 (F : Nat) (M : mo_T) (p1 : Int64) (p2 : Int64) (p3 : Int32) : Nat → Int32 → Int32 → Option Int32
  | 0, _, _ => none
  | n + 1, x6, x7 =>
    (rd_i 60 (mo_c M) p3).bind fun v_14 =>
    if v_14 ≤ x7 then
      if x6 = 0 then
        some 0
      else
        some 1
    else
      (s_X4_from F M p3 x7).bind fun v_23 =>
      (s_X4_to F M p3 x7).bind fun v_33 =>
      (rd_l 1500 (mo_x M) v_23).bind fun v_44 =>
      (rd_l 1500 (mo_y M) v_23).bind fun v_51 =>
      (rd_l 1500 (mo_x M) v_33).bind fun v_58 =>
      (rd_l 1500 (mo_y M) v_33).bind fun v_65 =>
      (s_X4_isOn F v_44 v_51 v_58 v_65 p1 p2).bind fun v_68 =>
      if v_68 = 0 then
        (rd_l 1500 (mo_y M) v_23).bind fun v_82 =>
        if (lg_cmp v_82 p2) ≤ 0 then
          s_X4_stands_93 F M p1 p2 p3 (fun y0 y1 => s_X4_stands_6 F M p1 p2 p3 n y0 y1) x6 x7 v_23 v_33 0
        else
          s_X4_stands_93 F M p1 p2 p3 (fun y0 y1 => s_X4_stands_6 F M p1 p2 p3 n y0 y1) x6 x7 v_23 v_33 1
      else
        some 2
def s_X4_stands (F : Nat) (M : mo_T) (p1 : Int64) (p2 : Int64) (p3 : Int32) : Option Int32 :=
  s_X4_stands_6 F M p1 p2 p3 F 0 0
abbrev rm_X4_stands : Room := { frames := 3, cells := 0, slots := 0, locals := 91 }
theorem in_X4_stands_X4 : ∀ w ∈ wsX40, w ∈ wsX4_stands := by decide +kernel
set_option maxHeartbeats 4000000 in
set_option maxRecDepth 100000 in
theorem c_X4_stands (l : Launch) (D : va_G) (cI cJ cZ cS : ClassId) (ad : Nat → Nat) (m0 mk mc mx my mf mp mq mb : Nat) (M : mo_T) (p1 : Int64) (p2 : Int64) (p3 : Int32) (F : Nat)  (r : Int32) (hs : s_X4_stands F M p1 p2 p3 = some r) : Met l yX4_stands wsX4_stands rm_X4_stands (gl_P D cI cJ cZ cS ad [.ref m0, .long p1, .long p2, .int p3] (fun H => va_P D vwCl (mo_w cI cJ cZ m0 mk mc mx my mf mp mq mb M) H)) (vp_Si (fun v => v = r)) 0 0 (fun _ => False) := by
  refine Met.ofW (cc := cX4_stands) (maxL := 12) (ret := (some .int)) (by decide) rfl ?_
  intro p e s m args below meth c s₁ B hml hv
  obtain ⟨rfl, hK, hE, hP⟩ := hv
  have hx := B.exec
  have hb := B.bytes
  have hr := B.returns
  have hts := atoms_spec (ws := wsX4_stands) B.pre
  have hown : s.vm.findClass RX4 = some m.cls := findClass_of_methodNamed B.named
  have hlocks := B.notSynchronized
  have lk_17 := hts (.fieldLink RX4 17 "PlacePointsModel" "counts" "[I") (by decide +kernel)
  have lk_20 := hts (.fieldLink RX4 20 "PlacePointsModel" "xs" "[J") (by decide +kernel)
  have lk_24 := hts (.fieldLink RX4 24 "PlacePointsModel" "ys" "[J") (by decide +kernel)
  have in_X4 := in_X4_stands_X4
  have J_6 : ∀ (n_6 : Nat) (x6 : Int32) (x7 : Int32), s_X4_stands_6 F M p1 p2 p3 n_6 x6 x7 = some r → ∀ ls : Array Slot, lv_has ls 12 [(0, .ref m0), (1, .long p1), (3, .long p2), (5, .int p3), (6, .int x6), (7, .int x7)] → W p l e (headSpec wsX4_stands rm_X4_stands).room s m ([.ref m0, .long p1, .long p2, .int p3] : List Value).toArray below meth c s.heap [] 0 0 (MQ below (vp_Si (fun v => v = r)) ([.ref m0, .long p1, .long p2, .int p3] : List Value).toArray s 0 0 (fun _ => False)) (F0 m 6 ls []) := by
    intro n_6
    induction n_6 with
    | zero =>
      intro x6 x7 hs
      cases hs
    | succ n_6 ih_6 =>
      have J_157 : ∀ (x6 : Int32) (x7 : Int32) (x10 : Int32) (t0 : Int32), s_X4_stands_157 F M p1 p2 p3 (fun y0 y1 => s_X4_stands_6 F M p1 p2 p3 n_6 y0 y1) x6 x7 x10 t0 = some r → ∀ ls : Array Slot, lv_has ls 12 [(0, .ref m0), (1, .long p1), (3, .long p2), (5, .int p3), (6, .int x6), (7, .int x7), (10, .int x10)] → W p l e (headSpec wsX4_stands rm_X4_stands).room s m ([.ref m0, .long p1, .long p2, .int p3] : List Value).toArray below meth c s.heap [] 0 0 (MQ below (vp_Si (fun v => v = r)) ([.ref m0, .long p1, .long p2, .int p3] : List Value).toArray s 0 0 (fun _ => False)) (F0 m 157 ls [.int t0]) := by
        intro x6 x7 x10 t0 hs ls hl
        rw [s_X4_stands_157] at hs
        refine lv_istore (lv' := [(11, .int t0), (0, .ref m0), (1, .long p1), (3, .long p2), (5, .int p3), (6, .int x6), (7, .int x7), (10, .int x10)]) hx hb dX4_stands_157 hl (by decide) rfl (fun ls hl => ?_)
        refine lv_aload_n hx hb dX4_stands_159 rfl (lv_at hl 1 rfl) ?_
        refine va_get (D := D) (ci := 4) (v := .ref mx) (C := RX4) (T := TX4) (N := 15) hx hb hts in_X4 hown hK hP 0 rfl rfl 2 (by decide) lk_20 (fun _ h9 => h9) rfl dX4_stands_160 ?_
        refine lv_iload hx hb dX4_stands_163 (lv_at hl 7 rfl) ?_
        obtain ⟨v_165, hv_165, hs⟩ := op_bd hs
        refine gx_lald hx hb hK hP 3 1 rfl rfl hv_165 dX4_stands_165 ?_
        refine lv_aload_n hx hb dX4_stands_166 rfl (lv_at hl 1 rfl) ?_
        refine va_get (D := D) (ci := 4) (v := .ref my) (C := RX4) (T := TX4) (N := 15) hx hb hts in_X4 hown hK hP 0 rfl rfl 3 (by decide) lk_24 (fun _ h9 => h9) rfl dX4_stands_167 ?_
        refine lv_iload hx hb dX4_stands_170 (lv_at hl 7 rfl) ?_
        obtain ⟨v_172, hv_172, hs⟩ := op_bd hs
        refine gx_lald hx hb hK hP 4 1 rfl rfl hv_172 dX4_stands_172 ?_
        refine lv_aload_n hx hb dX4_stands_173 rfl (lv_at hl 1 rfl) ?_
        refine va_get (D := D) (ci := 4) (v := .ref mx) (C := RX4) (T := TX4) (N := 15) hx hb hts in_X4 hown hK hP 0 rfl rfl 2 (by decide) lk_20 (fun _ h9 => h9) rfl dX4_stands_174 ?_
        refine lv_iload hx hb dX4_stands_177 (lv_at hl 0 rfl) ?_
        obtain ⟨v_179, hv_179, hs⟩ := op_bd hs
        refine gx_lald hx hb hK hP 3 1 rfl rfl hv_179 dX4_stands_179 ?_
        refine lv_aload_n hx hb dX4_stands_180 rfl (lv_at hl 1 rfl) ?_
        refine va_get (D := D) (ci := 4) (v := .ref my) (C := RX4) (T := TX4) (N := 15) hx hb hts in_X4 hown hK hP 0 rfl rfl 3 (by decide) lk_24 (fun _ h9 => h9) rfl dX4_stands_181 ?_
        refine lv_iload hx hb dX4_stands_184 (lv_at hl 0 rfl) ?_
        obtain ⟨v_186, hv_186, hs⟩ := op_bd hs
        refine gx_lald hx hb hK hP 4 1 rfl rfl hv_186 dX4_stands_186 ?_
        refine lv_lload_n hx hb dX4_stands_187 rfl (lv_at hl 2 rfl) ?_
        refine lv_lload_n hx hb dX4_stands_188 rfl (lv_at hl 3 rfl) ?_
        obtain ⟨v_189, hc_189, hs⟩ := op_bd hs
        refine gx_cSi (va_Run.run (va_runS (As := [.long v_165, .long v_172, .long v_179, .long v_186, .long p1, .long p2]) (rest := []) ⟨hx, hb, hml, hown, hts⟩ (c_X4_hand l D cI cJ cZ cS ad v_165 v_172 v_179 v_186 p1 p2 F  v_189 hc_189) (va_cwS 6 hts gX4_stands_X4_hand rfl rfl rfl (by decide +kernel) ⟨Nat.le_of_ble_eq_true rfl, Nat.le_of_ble_eq_true rfl⟩) ⟨gl_blind, gl_ok hK hE trivial⟩ rfl rfl hl.1 rfl (lv_room (Nat.le_of_ble_eq_true rfl)) dX4_stands_189 ⟨Nat.le_of_ble_eq_true rfl, Nat.le_of_ble_eq_true rfl⟩)) ?_
        refine lv_if_le (tgt := 207) hx hb dX4_stands_192 (by decide) (fun c_192 => ?_) (fun c_192 => ?_)
        · replace hs := it_t c_192 hs
          obtain ⟨e_207, hv_207, hs⟩ := op_bd hs
          refine lv_iinc (v := e_207) (lv' := [(7, .int e_207), (11, .int t0), (0, .ref m0), (1, .long p1), (3, .long p2), (5, .int p3), (6, .int x6), (10, .int x10)]) hx hb dX4_stands_207 hl (k := 6) rfl (Option.some.inj hv_207) (by decide) rfl (fun ls hl => ?_)
          refine lv_goto (tgt := 6) hx hb dX4_stands_210 (by decide) ?_
          exact ih_6 x6 e_207 hs _ (lv_sub hl [2, 3, 4, 5, 6, 0] rfl)
        · replace hs := it_f c_192 hs
          refine lv_iload hx hb dX4_stands_195 (lv_at hl 5 rfl) ?_
          refine lv_if_ne (tgt := 204) hx hb dX4_stands_197 (by decide) (fun c_197 => ?_) (fun c_197 => ?_)
          · replace hs := it_f c_197 hs
            refine lv_iconst (v := 0) hx hb dX4_stands_204 (by decide) ?_
            refine lv_istore (lv' := [(6, .int 0), (11, .int t0), (0, .ref m0), (1, .long p1), (3, .long p2), (5, .int p3), (7, .int x7), (10, .int x10)]) hx hb dX4_stands_205 hl (by decide) rfl (fun ls hl => ?_)
            obtain ⟨e_207, hv_207, hs⟩ := op_bd hs
            refine lv_iinc (v := e_207) (lv' := [(7, .int e_207), (6, .int 0), (11, .int t0), (0, .ref m0), (1, .long p1), (3, .long p2), (5, .int p3), (10, .int x10)]) hx hb dX4_stands_207 hl (k := 6) rfl (Option.some.inj hv_207) (by decide) rfl (fun ls hl => ?_)
            refine lv_goto (tgt := 6) hx hb dX4_stands_210 (by decide) ?_
            exact ih_6 0 e_207 hs _ (lv_sub hl [3, 4, 5, 6, 1, 0] rfl)
          · replace hs := it_t c_197 hs
            refine lv_iconst (v := 1) hx hb dX4_stands_200 (by decide) ?_
            refine lv_goto (tgt := 205) hx hb dX4_stands_201 (by decide) ?_
            refine lv_istore (lv' := [(6, .int 1), (11, .int t0), (0, .ref m0), (1, .long p1), (3, .long p2), (5, .int p3), (7, .int x7), (10, .int x10)]) hx hb dX4_stands_205 hl (by decide) rfl (fun ls hl => ?_)
            obtain ⟨e_207, hv_207, hs⟩ := op_bd hs
            refine lv_iinc (v := e_207) (lv' := [(7, .int e_207), (6, .int 1), (11, .int t0), (0, .ref m0), (1, .long p1), (3, .long p2), (5, .int p3), (10, .int x10)]) hx hb dX4_stands_207 hl (k := 6) rfl (Option.some.inj hv_207) (by decide) rfl (fun ls hl => ?_)
            refine lv_goto (tgt := 6) hx hb dX4_stands_210 (by decide) ?_
            exact ih_6 1 e_207 hs _ (lv_sub hl [3, 4, 5, 6, 1, 0] rfl)
      have J_141 : ∀ (x6 : Int32) (x7 : Int32) (x8 : Int32) (x9 : Int32) (t0 : Int32), s_X4_stands_141 F M p1 p2 p3 (fun y0 y1 => s_X4_stands_6 F M p1 p2 p3 n_6 y0 y1) x6 x7 x8 x9 t0 = some r → ∀ ls : Array Slot, lv_has ls 12 [(0, .ref m0), (1, .long p1), (3, .long p2), (5, .int p3), (6, .int x6), (7, .int x7), (8, .int x8), (9, .int x9)] → W p l e (headSpec wsX4_stands rm_X4_stands).room s m ([.ref m0, .long p1, .long p2, .int p3] : List Value).toArray below meth c s.heap [] 0 0 (MQ below (vp_Si (fun v => v = r)) ([.ref m0, .long p1, .long p2, .int p3] : List Value).toArray s 0 0 (fun _ => False)) (F0 m 141 ls [.int t0]) := by
        intro x6 x7 x8 x9 t0 hs ls hl
        rw [s_X4_stands_141] at hs
        refine lv_istore (lv' := [(10, .int t0), (0, .ref m0), (1, .long p1), (3, .long p2), (5, .int p3), (6, .int x6), (7, .int x7), (8, .int x8), (9, .int x9)]) hx hb dX4_stands_141 hl (by decide) rfl (fun ls hl => ?_)
        refine lv_iload hx hb dX4_stands_143 (lv_at hl 0 rfl) ?_
        refine lv_iload hx hb dX4_stands_145 (lv_at hl 7 rfl) ?_
        refine lv_icmp_ne (tgt := 155) hx hb dX4_stands_147 (by decide) (fun c_147 => ?_) (fun c_147 => ?_)
        · replace hs := it_f c_147 hs
          refine lv_iload hx hb dX4_stands_155 (lv_at hl 7 rfl) ?_
          exact J_157 x6 x7 t0 x8 hs _ (lv_sub hl [1, 2, 3, 4, 5, 6, 0] rfl)
        · replace hs := it_t c_147 hs
          refine lv_iload hx hb dX4_stands_150 (lv_at hl 8 rfl) ?_
          refine lv_goto (tgt := 157) hx hb dX4_stands_152 (by decide) ?_
          exact J_157 x6 x7 t0 x9 hs _ (lv_sub hl [1, 2, 3, 4, 5, 6, 0] rfl)
      have J_110 : ∀ (x6 : Int32) (x7 : Int32) (x8 : Int32) (x9 : Int32) (t0 : Int32) (t1 : Int32), s_X4_stands_110 F M p1 p2 p3 (fun y0 y1 => s_X4_stands_6 F M p1 p2 p3 n_6 y0 y1) x6 x7 x8 x9 t0 t1 = some r → ∀ ls : Array Slot, lv_has ls 12 [(0, .ref m0), (1, .long p1), (3, .long p2), (5, .int p3), (6, .int x6), (7, .int x7), (8, .int x8), (9, .int x9)] → W p l e (headSpec wsX4_stands rm_X4_stands).room s m ([.ref m0, .long p1, .long p2, .int p3] : List Value).toArray below meth c s.heap [] 0 0 (MQ below (vp_Si (fun v => v = r)) ([.ref m0, .long p1, .long p2, .int p3] : List Value).toArray s 0 0 (fun _ => False)) (F0 m 110 ls [.int t0, .int t1]) := by
        intro x6 x7 x8 x9 t0 t1 hs ls hl
        rw [s_X4_stands_110] at hs
        refine lv_icmp_ne (tgt := 116) hx hb dX4_stands_110 (by decide) (fun c_110 => ?_) (fun c_110 => ?_)
        · replace hs := it_f c_110 hs
          refine lv_aload_n hx hb dX4_stands_116 rfl (lv_at hl 0 rfl) ?_
          refine va_get (D := D) (ci := 4) (v := .ref my) (C := RX4) (T := TX4) (N := 15) hx hb hts in_X4 hown hK hP 0 rfl rfl 3 (by decide) lk_24 (fun _ h9 => h9) rfl dX4_stands_117 ?_
          refine lv_iload hx hb dX4_stands_120 (lv_at hl 6 rfl) ?_
          obtain ⟨v_122, hv_122, hs⟩ := op_bd hs
          refine gx_lald hx hb hK hP 4 1 rfl rfl hv_122 dX4_stands_122 ?_
          refine lv_aload_n hx hb dX4_stands_123 rfl (lv_at hl 0 rfl) ?_
          refine va_get (D := D) (ci := 4) (v := .ref my) (C := RX4) (T := TX4) (N := 15) hx hb hts in_X4 hown hK hP 0 rfl rfl 3 (by decide) lk_24 (fun _ h9 => h9) rfl dX4_stands_124 ?_
          refine lv_iload hx hb dX4_stands_127 (lv_at hl 7 rfl) ?_
          obtain ⟨v_129, hv_129, hs⟩ := op_bd hs
          refine gx_lald hx hb hK hP 4 1 rfl rfl hv_129 dX4_stands_129 ?_
          refine W.lcmp hx hb dX4_stands_130 ?_
          refine lv_if_ge (tgt := 139) hx hb dX4_stands_131 (by decide) (fun c_131 => ?_) (fun c_131 => ?_)
          · replace hs := it_t c_131 hs
            refine lv_iload hx hb dX4_stands_139 (lv_at hl 7 rfl) ?_
            exact J_141 x6 x7 x8 x9 x9 hs _ (lv_sub hl [0, 1, 2, 3, 4, 5, 6, 7] rfl)
          · replace hs := it_f c_131 hs
            refine lv_iload hx hb dX4_stands_134 (lv_at hl 6 rfl) ?_
            refine lv_goto (tgt := 141) hx hb dX4_stands_136 (by decide) ?_
            exact J_141 x6 x7 x8 x9 x8 hs _ (lv_sub hl [0, 1, 2, 3, 4, 5, 6, 7] rfl)
        · replace hs := it_t c_110 hs
          refine lv_goto (tgt := 207) hx hb dX4_stands_113 (by decide) ?_
          obtain ⟨e_207, hv_207, hs⟩ := op_bd hs
          refine lv_iinc (v := e_207) (lv' := [(7, .int e_207), (0, .ref m0), (1, .long p1), (3, .long p2), (5, .int p3), (6, .int x6), (8, .int x8), (9, .int x9)]) hx hb dX4_stands_207 hl (k := 5) rfl (Option.some.inj hv_207) (by decide) rfl (fun ls hl => ?_)
          refine lv_goto (tgt := 6) hx hb dX4_stands_210 (by decide) ?_
          exact ih_6 x6 e_207 hs _ (lv_sub hl [1, 2, 3, 4, 5, 0] rfl)
      have J_93 : ∀ (x6 : Int32) (x7 : Int32) (x8 : Int32) (x9 : Int32) (t0 : Int32), s_X4_stands_93 F M p1 p2 p3 (fun y0 y1 => s_X4_stands_6 F M p1 p2 p3 n_6 y0 y1) x6 x7 x8 x9 t0 = some r → ∀ ls : Array Slot, lv_has ls 12 [(0, .ref m0), (1, .long p1), (3, .long p2), (5, .int p3), (6, .int x6), (7, .int x7), (8, .int x8), (9, .int x9)] → W p l e (headSpec wsX4_stands rm_X4_stands).room s m ([.ref m0, .long p1, .long p2, .int p3] : List Value).toArray below meth c s.heap [] 0 0 (MQ below (vp_Si (fun v => v = r)) ([.ref m0, .long p1, .long p2, .int p3] : List Value).toArray s 0 0 (fun _ => False)) (F0 m 93 ls [.int t0]) := by
        intro x6 x7 x8 x9 t0 hs ls hl
        rw [s_X4_stands_93] at hs
        refine lv_aload_n hx hb dX4_stands_93 rfl (lv_at hl 0 rfl) ?_
        refine va_get (D := D) (ci := 4) (v := .ref my) (C := RX4) (T := TX4) (N := 15) hx hb hts in_X4 hown hK hP 0 rfl rfl 3 (by decide) lk_24 (fun _ h9 => h9) rfl dX4_stands_94 ?_
        refine lv_iload hx hb dX4_stands_97 (lv_at hl 7 rfl) ?_
        obtain ⟨v_99, hv_99, hs⟩ := op_bd hs
        refine gx_lald hx hb hK hP 4 1 rfl rfl hv_99 dX4_stands_99 ?_
        refine lv_lload_n hx hb dX4_stands_100 rfl (lv_at hl 2 rfl) ?_
        refine W.lcmp hx hb dX4_stands_101 ?_
        refine lv_if_le (tgt := 109) hx hb dX4_stands_102 (by decide) (fun c_102 => ?_) (fun c_102 => ?_)
        · replace hs := it_t c_102 hs
          refine lv_iconst (v := 0) hx hb dX4_stands_109 (by decide) ?_
          exact J_110 x6 x7 x8 x9 0 t0 hs _ (lv_sub hl [0, 1, 2, 3, 4, 5, 6, 7] rfl)
        · replace hs := it_f c_102 hs
          refine lv_iconst (v := 1) hx hb dX4_stands_105 (by decide) ?_
          refine lv_goto (tgt := 110) hx hb dX4_stands_106 (by decide) ?_
          exact J_110 x6 x7 x8 x9 1 t0 hs _ (lv_sub hl [0, 1, 2, 3, 4, 5, 6, 7] rfl)
      intro x6 x7 hs ls hl
      rw [s_X4_stands_6] at hs
      refine lv_iload hx hb dX4_stands_6 (lv_at hl 5 rfl) ?_
      refine lv_aload_n hx hb dX4_stands_8 rfl (lv_at hl 0 rfl) ?_
      refine va_get (D := D) (ci := 4) (v := .ref mc) (C := RX4) (T := TX4) (N := 15) hx hb hts in_X4 hown hK hP 0 rfl rfl 1 (by decide) lk_17 (fun _ h9 => h9) rfl dX4_stands_9 ?_
      refine lv_iload hx hb dX4_stands_12 (lv_at hl 3 rfl) ?_
      obtain ⟨v_14, hv_14, hs⟩ := op_bd hs
      refine gx_iald hx hb hK hP 2 0 rfl rfl hv_14 dX4_stands_14 ?_
      refine lv_icmp_ge (tgt := 213) hx hb dX4_stands_15 (by decide) (fun c_15 => ?_) (fun c_15 => ?_)
      · replace hs := it_t c_15 hs
        refine lv_iload hx hb dX4_stands_213 (lv_at hl 4 rfl) ?_
        refine lv_if_eq (tgt := 222) hx hb dX4_stands_215 (by decide) (fun c_215 => ?_) (fun c_215 => ?_)
        · replace hs := it_t c_215 hs
          refine lv_iconst (v := 0) hx hb dX4_stands_222 (by decide) ?_
          obtain rfl := Option.some.inj hs
          exact W.iret hx hb hr (fun t ht hW => ⟨_, rfl, rfl, ht⟩) (fun _ h => by cases h) dX4_stands_223
        · replace hs := it_f c_215 hs
          refine lv_iconst (v := 1) hx hb dX4_stands_218 (by decide) ?_
          refine lv_goto (tgt := 223) hx hb dX4_stands_219 (by decide) ?_
          obtain rfl := Option.some.inj hs
          exact W.iret hx hb hr (fun t ht hW => ⟨_, rfl, rfl, ht⟩) (fun _ h => by cases h) dX4_stands_223
      · replace hs := it_f c_15 hs
        refine lv_aload_n hx hb dX4_stands_18 rfl (lv_at hl 0 rfl) ?_
        refine lv_iload hx hb dX4_stands_19 (lv_at hl 3 rfl) ?_
        refine lv_iload hx hb dX4_stands_21 (lv_at hl 5 rfl) ?_
        obtain ⟨v_23, hc_23, hs⟩ := op_bd hs
        refine gx_cSi (va_Run.run (va_runV (As := [.int p3, .int x7]) (rest := []) ⟨hx, hb, hml, hown, hts⟩ (c_X4_from l D cI cJ cZ cS ad m0 mk mc mx my mf mp mq mb M p3 x7 F  v_23 hc_23) (cwV 2 hts gX4_stands_X4_from rfl rfl rfl (by decide +kernel) ⟨Nat.le_of_ble_eq_true rfl, Nat.le_of_ble_eq_true rfl⟩) ⟨gl_blind, va_recv hK hP (ci := 4) (q0 := 0) rfl rfl, gl_ok hK hE hP⟩ rfl rfl hl.1 rfl (lv_room (Nat.le_of_ble_eq_true rfl)) dX4_stands_23 ⟨Nat.le_of_ble_eq_true rfl, Nat.le_of_ble_eq_true rfl⟩)) ?_
        refine lv_istore (lv' := [(8, .int v_23), (0, .ref m0), (1, .long p1), (3, .long p2), (5, .int p3), (6, .int x6), (7, .int x7)]) hx hb dX4_stands_26 hl (by decide) rfl (fun ls hl => ?_)
        refine lv_aload_n hx hb dX4_stands_28 rfl (lv_at hl 1 rfl) ?_
        refine lv_iload hx hb dX4_stands_29 (lv_at hl 4 rfl) ?_
        refine lv_iload hx hb dX4_stands_31 (lv_at hl 6 rfl) ?_
        obtain ⟨v_33, hc_33, hs⟩ := op_bd hs
        refine gx_cSi (va_Run.run (va_runV (As := [.int p3, .int x7]) (rest := []) ⟨hx, hb, hml, hown, hts⟩ (c_X4_to l D cI cJ cZ cS ad m0 mk mc mx my mf mp mq mb M p3 x7 F  v_33 hc_33) (cwV 2 hts gX4_stands_X4_to rfl rfl rfl (by decide +kernel) ⟨Nat.le_of_ble_eq_true rfl, Nat.le_of_ble_eq_true rfl⟩) ⟨gl_blind, va_recv hK hP (ci := 4) (q0 := 0) rfl rfl, gl_ok hK hE hP⟩ rfl rfl hl.1 rfl (lv_room (Nat.le_of_ble_eq_true rfl)) dX4_stands_33 ⟨Nat.le_of_ble_eq_true rfl, Nat.le_of_ble_eq_true rfl⟩)) ?_
        refine lv_istore (lv' := [(9, .int v_33), (8, .int v_23), (0, .ref m0), (1, .long p1), (3, .long p2), (5, .int p3), (6, .int x6), (7, .int x7)]) hx hb dX4_stands_36 hl (by decide) rfl (fun ls hl => ?_)
        refine lv_aload_n hx hb dX4_stands_38 rfl (lv_at hl 2 rfl) ?_
        refine va_get (D := D) (ci := 4) (v := .ref mx) (C := RX4) (T := TX4) (N := 15) hx hb hts in_X4 hown hK hP 0 rfl rfl 2 (by decide) lk_20 (fun _ h9 => h9) rfl dX4_stands_39 ?_
        refine lv_iload hx hb dX4_stands_42 (lv_at hl 1 rfl) ?_
        obtain ⟨v_44, hv_44, hs⟩ := op_bd hs
        refine gx_lald hx hb hK hP 3 1 rfl rfl hv_44 dX4_stands_44 ?_
        refine lv_aload_n hx hb dX4_stands_45 rfl (lv_at hl 2 rfl) ?_
        refine va_get (D := D) (ci := 4) (v := .ref my) (C := RX4) (T := TX4) (N := 15) hx hb hts in_X4 hown hK hP 0 rfl rfl 3 (by decide) lk_24 (fun _ h9 => h9) rfl dX4_stands_46 ?_
        refine lv_iload hx hb dX4_stands_49 (lv_at hl 1 rfl) ?_
        obtain ⟨v_51, hv_51, hs⟩ := op_bd hs
        refine gx_lald hx hb hK hP 4 1 rfl rfl hv_51 dX4_stands_51 ?_
        refine lv_aload_n hx hb dX4_stands_52 rfl (lv_at hl 2 rfl) ?_
        refine va_get (D := D) (ci := 4) (v := .ref mx) (C := RX4) (T := TX4) (N := 15) hx hb hts in_X4 hown hK hP 0 rfl rfl 2 (by decide) lk_20 (fun _ h9 => h9) rfl dX4_stands_53 ?_
        refine lv_iload hx hb dX4_stands_56 (lv_at hl 0 rfl) ?_
        obtain ⟨v_58, hv_58, hs⟩ := op_bd hs
        refine gx_lald hx hb hK hP 3 1 rfl rfl hv_58 dX4_stands_58 ?_
        refine lv_aload_n hx hb dX4_stands_59 rfl (lv_at hl 2 rfl) ?_
        refine va_get (D := D) (ci := 4) (v := .ref my) (C := RX4) (T := TX4) (N := 15) hx hb hts in_X4 hown hK hP 0 rfl rfl 3 (by decide) lk_24 (fun _ h9 => h9) rfl dX4_stands_60 ?_
        refine lv_iload hx hb dX4_stands_63 (lv_at hl 0 rfl) ?_
        obtain ⟨v_65, hv_65, hs⟩ := op_bd hs
        refine gx_lald hx hb hK hP 4 1 rfl rfl hv_65 dX4_stands_65 ?_
        refine lv_lload_n hx hb dX4_stands_66 rfl (lv_at hl 3 rfl) ?_
        refine lv_lload_n hx hb dX4_stands_67 rfl (lv_at hl 4 rfl) ?_
        obtain ⟨v_68, hc_68, hs⟩ := op_bd hs
        refine gx_cSi (va_Run.run (va_runS (As := [.long v_44, .long v_51, .long v_58, .long v_65, .long p1, .long p2]) (rest := []) ⟨hx, hb, hml, hown, hts⟩ (c_X4_isOn l D cI cJ cZ cS ad v_44 v_51 v_58 v_65 p1 p2 F  v_68 hc_68) (va_cwS 6 hts gX4_stands_X4_isOn rfl rfl rfl (by decide +kernel) ⟨Nat.le_of_ble_eq_true rfl, Nat.le_of_ble_eq_true rfl⟩) ⟨gl_blind, gl_ok hK hE trivial⟩ rfl rfl hl.1 rfl (lv_room (Nat.le_of_ble_eq_true rfl)) dX4_stands_68 ⟨Nat.le_of_ble_eq_true rfl, Nat.le_of_ble_eq_true rfl⟩)) ?_
        refine lv_if_eq (tgt := 76) hx hb dX4_stands_71 (by decide) (fun c_71 => ?_) (fun c_71 => ?_)
        · replace hs := it_t c_71 hs
          refine lv_aload_n hx hb dX4_stands_76 rfl (lv_at hl 2 rfl) ?_
          refine va_get (D := D) (ci := 4) (v := .ref my) (C := RX4) (T := TX4) (N := 15) hx hb hts in_X4 hown hK hP 0 rfl rfl 3 (by decide) lk_24 (fun _ h9 => h9) rfl dX4_stands_77 ?_
          refine lv_iload hx hb dX4_stands_80 (lv_at hl 1 rfl) ?_
          obtain ⟨v_82, hv_82, hs⟩ := op_bd hs
          refine gx_lald hx hb hK hP 4 1 rfl rfl hv_82 dX4_stands_82 ?_
          refine lv_lload_n hx hb dX4_stands_83 rfl (lv_at hl 4 rfl) ?_
          refine W.lcmp hx hb dX4_stands_84 ?_
          refine lv_if_le (tgt := 92) hx hb dX4_stands_85 (by decide) (fun c_85 => ?_) (fun c_85 => ?_)
          · replace hs := it_t c_85 hs
            refine lv_iconst (v := 0) hx hb dX4_stands_92 (by decide) ?_
            exact J_93 x6 x7 v_23 v_33 0 hs _ (lv_sub hl [2, 3, 4, 5, 6, 7, 1, 0] rfl)
          · replace hs := it_f c_85 hs
            refine lv_iconst (v := 1) hx hb dX4_stands_88 (by decide) ?_
            refine lv_goto (tgt := 93) hx hb dX4_stands_89 (by decide) ?_
            exact J_93 x6 x7 v_23 v_33 1 hs _ (lv_sub hl [2, 3, 4, 5, 6, 7, 1, 0] rfl)
        · replace hs := it_f c_71 hs
          refine lv_iconst (v := 2) hx hb dX4_stands_74 (by decide) ?_
          obtain rfl := Option.some.inj hs
          exact W.iret hx hb hr (fun t ht hW => ⟨_, rfl, rfl, ht⟩) (fun _ h => by cases h) dX4_stands_75
  have hl := lv_entry ([.ref m0, .long p1, .long p2, .int p3]) (n := 12) (Nat.le_of_ble_eq_true rfl)
  rw [lg_entry_eq]
  generalize (lg_sl ([.ref m0, .long p1, .long p2, .int p3]) ++ List.replicate (12 - (lg_sl ([.ref m0, .long p1, .long p2, .int p3])).length) Slot.unset).toArray = ls at hl ⊢
  have hl : lv_has ls 12 [(0, .ref m0), (1, .long p1), (3, .long p2), (5, .int p3)] := hl
  rw [s_X4_stands] at hs
  refine lv_iconst (v := 0) hx hb dX4_stands_0 (by decide) ?_
  refine lv_istore (lv' := [(6, .int 0), (0, .ref m0), (1, .long p1), (3, .long p2), (5, .int p3)]) hx hb dX4_stands_1 hl (by decide) rfl (fun ls hl => ?_)
  refine lv_iconst (v := 0) hx hb dX4_stands_3 (by decide) ?_
  refine lv_istore (lv' := [(7, .int 0), (6, .int 0), (0, .ref m0), (1, .long p1), (3, .long p2), (5, .int p3)]) hx hb dX4_stands_4 hl (by decide) rfl (fun ls hl => ?_)
  exact J_6 F 0 0 hs _ (lv_sub hl [2, 3, 4, 5, 1, 0] rfl)
def s_X4_have_14 (F : Nat) (M : mo_T) (p1 : Int32) (p2 : Int32) (kc_2 : Int32 → Option Int32) : Nat → Int32 → Int32 → Option Int32
  | 0, _, _ => none
  | n + 1, x3, x4 =>
    (s_X4_sides F M p2).bind fun v_18 =>
    if v_18 ≤ x4 then
      (some (x3 + 1)).bind fun e_65 =>
      kc_2 e_65
    else
      (s_X4_from F M p1 x3).bind fun v_28 =>
      (s_X4_to F M p1 x3).bind fun v_34 =>
      (s_X4_from F M p2 x4).bind fun v_41 =>
      (s_X4_to F M p2 x4).bind fun v_48 =>
      (s_X4_cut F M v_28 v_34 v_41 v_48).bind fun v_51 =>
      if v_51 = 0 then
        (some (x4 + 1)).bind fun e_59 =>
        s_X4_have_14 F M p1 p2 kc_2 n x3 e_59
      else
        some 1
def s_X4_have_111 (F : Nat) (M : mo_T) (p1 : Int32) (p2 : Int32) : Option Int32 :=
  (rd_i 60 (mo_k M) p2).bind fun v_116 =>
  if v_116 = 3 then
    (s_X4_from F M p1 0).bind fun v_129 =>
    (rd_l 1500 (mo_x M) v_129).bind fun v_132 =>
    (s_X4_from F M p1 0).bind fun v_140 =>
    (rd_l 1500 (mo_y M) v_140).bind fun v_143 =>
    (s_X4_stands F M v_132 v_143 p2).bind fun v_145 =>
    if v_145 ≤ 0 then
      some 0
    else
      some 1
  else
    some 0
def s_X4_have_2 (F : Nat) (M : mo_T) (p1 : Int32) (p2 : Int32) : Nat → Int32 → Option Int32
  | 0, _ => none
  | n + 1, x3 =>
    (s_X4_sides F M p1).bind fun v_5 =>
    if v_5 ≤ x3 then
      (rd_i 60 (mo_k M) p1).bind fun v_76 =>
      if v_76 = 3 then
        (s_X4_from F M p2 0).bind fun v_89 =>
        (rd_l 1500 (mo_x M) v_89).bind fun v_92 =>
        (s_X4_from F M p2 0).bind fun v_100 =>
        (rd_l 1500 (mo_y M) v_100).bind fun v_103 =>
        (s_X4_stands F M v_92 v_103 p1).bind fun v_105 =>
        if 0 < v_105 then
          some 1
        else
          s_X4_have_111 F M p1 p2 
      else
        s_X4_have_111 F M p1 p2 
    else
      s_X4_have_14 F M p1 p2 (fun y0 => s_X4_have_2 F M p1 p2 n y0) F x3 0
def s_X4_have (F : Nat) (M : mo_T) (p1 : Int32) (p2 : Int32) : Option Int32 :=
  s_X4_have_2 F M p1 p2 F 0
abbrev rm_X4_have : Room := { frames := 4, cells := 0, slots := 0, locals := 122 }
theorem in_X4_have_X4 : ∀ w ∈ wsX40, w ∈ wsX4_have := by decide +kernel
set_option maxHeartbeats 4000000 in
set_option maxRecDepth 100000 in
theorem c_X4_have (l : Launch) (D : va_G) (cI cJ cZ cS : ClassId) (ad : Nat → Nat) (m0 mk mc mx my mf mp mq mb : Nat) (M : mo_T) (p1 : Int32) (p2 : Int32) (F : Nat)  (r : Int32) (hs : s_X4_have F M p1 p2 = some r) : Met l yX4_have wsX4_have rm_X4_have (gl_P D cI cJ cZ cS ad [.ref m0, .int p1, .int p2] (fun H => va_P D vwCl (mo_w cI cJ cZ m0 mk mc mx my mf mp mq mb M) H)) (vp_Si (fun v => v = r)) 0 0 (fun _ => False) := by
  refine Met.ofW (cc := cX4_have) (maxL := 5) (ret := (some .boolean)) (by decide) rfl ?_
  intro p e s m args below meth c s₁ B hml hv
  obtain ⟨rfl, hK, hE, hP⟩ := hv
  have hx := B.exec
  have hb := B.bytes
  have hr := B.returns
  have hts := atoms_spec (ws := wsX4_have) B.pre
  have hown : s.vm.findClass RX4 = some m.cls := findClass_of_methodNamed B.named
  have hlocks := B.notSynchronized
  have lk_13 := hts (.fieldLink RX4 13 "PlacePointsModel" "kinds" "[I") (by decide +kernel)
  have lk_20 := hts (.fieldLink RX4 20 "PlacePointsModel" "xs" "[J") (by decide +kernel)
  have lk_24 := hts (.fieldLink RX4 24 "PlacePointsModel" "ys" "[J") (by decide +kernel)
  have in_X4 := in_X4_have_X4
  have J_111 : s_X4_have_111 F M p1 p2 = some r → ∀ ls : Array Slot, lv_has ls 5 [(0, .ref m0), (1, .int p1), (2, .int p2)] → W p l e (headSpec wsX4_have rm_X4_have).room s m ([.ref m0, .int p1, .int p2] : List Value).toArray below meth c s.heap [] 0 0 (MQ below (vp_Si (fun v => v = r)) ([.ref m0, .int p1, .int p2] : List Value).toArray s 0 0 (fun _ => False)) (F0 m 111 ls []) := by
    intro  hs ls hl
    rw [s_X4_have_111] at hs
    refine lv_aload_n hx hb dX4_have_111 rfl (lv_at hl 0 rfl) ?_
    refine va_get (D := D) (ci := 4) (v := .ref mk) (C := RX4) (T := TX4) (N := 15) hx hb hts in_X4 hown hK hP 0 rfl rfl 0 (by decide) lk_13 (fun _ h9 => h9) rfl dX4_have_112 ?_
    refine lv_iload_n hx hb dX4_have_115 rfl (lv_at hl 2 rfl) ?_
    obtain ⟨v_116, hv_116, hs⟩ := op_bd hs
    refine gx_iald hx hb hK hP 1 0 rfl rfl hv_116 dX4_have_116 ?_
    refine lv_iconst (v := 3) hx hb dX4_have_117 (by decide) ?_
    refine lv_icmp_ne (tgt := 155) hx hb dX4_have_118 (by decide) (fun c_118 => ?_) (fun c_118 => ?_)
    · replace hs := it_f c_118 hs
      refine lv_iconst (v := 0) hx hb dX4_have_155 (by decide) ?_
      obtain rfl := Option.some.inj hs
      exact W.zret hx hb hr rfl (fun t ht hW => ⟨_, rfl, rfl, ht⟩) (fun _ h => by cases h) dX4_have_156
    · replace hs := it_t c_118 hs
      refine lv_aload_n hx hb dX4_have_121 rfl (lv_at hl 0 rfl) ?_
      refine lv_aload_n hx hb dX4_have_122 rfl (lv_at hl 0 rfl) ?_
      refine va_get (D := D) (ci := 4) (v := .ref mx) (C := RX4) (T := TX4) (N := 15) hx hb hts in_X4 hown hK hP 0 rfl rfl 2 (by decide) lk_20 (fun _ h9 => h9) rfl dX4_have_123 ?_
      refine lv_aload_n hx hb dX4_have_126 rfl (lv_at hl 0 rfl) ?_
      refine lv_iload_n hx hb dX4_have_127 rfl (lv_at hl 1 rfl) ?_
      refine lv_iconst (v := 0) hx hb dX4_have_128 (by decide) ?_
      obtain ⟨v_129, hc_129, hs⟩ := op_bd hs
      refine gx_cSi (va_Run.run (va_runV (As := [.int p1, .int 0]) (rest := [.ref mx, .ref m0]) ⟨hx, hb, hml, hown, hts⟩ (c_X4_from l D cI cJ cZ cS ad m0 mk mc mx my mf mp mq mb M p1 0 F  v_129 hc_129) (cwV 2 hts gX4_have_X4_from rfl rfl rfl (by decide +kernel) ⟨Nat.le_of_ble_eq_true rfl, Nat.le_of_ble_eq_true rfl⟩) ⟨gl_blind, va_recv hK hP (ci := 4) (q0 := 0) rfl rfl, gl_ok hK hE hP⟩ rfl rfl hl.1 rfl (lv_room (Nat.le_of_ble_eq_true rfl)) dX4_have_129 ⟨Nat.le_of_ble_eq_true rfl, Nat.le_of_ble_eq_true rfl⟩)) ?_
      obtain ⟨v_132, hv_132, hs⟩ := op_bd hs
      refine gx_lald hx hb hK hP 3 1 rfl rfl hv_132 dX4_have_132 ?_
      refine lv_aload_n hx hb dX4_have_133 rfl (lv_at hl 0 rfl) ?_
      refine va_get (D := D) (ci := 4) (v := .ref my) (C := RX4) (T := TX4) (N := 15) hx hb hts in_X4 hown hK hP 0 rfl rfl 3 (by decide) lk_24 (fun _ h9 => h9) rfl dX4_have_134 ?_
      refine lv_aload_n hx hb dX4_have_137 rfl (lv_at hl 0 rfl) ?_
      refine lv_iload_n hx hb dX4_have_138 rfl (lv_at hl 1 rfl) ?_
      refine lv_iconst (v := 0) hx hb dX4_have_139 (by decide) ?_
      obtain ⟨v_140, hc_140, hs⟩ := op_bd hs
      refine gx_cSi (va_Run.run (va_runV (As := [.int p1, .int 0]) (rest := [.ref my, .long v_132, .ref m0]) ⟨hx, hb, hml, hown, hts⟩ (c_X4_from l D cI cJ cZ cS ad m0 mk mc mx my mf mp mq mb M p1 0 F  v_140 hc_140) (cwV 2 hts gX4_have_X4_from rfl rfl rfl (by decide +kernel) ⟨Nat.le_of_ble_eq_true rfl, Nat.le_of_ble_eq_true rfl⟩) ⟨gl_blind, va_recv hK hP (ci := 4) (q0 := 0) rfl rfl, gl_ok hK hE hP⟩ rfl rfl hl.1 rfl (lv_room (Nat.le_of_ble_eq_true rfl)) dX4_have_140 ⟨Nat.le_of_ble_eq_true rfl, Nat.le_of_ble_eq_true rfl⟩)) ?_
      obtain ⟨v_143, hv_143, hs⟩ := op_bd hs
      refine gx_lald hx hb hK hP 4 1 rfl rfl hv_143 dX4_have_143 ?_
      refine lv_iload_n hx hb dX4_have_144 rfl (lv_at hl 2 rfl) ?_
      obtain ⟨v_145, hc_145, hs⟩ := op_bd hs
      refine gx_cSi (va_Run.run (va_runV (As := [.long v_132, .long v_143, .int p2]) (rest := []) ⟨hx, hb, hml, hown, hts⟩ (c_X4_stands l D cI cJ cZ cS ad m0 mk mc mx my mf mp mq mb M v_132 v_143 p2 F  v_145 hc_145) (cwV 3 hts gX4_have_X4_stands rfl rfl rfl (by decide +kernel) ⟨Nat.le_of_ble_eq_true rfl, Nat.le_of_ble_eq_true rfl⟩) ⟨gl_blind, va_recv hK hP (ci := 4) (q0 := 0) rfl rfl, gl_ok hK hE hP⟩ rfl rfl hl.1 rfl (lv_room (Nat.le_of_ble_eq_true rfl)) dX4_have_145 ⟨Nat.le_of_ble_eq_true rfl, Nat.le_of_ble_eq_true rfl⟩)) ?_
      refine lv_if_le (tgt := 155) hx hb dX4_have_148 (by decide) (fun c_148 => ?_) (fun c_148 => ?_)
      · replace hs := it_t c_148 hs
        refine lv_iconst (v := 0) hx hb dX4_have_155 (by decide) ?_
        obtain rfl := Option.some.inj hs
        exact W.zret hx hb hr rfl (fun t ht hW => ⟨_, rfl, rfl, ht⟩) (fun _ h => by cases h) dX4_have_156
      · replace hs := it_f c_148 hs
        refine lv_iconst (v := 1) hx hb dX4_have_151 (by decide) ?_
        refine lv_goto (tgt := 156) hx hb dX4_have_152 (by decide) ?_
        obtain rfl := Option.some.inj hs
        exact W.zret hx hb hr rfl (fun t ht hW => ⟨_, rfl, rfl, ht⟩) (fun _ h => by cases h) dX4_have_156
  have J_2 : ∀ (n_2 : Nat) (x3 : Int32), s_X4_have_2 F M p1 p2 n_2 x3 = some r → ∀ ls : Array Slot, lv_has ls 5 [(0, .ref m0), (1, .int p1), (2, .int p2), (3, .int x3)] → W p l e (headSpec wsX4_have rm_X4_have).room s m ([.ref m0, .int p1, .int p2] : List Value).toArray below meth c s.heap [] 0 0 (MQ below (vp_Si (fun v => v = r)) ([.ref m0, .int p1, .int p2] : List Value).toArray s 0 0 (fun _ => False)) (F0 m 2 ls []) := by
    intro n_2
    induction n_2 with
    | zero =>
      intro x3 hs
      cases hs
    | succ n_2 ih_2 =>
      have J_14 : ∀ (n_14 : Nat) (x3 : Int32) (x4 : Int32), s_X4_have_14 F M p1 p2 (fun y0 => s_X4_have_2 F M p1 p2 n_2 y0) n_14 x3 x4 = some r → ∀ ls : Array Slot, lv_has ls 5 [(0, .ref m0), (1, .int p1), (2, .int p2), (3, .int x3), (4, .int x4)] → W p l e (headSpec wsX4_have rm_X4_have).room s m ([.ref m0, .int p1, .int p2] : List Value).toArray below meth c s.heap [] 0 0 (MQ below (vp_Si (fun v => v = r)) ([.ref m0, .int p1, .int p2] : List Value).toArray s 0 0 (fun _ => False)) (F0 m 14 ls []) := by
        intro n_14
        induction n_14 with
        | zero =>
          intro x3 x4 hs
          cases hs
        | succ n_14 ih_14 =>
          intro x3 x4 hs ls hl
          rw [s_X4_have_14] at hs
          refine lv_iload hx hb dX4_have_14 (lv_at hl 4 rfl) ?_
          refine lv_aload_n hx hb dX4_have_16 rfl (lv_at hl 0 rfl) ?_
          refine lv_iload_n hx hb dX4_have_17 rfl (lv_at hl 2 rfl) ?_
          obtain ⟨v_18, hc_18, hs⟩ := op_bd hs
          refine gx_cSi (va_Run.run (va_runV (As := [.int p2]) (rest := [.int x4]) ⟨hx, hb, hml, hown, hts⟩ (c_X4_sides l D cI cJ cZ cS ad m0 mk mc mx my mf mp mq mb M p2 F  v_18 hc_18) (cwV 1 hts gX4_have_X4_sides rfl rfl rfl (by decide +kernel) ⟨Nat.le_of_ble_eq_true rfl, Nat.le_of_ble_eq_true rfl⟩) ⟨gl_blind, va_recv hK hP (ci := 4) (q0 := 0) rfl rfl, gl_ok hK hE hP⟩ rfl rfl hl.1 rfl (lv_room (Nat.le_of_ble_eq_true rfl)) dX4_have_18 ⟨Nat.le_of_ble_eq_true rfl, Nat.le_of_ble_eq_true rfl⟩)) ?_
          refine lv_icmp_ge (tgt := 65) hx hb dX4_have_21 (by decide) (fun c_21 => ?_) (fun c_21 => ?_)
          · replace hs := it_t c_21 hs
            obtain ⟨e_65, hv_65, hs⟩ := op_bd hs
            refine lv_iinc (v := e_65) (lv' := [(3, .int e_65), (0, .ref m0), (1, .int p1), (2, .int p2), (4, .int x4)]) hx hb dX4_have_65 hl (k := 3) rfl (Option.some.inj hv_65) (by decide) rfl (fun ls hl => ?_)
            refine lv_goto (tgt := 2) hx hb dX4_have_68 (by decide) ?_
            exact ih_2 e_65 hs _ (lv_sub hl [1, 2, 3, 0] rfl)
          · replace hs := it_f c_21 hs
            refine lv_aload_n hx hb dX4_have_24 rfl (lv_at hl 0 rfl) ?_
            refine lv_aload_n hx hb dX4_have_25 rfl (lv_at hl 0 rfl) ?_
            refine lv_iload_n hx hb dX4_have_26 rfl (lv_at hl 1 rfl) ?_
            refine lv_iload_n hx hb dX4_have_27 rfl (lv_at hl 3 rfl) ?_
            obtain ⟨v_28, hc_28, hs⟩ := op_bd hs
            refine gx_cSi (va_Run.run (va_runV (As := [.int p1, .int x3]) (rest := [.ref m0]) ⟨hx, hb, hml, hown, hts⟩ (c_X4_from l D cI cJ cZ cS ad m0 mk mc mx my mf mp mq mb M p1 x3 F  v_28 hc_28) (cwV 2 hts gX4_have_X4_from rfl rfl rfl (by decide +kernel) ⟨Nat.le_of_ble_eq_true rfl, Nat.le_of_ble_eq_true rfl⟩) ⟨gl_blind, va_recv hK hP (ci := 4) (q0 := 0) rfl rfl, gl_ok hK hE hP⟩ rfl rfl hl.1 rfl (lv_room (Nat.le_of_ble_eq_true rfl)) dX4_have_28 ⟨Nat.le_of_ble_eq_true rfl, Nat.le_of_ble_eq_true rfl⟩)) ?_
            refine lv_aload_n hx hb dX4_have_31 rfl (lv_at hl 0 rfl) ?_
            refine lv_iload_n hx hb dX4_have_32 rfl (lv_at hl 1 rfl) ?_
            refine lv_iload_n hx hb dX4_have_33 rfl (lv_at hl 3 rfl) ?_
            obtain ⟨v_34, hc_34, hs⟩ := op_bd hs
            refine gx_cSi (va_Run.run (va_runV (As := [.int p1, .int x3]) (rest := [.int v_28, .ref m0]) ⟨hx, hb, hml, hown, hts⟩ (c_X4_to l D cI cJ cZ cS ad m0 mk mc mx my mf mp mq mb M p1 x3 F  v_34 hc_34) (cwV 2 hts gX4_have_X4_to rfl rfl rfl (by decide +kernel) ⟨Nat.le_of_ble_eq_true rfl, Nat.le_of_ble_eq_true rfl⟩) ⟨gl_blind, va_recv hK hP (ci := 4) (q0 := 0) rfl rfl, gl_ok hK hE hP⟩ rfl rfl hl.1 rfl (lv_room (Nat.le_of_ble_eq_true rfl)) dX4_have_34 ⟨Nat.le_of_ble_eq_true rfl, Nat.le_of_ble_eq_true rfl⟩)) ?_
            refine lv_aload_n hx hb dX4_have_37 rfl (lv_at hl 0 rfl) ?_
            refine lv_iload_n hx hb dX4_have_38 rfl (lv_at hl 2 rfl) ?_
            refine lv_iload hx hb dX4_have_39 (lv_at hl 4 rfl) ?_
            obtain ⟨v_41, hc_41, hs⟩ := op_bd hs
            refine gx_cSi (va_Run.run (va_runV (As := [.int p2, .int x4]) (rest := [.int v_34, .int v_28, .ref m0]) ⟨hx, hb, hml, hown, hts⟩ (c_X4_from l D cI cJ cZ cS ad m0 mk mc mx my mf mp mq mb M p2 x4 F  v_41 hc_41) (cwV 2 hts gX4_have_X4_from rfl rfl rfl (by decide +kernel) ⟨Nat.le_of_ble_eq_true rfl, Nat.le_of_ble_eq_true rfl⟩) ⟨gl_blind, va_recv hK hP (ci := 4) (q0 := 0) rfl rfl, gl_ok hK hE hP⟩ rfl rfl hl.1 rfl (lv_room (Nat.le_of_ble_eq_true rfl)) dX4_have_41 ⟨Nat.le_of_ble_eq_true rfl, Nat.le_of_ble_eq_true rfl⟩)) ?_
            refine lv_aload_n hx hb dX4_have_44 rfl (lv_at hl 0 rfl) ?_
            refine lv_iload_n hx hb dX4_have_45 rfl (lv_at hl 2 rfl) ?_
            refine lv_iload hx hb dX4_have_46 (lv_at hl 4 rfl) ?_
            obtain ⟨v_48, hc_48, hs⟩ := op_bd hs
            refine gx_cSi (va_Run.run (va_runV (As := [.int p2, .int x4]) (rest := [.int v_41, .int v_34, .int v_28, .ref m0]) ⟨hx, hb, hml, hown, hts⟩ (c_X4_to l D cI cJ cZ cS ad m0 mk mc mx my mf mp mq mb M p2 x4 F  v_48 hc_48) (cwV 2 hts gX4_have_X4_to rfl rfl rfl (by decide +kernel) ⟨Nat.le_of_ble_eq_true rfl, Nat.le_of_ble_eq_true rfl⟩) ⟨gl_blind, va_recv hK hP (ci := 4) (q0 := 0) rfl rfl, gl_ok hK hE hP⟩ rfl rfl hl.1 rfl (lv_room (Nat.le_of_ble_eq_true rfl)) dX4_have_48 ⟨Nat.le_of_ble_eq_true rfl, Nat.le_of_ble_eq_true rfl⟩)) ?_
            obtain ⟨v_51, hc_51, hs⟩ := op_bd hs
            refine gx_cSi (va_Run.run (va_runV (As := [.int v_28, .int v_34, .int v_41, .int v_48]) (rest := []) ⟨hx, hb, hml, hown, hts⟩ (c_X4_cut l D cI cJ cZ cS ad m0 mk mc mx my mf mp mq mb M v_28 v_34 v_41 v_48 F  v_51 hc_51) (cwV 4 hts gX4_have_X4_cut rfl rfl rfl (by decide +kernel) ⟨Nat.le_of_ble_eq_true rfl, Nat.le_of_ble_eq_true rfl⟩) ⟨gl_blind, va_recv hK hP (ci := 4) (q0 := 0) rfl rfl, gl_ok hK hE hP⟩ rfl rfl hl.1 rfl (lv_room (Nat.le_of_ble_eq_true rfl)) dX4_have_51 ⟨Nat.le_of_ble_eq_true rfl, Nat.le_of_ble_eq_true rfl⟩)) ?_
            refine lv_if_eq (tgt := 59) hx hb dX4_have_54 (by decide) (fun c_54 => ?_) (fun c_54 => ?_)
            · replace hs := it_t c_54 hs
              obtain ⟨e_59, hv_59, hs⟩ := op_bd hs
              refine lv_iinc (v := e_59) (lv' := [(4, .int e_59), (0, .ref m0), (1, .int p1), (2, .int p2), (3, .int x3)]) hx hb dX4_have_59 hl (k := 4) rfl (Option.some.inj hv_59) (by decide) rfl (fun ls hl => ?_)
              refine lv_goto (tgt := 14) hx hb dX4_have_62 (by decide) ?_
              exact ih_14 x3 e_59 hs _ (lv_sub hl [1, 2, 3, 4, 0] rfl)
            · replace hs := it_f c_54 hs
              refine lv_iconst (v := 1) hx hb dX4_have_57 (by decide) ?_
              obtain rfl := Option.some.inj hs
              exact W.zret hx hb hr rfl (fun t ht hW => ⟨_, rfl, rfl, ht⟩) (fun _ h => by cases h) dX4_have_58
      intro x3 hs ls hl
      rw [s_X4_have_2] at hs
      refine lv_iload_n hx hb dX4_have_2 rfl (lv_at hl 3 rfl) ?_
      refine lv_aload_n hx hb dX4_have_3 rfl (lv_at hl 0 rfl) ?_
      refine lv_iload_n hx hb dX4_have_4 rfl (lv_at hl 1 rfl) ?_
      obtain ⟨v_5, hc_5, hs⟩ := op_bd hs
      refine gx_cSi (va_Run.run (va_runV (As := [.int p1]) (rest := [.int x3]) ⟨hx, hb, hml, hown, hts⟩ (c_X4_sides l D cI cJ cZ cS ad m0 mk mc mx my mf mp mq mb M p1 F  v_5 hc_5) (cwV 1 hts gX4_have_X4_sides rfl rfl rfl (by decide +kernel) ⟨Nat.le_of_ble_eq_true rfl, Nat.le_of_ble_eq_true rfl⟩) ⟨gl_blind, va_recv hK hP (ci := 4) (q0 := 0) rfl rfl, gl_ok hK hE hP⟩ rfl rfl hl.1 rfl (lv_room (Nat.le_of_ble_eq_true rfl)) dX4_have_5 ⟨Nat.le_of_ble_eq_true rfl, Nat.le_of_ble_eq_true rfl⟩)) ?_
      refine lv_icmp_ge (tgt := 71) hx hb dX4_have_8 (by decide) (fun c_8 => ?_) (fun c_8 => ?_)
      · replace hs := it_t c_8 hs
        refine lv_aload_n hx hb dX4_have_71 rfl (lv_at hl 0 rfl) ?_
        refine va_get (D := D) (ci := 4) (v := .ref mk) (C := RX4) (T := TX4) (N := 15) hx hb hts in_X4 hown hK hP 0 rfl rfl 0 (by decide) lk_13 (fun _ h9 => h9) rfl dX4_have_72 ?_
        refine lv_iload_n hx hb dX4_have_75 rfl (lv_at hl 1 rfl) ?_
        obtain ⟨v_76, hv_76, hs⟩ := op_bd hs
        refine gx_iald hx hb hK hP 1 0 rfl rfl hv_76 dX4_have_76 ?_
        refine lv_iconst (v := 3) hx hb dX4_have_77 (by decide) ?_
        refine lv_icmp_ne (tgt := 111) hx hb dX4_have_78 (by decide) (fun c_78 => ?_) (fun c_78 => ?_)
        · replace hs := it_f c_78 hs
          exact J_111  hs _ (lv_sub hl [0, 1, 2] rfl)
        · replace hs := it_t c_78 hs
          refine lv_aload_n hx hb dX4_have_81 rfl (lv_at hl 0 rfl) ?_
          refine lv_aload_n hx hb dX4_have_82 rfl (lv_at hl 0 rfl) ?_
          refine va_get (D := D) (ci := 4) (v := .ref mx) (C := RX4) (T := TX4) (N := 15) hx hb hts in_X4 hown hK hP 0 rfl rfl 2 (by decide) lk_20 (fun _ h9 => h9) rfl dX4_have_83 ?_
          refine lv_aload_n hx hb dX4_have_86 rfl (lv_at hl 0 rfl) ?_
          refine lv_iload_n hx hb dX4_have_87 rfl (lv_at hl 2 rfl) ?_
          refine lv_iconst (v := 0) hx hb dX4_have_88 (by decide) ?_
          obtain ⟨v_89, hc_89, hs⟩ := op_bd hs
          refine gx_cSi (va_Run.run (va_runV (As := [.int p2, .int 0]) (rest := [.ref mx, .ref m0]) ⟨hx, hb, hml, hown, hts⟩ (c_X4_from l D cI cJ cZ cS ad m0 mk mc mx my mf mp mq mb M p2 0 F  v_89 hc_89) (cwV 2 hts gX4_have_X4_from rfl rfl rfl (by decide +kernel) ⟨Nat.le_of_ble_eq_true rfl, Nat.le_of_ble_eq_true rfl⟩) ⟨gl_blind, va_recv hK hP (ci := 4) (q0 := 0) rfl rfl, gl_ok hK hE hP⟩ rfl rfl hl.1 rfl (lv_room (Nat.le_of_ble_eq_true rfl)) dX4_have_89 ⟨Nat.le_of_ble_eq_true rfl, Nat.le_of_ble_eq_true rfl⟩)) ?_
          obtain ⟨v_92, hv_92, hs⟩ := op_bd hs
          refine gx_lald hx hb hK hP 3 1 rfl rfl hv_92 dX4_have_92 ?_
          refine lv_aload_n hx hb dX4_have_93 rfl (lv_at hl 0 rfl) ?_
          refine va_get (D := D) (ci := 4) (v := .ref my) (C := RX4) (T := TX4) (N := 15) hx hb hts in_X4 hown hK hP 0 rfl rfl 3 (by decide) lk_24 (fun _ h9 => h9) rfl dX4_have_94 ?_
          refine lv_aload_n hx hb dX4_have_97 rfl (lv_at hl 0 rfl) ?_
          refine lv_iload_n hx hb dX4_have_98 rfl (lv_at hl 2 rfl) ?_
          refine lv_iconst (v := 0) hx hb dX4_have_99 (by decide) ?_
          obtain ⟨v_100, hc_100, hs⟩ := op_bd hs
          refine gx_cSi (va_Run.run (va_runV (As := [.int p2, .int 0]) (rest := [.ref my, .long v_92, .ref m0]) ⟨hx, hb, hml, hown, hts⟩ (c_X4_from l D cI cJ cZ cS ad m0 mk mc mx my mf mp mq mb M p2 0 F  v_100 hc_100) (cwV 2 hts gX4_have_X4_from rfl rfl rfl (by decide +kernel) ⟨Nat.le_of_ble_eq_true rfl, Nat.le_of_ble_eq_true rfl⟩) ⟨gl_blind, va_recv hK hP (ci := 4) (q0 := 0) rfl rfl, gl_ok hK hE hP⟩ rfl rfl hl.1 rfl (lv_room (Nat.le_of_ble_eq_true rfl)) dX4_have_100 ⟨Nat.le_of_ble_eq_true rfl, Nat.le_of_ble_eq_true rfl⟩)) ?_
          obtain ⟨v_103, hv_103, hs⟩ := op_bd hs
          refine gx_lald hx hb hK hP 4 1 rfl rfl hv_103 dX4_have_103 ?_
          refine lv_iload_n hx hb dX4_have_104 rfl (lv_at hl 1 rfl) ?_
          obtain ⟨v_105, hc_105, hs⟩ := op_bd hs
          refine gx_cSi (va_Run.run (va_runV (As := [.long v_92, .long v_103, .int p1]) (rest := []) ⟨hx, hb, hml, hown, hts⟩ (c_X4_stands l D cI cJ cZ cS ad m0 mk mc mx my mf mp mq mb M v_92 v_103 p1 F  v_105 hc_105) (cwV 3 hts gX4_have_X4_stands rfl rfl rfl (by decide +kernel) ⟨Nat.le_of_ble_eq_true rfl, Nat.le_of_ble_eq_true rfl⟩) ⟨gl_blind, va_recv hK hP (ci := 4) (q0 := 0) rfl rfl, gl_ok hK hE hP⟩ rfl rfl hl.1 rfl (lv_room (Nat.le_of_ble_eq_true rfl)) dX4_have_105 ⟨Nat.le_of_ble_eq_true rfl, Nat.le_of_ble_eq_true rfl⟩)) ?_
          refine lv_if_gt (tgt := 151) hx hb dX4_have_108 (by decide) (fun c_108 => ?_) (fun c_108 => ?_)
          · replace hs := it_t c_108 hs
            refine lv_iconst (v := 1) hx hb dX4_have_151 (by decide) ?_
            refine lv_goto (tgt := 156) hx hb dX4_have_152 (by decide) ?_
            obtain rfl := Option.some.inj hs
            exact W.zret hx hb hr rfl (fun t ht hW => ⟨_, rfl, rfl, ht⟩) (fun _ h => by cases h) dX4_have_156
          · replace hs := it_f c_108 hs
            exact J_111  hs _ (lv_sub hl [0, 1, 2] rfl)
      · replace hs := it_f c_8 hs
        refine lv_iconst (v := 0) hx hb dX4_have_11 (by decide) ?_
        refine lv_istore (lv' := [(4, .int 0), (0, .ref m0), (1, .int p1), (2, .int p2), (3, .int x3)]) hx hb dX4_have_12 hl (by decide) rfl (fun ls hl => ?_)
        exact J_14 F x3 0 hs _ (lv_sub hl [1, 2, 3, 4, 0] rfl)
  have hl := lv_entry ([.ref m0, .int p1, .int p2]) (n := 5) (Nat.le_of_ble_eq_true rfl)
  rw [lg_entry_eq]
  generalize (lg_sl ([.ref m0, .int p1, .int p2]) ++ List.replicate (5 - (lg_sl ([.ref m0, .int p1, .int p2])).length) Slot.unset).toArray = ls at hl ⊢
  have hl : lv_has ls 5 [(0, .ref m0), (1, .int p1), (2, .int p2)] := hl
  rw [s_X4_have] at hs
  refine lv_iconst (v := 0) hx hb dX4_have_0 (by decide) ?_
  refine lv_istore_n (lv' := [(3, .int 0), (0, .ref m0), (1, .int p1), (2, .int p2)]) hx hb dX4_have_1 rfl hl (by decide) rfl (fun ls hl => ?_)
  exact J_2 F 0 hs _ (lv_sub hl [1, 2, 3, 0] rfl)
