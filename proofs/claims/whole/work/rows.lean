section
-- ===== PART A: goes FIRST, ahead of the names: the tables' words, and 'selects' of the private methods out of them =====
/-- a private method of a class that the tables say can be made, by its rows of tables_1 -/
def lw_okq (q : MethodName × Nat) : Prop := (q.1.cls ≠ "java/lang/invoke/MethodHandle" ∧ q.1.cls ≠ "java/lang/invoke/VarHandle") ∧ Cond.instantiable q.1.cls q.2 ∈ tables_1 ∧ Cond.privateMethod q.1 ∈ tables_1 ∧ Cond.instanceMethod q.1 ∈ tables_1
theorem lw_p0 : lw_okq (⟨"PlacePoints", "make", "(LPlacePoints$Kind;)I"⟩, 10) := ⟨⟨by decide +kernel, by decide +kernel⟩, List.mem_of_getElem? (i := 14) (by decide +kernel), List.mem_of_getElem? (i := 81) (by decide +kernel), List.mem_of_getElem? (i := 82) (by decide +kernel)⟩
theorem lw_p1 : lw_okq (⟨"PlacePoints", "standing", "(I)LPlacePoints$Shape;"⟩, 10) := ⟨⟨by decide +kernel, by decide +kernel⟩, List.mem_of_getElem? (i := 14) (by decide +kernel), List.mem_of_getElem? (i := 121) (by decide +kernel), List.mem_of_getElem? (i := 122) (by decide +kernel)⟩
theorem lw_p2 : lw_okq (⟨"PlacePoints$Shape", "judge", "()I"⟩, 9) := ⟨⟨by decide +kernel, by decide +kernel⟩, List.mem_of_getElem? (i := 84) (by decide +kernel), List.mem_of_getElem? (i := 135) (by decide +kernel), List.mem_of_getElem? (i := 136) (by decide +kernel)⟩
theorem lw_p3 : lw_okq (⟨"PlacePoints$Shape", "sideCount", "()I"⟩, 9) := ⟨⟨by decide +kernel, by decide +kernel⟩, List.mem_of_getElem? (i := 84) (by decide +kernel), List.mem_of_getElem? (i := 140) (by decide +kernel), List.mem_of_getElem? (i := 141) (by decide +kernel)⟩
theorem lw_p4 : lw_okq (⟨"PlacePoints$Shape", "isWrongSide", "(I)Z"⟩, 9) := ⟨⟨by decide +kernel, by decide +kernel⟩, List.mem_of_getElem? (i := 84) (by decide +kernel), List.mem_of_getElem? (i := 146) (by decide +kernel), List.mem_of_getElem? (i := 147) (by decide +kernel)⟩
theorem lw_p5 : lw_okq (⟨"PlacePoints$Shape", "clash", "(II)Z"⟩, 9) := ⟨⟨by decide +kernel, by decide +kernel⟩, List.mem_of_getElem? (i := 84) (by decide +kernel), List.mem_of_getElem? (i := 152) (by decide +kernel), List.mem_of_getElem? (i := 153) (by decide +kernel)⟩
theorem lw_p6 : lw_okq (⟨"PlacePoints$Shape", "foldsBack", "(II)Z"⟩, 9) := ⟨⟨by decide +kernel, by decide +kernel⟩, List.mem_of_getElem? (i := 84) (by decide +kernel), List.mem_of_getElem? (i := 156) (by decide +kernel), List.mem_of_getElem? (i := 157) (by decide +kernel)⟩
theorem lw_p7 : lw_okq (⟨"PlacePoints$Shape", "sideTouches", "(ILPlacePoints$Shape;I)Z"⟩, 9) := ⟨⟨by decide +kernel, by decide +kernel⟩, List.mem_of_getElem? (i := 84) (by decide +kernel), List.mem_of_getElem? (i := 160) (by decide +kernel), List.mem_of_getElem? (i := 161) (by decide +kernel)⟩
theorem lw_p8 : lw_okq (⟨"PlacePoints$Shape", "turn", "(III)J"⟩, 9) := ⟨⟨by decide +kernel, by decide +kernel⟩, List.mem_of_getElem? (i := 84) (by decide +kernel), List.mem_of_getElem? (i := 167) (by decide +kernel), List.mem_of_getElem? (i := 168) (by decide +kernel)⟩
theorem lw_p9 : lw_okq (⟨"PlacePoints", "right", "(I)LPlacePoints$Shape;"⟩, 10) := ⟨⟨by decide +kernel, by decide +kernel⟩, List.mem_of_getElem? (i := 14) (by decide +kernel), List.mem_of_getElem? (i := 197) (by decide +kernel), List.mem_of_getElem? (i := 198) (by decide +kernel)⟩
theorem lw_p10 : lw_okq (⟨"PlacePoints$Shape", "holds", "(II)Z"⟩, 9) := ⟨⟨by decide +kernel, by decide +kernel⟩, List.mem_of_getElem? (i := 84) (by decide +kernel), List.mem_of_getElem? (i := 213) (by decide +kernel), List.mem_of_getElem? (i := 214) (by decide +kernel)⟩
theorem lw_p11 : lw_okq (⟨"PlacePoints$Shape", "lessenByCorners", "(LPlacePoints$Shape;LPlacePoints$Fraction;)V"⟩, 9) := ⟨⟨by decide +kernel, by decide +kernel⟩, List.mem_of_getElem? (i := 84) (by decide +kernel), List.mem_of_getElem? (i := 235) (by decide +kernel), List.mem_of_getElem? (i := 236) (by decide +kernel)⟩
theorem lw_p12 : lw_okq (⟨"PlacePoints$Shape", "lessenBySide", "(IIILPlacePoints$Fraction;)V"⟩, 9) := ⟨⟨by decide +kernel, by decide +kernel⟩, List.mem_of_getElem? (i := 84) (by decide +kernel), List.mem_of_getElem? (i := 239) (by decide +kernel), List.mem_of_getElem? (i := 240) (by decide +kernel)⟩
theorem lw_p13 : lw_okq (⟨"PlacePoints", "sortByGapTo", "(II)I"⟩, 10) := ⟨⟨by decide +kernel, by decide +kernel⟩, List.mem_of_getElem? (i := 14) (by decide +kernel), List.mem_of_getElem? (i := 262) (by decide +kernel), List.mem_of_getElem? (i := 263) (by decide +kernel)⟩
theorem lw_p14 : lw_okq (⟨"PlacePoints", "insertByGap", "(II)V"⟩, 10) := ⟨⟨by decide +kernel, by decide +kernel⟩, List.mem_of_getElem? (i := 14) (by decide +kernel), List.mem_of_getElem? (i := 266) (by decide +kernel), List.mem_of_getElem? (i := 267) (by decide +kernel)⟩
theorem lw_p15 : lw_okq (⟨"PlacePoints", "isFarther", "(II)Z"⟩, 10) := ⟨⟨by decide +kernel, by decide +kernel⟩, List.mem_of_getElem? (i := 14) (by decide +kernel), List.mem_of_getElem? (i := 270) (by decide +kernel), List.mem_of_getElem? (i := 271) (by decide +kernel)⟩
def lw_privs_1 : List (MethodName × Nat) := [(⟨"PlacePoints", "make", "(LPlacePoints$Kind;)I"⟩, 10), (⟨"PlacePoints", "standing", "(I)LPlacePoints$Shape;"⟩, 10), (⟨"PlacePoints$Shape", "judge", "()I"⟩, 9), (⟨"PlacePoints$Shape", "sideCount", "()I"⟩, 9), (⟨"PlacePoints$Shape", "isWrongSide", "(I)Z"⟩, 9), (⟨"PlacePoints$Shape", "clash", "(II)Z"⟩, 9), (⟨"PlacePoints$Shape", "foldsBack", "(II)Z"⟩, 9), (⟨"PlacePoints$Shape", "sideTouches", "(ILPlacePoints$Shape;I)Z"⟩, 9), (⟨"PlacePoints$Shape", "turn", "(III)J"⟩, 9), (⟨"PlacePoints", "right", "(I)LPlacePoints$Shape;"⟩, 10), (⟨"PlacePoints$Shape", "holds", "(II)Z"⟩, 9), (⟨"PlacePoints$Shape", "lessenByCorners", "(LPlacePoints$Shape;LPlacePoints$Fraction;)V"⟩, 9), (⟨"PlacePoints$Shape", "lessenBySide", "(IIILPlacePoints$Fraction;)V"⟩, 9), (⟨"PlacePoints", "sortByGapTo", "(II)I"⟩, 10), (⟨"PlacePoints", "insertByGap", "(II)V"⟩, 10), (⟨"PlacePoints", "isFarther", "(II)Z"⟩, 10)]
theorem lw_r1 : ∀ q ∈ lw_privs_1, lw_okq q := List.forall_mem_cons.mpr ⟨lw_p0, List.forall_mem_cons.mpr ⟨lw_p1, List.forall_mem_cons.mpr ⟨lw_p2, List.forall_mem_cons.mpr ⟨lw_p3, List.forall_mem_cons.mpr ⟨lw_p4, List.forall_mem_cons.mpr ⟨lw_p5, List.forall_mem_cons.mpr ⟨lw_p6, List.forall_mem_cons.mpr ⟨lw_p7, List.forall_mem_cons.mpr ⟨lw_p8, List.forall_mem_cons.mpr ⟨lw_p9, List.forall_mem_cons.mpr ⟨lw_p10, List.forall_mem_cons.mpr ⟨lw_p11, List.forall_mem_cons.mpr ⟨lw_p12, List.forall_mem_cons.mpr ⟨lw_p13, List.forall_mem_cons.mpr ⟨lw_p14, List.forall_mem_cons.mpr ⟨lw_p15, fun _ h => absurd h List.not_mem_nil⟩⟩⟩⟩⟩⟩⟩⟩⟩⟩⟩⟩⟩⟩⟩⟩
theorem lw_p16 : lw_okq (⟨"java/lang/Throwable", "fillInStackTrace", "(I)Ljava/lang/Throwable;"⟩, 6) := ⟨⟨by decide +kernel, by decide +kernel⟩, List.mem_of_getElem? (i := 341) (by decide +kernel), List.mem_of_getElem? (i := 339) (by decide +kernel), List.mem_of_getElem? (i := 340) (by decide +kernel)⟩
theorem lw_p17 : lw_okq (⟨"PlacePointsModel", "begin", "(I)I"⟩, 15) := ⟨⟨by decide +kernel, by decide +kernel⟩, List.mem_of_getElem? (i := 373) (by decide +kernel), List.mem_of_getElem? (i := 433) (by decide +kernel), List.mem_of_getElem? (i := 434) (by decide +kernel)⟩
theorem lw_p18 : lw_okq (⟨"PlacePointsModel", "lay", "(III)V"⟩, 15) := ⟨⟨by decide +kernel, by decide +kernel⟩, List.mem_of_getElem? (i := 373) (by decide +kernel), List.mem_of_getElem? (i := 437) (by decide +kernel), List.mem_of_getElem? (i := 438) (by decide +kernel)⟩
theorem lw_p19 : lw_okq (⟨"PlacePointsModel", "isShape", "(I)Z"⟩, 15) := ⟨⟨by decide +kernel, by decide +kernel⟩, List.mem_of_getElem? (i := 373) (by decide +kernel), List.mem_of_getElem? (i := 453) (by decide +kernel), List.mem_of_getElem? (i := 454) (by decide +kernel)⟩
theorem lw_p20 : lw_okq (⟨"PlacePointsModel", "sides", "(I)I"⟩, 15) := ⟨⟨by decide +kernel, by decide +kernel⟩, List.mem_of_getElem? (i := 373) (by decide +kernel), List.mem_of_getElem? (i := 469) (by decide +kernel), List.mem_of_getElem? (i := 470) (by decide +kernel)⟩
theorem lw_p21 : lw_okq (⟨"PlacePointsModel", "isWrong", "(II)Z"⟩, 15) := ⟨⟨by decide +kernel, by decide +kernel⟩, List.mem_of_getElem? (i := 373) (by decide +kernel), List.mem_of_getElem? (i := 473) (by decide +kernel), List.mem_of_getElem? (i := 474) (by decide +kernel)⟩
theorem lw_p22 : lw_okq (⟨"PlacePointsModel", "from", "(II)I"⟩, 15) := ⟨⟨by decide +kernel, by decide +kernel⟩, List.mem_of_getElem? (i := 373) (by decide +kernel), List.mem_of_getElem? (i := 477) (by decide +kernel), List.mem_of_getElem? (i := 478) (by decide +kernel)⟩
theorem lw_p23 : lw_okq (⟨"PlacePointsModel", "to", "(II)I"⟩, 15) := ⟨⟨by decide +kernel, by decide +kernel⟩, List.mem_of_getElem? (i := 373) (by decide +kernel), List.mem_of_getElem? (i := 481) (by decide +kernel), List.mem_of_getElem? (i := 482) (by decide +kernel)⟩
theorem lw_p24 : lw_okq (⟨"PlacePointsModel", "folds", "(III)Z"⟩, 15) := ⟨⟨by decide +kernel, by decide +kernel⟩, List.mem_of_getElem? (i := 373) (by decide +kernel), List.mem_of_getElem? (i := 485) (by decide +kernel), List.mem_of_getElem? (i := 486) (by decide +kernel)⟩
theorem lw_p25 : lw_okq (⟨"PlacePointsModel", "cut", "(IIII)Z"⟩, 15) := ⟨⟨by decide +kernel, by decide +kernel⟩, List.mem_of_getElem? (i := 373) (by decide +kernel), List.mem_of_getElem? (i := 492) (by decide +kernel), List.mem_of_getElem? (i := 493) (by decide +kernel)⟩
theorem lw_p26 : lw_okq (⟨"PlacePointsModel", "isRight", "(I)Z"⟩, 15) := ⟨⟨by decide +kernel, by decide +kernel⟩, List.mem_of_getElem? (i := 373) (by decide +kernel), List.mem_of_getElem? (i := 509) (by decide +kernel), List.mem_of_getElem? (i := 510) (by decide +kernel)⟩
theorem lw_p27 : lw_okq (⟨"PlacePointsModel", "stands", "(JJI)I"⟩, 15) := ⟨⟨by decide +kernel, by decide +kernel⟩, List.mem_of_getElem? (i := 373) (by decide +kernel), List.mem_of_getElem? (i := 514) (by decide +kernel), List.mem_of_getElem? (i := 515) (by decide +kernel)⟩
theorem lw_p28 : lw_okq (⟨"PlacePointsModel", "have", "(II)Z"⟩, 15) := ⟨⟨by decide +kernel, by decide +kernel⟩, List.mem_of_getElem? (i := 373) (by decide +kernel), List.mem_of_getElem? (i := 522) (by decide +kernel), List.mem_of_getElem? (i := 523) (by decide +kernel)⟩
theorem lw_p29 : lw_okq (⟨"PlacePointsModel", "least", "(II)V"⟩, 15) := ⟨⟨by decide +kernel, by decide +kernel⟩, List.mem_of_getElem? (i := 373) (by decide +kernel), List.mem_of_getElem? (i := 531) (by decide +kernel), List.mem_of_getElem? (i := 532) (by decide +kernel)⟩
theorem lw_p30 : lw_okq (⟨"PlacePointsModel", "weighCorners", "(II)V"⟩, 15) := ⟨⟨by decide +kernel, by decide +kernel⟩, List.mem_of_getElem? (i := 373) (by decide +kernel), List.mem_of_getElem? (i := 535) (by decide +kernel), List.mem_of_getElem? (i := 536) (by decide +kernel)⟩
theorem lw_p31 : lw_okq (⟨"PlacePointsModel", "weighSide", "(JJII)V"⟩, 15) := ⟨⟨by decide +kernel, by decide +kernel⟩, List.mem_of_getElem? (i := 373) (by decide +kernel), List.mem_of_getElem? (i := 539) (by decide +kernel), List.mem_of_getElem? (i := 540) (by decide +kernel)⟩
def lw_privs_2 : List (MethodName × Nat) := [(⟨"java/lang/Throwable", "fillInStackTrace", "(I)Ljava/lang/Throwable;"⟩, 6), (⟨"PlacePointsModel", "begin", "(I)I"⟩, 15), (⟨"PlacePointsModel", "lay", "(III)V"⟩, 15), (⟨"PlacePointsModel", "isShape", "(I)Z"⟩, 15), (⟨"PlacePointsModel", "sides", "(I)I"⟩, 15), (⟨"PlacePointsModel", "isWrong", "(II)Z"⟩, 15), (⟨"PlacePointsModel", "from", "(II)I"⟩, 15), (⟨"PlacePointsModel", "to", "(II)I"⟩, 15), (⟨"PlacePointsModel", "folds", "(III)Z"⟩, 15), (⟨"PlacePointsModel", "cut", "(IIII)Z"⟩, 15), (⟨"PlacePointsModel", "isRight", "(I)Z"⟩, 15), (⟨"PlacePointsModel", "stands", "(JJI)I"⟩, 15), (⟨"PlacePointsModel", "have", "(II)Z"⟩, 15), (⟨"PlacePointsModel", "least", "(II)V"⟩, 15), (⟨"PlacePointsModel", "weighCorners", "(II)V"⟩, 15), (⟨"PlacePointsModel", "weighSide", "(JJII)V"⟩, 15)]
theorem lw_r2 : ∀ q ∈ lw_privs_2, lw_okq q := List.forall_mem_cons.mpr ⟨lw_p16, List.forall_mem_cons.mpr ⟨lw_p17, List.forall_mem_cons.mpr ⟨lw_p18, List.forall_mem_cons.mpr ⟨lw_p19, List.forall_mem_cons.mpr ⟨lw_p20, List.forall_mem_cons.mpr ⟨lw_p21, List.forall_mem_cons.mpr ⟨lw_p22, List.forall_mem_cons.mpr ⟨lw_p23, List.forall_mem_cons.mpr ⟨lw_p24, List.forall_mem_cons.mpr ⟨lw_p25, List.forall_mem_cons.mpr ⟨lw_p26, List.forall_mem_cons.mpr ⟨lw_p27, List.forall_mem_cons.mpr ⟨lw_p28, List.forall_mem_cons.mpr ⟨lw_p29, List.forall_mem_cons.mpr ⟨lw_p30, List.forall_mem_cons.mpr ⟨lw_p31, fun _ h => absurd h List.not_mem_nil⟩⟩⟩⟩⟩⟩⟩⟩⟩⟩⟩⟩⟩⟩⟩⟩
theorem lw_p32 : lw_okq (⟨"PlacePointsModel", "weigh", "(JJ)V"⟩, 15) := ⟨⟨by decide +kernel, by decide +kernel⟩, List.mem_of_getElem? (i := 373) (by decide +kernel), List.mem_of_getElem? (i := 543) (by decide +kernel), List.mem_of_getElem? (i := 544) (by decide +kernel)⟩
theorem lw_p33 : lw_okq (⟨"PlacePointsModel", "toPlace", "(III)V"⟩, 15) := ⟨⟨by decide +kernel, by decide +kernel⟩, List.mem_of_getElem? (i := 373) (by decide +kernel), List.mem_of_getElem? (i := 557) (by decide +kernel), List.mem_of_getElem? (i := 558) (by decide +kernel)⟩
theorem lw_p34 : lw_okq (⟨"PlacePointsModel", "isIn", "(IIIII)Z"⟩, 15) := ⟨⟨by decide +kernel, by decide +kernel⟩, List.mem_of_getElem? (i := 373) (by decide +kernel), List.mem_of_getElem? (i := 569) (by decide +kernel), List.mem_of_getElem? (i := 570) (by decide +kernel)⟩
def lw_privs_3 : List (MethodName × Nat) := [(⟨"PlacePointsModel", "weigh", "(JJ)V"⟩, 15), (⟨"PlacePointsModel", "toPlace", "(III)V"⟩, 15), (⟨"PlacePointsModel", "isIn", "(IIIII)Z"⟩, 15)]
theorem lw_r3 : ∀ q ∈ lw_privs_3, lw_okq q := List.forall_mem_cons.mpr ⟨lw_p32, List.forall_mem_cons.mpr ⟨lw_p33, List.forall_mem_cons.mpr ⟨lw_p34, fun _ h => absurd h List.not_mem_nil⟩⟩⟩
def lw_privs : List (MethodName × Nat) := lw_privs_1 ++ (lw_privs_2 ++ (lw_privs_3))
def lw_tbl : List Cond := k2_sels lw_privs ++ tables_1
theorem lw_privs_ok : ∀ q ∈ lw_privs, lw_okq q := by
  show ∀ q ∈ lw_privs_1 ++ (lw_privs_2 ++ (lw_privs_3)), lw_okq q
  exact List.forall_mem_append.mpr ⟨lw_r1, List.forall_mem_append.mpr ⟨lw_r2, lw_r3⟩⟩
-- ===== end of PART A; then your names; then what follows =====
end
section
/-! ===== BEGIN words of one list among another's, by their places ===== -/
theorem goodIn_r {big : List Cond} (ws : List Cond) (ps : List Nat) (hp : ws = ps.filterMap (fun i => big[i]?)) (h : ws.all goodWord = true) : GoodIn big ws := by
  intro w hw
  have h1 := List.all_eq_true.mp h w hw
  rw [hp] at hw
  obtain ⟨i, -, hi⟩ := List.mem_filterMap.mp hw
  have hm : w ∈ big := by first | exact List.mem_of_getElem? hi | exact List.getElem?_mem hi
  exact ⟨hm, good_of_word h1⟩
theorem goodIn_app {big a b : List Cond} (ha : GoodIn big a) (hb : GoodIn big b) : GoodIn big (a ++ b) := fun w h => (List.mem_append.mp h).elim (ha w) (hb w)
theorem goodIn_ca {big a b : List Cond} {c : Cond} (ha : GoodIn big (c :: a)) (hb : GoodIn big b) : GoodIn big (c :: (a ++ b)) := fun w h => (List.mem_cons.mp h).elim (fun e => ha w (List.mem_cons.mpr (Or.inl e))) (fun h => (List.mem_append.mp h).elim (fun h => ha w (List.mem_cons.mpr (Or.inr h))) (hb w))
theorem goodIn_sub {big ws : List Cond} (hm : ∀ w ∈ ws, w ∈ big) (h : ws.all goodWord = true) : GoodIn big ws := fun w hw => ⟨hm w hw, good_of_word (List.all_eq_true.mp h w hw)⟩
/-! ===== END ===== -/

/-! ===== BEGIN printed: names, fields, word lists, decode rows ===== -/
def RX0 : String := "PlacePoints$Fraction"
def TX0 : u_T := fun k => match k with
  | 0 => ("PlacePoints$Fraction", "upper", "J", false)
  | _ => ("PlacePoints$Fraction", "lower", "J", false)
def tyX0 : Nat → FieldType := fun k => match k with
  | 0 => .long
  | _ => .long
abbrev wsX00 : List Cond := u_ws RX0 TX0 2
theorem nmX0 : ∀ a, a < 2 → ∀ b, b < 2 → a ≠ b → (TX0 a).2.1 ≠ (TX0 b).2.1 := by decide +kernel
theorem tyX0_ok : ∀ k, k < 2 → parseFieldDescriptor (TX0 k).2.2.1 = some (tyX0 k) := by decide +kernel
abbrev cX0_init : ByteArray := prog_2_method_1_code
def yX0_init : MethodName := ⟨RX0, "<init>", "()V"⟩
abbrev cX0_set : ByteArray := prog_2_method_2_code
def yX0_set : MethodName := ⟨RX0, "set", "(JJ)V"⟩
abbrev cX0_lessen : ByteArray := prog_2_method_3_code
def yX0_lessen : MethodName := ⟨RX0, "lessen", "(JJ)V"⟩
abbrev cX0_isAbove : ByteArray := prog_2_method_4_code
def yX0_isAbove : MethodName := ⟨RX0, "isAbove", "(JJJJ)Z"⟩
abbrev cX0_reduce : ByteArray := prog_2_method_5_code
def yX0_reduce : MethodName := ⟨RX0, "reduce", "()V"⟩
abbrev cX0_greatestDivisor : ByteArray := prog_2_method_6_code
def yX0_greatestDivisor : MethodName := ⟨RX0, "greatestDivisor", "(JJ)J"⟩
def RX1 : String := "PlacePoints$Kind"
def TX1 : u_T := fun k => match k with
  | _ => ("", "", "", false)
def tyX1 : Nat → FieldType := fun k => match k with
  | _ => .int
abbrev wsX10 : List Cond := u_ws RX1 TX1 0
theorem nmX1 : ∀ a, a < 0 → ∀ b, b < 0 → a ≠ b → (TX1 a).2.1 ≠ (TX1 b).2.1 := by decide +kernel
theorem tyX1_ok : ∀ k, k < 0 → parseFieldDescriptor (TX1 k).2.2.1 = some (tyX1 k) := by decide +kernel
def RX2 : String := "PlacePoints$Shape"
def TX2 : u_T := fun k => match k with
  | 0 => ("PlacePoints$Shape", "kind", "LPlacePoints$Kind;", true)
  | 1 => ("PlacePoints$Shape", "size", "I", false)
  | 2 => ("PlacePoints$Shape", "verdict", "I", false)
  | 3 => ("PlacePoints$Shape", "xs", "[I", true)
  | 4 => ("PlacePoints$Shape", "ys", "[I", true)
  | 5 => ("PlacePoints$Shape", "lowX", "I", false)
  | 6 => ("PlacePoints$Shape", "lowY", "I", false)
  | 7 => ("PlacePoints$Shape", "highX", "I", false)
  | _ => ("PlacePoints$Shape", "highY", "I", false)
def tyX2 : Nat → FieldType := fun k => match k with
  | 0 => .object "PlacePoints$Kind"
  | 1 => .int
  | 2 => .int
  | 3 => .array .int
  | 4 => .array .int
  | 5 => .int
  | 6 => .int
  | 7 => .int
  | _ => .int
abbrev wsX20 : List Cond := u_ws RX2 TX2 9
theorem nmX2 : ∀ a, a < 9 → ∀ b, b < 9 → a ≠ b → (TX2 a).2.1 ≠ (TX2 b).2.1 := by decide +kernel
theorem tyX2_ok : ∀ k, k < 9 → parseFieldDescriptor (TX2 k).2.2.1 = some (tyX2 k) := by decide +kernel
abbrev cX2_init : ByteArray := prog_4_method_1_code
def yX2_init : MethodName := ⟨RX2, "<init>", "(LPlacePoints$Kind;)V"⟩
abbrev cX2_add : ByteArray := prog_4_method_2_code
def yX2_add : MethodName := ⟨RX2, "add", "(II)V"⟩
abbrev cX2_boxMeets : ByteArray := prog_4_method_3_code
def yX2_boxMeets : MethodName := ⟨RX2, "boxMeets", "(IIII)Z"⟩
abbrev cX2_twiceEnclosed : ByteArray := prog_4_method_4_code
def yX2_twiceEnclosed : MethodName := ⟨RX2, "twiceEnclosed", "()J"⟩
abbrev cX2_whereIs : ByteArray := prog_4_method_5_code
def yX2_whereIs : MethodName := ⟨RX2, "whereIs", "(II)I"⟩
abbrev cX2_touches : ByteArray := prog_4_method_6_code
def yX2_touches : MethodName := ⟨RX2, "touches", "(LPlacePoints$Shape;)Z"⟩
abbrev cX2_measureTo : ByteArray := prog_4_method_7_code
def yX2_measureTo : MethodName := ⟨RX2, "measureTo", "(LPlacePoints$Shape;LPlacePoints$Fraction;)V"⟩
abbrev cX2_lessenByCorners : ByteArray := prog_4_method_8_code
def yX2_lessenByCorners : MethodName := ⟨RX2, "lessenByCorners", "(LPlacePoints$Shape;LPlacePoints$Fraction;)V"⟩
abbrev cX2_lessenBySide : ByteArray := prog_4_method_9_code
def yX2_lessenBySide : MethodName := ⟨RX2, "lessenBySide", "(IIILPlacePoints$Fraction;)V"⟩
abbrev cX2_holds : ByteArray := prog_4_method_10_code
def yX2_holds : MethodName := ⟨RX2, "holds", "(II)Z"⟩
abbrev cX2_sideCount : ByteArray := prog_4_method_11_code
def yX2_sideCount : MethodName := ⟨RX2, "sideCount", "()I"⟩
abbrev cX2_judge : ByteArray := prog_4_method_12_code
def yX2_judge : MethodName := ⟨RX2, "judge", "()I"⟩
abbrev cX2_isWrongSide : ByteArray := prog_4_method_13_code
def yX2_isWrongSide : MethodName := ⟨RX2, "isWrongSide", "(I)Z"⟩
abbrev cX2_clash : ByteArray := prog_4_method_14_code
def yX2_clash : MethodName := ⟨RX2, "clash", "(II)Z"⟩
abbrev cX2_foldsBack : ByteArray := prog_4_method_15_code
def yX2_foldsBack : MethodName := ⟨RX2, "foldsBack", "(II)Z"⟩
abbrev cX2_sideTouches : ByteArray := prog_4_method_16_code
def yX2_sideTouches : MethodName := ⟨RX2, "sideTouches", "(ILPlacePoints$Shape;I)Z"⟩
abbrev cX2_turn : ByteArray := prog_4_method_17_code
def yX2_turn : MethodName := ⟨RX2, "turn", "(III)J"⟩
abbrev cX2_overlap : ByteArray := prog_4_method_18_code
def yX2_overlap : MethodName := ⟨RX2, "overlap", "(IIII)Z"⟩
abbrev cX2_squareOf : ByteArray := prog_4_method_19_code
def yX2_squareOf : MethodName := ⟨RX2, "squareOf", "(JJ)J"⟩
def RX3 : String := "PlacePoints"
def TX3 : u_T := fun k => match k with
  | 0 => ("PlacePoints", "made", "[LPlacePoints$Shape;", true)
  | 1 => ("PlacePoints", "madeCount", "I", false)
  | 2 => ("PlacePoints", "standingCount", "I", false)
  | 3 => ("PlacePoints", "cornersUsed", "I", false)
  | 4 => ("PlacePoints", "boxedNumbers", "[I", true)
  | 5 => ("PlacePoints", "boxedCount", "I", false)
  | 6 => ("PlacePoints", "gap", "LPlacePoints$Fraction;", true)
  | 7 => ("PlacePoints", "gapUppers", "[J", true)
  | 8 => ("PlacePoints", "gapLowers", "[J", true)
  | _ => ("PlacePoints", "sortedNumbers", "[I", true)
def tyX3 : Nat → FieldType := fun k => match k with
  | 0 => .array (.object "PlacePoints$Shape")
  | 1 => .int
  | 2 => .int
  | 3 => .int
  | 4 => .array .int
  | 5 => .int
  | 6 => .object "PlacePoints$Fraction"
  | 7 => .array .long
  | 8 => .array .long
  | _ => .array .int
abbrev wsX30 : List Cond := u_ws RX3 TX3 10
theorem nmX3 : ∀ a, a < 10 → ∀ b, b < 10 → a ≠ b → (TX3 a).2.1 ≠ (TX3 b).2.1 := by decide +kernel
theorem tyX3_ok : ∀ k, k < 10 → parseFieldDescriptor (TX3 k).2.2.1 = some (tyX3 k) := by decide +kernel
abbrev cX3_init : ByteArray := prog_1_method_1_code
def yX3_init : MethodName := ⟨RX3, "<init>", "()V"⟩
abbrev cX3_point : ByteArray := prog_1_method_2_code
def yX3_point : MethodName := ⟨RX3, "point", "(II)I"⟩
abbrev cX3_line : ByteArray := prog_1_method_3_code
def yX3_line : MethodName := ⟨RX3, "line", "()I"⟩
abbrev cX3_polygon : ByteArray := prog_1_method_4_code
def yX3_polygon : MethodName := ⟨RX3, "polygon", "()I"⟩
abbrev cX3_corner : ByteArray := prog_1_method_5_code
def yX3_corner : MethodName := ⟨RX3, "corner", "(III)I"⟩
abbrev cX3_remove : ByteArray := prog_1_method_6_code
def yX3_remove : MethodName := ⟨RX3, "remove", "(I)I"⟩
abbrev cX3_check : ByteArray := prog_1_method_7_code
def yX3_check : MethodName := ⟨RX3, "check", "(I)I"⟩
abbrev cX3_inside : ByteArray := prog_1_method_8_code
def yX3_inside : MethodName := ⟨RX3, "inside", "(III)I"⟩
abbrev cX3_meets : ByteArray := prog_1_method_9_code
def yX3_meets : MethodName := ⟨RX3, "meets", "(II)I"⟩
abbrev cX3_square : ByteArray := prog_1_method_10_code
def yX3_square : MethodName := ⟨RX3, "square", "(III)J"⟩
abbrev cX3_near : ByteArray := prog_1_method_11_code
def yX3_near : MethodName := ⟨RX3, "near", "(III)I"⟩
abbrev cX3_area : ByteArray := prog_1_method_12_code
def yX3_area : MethodName := ⟨RX3, "area", "(I)J"⟩
abbrev cX3_boxed : ByteArray := prog_1_method_13_code
def yX3_boxed : MethodName := ⟨RX3, "boxed", "(IIII)I"⟩
abbrev cX3_found : ByteArray := prog_1_method_14_code
def yX3_found : MethodName := ⟨RX3, "found", "(I)I"⟩
abbrev cX3_shapes : ByteArray := prog_1_method_15_code
def yX3_shapes : MethodName := ⟨RX3, "shapes", "()I"⟩
abbrev cX3_isPlace : ByteArray := prog_1_method_16_code
def yX3_isPlace : MethodName := ⟨RX3, "isPlace", "(II)Z"⟩
abbrev cX3_make : ByteArray := prog_1_method_17_code
def yX3_make : MethodName := ⟨RX3, "make", "(LPlacePoints$Kind;)I"⟩
abbrev cX3_standing : ByteArray := prog_1_method_18_code
def yX3_standing : MethodName := ⟨RX3, "standing", "(I)LPlacePoints$Shape;"⟩
abbrev cX3_right : ByteArray := prog_1_method_19_code
def yX3_right : MethodName := ⟨RX3, "right", "(I)LPlacePoints$Shape;"⟩
abbrev cX3_sortByGapTo : ByteArray := prog_1_method_20_code
def yX3_sortByGapTo : MethodName := ⟨RX3, "sortByGapTo", "(II)I"⟩
abbrev cX3_insertByGap : ByteArray := prog_1_method_21_code
def yX3_insertByGap : MethodName := ⟨RX3, "insertByGap", "(II)V"⟩
abbrev cX3_isFarther : ByteArray := prog_1_method_22_code
def yX3_isFarther : MethodName := ⟨RX3, "isFarther", "(II)Z"⟩
def RX4 : String := "PlacePointsModel"
def TX4 : u_T := fun k => match k with
  | 0 => ("PlacePointsModel", "kinds", "[I", true)
  | 1 => ("PlacePointsModel", "counts", "[I", true)
  | 2 => ("PlacePointsModel", "xs", "[J", true)
  | 3 => ("PlacePointsModel", "ys", "[J", true)
  | 4 => ("PlacePointsModel", "count", "I", false)
  | 5 => ("PlacePointsModel", "corners", "I", false)
  | 6 => ("PlacePointsModel", "gone", "I", false)
  | 7 => ("PlacePointsModel", "found", "[I", true)
  | 8 => ("PlacePointsModel", "foundCount", "I", false)
  | 9 => ("PlacePointsModel", "upper", "J", false)
  | 10 => ("PlacePointsModel", "lower", "J", false)
  | 11 => ("PlacePointsModel", "thrown", "I", false)
  | 12 => ("PlacePointsModel", "uppers", "[J", true)
  | 13 => ("PlacePointsModel", "lowers", "[J", true)
  | _ => ("PlacePointsModel", "taken", "[Z", true)
def tyX4 : Nat → FieldType := fun k => match k with
  | 0 => .array .int
  | 1 => .array .int
  | 2 => .array .long
  | 3 => .array .long
  | 4 => .int
  | 5 => .int
  | 6 => .int
  | 7 => .array .int
  | 8 => .int
  | 9 => .long
  | 10 => .long
  | 11 => .int
  | 12 => .array .long
  | 13 => .array .long
  | _ => .array .boolean
abbrev wsX40 : List Cond := u_ws RX4 TX4 15
theorem nmX4 : ∀ a, a < 15 → ∀ b, b < 15 → a ≠ b → (TX4 a).2.1 ≠ (TX4 b).2.1 := by decide +kernel
theorem tyX4_ok : ∀ k, k < 15 → parseFieldDescriptor (TX4 k).2.2.1 = some (tyX4 k) := by decide +kernel
abbrev cX4_thrown : ByteArray := prog_6_method_1_code
def yX4_thrown : MethodName := ⟨RX4, "thrown", "()I"⟩
abbrev cX4_init : ByteArray := prog_6_method_2_code
def yX4_init : MethodName := ⟨RX4, "<init>", "()V"⟩
abbrev cX4_isPlace : ByteArray := prog_6_method_3_code
def yX4_isPlace : MethodName := ⟨RX4, "isPlace", "(II)Z"⟩
abbrev cX4_begin : ByteArray := prog_6_method_4_code
def yX4_begin : MethodName := ⟨RX4, "begin", "(I)I"⟩
abbrev cX4_lay : ByteArray := prog_6_method_5_code
def yX4_lay : MethodName := ⟨RX4, "lay", "(III)V"⟩
abbrev cX4_point : ByteArray := prog_6_method_6_code
def yX4_point : MethodName := ⟨RX4, "point", "(II)I"⟩
abbrev cX4_line : ByteArray := prog_6_method_7_code
def yX4_line : MethodName := ⟨RX4, "line", "()I"⟩
abbrev cX4_polygon : ByteArray := prog_6_method_8_code
def yX4_polygon : MethodName := ⟨RX4, "polygon", "()I"⟩
abbrev cX4_isShape : ByteArray := prog_6_method_9_code
def yX4_isShape : MethodName := ⟨RX4, "isShape", "(I)Z"⟩
abbrev cX4_corner : ByteArray := prog_6_method_10_code
def yX4_corner : MethodName := ⟨RX4, "corner", "(III)I"⟩
abbrev cX4_remove : ByteArray := prog_6_method_11_code
def yX4_remove : MethodName := ⟨RX4, "remove", "(I)I"⟩
abbrev cX4_shapes : ByteArray := prog_6_method_12_code
def yX4_shapes : MethodName := ⟨RX4, "shapes", "()I"⟩
abbrev cX4_cross : ByteArray := prog_6_method_13_code
def yX4_cross : MethodName := ⟨RX4, "cross", "(JJJJ)J"⟩
abbrev cX4_hand : ByteArray := prog_6_method_14_code
def yX4_hand : MethodName := ⟨RX4, "hand", "(JJJJJJ)I"⟩
abbrev cX4_isBetween : ByteArray := prog_6_method_15_code
def yX4_isBetween : MethodName := ⟨RX4, "isBetween", "(JJJ)Z"⟩
abbrev cX4_isOn : ByteArray := prog_6_method_16_code
def yX4_isOn : MethodName := ⟨RX4, "isOn", "(JJJJJJ)Z"⟩
abbrev cX4_sides : ByteArray := prog_6_method_17_code
def yX4_sides : MethodName := ⟨RX4, "sides", "(I)I"⟩
abbrev cX4_from : ByteArray := prog_6_method_18_code
def yX4_from : MethodName := ⟨RX4, "from", "(II)I"⟩
abbrev cX4_to : ByteArray := prog_6_method_19_code
def yX4_to : MethodName := ⟨RX4, "to", "(II)I"⟩
abbrev cX4_cut : ByteArray := prog_6_method_20_code
def yX4_cut : MethodName := ⟨RX4, "cut", "(IIII)Z"⟩
abbrev cX4_folds : ByteArray := prog_6_method_21_code
def yX4_folds : MethodName := ⟨RX4, "folds", "(III)Z"⟩
abbrev cX4_isWrong : ByteArray := prog_6_method_22_code
def yX4_isWrong : MethodName := ⟨RX4, "isWrong", "(II)Z"⟩
abbrev cX4_check : ByteArray := prog_6_method_23_code
def yX4_check : MethodName := ⟨RX4, "check", "(I)I"⟩
abbrev cX4_isRight : ByteArray := prog_6_method_24_code
def yX4_isRight : MethodName := ⟨RX4, "isRight", "(I)Z"⟩
abbrev cX4_stands : ByteArray := prog_6_method_25_code
def yX4_stands : MethodName := ⟨RX4, "stands", "(JJI)I"⟩
abbrev cX4_inside : ByteArray := prog_6_method_26_code
def yX4_inside : MethodName := ⟨RX4, "inside", "(III)I"⟩
abbrev cX4_have : ByteArray := prog_6_method_27_code
def yX4_have : MethodName := ⟨RX4, "have", "(II)Z"⟩
abbrev cX4_meets : ByteArray := prog_6_method_28_code
def yX4_meets : MethodName := ⟨RX4, "meets", "(II)I"⟩
abbrev cX4_divisor : ByteArray := prog_6_method_29_code
def yX4_divisor : MethodName := ⟨RX4, "divisor", "(JJ)J"⟩
abbrev cX4_isLess : ByteArray := prog_6_method_30_code
def yX4_isLess : MethodName := ⟨RX4, "isLess", "(JJJJ)Z"⟩
abbrev cX4_weigh : ByteArray := prog_6_method_31_code
def yX4_weigh : MethodName := ⟨RX4, "weigh", "(JJ)V"⟩
abbrev cX4_weighSide : ByteArray := prog_6_method_32_code
def yX4_weighSide : MethodName := ⟨RX4, "weighSide", "(JJII)V"⟩
abbrev cX4_weighCorners : ByteArray := prog_6_method_33_code
def yX4_weighCorners : MethodName := ⟨RX4, "weighCorners", "(II)V"⟩
abbrev cX4_least : ByteArray := prog_6_method_34_code
def yX4_least : MethodName := ⟨RX4, "least", "(II)V"⟩
abbrev cX4_square : ByteArray := prog_6_method_35_code
def yX4_square : MethodName := ⟨RX4, "square", "(III)J"⟩
abbrev cX4_toPlace : ByteArray := prog_6_method_36_code
def yX4_toPlace : MethodName := ⟨RX4, "toPlace", "(III)V"⟩
abbrev cX4_near : ByteArray := prog_6_method_37_code
def yX4_near : MethodName := ⟨RX4, "near", "(III)I"⟩
abbrev cX4_area : ByteArray := prog_6_method_38_code
def yX4_area : MethodName := ⟨RX4, "area", "(I)J"⟩
abbrev cX4_isIn : ByteArray := prog_6_method_39_code
def yX4_isIn : MethodName := ⟨RX4, "isIn", "(IIIII)Z"⟩
abbrev cX4_boxed : ByteArray := prog_6_method_40_code
def yX4_boxed : MethodName := ⟨RX4, "boxed", "(IIII)I"⟩
abbrev cX4_found : ByteArray := prog_6_method_41_code
def yX4_found : MethodName := ⟨RX4, "found", "(I)I"⟩
def RJx00060 : String := "java/lang/ArrayIndexOutOfBoundsException"
def TJx00060 : u_T := fun k => match k with
  | 0 => ("java/lang/Throwable", "cause", "Ljava/lang/Throwable;", false)
  | 1 => ("java/lang/Throwable", "stackTrace", "[Ljava/lang/StackTraceElement;", false)
  | 2 => ("java/lang/Throwable", "suppressedExceptions", "Ljava/util/List;", false)
  | 3 => ("java/lang/Throwable", "detailMessage", "Ljava/lang/String;", false)
  | 4 => ("java/lang/Throwable", "backtrace", "Ljava/lang/Object;", false)
  | _ => ("java/lang/Throwable", "depth", "I", false)
def tyJx00060 : Nat → FieldType := fun k => match k with
  | 0 => .object "java/lang/Throwable"
  | 1 => .array (.object "java/lang/StackTraceElement")
  | 2 => .object "java/util/List"
  | 3 => .object "java/lang/String"
  | 4 => .object "java/lang/Object"
  | _ => .int
abbrev wsJx000600 : List Cond := u_ws RJx00060 TJx00060 6
theorem nmJx00060 : ∀ a, a < 6 → ∀ b, b < 6 → a ≠ b → (TJx00060 a).2.1 ≠ (TJx00060 b).2.1 := by decide +kernel
theorem tyJx00060_ok : ∀ k, k < 6 → parseFieldDescriptor (TJx00060 k).2.2.1 = some (tyJx00060 k) := by decide +kernel
abbrev cJx00060_init_da8c8 : ByteArray := prog_7_method_1_code
def yJx00060_init_da8c8 : MethodName := ⟨RJx00060, "<init>", "()V"⟩
def RJx29ce0 : String := "java/lang/Enum"
def TJx29ce0 : u_T := fun k => match k with
  | _ => ("", "", "", false)
def tyJx29ce0 : Nat → FieldType := fun k => match k with
  | _ => .int
abbrev wsJx29ce00 : List Cond := u_ws RJx29ce0 TJx29ce0 0
theorem nmJx29ce0 : ∀ a, a < 0 → ∀ b, b < 0 → a ≠ b → (TJx29ce0 a).2.1 ≠ (TJx29ce0 b).2.1 := by decide +kernel
theorem tyJx29ce0_ok : ∀ k, k < 0 → parseFieldDescriptor (TJx29ce0 k).2.2.1 = some (tyJx29ce0 k) := by decide +kernel
def RJ9 : String := "java/lang/Math"
def TJ9 : u_T := fun k => match k with
  | _ => ("", "", "", false)
def tyJ9 : Nat → FieldType := fun k => match k with
  | _ => .int
abbrev wsJ90 : List Cond := u_ws RJ9 TJ9 0
theorem nmJ9 : ∀ a, a < 0 → ∀ b, b < 0 → a ≠ b → (TJ9 a).2.1 ≠ (TJ9 b).2.1 := by decide +kernel
theorem tyJ9_ok : ∀ k, k < 0 → parseFieldDescriptor (TJ9 k).2.2.1 = some (tyJ9 k) := by decide +kernel
abbrev cJ9_max_7cf53 : ByteArray := prog_11_method_65_code
def yJ9_max_7cf53 : MethodName := ⟨RJ9, "max", "(II)I"⟩
abbrev cJ9_min_7cf53 : ByteArray := prog_11_method_69_code
def yJ9_min_7cf53 : MethodName := ⟨RJ9, "min", "(II)I"⟩
def RL : String := "PlacePointsLaw"
abbrev cL_found : ByteArray := method_3_code
def yL_found : MethodName := ⟨RL, "found", "(LPlacePoints;I[J)I"⟩
abbrev cL_law : ByteArray := code
def yL_law : MethodName := ⟨RL, "law", "([I)Z"⟩
def wsX0_init : List Cond := .code yX0_init cX0_init 1 none :: ([.methodLink RX0 1 objectInit, .instanceMethod objectInit, .code objectInit ⟨#[0xb1]⟩ 1 none, .fieldLink RX0 7 "PlacePoints$Fraction" "upper" "J", .fieldLink RX0 13 "PlacePoints$Fraction" "lower" "J"] ++ wsX00)
def wsX0_set : List Cond := .code yX0_set cX0_set 5 none :: ([.fieldLink RX0 7 "PlacePoints$Fraction" "upper" "J", .fieldLink RX0 13 "PlacePoints$Fraction" "lower" "J"] ++ wsX00)
def wsX0_isAbove : List Cond := .code yX0_isAbove cX0_isAbove 12 (some .boolean) :: ([])
def wsX0_lessen : List Cond := .code yX0_lessen cX0_lessen 5 none :: ([.fieldLink RX0 7 "PlacePoints$Fraction" "upper" "J", .fieldLink RX0 13 "PlacePoints$Fraction" "lower" "J", .methodLink RX0 16 yX0_isAbove, .static yX0_isAbove, .initialized RX0, .code yX0_isAbove cX0_isAbove 12 (some .boolean), .methodLink RX0 20 yX0_set, .instanceMethod yX0_set, .selects RX0 yX0_set yX0_set, .code yX0_set cX0_set 5 none] ++ wsX00)
def wsX0_greatestDivisor : List Cond := .code yX0_greatestDivisor cX0_greatestDivisor 7 (some .long) :: ([])
def wsX0_reduce : List Cond := .code yX0_reduce cX0_reduce 3 none :: ([.fieldLink RX0 7 "PlacePoints$Fraction" "upper" "J", .fieldLink RX0 13 "PlacePoints$Fraction" "lower" "J", .methodLink RX0 24 yX0_greatestDivisor, .static yX0_greatestDivisor, .initialized RX0, .code yX0_greatestDivisor cX0_greatestDivisor 7 (some .long)] ++ wsX00)
def wsX2_init : List Cond := .code yX2_init cX2_init 2 none :: ([.methodLink RX2 3 objectInit, .instanceMethod objectInit, .code objectInit ⟨#[0xb1]⟩ 1 none, .fieldLink RX2 9 "PlacePoints$Shape" "size" "I", .fieldLink RX2 15 "PlacePoints$Shape" "verdict" "I", .fieldLink RX2 18 "PlacePoints$Shape" "lowX" "I", .fieldLink RX2 21 "PlacePoints$Shape" "lowY" "I", .fieldLink RX2 24 "PlacePoints$Shape" "highX" "I", .fieldLink RX2 27 "PlacePoints$Shape" "highY" "I", .fieldLink RX2 30 "PlacePoints$Shape" "kind" "LPlacePoints$Kind;", .fieldLink RX2 34 "PlacePoints$Kind" "most" "I", .arrayClass .int, .fieldLink RX2 39 "PlacePoints$Shape" "xs" "[I", .fieldLink RX2 43 "PlacePoints$Shape" "ys" "[I"] ++ wsX20)
def wsX2_sideCount : List Cond := .code yX2_sideCount cX2_sideCount 1 (some .int) :: ([.fieldLink RX2 30 "PlacePoints$Shape" "kind" "LPlacePoints$Kind;", .fieldLink RX2 109 "PlacePoints$Kind" "LINE" "LPlacePoints$Kind;", .fieldLink RX2 9 "PlacePoints$Shape" "size" "I"] ++ wsX20)
def wsX2_foldsBack : List Cond := .code yX2_foldsBack cX2_foldsBack 11 (some .boolean) :: ([.fieldLink RX2 39 "PlacePoints$Shape" "xs" "[I", .fieldLink RX2 43 "PlacePoints$Shape" "ys" "[I"] ++ wsX20)
def wsX2_overlap : List Cond := .code yX2_overlap cX2_overlap 4 (some .boolean) :: ([.methodLink RX2 52 Lib.Math.max.name, .static Lib.Math.max.name, .initialized "java/lang/Math", .code Lib.Math.max.name Lib.Math.max.code 2 (some .int), .methodLink RX2 46 Lib.Math.min.name, .static Lib.Math.min.name, .code Lib.Math.min.name Lib.Math.min.code 2 (some .int)])
def wsX2_turn : List Cond := .code yX2_turn cX2_turn 8 (some .long) :: ([.fieldLink RX2 39 "PlacePoints$Shape" "xs" "[I", .fieldLink RX2 43 "PlacePoints$Shape" "ys" "[I"] ++ wsX20)
def wsX2_sideTouches : List Cond := .code yX2_sideTouches cX2_sideTouches 6 (some .boolean) :: ([.fieldLink RX2 39 "PlacePoints$Shape" "xs" "[I", .fieldLink RX2 43 "PlacePoints$Shape" "ys" "[I", .methodLink RX2 63 yX2_overlap, .static yX2_overlap, .initialized RX2, .code yX2_overlap cX2_overlap 4 (some .boolean), .methodLink RX2 52 Lib.Math.max.name, .static Lib.Math.max.name, .initialized "java/lang/Math", .code Lib.Math.max.name Lib.Math.max.code 2 (some .int), .methodLink RX2 46 Lib.Math.min.name, .static Lib.Math.min.name, .code Lib.Math.min.name Lib.Math.min.code 2 (some .int), .methodLink RX2 59 yX2_turn, .instanceMethod yX2_turn, .selects RX2 yX2_turn yX2_turn, .code yX2_turn cX2_turn 8 (some .long)] ++ wsX20)
def wsX2_clash_r1 : List Cond := [Cond.fieldLink RX2 9 "PlacePoints$Shape" "size" "I", Cond.methodLink RX2 125 yX2_foldsBack, Cond.instanceMethod yX2_foldsBack, Cond.selects RX2 yX2_foldsBack yX2_foldsBack, Cond.initialized RX2, Cond.code yX2_foldsBack cX2_foldsBack 11 (some .boolean), Cond.fieldLink RX2 39 "PlacePoints$Shape" "xs" "[I", Cond.fieldLink RX2 43 "PlacePoints$Shape" "ys" "[I", Cond.methodLink RX2 70 yX2_sideTouches, Cond.instanceMethod yX2_sideTouches, Cond.selects RX2 yX2_sideTouches yX2_sideTouches, Cond.code yX2_sideTouches cX2_sideTouches 6 (some .boolean), Cond.methodLink RX2 63 yX2_overlap, Cond.static yX2_overlap, Cond.code yX2_overlap cX2_overlap 4 (some .boolean), Cond.methodLink RX2 52 Lib.Math.max.name, Cond.static Lib.Math.max.name, Cond.initialized "java/lang/Math", Cond.code Lib.Math.max.name Lib.Math.max.code 2 (some .int), Cond.methodLink RX2 46 Lib.Math.min.name, Cond.static Lib.Math.min.name, Cond.code Lib.Math.min.name Lib.Math.min.code 2 (some .int), Cond.methodLink RX2 59 yX2_turn, Cond.instanceMethod yX2_turn]
def wsX2_clash_r2 : List Cond := [Cond.selects RX2 yX2_turn yX2_turn, Cond.code yX2_turn cX2_turn 8 (some .long)]
def wsX2_clash : List Cond := .code yX2_clash cX2_clash 3 (some .boolean) :: ((wsX2_clash_r1 ++ wsX2_clash_r2) ++ wsX20)
def wsX2_isWrongSide_r1 : List Cond := [Cond.fieldLink RX2 39 "PlacePoints$Shape" "xs" "[I", Cond.fieldLink RX2 43 "PlacePoints$Shape" "ys" "[I", Cond.fieldLink RX2 30 "PlacePoints$Shape" "kind" "LPlacePoints$Kind;", Cond.fieldLink RX2 103 "PlacePoints$Kind" "POLYGON" "LPlacePoints$Kind;", Cond.fieldLink RX2 9 "PlacePoints$Shape" "size" "I", Cond.methodLink RX2 122 yX2_clash, Cond.instanceMethod yX2_clash, Cond.selects RX2 yX2_clash yX2_clash, Cond.initialized RX2, Cond.code yX2_clash cX2_clash 3 (some .boolean), Cond.methodLink RX2 125 yX2_foldsBack, Cond.instanceMethod yX2_foldsBack, Cond.selects RX2 yX2_foldsBack yX2_foldsBack, Cond.code yX2_foldsBack cX2_foldsBack 11 (some .boolean), Cond.methodLink RX2 70 yX2_sideTouches, Cond.instanceMethod yX2_sideTouches, Cond.selects RX2 yX2_sideTouches yX2_sideTouches, Cond.code yX2_sideTouches cX2_sideTouches 6 (some .boolean), Cond.methodLink RX2 63 yX2_overlap, Cond.static yX2_overlap, Cond.code yX2_overlap cX2_overlap 4 (some .boolean), Cond.methodLink RX2 52 Lib.Math.max.name, Cond.static Lib.Math.max.name, Cond.initialized "java/lang/Math"]
def wsX2_isWrongSide_r2 : List Cond := [Cond.code Lib.Math.max.name Lib.Math.max.code 2 (some .int), Cond.methodLink RX2 46 Lib.Math.min.name, Cond.static Lib.Math.min.name, Cond.code Lib.Math.min.name Lib.Math.min.code 2 (some .int), Cond.methodLink RX2 59 yX2_turn, Cond.instanceMethod yX2_turn, Cond.selects RX2 yX2_turn yX2_turn, Cond.code yX2_turn cX2_turn 8 (some .long)]
def wsX2_isWrongSide : List Cond := .code yX2_isWrongSide cX2_isWrongSide 3 (some .boolean) :: ((wsX2_isWrongSide_r1 ++ wsX2_isWrongSide_r2) ++ wsX20)
def wsX2_judge_r1 : List Cond := [Cond.fieldLink RX2 9 "PlacePoints$Shape" "size" "I", Cond.fieldLink RX2 30 "PlacePoints$Shape" "kind" "LPlacePoints$Kind;", Cond.fieldLink RX2 112 "PlacePoints$Kind" "least" "I", Cond.fieldLink RX2 115 "PlacePoints$Kind" "POINT" "LPlacePoints$Kind;", Cond.methodLink RX2 67 yX2_sideCount, Cond.instanceMethod yX2_sideCount, Cond.selects RX2 yX2_sideCount yX2_sideCount, Cond.initialized RX2, Cond.code yX2_sideCount cX2_sideCount 1 (some .int), Cond.fieldLink RX2 109 "PlacePoints$Kind" "LINE" "LPlacePoints$Kind;", Cond.methodLink RX2 118 yX2_isWrongSide, Cond.instanceMethod yX2_isWrongSide, Cond.selects RX2 yX2_isWrongSide yX2_isWrongSide, Cond.code yX2_isWrongSide cX2_isWrongSide 3 (some .boolean), Cond.fieldLink RX2 39 "PlacePoints$Shape" "xs" "[I", Cond.fieldLink RX2 43 "PlacePoints$Shape" "ys" "[I", Cond.fieldLink RX2 103 "PlacePoints$Kind" "POLYGON" "LPlacePoints$Kind;", Cond.methodLink RX2 122 yX2_clash, Cond.instanceMethod yX2_clash, Cond.selects RX2 yX2_clash yX2_clash, Cond.code yX2_clash cX2_clash 3 (some .boolean), Cond.methodLink RX2 125 yX2_foldsBack, Cond.instanceMethod yX2_foldsBack, Cond.selects RX2 yX2_foldsBack yX2_foldsBack]
def wsX2_judge_r2 : List Cond := [Cond.code yX2_foldsBack cX2_foldsBack 11 (some .boolean), Cond.methodLink RX2 70 yX2_sideTouches, Cond.instanceMethod yX2_sideTouches, Cond.selects RX2 yX2_sideTouches yX2_sideTouches, Cond.code yX2_sideTouches cX2_sideTouches 6 (some .boolean), Cond.methodLink RX2 63 yX2_overlap, Cond.static yX2_overlap, Cond.code yX2_overlap cX2_overlap 4 (some .boolean), Cond.methodLink RX2 52 Lib.Math.max.name, Cond.static Lib.Math.max.name, Cond.initialized "java/lang/Math", Cond.code Lib.Math.max.name Lib.Math.max.code 2 (some .int), Cond.methodLink RX2 46 Lib.Math.min.name, Cond.static Lib.Math.min.name, Cond.code Lib.Math.min.name Lib.Math.min.code 2 (some .int), Cond.methodLink RX2 59 yX2_turn, Cond.instanceMethod yX2_turn, Cond.selects RX2 yX2_turn yX2_turn, Cond.code yX2_turn cX2_turn 8 (some .long)]
def wsX2_judge : List Cond := .code yX2_judge cX2_judge 2 (some .int) :: ((wsX2_judge_r1 ++ wsX2_judge_r2) ++ wsX20)
def wsX2_add_r1 : List Cond := [Cond.fieldLink RX2 9 "PlacePoints$Shape" "size" "I", Cond.fieldLink RX2 30 "PlacePoints$Shape" "kind" "LPlacePoints$Kind;", Cond.fieldLink RX2 34 "PlacePoints$Kind" "most" "I", Cond.fieldLink RX2 39 "PlacePoints$Shape" "xs" "[I", Cond.fieldLink RX2 43 "PlacePoints$Shape" "ys" "[I", Cond.fieldLink RX2 18 "PlacePoints$Shape" "lowX" "I", Cond.methodLink RX2 46 Lib.Math.min.name, Cond.static Lib.Math.min.name, Cond.initialized "java/lang/Math", Cond.code Lib.Math.min.name Lib.Math.min.code 2 (some .int), Cond.fieldLink RX2 21 "PlacePoints$Shape" "lowY" "I", Cond.fieldLink RX2 24 "PlacePoints$Shape" "highX" "I", Cond.methodLink RX2 52 Lib.Math.max.name, Cond.static Lib.Math.max.name, Cond.code Lib.Math.max.name Lib.Math.max.code 2 (some .int), Cond.fieldLink RX2 27 "PlacePoints$Shape" "highY" "I", Cond.fieldLink RX2 15 "PlacePoints$Shape" "verdict" "I", Cond.methodLink RX2 55 yX2_judge, Cond.instanceMethod yX2_judge, Cond.selects RX2 yX2_judge yX2_judge, Cond.initialized RX2, Cond.code yX2_judge cX2_judge 2 (some .int), Cond.fieldLink RX2 112 "PlacePoints$Kind" "least" "I", Cond.fieldLink RX2 115 "PlacePoints$Kind" "POINT" "LPlacePoints$Kind;"]
def wsX2_add_r2 : List Cond := [Cond.methodLink RX2 67 yX2_sideCount, Cond.instanceMethod yX2_sideCount, Cond.selects RX2 yX2_sideCount yX2_sideCount, Cond.code yX2_sideCount cX2_sideCount 1 (some .int), Cond.fieldLink RX2 109 "PlacePoints$Kind" "LINE" "LPlacePoints$Kind;", Cond.methodLink RX2 118 yX2_isWrongSide, Cond.instanceMethod yX2_isWrongSide, Cond.selects RX2 yX2_isWrongSide yX2_isWrongSide, Cond.code yX2_isWrongSide cX2_isWrongSide 3 (some .boolean), Cond.fieldLink RX2 103 "PlacePoints$Kind" "POLYGON" "LPlacePoints$Kind;", Cond.methodLink RX2 122 yX2_clash, Cond.instanceMethod yX2_clash, Cond.selects RX2 yX2_clash yX2_clash, Cond.code yX2_clash cX2_clash 3 (some .boolean), Cond.methodLink RX2 125 yX2_foldsBack, Cond.instanceMethod yX2_foldsBack, Cond.selects RX2 yX2_foldsBack yX2_foldsBack, Cond.code yX2_foldsBack cX2_foldsBack 11 (some .boolean), Cond.methodLink RX2 70 yX2_sideTouches, Cond.instanceMethod yX2_sideTouches, Cond.selects RX2 yX2_sideTouches yX2_sideTouches, Cond.code yX2_sideTouches cX2_sideTouches 6 (some .boolean), Cond.methodLink RX2 63 yX2_overlap, Cond.static yX2_overlap]
def wsX2_add_r3 : List Cond := [Cond.code yX2_overlap cX2_overlap 4 (some .boolean), Cond.methodLink RX2 59 yX2_turn, Cond.instanceMethod yX2_turn, Cond.selects RX2 yX2_turn yX2_turn, Cond.code yX2_turn cX2_turn 8 (some .long)]
def wsX2_add : List Cond := .code yX2_add cX2_add 3 none :: ((wsX2_add_r1 ++ (wsX2_add_r2 ++ wsX2_add_r3)) ++ wsX20)
def wsX2_boxMeets : List Cond := .code yX2_boxMeets cX2_boxMeets 5 (some .boolean) :: ([.fieldLink RX2 18 "PlacePoints$Shape" "lowX" "I", .fieldLink RX2 24 "PlacePoints$Shape" "highX" "I", .fieldLink RX2 21 "PlacePoints$Shape" "lowY" "I", .fieldLink RX2 27 "PlacePoints$Shape" "highY" "I"] ++ wsX20)
def wsX2_twiceEnclosed : List Cond := .code yX2_twiceEnclosed cX2_twiceEnclosed 4 (some .long) :: ([.fieldLink RX2 9 "PlacePoints$Shape" "size" "I", .fieldLink RX2 39 "PlacePoints$Shape" "xs" "[I", .fieldLink RX2 43 "PlacePoints$Shape" "ys" "[I"] ++ wsX20)
def wsX2_whereIs : List Cond := .code yX2_whereIs cX2_whereIs 9 (some .int) :: ([.fieldLink RX2 9 "PlacePoints$Shape" "size" "I", .fieldLink RX2 39 "PlacePoints$Shape" "xs" "[I", .fieldLink RX2 43 "PlacePoints$Shape" "ys" "[I", .methodLink RX2 59 yX2_turn, .instanceMethod yX2_turn, .selects RX2 yX2_turn yX2_turn, .initialized RX2, .code yX2_turn cX2_turn 8 (some .long), .methodLink RX2 63 yX2_overlap, .static yX2_overlap, .code yX2_overlap cX2_overlap 4 (some .boolean), .methodLink RX2 52 Lib.Math.max.name, .static Lib.Math.max.name, .initialized "java/lang/Math", .code Lib.Math.max.name Lib.Math.max.code 2 (some .int), .methodLink RX2 46 Lib.Math.min.name, .static Lib.Math.min.name, .code Lib.Math.min.name Lib.Math.min.code 2 (some .int)] ++ wsX20)
def wsX2_holds : List Cond := .code yX2_holds cX2_holds 3 (some .boolean) :: ([.fieldLink RX2 30 "PlacePoints$Shape" "kind" "LPlacePoints$Kind;", .fieldLink RX2 103 "PlacePoints$Kind" "POLYGON" "LPlacePoints$Kind;", .methodLink RX2 106 yX2_whereIs, .instanceMethod yX2_whereIs, .selects RX2 yX2_whereIs yX2_whereIs, .initialized RX2, .code yX2_whereIs cX2_whereIs 9 (some .int), .fieldLink RX2 9 "PlacePoints$Shape" "size" "I", .fieldLink RX2 39 "PlacePoints$Shape" "xs" "[I", .fieldLink RX2 43 "PlacePoints$Shape" "ys" "[I", .methodLink RX2 59 yX2_turn, .instanceMethod yX2_turn, .selects RX2 yX2_turn yX2_turn, .code yX2_turn cX2_turn 8 (some .long), .methodLink RX2 63 yX2_overlap, .static yX2_overlap, .code yX2_overlap cX2_overlap 4 (some .boolean), .methodLink RX2 52 Lib.Math.max.name, .static Lib.Math.max.name, .initialized "java/lang/Math", .code Lib.Math.max.name Lib.Math.max.code 2 (some .int), .methodLink RX2 46 Lib.Math.min.name, .static Lib.Math.min.name, .code Lib.Math.min.name Lib.Math.min.code 2 (some .int)] ++ wsX20)
def wsX2_touches_r1 : List Cond := [Cond.fieldLink RX2 39 "PlacePoints$Shape" "xs" "[I", Cond.fieldLink RX2 43 "PlacePoints$Shape" "ys" "[I", Cond.methodLink RX2 67 yX2_sideCount, Cond.instanceMethod yX2_sideCount, Cond.selects RX2 yX2_sideCount yX2_sideCount, Cond.initialized RX2, Cond.code yX2_sideCount cX2_sideCount 1 (some .int), Cond.fieldLink RX2 30 "PlacePoints$Shape" "kind" "LPlacePoints$Kind;", Cond.fieldLink RX2 109 "PlacePoints$Kind" "LINE" "LPlacePoints$Kind;", Cond.fieldLink RX2 9 "PlacePoints$Shape" "size" "I", Cond.methodLink RX2 70 yX2_sideTouches, Cond.instanceMethod yX2_sideTouches, Cond.selects RX2 yX2_sideTouches yX2_sideTouches, Cond.code yX2_sideTouches cX2_sideTouches 6 (some .boolean), Cond.methodLink RX2 63 yX2_overlap, Cond.static yX2_overlap, Cond.code yX2_overlap cX2_overlap 4 (some .boolean), Cond.methodLink RX2 52 Lib.Math.max.name, Cond.static Lib.Math.max.name, Cond.initialized "java/lang/Math", Cond.code Lib.Math.max.name Lib.Math.max.code 2 (some .int), Cond.methodLink RX2 46 Lib.Math.min.name, Cond.static Lib.Math.min.name, Cond.code Lib.Math.min.name Lib.Math.min.code 2 (some .int)]
def wsX2_touches_r2 : List Cond := [Cond.methodLink RX2 59 yX2_turn, Cond.instanceMethod yX2_turn, Cond.selects RX2 yX2_turn yX2_turn, Cond.code yX2_turn cX2_turn 8 (some .long), Cond.methodLink RX2 74 yX2_holds, Cond.instanceMethod yX2_holds, Cond.selects RX2 yX2_holds yX2_holds, Cond.code yX2_holds cX2_holds 3 (some .boolean), Cond.fieldLink RX2 103 "PlacePoints$Kind" "POLYGON" "LPlacePoints$Kind;", Cond.methodLink RX2 106 yX2_whereIs, Cond.instanceMethod yX2_whereIs, Cond.selects RX2 yX2_whereIs yX2_whereIs, Cond.code yX2_whereIs cX2_whereIs 9 (some .int)]
def wsX2_touches : List Cond := .code yX2_touches cX2_touches 4 (some .boolean) :: ((wsX2_touches_r1 ++ wsX2_touches_r2) ++ wsX20)
def wsX2_squareOf : List Cond := .code yX2_squareOf cX2_squareOf 4 (some .long) :: ([])
def wsX2_lessenBySide : List Cond := .code yX2_lessenBySide cX2_lessenBySide 15 none :: ([.fieldLink RX2 39 "PlacePoints$Shape" "xs" "[I", .fieldLink RX2 43 "PlacePoints$Shape" "ys" "[I", .methodLink RX2 88 yX2_squareOf, .static yX2_squareOf, .initialized RX2, .code yX2_squareOf cX2_squareOf 4 (some .long), .methodLink RX2 100 yX0_lessen, .instanceMethod yX0_lessen, .selects RX0 yX0_lessen yX0_lessen, .initialized RX0, .code yX0_lessen cX0_lessen 5 none, .fieldLink RX0 7 "PlacePoints$Fraction" "upper" "J", .fieldLink RX0 13 "PlacePoints$Fraction" "lower" "J", .methodLink RX0 16 yX0_isAbove, .static yX0_isAbove, .code yX0_isAbove cX0_isAbove 12 (some .boolean), .methodLink RX0 20 yX0_set, .instanceMethod yX0_set, .selects RX0 yX0_set yX0_set, .code yX0_set cX0_set 5 none, .methodLink RX2 59 yX2_turn, .instanceMethod yX2_turn, .selects RX2 yX2_turn yX2_turn, .code yX2_turn cX2_turn 8 (some .long)] ++ wsX20 ++ wsX00)
def wsX2_lessenByCorners_r1 : List Cond := [Cond.fieldLink RX2 9 "PlacePoints$Shape" "size" "I", Cond.fieldLink RX2 39 "PlacePoints$Shape" "xs" "[I", Cond.fieldLink RX2 43 "PlacePoints$Shape" "ys" "[I", Cond.methodLink RX2 67 yX2_sideCount, Cond.instanceMethod yX2_sideCount, Cond.selects RX2 yX2_sideCount yX2_sideCount, Cond.initialized RX2, Cond.code yX2_sideCount cX2_sideCount 1 (some .int), Cond.fieldLink RX2 30 "PlacePoints$Shape" "kind" "LPlacePoints$Kind;", Cond.fieldLink RX2 109 "PlacePoints$Kind" "LINE" "LPlacePoints$Kind;", Cond.methodLink RX2 96 yX2_lessenBySide, Cond.instanceMethod yX2_lessenBySide, Cond.selects RX2 yX2_lessenBySide yX2_lessenBySide, Cond.code yX2_lessenBySide cX2_lessenBySide 15 none, Cond.methodLink RX2 88 yX2_squareOf, Cond.static yX2_squareOf, Cond.code yX2_squareOf cX2_squareOf 4 (some .long), Cond.methodLink RX2 100 yX0_lessen, Cond.instanceMethod yX0_lessen, Cond.selects RX0 yX0_lessen yX0_lessen, Cond.initialized RX0, Cond.code yX0_lessen cX0_lessen 5 none, Cond.fieldLink RX0 7 "PlacePoints$Fraction" "upper" "J", Cond.fieldLink RX0 13 "PlacePoints$Fraction" "lower" "J"]
def wsX2_lessenByCorners_r2 : List Cond := [Cond.methodLink RX0 16 yX0_isAbove, Cond.static yX0_isAbove, Cond.code yX0_isAbove cX0_isAbove 12 (some .boolean), Cond.methodLink RX0 20 yX0_set, Cond.instanceMethod yX0_set, Cond.selects RX0 yX0_set yX0_set, Cond.code yX0_set cX0_set 5 none, Cond.methodLink RX2 59 yX2_turn, Cond.instanceMethod yX2_turn, Cond.selects RX2 yX2_turn yX2_turn, Cond.code yX2_turn cX2_turn 8 (some .long)]
def wsX2_lessenByCorners : List Cond := .code yX2_lessenByCorners cX2_lessenByCorners 5 none :: ((wsX2_lessenByCorners_r1 ++ wsX2_lessenByCorners_r2) ++ wsX20 ++ wsX00)
def wsX2_measureTo_r1 : List Cond := [Cond.fieldLink RX2 39 "PlacePoints$Shape" "xs" "[I", Cond.fieldLink RX2 43 "PlacePoints$Shape" "ys" "[I", Cond.methodLink RX2 78 yX2_touches, Cond.instanceMethod yX2_touches, Cond.selects RX2 yX2_touches yX2_touches, Cond.initialized RX2, Cond.code yX2_touches cX2_touches 4 (some .boolean), Cond.methodLink RX2 67 yX2_sideCount, Cond.instanceMethod yX2_sideCount, Cond.selects RX2 yX2_sideCount yX2_sideCount, Cond.code yX2_sideCount cX2_sideCount 1 (some .int), Cond.fieldLink RX2 30 "PlacePoints$Shape" "kind" "LPlacePoints$Kind;", Cond.fieldLink RX2 109 "PlacePoints$Kind" "LINE" "LPlacePoints$Kind;", Cond.fieldLink RX2 9 "PlacePoints$Shape" "size" "I", Cond.methodLink RX2 70 yX2_sideTouches, Cond.instanceMethod yX2_sideTouches, Cond.selects RX2 yX2_sideTouches yX2_sideTouches, Cond.code yX2_sideTouches cX2_sideTouches 6 (some .boolean), Cond.methodLink RX2 63 yX2_overlap, Cond.static yX2_overlap, Cond.code yX2_overlap cX2_overlap 4 (some .boolean), Cond.methodLink RX2 52 Lib.Math.max.name, Cond.static Lib.Math.max.name, Cond.initialized "java/lang/Math"]
def wsX2_measureTo_r2 : List Cond := [Cond.code Lib.Math.max.name Lib.Math.max.code 2 (some .int), Cond.methodLink RX2 46 Lib.Math.min.name, Cond.static Lib.Math.min.name, Cond.code Lib.Math.min.name Lib.Math.min.code 2 (some .int), Cond.methodLink RX2 59 yX2_turn, Cond.instanceMethod yX2_turn, Cond.selects RX2 yX2_turn yX2_turn, Cond.code yX2_turn cX2_turn 8 (some .long), Cond.methodLink RX2 74 yX2_holds, Cond.instanceMethod yX2_holds, Cond.selects RX2 yX2_holds yX2_holds, Cond.code yX2_holds cX2_holds 3 (some .boolean), Cond.fieldLink RX2 103 "PlacePoints$Kind" "POLYGON" "LPlacePoints$Kind;", Cond.methodLink RX2 106 yX2_whereIs, Cond.instanceMethod yX2_whereIs, Cond.selects RX2 yX2_whereIs yX2_whereIs, Cond.code yX2_whereIs cX2_whereIs 9 (some .int), Cond.methodLink RX2 82 yX0_set, Cond.instanceMethod yX0_set, Cond.selects RX0 yX0_set yX0_set, Cond.initialized RX0, Cond.code yX0_set cX0_set 5 none, Cond.fieldLink RX0 7 "PlacePoints$Fraction" "upper" "J", Cond.fieldLink RX0 13 "PlacePoints$Fraction" "lower" "J"]
def wsX2_measureTo_r3 : List Cond := [Cond.methodLink RX2 88 yX2_squareOf, Cond.static yX2_squareOf, Cond.code yX2_squareOf cX2_squareOf 4 (some .long), Cond.methodLink RX2 92 yX2_lessenByCorners, Cond.instanceMethod yX2_lessenByCorners, Cond.selects RX2 yX2_lessenByCorners yX2_lessenByCorners, Cond.code yX2_lessenByCorners cX2_lessenByCorners 5 none, Cond.methodLink RX2 96 yX2_lessenBySide, Cond.instanceMethod yX2_lessenBySide, Cond.selects RX2 yX2_lessenBySide yX2_lessenBySide, Cond.code yX2_lessenBySide cX2_lessenBySide 15 none, Cond.methodLink RX2 100 yX0_lessen, Cond.instanceMethod yX0_lessen, Cond.selects RX0 yX0_lessen yX0_lessen, Cond.code yX0_lessen cX0_lessen 5 none, Cond.methodLink RX0 16 yX0_isAbove, Cond.static yX0_isAbove, Cond.code yX0_isAbove cX0_isAbove 12 (some .boolean), Cond.methodLink RX0 20 yX0_set]
def wsX2_measureTo : List Cond := .code yX2_measureTo cX2_measureTo 3 none :: ((wsX2_measureTo_r1 ++ (wsX2_measureTo_r2 ++ wsX2_measureTo_r3)) ++ wsX20 ++ wsX00)
def wsX3_init : List Cond := .code yX3_init cX3_init 1 none :: ([.methodLink RX3 1 objectInit, .instanceMethod objectInit, .code objectInit ⟨#[0xb1]⟩ 1 none, .classLink RX3 9 RX2, .fieldLink RX3 11 "PlacePoints" "made" "[LPlacePoints$Shape;", .fieldLink RX3 15 "PlacePoints" "madeCount" "I", .fieldLink RX3 19 "PlacePoints" "standingCount" "I", .fieldLink RX3 22 "PlacePoints" "cornersUsed" "I", .arrayClass .int, .fieldLink RX3 25 "PlacePoints" "boxedNumbers" "[I", .fieldLink RX3 29 "PlacePoints" "boxedCount" "I", .classLink RX3 32 RX0, .instantiable RX0 2, .initialized RX0, .fieldLink RX3 35 "PlacePoints" "gap" "LPlacePoints$Fraction;", .arrayClass .long, .fieldLink RX3 39 "PlacePoints" "gapUppers" "[J", .fieldLink RX3 43 "PlacePoints" "gapLowers" "[J", .fieldLink RX3 46 "PlacePoints" "sortedNumbers" "[I", .instanceMethod yX0_init, .code yX0_init cX0_init 1 none, .methodLink RX0 1 objectInit, .fieldLink RX0 7 "PlacePoints$Fraction" "upper" "J", .fieldLink RX0 13 "PlacePoints$Fraction" "lower" "J"] ++ wsX30 ++ wsX00)
def wsX3_isPlace : List Cond := .code yX3_isPlace cX3_isPlace 2 (some .boolean) :: ([])
def wsX3_make : List Cond := .code yX3_make cX3_make 3 (some .int) :: ([.fieldLink RX3 15 "PlacePoints" "madeCount" "I", .fieldLink RX3 11 "PlacePoints" "made" "[LPlacePoints$Shape;", .classLink RX3 9 RX2, .instantiable RX2 9, .initialized RX2, .fieldLink RX3 19 "PlacePoints" "standingCount" "I", .methodLink RX3 130 yX2_init, .instanceMethod yX2_init, .code yX2_init cX2_init 2 none, .methodLink RX2 3 objectInit, .instanceMethod objectInit, .code objectInit ⟨#[0xb1]⟩ 1 none, .fieldLink RX2 9 "PlacePoints$Shape" "size" "I", .fieldLink RX2 15 "PlacePoints$Shape" "verdict" "I", .fieldLink RX2 18 "PlacePoints$Shape" "lowX" "I", .fieldLink RX2 21 "PlacePoints$Shape" "lowY" "I", .fieldLink RX2 24 "PlacePoints$Shape" "highX" "I", .fieldLink RX2 27 "PlacePoints$Shape" "highY" "I", .fieldLink RX2 30 "PlacePoints$Shape" "kind" "LPlacePoints$Kind;", .fieldLink RX2 34 "PlacePoints$Kind" "most" "I", .arrayClass .int, .fieldLink RX2 39 "PlacePoints$Shape" "xs" "[I", .fieldLink RX2 43 "PlacePoints$Shape" "ys" "[I"] ++ wsX30 ++ wsX20)
def wsX3_standing : List Cond := .code yX3_standing cX3_standing 2 (some (.object "PlacePoints$Shape")) :: ([.fieldLink RX3 15 "PlacePoints" "madeCount" "I", .fieldLink RX3 11 "PlacePoints" "made" "[LPlacePoints$Shape;"] ++ wsX30)
def wsX3_point_r1 : List Cond := [Cond.fieldLink RX3 22 "PlacePoints" "cornersUsed" "I", Cond.fieldLink RX3 53 "PlacePoints$Kind" "POINT" "LPlacePoints$Kind;", Cond.methodLink RX3 49 yX3_isPlace, Cond.static yX3_isPlace, Cond.initialized RX3, Cond.code yX3_isPlace cX3_isPlace 2 (some .boolean), Cond.methodLink RX3 59 yX3_make, Cond.instanceMethod yX3_make, Cond.selects RX3 yX3_make yX3_make, Cond.code yX3_make cX3_make 3 (some .int), Cond.fieldLink RX3 15 "PlacePoints" "madeCount" "I", Cond.fieldLink RX3 11 "PlacePoints" "made" "[LPlacePoints$Shape;", Cond.classLink RX3 9 RX2, Cond.instantiable RX2 9, Cond.initialized RX2, Cond.fieldLink RX3 19 "PlacePoints" "standingCount" "I", Cond.methodLink RX3 130 yX2_init, Cond.instanceMethod yX2_init, Cond.code yX2_init cX2_init 2 none, Cond.methodLink RX2 3 objectInit, Cond.instanceMethod objectInit, Cond.code objectInit ⟨#[0xb1]⟩ 1 none, Cond.fieldLink RX2 9 "PlacePoints$Shape" "size" "I", Cond.fieldLink RX2 15 "PlacePoints$Shape" "verdict" "I"]
def wsX3_point_r2 : List Cond := [Cond.fieldLink RX2 18 "PlacePoints$Shape" "lowX" "I", Cond.fieldLink RX2 21 "PlacePoints$Shape" "lowY" "I", Cond.fieldLink RX2 24 "PlacePoints$Shape" "highX" "I", Cond.fieldLink RX2 27 "PlacePoints$Shape" "highY" "I", Cond.fieldLink RX2 30 "PlacePoints$Shape" "kind" "LPlacePoints$Kind;", Cond.fieldLink RX2 34 "PlacePoints$Kind" "most" "I", Cond.arrayClass .int, Cond.fieldLink RX2 39 "PlacePoints$Shape" "xs" "[I", Cond.fieldLink RX2 43 "PlacePoints$Shape" "ys" "[I", Cond.methodLink RX3 63 yX3_standing, Cond.instanceMethod yX3_standing, Cond.selects RX3 yX3_standing yX3_standing, Cond.code yX3_standing cX3_standing 2 (some (.object "PlacePoints$Shape")), Cond.methodLink RX3 67 yX2_add, Cond.instanceMethod yX2_add, Cond.selects RX2 yX2_add yX2_add, Cond.code yX2_add cX2_add 3 none, Cond.methodLink RX2 46 Lib.Math.min.name, Cond.static Lib.Math.min.name, Cond.initialized "java/lang/Math", Cond.code Lib.Math.min.name Lib.Math.min.code 2 (some .int), Cond.methodLink RX2 52 Lib.Math.max.name, Cond.static Lib.Math.max.name, Cond.code Lib.Math.max.name Lib.Math.max.code 2 (some .int)]
def wsX3_point_r3 : List Cond := [Cond.methodLink RX2 55 yX2_judge, Cond.instanceMethod yX2_judge, Cond.selects RX2 yX2_judge yX2_judge, Cond.code yX2_judge cX2_judge 2 (some .int), Cond.fieldLink RX2 112 "PlacePoints$Kind" "least" "I", Cond.fieldLink RX2 115 "PlacePoints$Kind" "POINT" "LPlacePoints$Kind;", Cond.methodLink RX2 67 yX2_sideCount, Cond.instanceMethod yX2_sideCount, Cond.selects RX2 yX2_sideCount yX2_sideCount, Cond.code yX2_sideCount cX2_sideCount 1 (some .int), Cond.fieldLink RX2 109 "PlacePoints$Kind" "LINE" "LPlacePoints$Kind;", Cond.methodLink RX2 118 yX2_isWrongSide, Cond.instanceMethod yX2_isWrongSide, Cond.selects RX2 yX2_isWrongSide yX2_isWrongSide, Cond.code yX2_isWrongSide cX2_isWrongSide 3 (some .boolean), Cond.fieldLink RX2 103 "PlacePoints$Kind" "POLYGON" "LPlacePoints$Kind;", Cond.methodLink RX2 122 yX2_clash, Cond.instanceMethod yX2_clash, Cond.selects RX2 yX2_clash yX2_clash, Cond.code yX2_clash cX2_clash 3 (some .boolean), Cond.methodLink RX2 125 yX2_foldsBack, Cond.instanceMethod yX2_foldsBack, Cond.selects RX2 yX2_foldsBack yX2_foldsBack, Cond.code yX2_foldsBack cX2_foldsBack 11 (some .boolean)]
def wsX3_point_r4 : List Cond := [Cond.methodLink RX2 70 yX2_sideTouches, Cond.instanceMethod yX2_sideTouches, Cond.selects RX2 yX2_sideTouches yX2_sideTouches, Cond.code yX2_sideTouches cX2_sideTouches 6 (some .boolean), Cond.methodLink RX2 63 yX2_overlap, Cond.static yX2_overlap, Cond.code yX2_overlap cX2_overlap 4 (some .boolean), Cond.methodLink RX2 59 yX2_turn, Cond.instanceMethod yX2_turn, Cond.selects RX2 yX2_turn yX2_turn, Cond.code yX2_turn cX2_turn 8 (some .long)]
def wsX3_point : List Cond := .code yX3_point cX3_point 5 (some .int) :: ((wsX3_point_r1 ++ (wsX3_point_r2 ++ (wsX3_point_r3 ++ wsX3_point_r4))) ++ wsX30 ++ wsX20)
def wsX3_line_r1 : List Cond := [Cond.fieldLink RX3 71 "PlacePoints$Kind" "LINE" "LPlacePoints$Kind;", Cond.methodLink RX3 59 yX3_make, Cond.instanceMethod yX3_make, Cond.selects RX3 yX3_make yX3_make, Cond.initialized RX3, Cond.code yX3_make cX3_make 3 (some .int), Cond.fieldLink RX3 15 "PlacePoints" "madeCount" "I", Cond.fieldLink RX3 11 "PlacePoints" "made" "[LPlacePoints$Shape;", Cond.classLink RX3 9 RX2, Cond.instantiable RX2 9, Cond.initialized RX2, Cond.fieldLink RX3 19 "PlacePoints" "standingCount" "I", Cond.methodLink RX3 130 yX2_init, Cond.instanceMethod yX2_init, Cond.code yX2_init cX2_init 2 none, Cond.methodLink RX2 3 objectInit, Cond.instanceMethod objectInit, Cond.code objectInit ⟨#[0xb1]⟩ 1 none, Cond.fieldLink RX2 9 "PlacePoints$Shape" "size" "I", Cond.fieldLink RX2 15 "PlacePoints$Shape" "verdict" "I", Cond.fieldLink RX2 18 "PlacePoints$Shape" "lowX" "I", Cond.fieldLink RX2 21 "PlacePoints$Shape" "lowY" "I", Cond.fieldLink RX2 24 "PlacePoints$Shape" "highX" "I", Cond.fieldLink RX2 27 "PlacePoints$Shape" "highY" "I"]
def wsX3_line_r2 : List Cond := [Cond.fieldLink RX2 30 "PlacePoints$Shape" "kind" "LPlacePoints$Kind;", Cond.fieldLink RX2 34 "PlacePoints$Kind" "most" "I", Cond.arrayClass .int, Cond.fieldLink RX2 39 "PlacePoints$Shape" "xs" "[I", Cond.fieldLink RX2 43 "PlacePoints$Shape" "ys" "[I"]
def wsX3_line : List Cond := .code yX3_line cX3_line 1 (some .int) :: ((wsX3_line_r1 ++ wsX3_line_r2) ++ wsX30 ++ wsX20)
def wsX3_polygon_r1 : List Cond := [Cond.fieldLink RX3 74 "PlacePoints$Kind" "POLYGON" "LPlacePoints$Kind;", Cond.methodLink RX3 59 yX3_make, Cond.instanceMethod yX3_make, Cond.selects RX3 yX3_make yX3_make, Cond.initialized RX3, Cond.code yX3_make cX3_make 3 (some .int), Cond.fieldLink RX3 15 "PlacePoints" "madeCount" "I", Cond.fieldLink RX3 11 "PlacePoints" "made" "[LPlacePoints$Shape;", Cond.classLink RX3 9 RX2, Cond.instantiable RX2 9, Cond.initialized RX2, Cond.fieldLink RX3 19 "PlacePoints" "standingCount" "I", Cond.methodLink RX3 130 yX2_init, Cond.instanceMethod yX2_init, Cond.code yX2_init cX2_init 2 none, Cond.methodLink RX2 3 objectInit, Cond.instanceMethod objectInit, Cond.code objectInit ⟨#[0xb1]⟩ 1 none, Cond.fieldLink RX2 9 "PlacePoints$Shape" "size" "I", Cond.fieldLink RX2 15 "PlacePoints$Shape" "verdict" "I", Cond.fieldLink RX2 18 "PlacePoints$Shape" "lowX" "I", Cond.fieldLink RX2 21 "PlacePoints$Shape" "lowY" "I", Cond.fieldLink RX2 24 "PlacePoints$Shape" "highX" "I", Cond.fieldLink RX2 27 "PlacePoints$Shape" "highY" "I"]
def wsX3_polygon_r2 : List Cond := [Cond.fieldLink RX2 30 "PlacePoints$Shape" "kind" "LPlacePoints$Kind;", Cond.fieldLink RX2 34 "PlacePoints$Kind" "most" "I", Cond.arrayClass .int, Cond.fieldLink RX2 39 "PlacePoints$Shape" "xs" "[I", Cond.fieldLink RX2 43 "PlacePoints$Shape" "ys" "[I"]
def wsX3_polygon : List Cond := .code yX3_polygon cX3_polygon 1 (some .int) :: ((wsX3_polygon_r1 ++ wsX3_polygon_r2) ++ wsX30 ++ wsX20)
def wsX3_corner_r1 : List Cond := [Cond.fieldLink RX3 77 "PlacePoints$Shape" "kind" "LPlacePoints$Kind;", Cond.fieldLink RX3 53 "PlacePoints$Kind" "POINT" "LPlacePoints$Kind;", Cond.fieldLink RX3 22 "PlacePoints" "cornersUsed" "I", Cond.fieldLink RX3 80 "PlacePoints$Shape" "size" "I", Cond.fieldLink RX3 83 "PlacePoints$Kind" "most" "I", Cond.methodLink RX3 63 yX3_standing, Cond.instanceMethod yX3_standing, Cond.selects RX3 yX3_standing yX3_standing, Cond.initialized RX3, Cond.code yX3_standing cX3_standing 2 (some (.object "PlacePoints$Shape")), Cond.fieldLink RX3 15 "PlacePoints" "madeCount" "I", Cond.fieldLink RX3 11 "PlacePoints" "made" "[LPlacePoints$Shape;", Cond.methodLink RX3 49 yX3_isPlace, Cond.static yX3_isPlace, Cond.code yX3_isPlace cX3_isPlace 2 (some .boolean), Cond.methodLink RX3 67 yX2_add, Cond.instanceMethod yX2_add, Cond.selects RX2 yX2_add yX2_add, Cond.initialized RX2, Cond.code yX2_add cX2_add 3 none, Cond.fieldLink RX2 9 "PlacePoints$Shape" "size" "I", Cond.fieldLink RX2 30 "PlacePoints$Shape" "kind" "LPlacePoints$Kind;", Cond.fieldLink RX2 34 "PlacePoints$Kind" "most" "I", Cond.fieldLink RX2 39 "PlacePoints$Shape" "xs" "[I"]
def wsX3_corner_r2 : List Cond := [Cond.fieldLink RX2 43 "PlacePoints$Shape" "ys" "[I", Cond.fieldLink RX2 18 "PlacePoints$Shape" "lowX" "I", Cond.methodLink RX2 46 Lib.Math.min.name, Cond.static Lib.Math.min.name, Cond.initialized "java/lang/Math", Cond.code Lib.Math.min.name Lib.Math.min.code 2 (some .int), Cond.fieldLink RX2 21 "PlacePoints$Shape" "lowY" "I", Cond.fieldLink RX2 24 "PlacePoints$Shape" "highX" "I", Cond.methodLink RX2 52 Lib.Math.max.name, Cond.static Lib.Math.max.name, Cond.code Lib.Math.max.name Lib.Math.max.code 2 (some .int), Cond.fieldLink RX2 27 "PlacePoints$Shape" "highY" "I", Cond.fieldLink RX2 15 "PlacePoints$Shape" "verdict" "I", Cond.methodLink RX2 55 yX2_judge, Cond.instanceMethod yX2_judge, Cond.selects RX2 yX2_judge yX2_judge, Cond.code yX2_judge cX2_judge 2 (some .int), Cond.fieldLink RX2 112 "PlacePoints$Kind" "least" "I", Cond.fieldLink RX2 115 "PlacePoints$Kind" "POINT" "LPlacePoints$Kind;", Cond.methodLink RX2 67 yX2_sideCount, Cond.instanceMethod yX2_sideCount, Cond.selects RX2 yX2_sideCount yX2_sideCount, Cond.code yX2_sideCount cX2_sideCount 1 (some .int), Cond.fieldLink RX2 109 "PlacePoints$Kind" "LINE" "LPlacePoints$Kind;"]
def wsX3_corner_r3 : List Cond := [Cond.methodLink RX2 118 yX2_isWrongSide, Cond.instanceMethod yX2_isWrongSide, Cond.selects RX2 yX2_isWrongSide yX2_isWrongSide, Cond.code yX2_isWrongSide cX2_isWrongSide 3 (some .boolean), Cond.fieldLink RX2 103 "PlacePoints$Kind" "POLYGON" "LPlacePoints$Kind;", Cond.methodLink RX2 122 yX2_clash, Cond.instanceMethod yX2_clash, Cond.selects RX2 yX2_clash yX2_clash, Cond.code yX2_clash cX2_clash 3 (some .boolean), Cond.methodLink RX2 125 yX2_foldsBack, Cond.instanceMethod yX2_foldsBack, Cond.selects RX2 yX2_foldsBack yX2_foldsBack, Cond.code yX2_foldsBack cX2_foldsBack 11 (some .boolean), Cond.methodLink RX2 70 yX2_sideTouches, Cond.instanceMethod yX2_sideTouches, Cond.selects RX2 yX2_sideTouches yX2_sideTouches, Cond.code yX2_sideTouches cX2_sideTouches 6 (some .boolean), Cond.methodLink RX2 63 yX2_overlap, Cond.static yX2_overlap, Cond.code yX2_overlap cX2_overlap 4 (some .boolean), Cond.methodLink RX2 59 yX2_turn, Cond.instanceMethod yX2_turn, Cond.selects RX2 yX2_turn yX2_turn, Cond.code yX2_turn cX2_turn 8 (some .long)]
def wsX3_corner : List Cond := .code yX3_corner cX3_corner 5 (some .int) :: ((wsX3_corner_r1 ++ (wsX3_corner_r2 ++ wsX3_corner_r3)) ++ wsX20 ++ wsX30)
def wsX3_remove : List Cond := .code yX3_remove cX3_remove 2 (some .int) :: ([.fieldLink RX3 11 "PlacePoints" "made" "[LPlacePoints$Shape;", .fieldLink RX3 19 "PlacePoints" "standingCount" "I", .methodLink RX3 63 yX3_standing, .instanceMethod yX3_standing, .selects RX3 yX3_standing yX3_standing, .initialized RX3, .code yX3_standing cX3_standing 2 (some (.object "PlacePoints$Shape")), .fieldLink RX3 15 "PlacePoints" "madeCount" "I"] ++ wsX30)
def wsX3_check : List Cond := .code yX3_check cX3_check 3 (some .int) :: ([.fieldLink RX3 86 "PlacePoints$Shape" "verdict" "I", .methodLink RX3 63 yX3_standing, .instanceMethod yX3_standing, .selects RX3 yX3_standing yX3_standing, .initialized RX3, .code yX3_standing cX3_standing 2 (some (.object "PlacePoints$Shape")), .fieldLink RX3 15 "PlacePoints" "madeCount" "I", .fieldLink RX3 11 "PlacePoints" "made" "[LPlacePoints$Shape;"] ++ wsX20 ++ wsX30)
def wsX3_right : List Cond := .code yX3_right cX3_right 3 (some (.object "PlacePoints$Shape")) :: ([.fieldLink RX3 86 "PlacePoints$Shape" "verdict" "I", .methodLink RX3 63 yX3_standing, .instanceMethod yX3_standing, .selects RX3 yX3_standing yX3_standing, .initialized RX3, .code yX3_standing cX3_standing 2 (some (.object "PlacePoints$Shape")), .fieldLink RX3 15 "PlacePoints" "madeCount" "I", .fieldLink RX3 11 "PlacePoints" "made" "[LPlacePoints$Shape;"] ++ wsX20 ++ wsX30)
def wsX3_inside_r1 : List Cond := [Cond.fieldLink RX3 77 "PlacePoints$Shape" "kind" "LPlacePoints$Kind;", Cond.fieldLink RX3 74 "PlacePoints$Kind" "POLYGON" "LPlacePoints$Kind;", Cond.methodLink RX3 89 yX3_right, Cond.instanceMethod yX3_right, Cond.selects RX3 yX3_right yX3_right, Cond.initialized RX3, Cond.code yX3_right cX3_right 3 (some (.object "PlacePoints$Shape")), Cond.fieldLink RX3 86 "PlacePoints$Shape" "verdict" "I", Cond.methodLink RX3 63 yX3_standing, Cond.instanceMethod yX3_standing, Cond.selects RX3 yX3_standing yX3_standing, Cond.code yX3_standing cX3_standing 2 (some (.object "PlacePoints$Shape")), Cond.fieldLink RX3 15 "PlacePoints" "madeCount" "I", Cond.fieldLink RX3 11 "PlacePoints" "made" "[LPlacePoints$Shape;", Cond.methodLink RX3 49 yX3_isPlace, Cond.static yX3_isPlace, Cond.code yX3_isPlace cX3_isPlace 2 (some .boolean), Cond.methodLink RX3 92 yX2_whereIs, Cond.instanceMethod yX2_whereIs, Cond.selects RX2 yX2_whereIs yX2_whereIs, Cond.initialized RX2, Cond.code yX2_whereIs cX2_whereIs 9 (some .int), Cond.fieldLink RX2 9 "PlacePoints$Shape" "size" "I", Cond.fieldLink RX2 39 "PlacePoints$Shape" "xs" "[I"]
def wsX3_inside_r2 : List Cond := [Cond.fieldLink RX2 43 "PlacePoints$Shape" "ys" "[I", Cond.methodLink RX2 59 yX2_turn, Cond.instanceMethod yX2_turn, Cond.selects RX2 yX2_turn yX2_turn, Cond.code yX2_turn cX2_turn 8 (some .long), Cond.methodLink RX2 63 yX2_overlap, Cond.static yX2_overlap, Cond.code yX2_overlap cX2_overlap 4 (some .boolean), Cond.methodLink RX2 52 Lib.Math.max.name, Cond.static Lib.Math.max.name, Cond.initialized "java/lang/Math", Cond.code Lib.Math.max.name Lib.Math.max.code 2 (some .int), Cond.methodLink RX2 46 Lib.Math.min.name, Cond.static Lib.Math.min.name, Cond.code Lib.Math.min.name Lib.Math.min.code 2 (some .int)]
def wsX3_inside : List Cond := .code yX3_inside cX3_inside 5 (some .int) :: ((wsX3_inside_r1 ++ wsX3_inside_r2) ++ wsX20 ++ wsX30)
def wsX3_meets_r1 : List Cond := [Cond.methodLink RX3 89 yX3_right, Cond.instanceMethod yX3_right, Cond.selects RX3 yX3_right yX3_right, Cond.initialized RX3, Cond.code yX3_right cX3_right 3 (some (.object "PlacePoints$Shape")), Cond.fieldLink RX3 86 "PlacePoints$Shape" "verdict" "I", Cond.methodLink RX3 63 yX3_standing, Cond.instanceMethod yX3_standing, Cond.selects RX3 yX3_standing yX3_standing, Cond.code yX3_standing cX3_standing 2 (some (.object "PlacePoints$Shape")), Cond.fieldLink RX3 15 "PlacePoints" "madeCount" "I", Cond.fieldLink RX3 11 "PlacePoints" "made" "[LPlacePoints$Shape;", Cond.methodLink RX3 96 yX2_touches, Cond.instanceMethod yX2_touches, Cond.selects RX2 yX2_touches yX2_touches, Cond.initialized RX2, Cond.code yX2_touches cX2_touches 4 (some .boolean), Cond.fieldLink RX2 39 "PlacePoints$Shape" "xs" "[I", Cond.fieldLink RX2 43 "PlacePoints$Shape" "ys" "[I", Cond.methodLink RX2 67 yX2_sideCount, Cond.instanceMethod yX2_sideCount, Cond.selects RX2 yX2_sideCount yX2_sideCount, Cond.code yX2_sideCount cX2_sideCount 1 (some .int), Cond.fieldLink RX2 30 "PlacePoints$Shape" "kind" "LPlacePoints$Kind;"]
def wsX3_meets_r2 : List Cond := [Cond.fieldLink RX2 109 "PlacePoints$Kind" "LINE" "LPlacePoints$Kind;", Cond.fieldLink RX2 9 "PlacePoints$Shape" "size" "I", Cond.methodLink RX2 70 yX2_sideTouches, Cond.instanceMethod yX2_sideTouches, Cond.selects RX2 yX2_sideTouches yX2_sideTouches, Cond.code yX2_sideTouches cX2_sideTouches 6 (some .boolean), Cond.methodLink RX2 63 yX2_overlap, Cond.static yX2_overlap, Cond.code yX2_overlap cX2_overlap 4 (some .boolean), Cond.methodLink RX2 52 Lib.Math.max.name, Cond.static Lib.Math.max.name, Cond.initialized "java/lang/Math", Cond.code Lib.Math.max.name Lib.Math.max.code 2 (some .int), Cond.methodLink RX2 46 Lib.Math.min.name, Cond.static Lib.Math.min.name, Cond.code Lib.Math.min.name Lib.Math.min.code 2 (some .int), Cond.methodLink RX2 59 yX2_turn, Cond.instanceMethod yX2_turn, Cond.selects RX2 yX2_turn yX2_turn, Cond.code yX2_turn cX2_turn 8 (some .long), Cond.methodLink RX2 74 yX2_holds, Cond.instanceMethod yX2_holds, Cond.selects RX2 yX2_holds yX2_holds, Cond.code yX2_holds cX2_holds 3 (some .boolean)]
def wsX3_meets_r3 : List Cond := [Cond.fieldLink RX2 103 "PlacePoints$Kind" "POLYGON" "LPlacePoints$Kind;", Cond.methodLink RX2 106 yX2_whereIs, Cond.instanceMethod yX2_whereIs, Cond.selects RX2 yX2_whereIs yX2_whereIs, Cond.code yX2_whereIs cX2_whereIs 9 (some .int)]
def wsX3_meets : List Cond := .code yX3_meets cX3_meets 5 (some .int) :: ((wsX3_meets_r1 ++ (wsX3_meets_r2 ++ wsX3_meets_r3)) ++ wsX20 ++ wsX30)
def wsX3_square_r1 : List Cond := [Cond.constantLong RX3 100 (-1), Cond.fieldLink RX3 35 "PlacePoints" "gap" "LPlacePoints$Fraction;", Cond.fieldLink RX3 109 "PlacePoints$Fraction" "upper" "J", Cond.fieldLink RX3 113 "PlacePoints$Fraction" "lower" "J", Cond.methodLink RX3 89 yX3_right, Cond.instanceMethod yX3_right, Cond.selects RX3 yX3_right yX3_right, Cond.initialized RX3, Cond.code yX3_right cX3_right 3 (some (.object "PlacePoints$Shape")), Cond.fieldLink RX3 86 "PlacePoints$Shape" "verdict" "I", Cond.methodLink RX3 63 yX3_standing, Cond.instanceMethod yX3_standing, Cond.selects RX3 yX3_standing yX3_standing, Cond.code yX3_standing cX3_standing 2 (some (.object "PlacePoints$Shape")), Cond.fieldLink RX3 15 "PlacePoints" "madeCount" "I", Cond.fieldLink RX3 11 "PlacePoints" "made" "[LPlacePoints$Shape;", Cond.methodLink RX3 102 yX2_measureTo, Cond.instanceMethod yX2_measureTo, Cond.selects RX2 yX2_measureTo yX2_measureTo, Cond.initialized RX2, Cond.code yX2_measureTo cX2_measureTo 3 none, Cond.fieldLink RX2 39 "PlacePoints$Shape" "xs" "[I", Cond.fieldLink RX2 43 "PlacePoints$Shape" "ys" "[I", Cond.methodLink RX2 78 yX2_touches]
def wsX3_square_r2 : List Cond := [Cond.instanceMethod yX2_touches, Cond.selects RX2 yX2_touches yX2_touches, Cond.code yX2_touches cX2_touches 4 (some .boolean), Cond.methodLink RX2 67 yX2_sideCount, Cond.instanceMethod yX2_sideCount, Cond.selects RX2 yX2_sideCount yX2_sideCount, Cond.code yX2_sideCount cX2_sideCount 1 (some .int), Cond.fieldLink RX2 30 "PlacePoints$Shape" "kind" "LPlacePoints$Kind;", Cond.fieldLink RX2 109 "PlacePoints$Kind" "LINE" "LPlacePoints$Kind;", Cond.fieldLink RX2 9 "PlacePoints$Shape" "size" "I", Cond.methodLink RX2 70 yX2_sideTouches, Cond.instanceMethod yX2_sideTouches, Cond.selects RX2 yX2_sideTouches yX2_sideTouches, Cond.code yX2_sideTouches cX2_sideTouches 6 (some .boolean), Cond.methodLink RX2 63 yX2_overlap, Cond.static yX2_overlap, Cond.code yX2_overlap cX2_overlap 4 (some .boolean), Cond.methodLink RX2 52 Lib.Math.max.name, Cond.static Lib.Math.max.name, Cond.initialized "java/lang/Math", Cond.code Lib.Math.max.name Lib.Math.max.code 2 (some .int), Cond.methodLink RX2 46 Lib.Math.min.name, Cond.static Lib.Math.min.name, Cond.code Lib.Math.min.name Lib.Math.min.code 2 (some .int)]
def wsX3_square_r3 : List Cond := [Cond.methodLink RX2 59 yX2_turn, Cond.instanceMethod yX2_turn, Cond.selects RX2 yX2_turn yX2_turn, Cond.code yX2_turn cX2_turn 8 (some .long), Cond.methodLink RX2 74 yX2_holds, Cond.instanceMethod yX2_holds, Cond.selects RX2 yX2_holds yX2_holds, Cond.code yX2_holds cX2_holds 3 (some .boolean), Cond.fieldLink RX2 103 "PlacePoints$Kind" "POLYGON" "LPlacePoints$Kind;", Cond.methodLink RX2 106 yX2_whereIs, Cond.instanceMethod yX2_whereIs, Cond.selects RX2 yX2_whereIs yX2_whereIs, Cond.code yX2_whereIs cX2_whereIs 9 (some .int), Cond.methodLink RX2 82 yX0_set, Cond.instanceMethod yX0_set, Cond.selects RX0 yX0_set yX0_set, Cond.initialized RX0, Cond.code yX0_set cX0_set 5 none, Cond.fieldLink RX0 7 "PlacePoints$Fraction" "upper" "J", Cond.fieldLink RX0 13 "PlacePoints$Fraction" "lower" "J", Cond.methodLink RX2 88 yX2_squareOf, Cond.static yX2_squareOf, Cond.code yX2_squareOf cX2_squareOf 4 (some .long), Cond.methodLink RX2 92 yX2_lessenByCorners]
def wsX3_square_r4 : List Cond := [Cond.instanceMethod yX2_lessenByCorners, Cond.selects RX2 yX2_lessenByCorners yX2_lessenByCorners, Cond.code yX2_lessenByCorners cX2_lessenByCorners 5 none, Cond.methodLink RX2 96 yX2_lessenBySide, Cond.instanceMethod yX2_lessenBySide, Cond.selects RX2 yX2_lessenBySide yX2_lessenBySide, Cond.code yX2_lessenBySide cX2_lessenBySide 15 none, Cond.methodLink RX2 100 yX0_lessen, Cond.instanceMethod yX0_lessen, Cond.selects RX0 yX0_lessen yX0_lessen, Cond.code yX0_lessen cX0_lessen 5 none, Cond.methodLink RX0 16 yX0_isAbove, Cond.static yX0_isAbove, Cond.code yX0_isAbove cX0_isAbove 12 (some .boolean), Cond.methodLink RX0 20 yX0_set, Cond.methodLink RX3 106 yX0_reduce, Cond.instanceMethod yX0_reduce, Cond.selects RX0 yX0_reduce yX0_reduce, Cond.code yX0_reduce cX0_reduce 3 none, Cond.methodLink RX0 24 yX0_greatestDivisor, Cond.static yX0_greatestDivisor, Cond.code yX0_greatestDivisor cX0_greatestDivisor 7 (some .long)]
def wsX3_square : List Cond := .code yX3_square cX3_square 6 (some .long) :: ((wsX3_square_r1 ++ (wsX3_square_r2 ++ (wsX3_square_r3 ++ wsX3_square_r4))) ++ wsX30 ++ wsX00 ++ wsX20)
def wsX3_isFarther : List Cond := .code yX3_isFarther cX3_isFarther 3 (some .boolean) :: ([.fieldLink RX3 39 "PlacePoints" "gapUppers" "[J", .fieldLink RX3 43 "PlacePoints" "gapLowers" "[J", .methodLink RX3 139 yX0_isAbove, .static yX0_isAbove, .initialized RX0, .code yX0_isAbove cX0_isAbove 12 (some .boolean)] ++ wsX30)
def wsX3_insertByGap : List Cond := .code yX3_insertByGap cX3_insertByGap 4 none :: ([.fieldLink RX3 46 "PlacePoints" "sortedNumbers" "[I", .methodLink RX3 136 yX3_isFarther, .instanceMethod yX3_isFarther, .selects RX3 yX3_isFarther yX3_isFarther, .initialized RX3, .code yX3_isFarther cX3_isFarther 3 (some .boolean), .fieldLink RX3 39 "PlacePoints" "gapUppers" "[J", .fieldLink RX3 43 "PlacePoints" "gapLowers" "[J", .methodLink RX3 139 yX0_isAbove, .static yX0_isAbove, .initialized RX0, .code yX0_isAbove cX0_isAbove 12 (some .boolean)] ++ wsX30)
def wsX3_sortByGapTo_r1 : List Cond := [Cond.classLink RX3 9 RX2, Cond.instantiable RX2 9, Cond.initialized RX2, Cond.fieldLink RX3 53 "PlacePoints$Kind" "POINT" "LPlacePoints$Kind;", Cond.fieldLink RX3 15 "PlacePoints" "madeCount" "I", Cond.fieldLink RX3 35 "PlacePoints" "gap" "LPlacePoints$Fraction;", Cond.fieldLink RX3 39 "PlacePoints" "gapUppers" "[J", Cond.fieldLink RX3 109 "PlacePoints$Fraction" "upper" "J", Cond.fieldLink RX3 43 "PlacePoints" "gapLowers" "[J", Cond.fieldLink RX3 113 "PlacePoints$Fraction" "lower" "J", Cond.methodLink RX3 130 yX2_init, Cond.instanceMethod yX2_init, Cond.code yX2_init cX2_init 2 none, Cond.methodLink RX2 3 objectInit, Cond.instanceMethod objectInit, Cond.code objectInit ⟨#[0xb1]⟩ 1 none, Cond.fieldLink RX2 9 "PlacePoints$Shape" "size" "I", Cond.fieldLink RX2 15 "PlacePoints$Shape" "verdict" "I", Cond.fieldLink RX2 18 "PlacePoints$Shape" "lowX" "I", Cond.fieldLink RX2 21 "PlacePoints$Shape" "lowY" "I", Cond.fieldLink RX2 24 "PlacePoints$Shape" "highX" "I", Cond.fieldLink RX2 27 "PlacePoints$Shape" "highY" "I", Cond.fieldLink RX2 30 "PlacePoints$Shape" "kind" "LPlacePoints$Kind;", Cond.fieldLink RX2 34 "PlacePoints$Kind" "most" "I"]
def wsX3_sortByGapTo_r2 : List Cond := [Cond.arrayClass .int, Cond.fieldLink RX2 39 "PlacePoints$Shape" "xs" "[I", Cond.fieldLink RX2 43 "PlacePoints$Shape" "ys" "[I", Cond.methodLink RX3 67 yX2_add, Cond.instanceMethod yX2_add, Cond.selects RX2 yX2_add yX2_add, Cond.code yX2_add cX2_add 3 none, Cond.methodLink RX2 46 Lib.Math.min.name, Cond.static Lib.Math.min.name, Cond.initialized "java/lang/Math", Cond.code Lib.Math.min.name Lib.Math.min.code 2 (some .int), Cond.methodLink RX2 52 Lib.Math.max.name, Cond.static Lib.Math.max.name, Cond.code Lib.Math.max.name Lib.Math.max.code 2 (some .int), Cond.methodLink RX2 55 yX2_judge, Cond.instanceMethod yX2_judge, Cond.selects RX2 yX2_judge yX2_judge, Cond.code yX2_judge cX2_judge 2 (some .int), Cond.fieldLink RX2 112 "PlacePoints$Kind" "least" "I", Cond.fieldLink RX2 115 "PlacePoints$Kind" "POINT" "LPlacePoints$Kind;", Cond.methodLink RX2 67 yX2_sideCount, Cond.instanceMethod yX2_sideCount, Cond.selects RX2 yX2_sideCount yX2_sideCount, Cond.code yX2_sideCount cX2_sideCount 1 (some .int)]
def wsX3_sortByGapTo_r3 : List Cond := [Cond.fieldLink RX2 109 "PlacePoints$Kind" "LINE" "LPlacePoints$Kind;", Cond.methodLink RX2 118 yX2_isWrongSide, Cond.instanceMethod yX2_isWrongSide, Cond.selects RX2 yX2_isWrongSide yX2_isWrongSide, Cond.code yX2_isWrongSide cX2_isWrongSide 3 (some .boolean), Cond.fieldLink RX2 103 "PlacePoints$Kind" "POLYGON" "LPlacePoints$Kind;", Cond.methodLink RX2 122 yX2_clash, Cond.instanceMethod yX2_clash, Cond.selects RX2 yX2_clash yX2_clash, Cond.code yX2_clash cX2_clash 3 (some .boolean), Cond.methodLink RX2 125 yX2_foldsBack, Cond.instanceMethod yX2_foldsBack, Cond.selects RX2 yX2_foldsBack yX2_foldsBack, Cond.code yX2_foldsBack cX2_foldsBack 11 (some .boolean), Cond.methodLink RX2 70 yX2_sideTouches, Cond.instanceMethod yX2_sideTouches, Cond.selects RX2 yX2_sideTouches yX2_sideTouches, Cond.code yX2_sideTouches cX2_sideTouches 6 (some .boolean), Cond.methodLink RX2 63 yX2_overlap, Cond.static yX2_overlap, Cond.code yX2_overlap cX2_overlap 4 (some .boolean), Cond.methodLink RX2 59 yX2_turn, Cond.instanceMethod yX2_turn, Cond.selects RX2 yX2_turn yX2_turn]
def wsX3_sortByGapTo_r4 : List Cond := [Cond.code yX2_turn cX2_turn 8 (some .long), Cond.methodLink RX3 89 yX3_right, Cond.instanceMethod yX3_right, Cond.selects RX3 yX3_right yX3_right, Cond.initialized RX3, Cond.code yX3_right cX3_right 3 (some (.object "PlacePoints$Shape")), Cond.fieldLink RX3 86 "PlacePoints$Shape" "verdict" "I", Cond.methodLink RX3 63 yX3_standing, Cond.instanceMethod yX3_standing, Cond.selects RX3 yX3_standing yX3_standing, Cond.code yX3_standing cX3_standing 2 (some (.object "PlacePoints$Shape")), Cond.fieldLink RX3 11 "PlacePoints" "made" "[LPlacePoints$Shape;", Cond.methodLink RX3 102 yX2_measureTo, Cond.instanceMethod yX2_measureTo, Cond.selects RX2 yX2_measureTo yX2_measureTo, Cond.code yX2_measureTo cX2_measureTo 3 none, Cond.methodLink RX2 78 yX2_touches, Cond.instanceMethod yX2_touches, Cond.selects RX2 yX2_touches yX2_touches, Cond.code yX2_touches cX2_touches 4 (some .boolean), Cond.methodLink RX2 74 yX2_holds, Cond.instanceMethod yX2_holds, Cond.selects RX2 yX2_holds yX2_holds, Cond.code yX2_holds cX2_holds 3 (some .boolean)]
def wsX3_sortByGapTo_r5 : List Cond := [Cond.methodLink RX2 106 yX2_whereIs, Cond.instanceMethod yX2_whereIs, Cond.selects RX2 yX2_whereIs yX2_whereIs, Cond.code yX2_whereIs cX2_whereIs 9 (some .int), Cond.methodLink RX2 82 yX0_set, Cond.instanceMethod yX0_set, Cond.selects RX0 yX0_set yX0_set, Cond.initialized RX0, Cond.code yX0_set cX0_set 5 none, Cond.fieldLink RX0 7 "PlacePoints$Fraction" "upper" "J", Cond.fieldLink RX0 13 "PlacePoints$Fraction" "lower" "J", Cond.methodLink RX2 88 yX2_squareOf, Cond.static yX2_squareOf, Cond.code yX2_squareOf cX2_squareOf 4 (some .long), Cond.methodLink RX2 92 yX2_lessenByCorners, Cond.instanceMethod yX2_lessenByCorners, Cond.selects RX2 yX2_lessenByCorners yX2_lessenByCorners, Cond.code yX2_lessenByCorners cX2_lessenByCorners 5 none, Cond.methodLink RX2 96 yX2_lessenBySide, Cond.instanceMethod yX2_lessenBySide, Cond.selects RX2 yX2_lessenBySide yX2_lessenBySide, Cond.code yX2_lessenBySide cX2_lessenBySide 15 none, Cond.methodLink RX2 100 yX0_lessen, Cond.instanceMethod yX0_lessen]
def wsX3_sortByGapTo_r6 : List Cond := [Cond.selects RX0 yX0_lessen yX0_lessen, Cond.code yX0_lessen cX0_lessen 5 none, Cond.methodLink RX0 16 yX0_isAbove, Cond.static yX0_isAbove, Cond.code yX0_isAbove cX0_isAbove 12 (some .boolean), Cond.methodLink RX0 20 yX0_set, Cond.methodLink RX3 133 yX3_insertByGap, Cond.instanceMethod yX3_insertByGap, Cond.selects RX3 yX3_insertByGap yX3_insertByGap, Cond.code yX3_insertByGap cX3_insertByGap 4 none, Cond.fieldLink RX3 46 "PlacePoints" "sortedNumbers" "[I", Cond.methodLink RX3 136 yX3_isFarther, Cond.instanceMethod yX3_isFarther, Cond.selects RX3 yX3_isFarther yX3_isFarther, Cond.code yX3_isFarther cX3_isFarther 3 (some .boolean), Cond.methodLink RX3 139 yX0_isAbove]
def wsX3_sortByGapTo : List Cond := .code yX3_sortByGapTo cX3_sortByGapTo 7 (some .int) :: ((wsX3_sortByGapTo_r1 ++ (wsX3_sortByGapTo_r2 ++ (wsX3_sortByGapTo_r3 ++ (wsX3_sortByGapTo_r4 ++ (wsX3_sortByGapTo_r5 ++ wsX3_sortByGapTo_r6))))) ++ wsX20 ++ wsX30 ++ wsX00)
def wsX3_near_r1 : List Cond := [Cond.fieldLink RX3 46 "PlacePoints" "sortedNumbers" "[I", Cond.methodLink RX3 49 yX3_isPlace, Cond.static yX3_isPlace, Cond.initialized RX3, Cond.code yX3_isPlace cX3_isPlace 2 (some .boolean), Cond.methodLink RX3 116 yX3_sortByGapTo, Cond.instanceMethod yX3_sortByGapTo, Cond.selects RX3 yX3_sortByGapTo yX3_sortByGapTo, Cond.code yX3_sortByGapTo cX3_sortByGapTo 7 (some .int), Cond.classLink RX3 9 RX2, Cond.instantiable RX2 9, Cond.initialized RX2, Cond.fieldLink RX3 53 "PlacePoints$Kind" "POINT" "LPlacePoints$Kind;", Cond.fieldLink RX3 15 "PlacePoints" "madeCount" "I", Cond.fieldLink RX3 35 "PlacePoints" "gap" "LPlacePoints$Fraction;", Cond.fieldLink RX3 39 "PlacePoints" "gapUppers" "[J", Cond.fieldLink RX3 109 "PlacePoints$Fraction" "upper" "J", Cond.fieldLink RX3 43 "PlacePoints" "gapLowers" "[J", Cond.fieldLink RX3 113 "PlacePoints$Fraction" "lower" "J", Cond.methodLink RX3 130 yX2_init, Cond.instanceMethod yX2_init, Cond.code yX2_init cX2_init 2 none, Cond.methodLink RX2 3 objectInit, Cond.instanceMethod objectInit]
def wsX3_near_r2 : List Cond := [Cond.code objectInit ⟨#[0xb1]⟩ 1 none, Cond.fieldLink RX2 9 "PlacePoints$Shape" "size" "I", Cond.fieldLink RX2 15 "PlacePoints$Shape" "verdict" "I", Cond.fieldLink RX2 18 "PlacePoints$Shape" "lowX" "I", Cond.fieldLink RX2 21 "PlacePoints$Shape" "lowY" "I", Cond.fieldLink RX2 24 "PlacePoints$Shape" "highX" "I", Cond.fieldLink RX2 27 "PlacePoints$Shape" "highY" "I", Cond.fieldLink RX2 30 "PlacePoints$Shape" "kind" "LPlacePoints$Kind;", Cond.fieldLink RX2 34 "PlacePoints$Kind" "most" "I", Cond.arrayClass .int, Cond.fieldLink RX2 39 "PlacePoints$Shape" "xs" "[I", Cond.fieldLink RX2 43 "PlacePoints$Shape" "ys" "[I", Cond.methodLink RX3 67 yX2_add, Cond.instanceMethod yX2_add, Cond.selects RX2 yX2_add yX2_add, Cond.code yX2_add cX2_add 3 none, Cond.methodLink RX2 46 Lib.Math.min.name, Cond.static Lib.Math.min.name, Cond.initialized "java/lang/Math", Cond.code Lib.Math.min.name Lib.Math.min.code 2 (some .int), Cond.methodLink RX2 52 Lib.Math.max.name, Cond.static Lib.Math.max.name, Cond.code Lib.Math.max.name Lib.Math.max.code 2 (some .int), Cond.methodLink RX2 55 yX2_judge]
def wsX3_near_r3 : List Cond := [Cond.instanceMethod yX2_judge, Cond.selects RX2 yX2_judge yX2_judge, Cond.code yX2_judge cX2_judge 2 (some .int), Cond.fieldLink RX2 112 "PlacePoints$Kind" "least" "I", Cond.fieldLink RX2 115 "PlacePoints$Kind" "POINT" "LPlacePoints$Kind;", Cond.methodLink RX2 67 yX2_sideCount, Cond.instanceMethod yX2_sideCount, Cond.selects RX2 yX2_sideCount yX2_sideCount, Cond.code yX2_sideCount cX2_sideCount 1 (some .int), Cond.fieldLink RX2 109 "PlacePoints$Kind" "LINE" "LPlacePoints$Kind;", Cond.methodLink RX2 118 yX2_isWrongSide, Cond.instanceMethod yX2_isWrongSide, Cond.selects RX2 yX2_isWrongSide yX2_isWrongSide, Cond.code yX2_isWrongSide cX2_isWrongSide 3 (some .boolean), Cond.fieldLink RX2 103 "PlacePoints$Kind" "POLYGON" "LPlacePoints$Kind;", Cond.methodLink RX2 122 yX2_clash, Cond.instanceMethod yX2_clash, Cond.selects RX2 yX2_clash yX2_clash, Cond.code yX2_clash cX2_clash 3 (some .boolean), Cond.methodLink RX2 125 yX2_foldsBack, Cond.instanceMethod yX2_foldsBack, Cond.selects RX2 yX2_foldsBack yX2_foldsBack, Cond.code yX2_foldsBack cX2_foldsBack 11 (some .boolean), Cond.methodLink RX2 70 yX2_sideTouches]
def wsX3_near_r4 : List Cond := [Cond.instanceMethod yX2_sideTouches, Cond.selects RX2 yX2_sideTouches yX2_sideTouches, Cond.code yX2_sideTouches cX2_sideTouches 6 (some .boolean), Cond.methodLink RX2 63 yX2_overlap, Cond.static yX2_overlap, Cond.code yX2_overlap cX2_overlap 4 (some .boolean), Cond.methodLink RX2 59 yX2_turn, Cond.instanceMethod yX2_turn, Cond.selects RX2 yX2_turn yX2_turn, Cond.code yX2_turn cX2_turn 8 (some .long), Cond.methodLink RX3 89 yX3_right, Cond.instanceMethod yX3_right, Cond.selects RX3 yX3_right yX3_right, Cond.code yX3_right cX3_right 3 (some (.object "PlacePoints$Shape")), Cond.fieldLink RX3 86 "PlacePoints$Shape" "verdict" "I", Cond.methodLink RX3 63 yX3_standing, Cond.instanceMethod yX3_standing, Cond.selects RX3 yX3_standing yX3_standing, Cond.code yX3_standing cX3_standing 2 (some (.object "PlacePoints$Shape")), Cond.fieldLink RX3 11 "PlacePoints" "made" "[LPlacePoints$Shape;", Cond.methodLink RX3 102 yX2_measureTo, Cond.instanceMethod yX2_measureTo, Cond.selects RX2 yX2_measureTo yX2_measureTo, Cond.code yX2_measureTo cX2_measureTo 3 none]
def wsX3_near_r5 : List Cond := [Cond.methodLink RX2 78 yX2_touches, Cond.instanceMethod yX2_touches, Cond.selects RX2 yX2_touches yX2_touches, Cond.code yX2_touches cX2_touches 4 (some .boolean), Cond.methodLink RX2 74 yX2_holds, Cond.instanceMethod yX2_holds, Cond.selects RX2 yX2_holds yX2_holds, Cond.code yX2_holds cX2_holds 3 (some .boolean), Cond.methodLink RX2 106 yX2_whereIs, Cond.instanceMethod yX2_whereIs, Cond.selects RX2 yX2_whereIs yX2_whereIs, Cond.code yX2_whereIs cX2_whereIs 9 (some .int), Cond.methodLink RX2 82 yX0_set, Cond.instanceMethod yX0_set, Cond.selects RX0 yX0_set yX0_set, Cond.initialized RX0, Cond.code yX0_set cX0_set 5 none, Cond.fieldLink RX0 7 "PlacePoints$Fraction" "upper" "J", Cond.fieldLink RX0 13 "PlacePoints$Fraction" "lower" "J", Cond.methodLink RX2 88 yX2_squareOf, Cond.static yX2_squareOf, Cond.code yX2_squareOf cX2_squareOf 4 (some .long), Cond.methodLink RX2 92 yX2_lessenByCorners, Cond.instanceMethod yX2_lessenByCorners]
def wsX3_near_r6 : List Cond := [Cond.selects RX2 yX2_lessenByCorners yX2_lessenByCorners, Cond.code yX2_lessenByCorners cX2_lessenByCorners 5 none, Cond.methodLink RX2 96 yX2_lessenBySide, Cond.instanceMethod yX2_lessenBySide, Cond.selects RX2 yX2_lessenBySide yX2_lessenBySide, Cond.code yX2_lessenBySide cX2_lessenBySide 15 none, Cond.methodLink RX2 100 yX0_lessen, Cond.instanceMethod yX0_lessen, Cond.selects RX0 yX0_lessen yX0_lessen, Cond.code yX0_lessen cX0_lessen 5 none, Cond.methodLink RX0 16 yX0_isAbove, Cond.static yX0_isAbove, Cond.code yX0_isAbove cX0_isAbove 12 (some .boolean), Cond.methodLink RX0 20 yX0_set, Cond.methodLink RX3 133 yX3_insertByGap, Cond.instanceMethod yX3_insertByGap, Cond.selects RX3 yX3_insertByGap yX3_insertByGap, Cond.code yX3_insertByGap cX3_insertByGap 4 none, Cond.methodLink RX3 136 yX3_isFarther, Cond.instanceMethod yX3_isFarther, Cond.selects RX3 yX3_isFarther yX3_isFarther, Cond.code yX3_isFarther cX3_isFarther 3 (some .boolean), Cond.methodLink RX3 139 yX0_isAbove]
def wsX3_near : List Cond := .code yX3_near cX3_near 5 (some .int) :: ((wsX3_near_r1 ++ (wsX3_near_r2 ++ (wsX3_near_r3 ++ (wsX3_near_r4 ++ (wsX3_near_r5 ++ wsX3_near_r6))))) ++ wsX30 ++ wsX20 ++ wsX00)
def wsX3_area : List Cond := .code yX3_area cX3_area 3 (some .long) :: ([.fieldLink RX3 77 "PlacePoints$Shape" "kind" "LPlacePoints$Kind;", .fieldLink RX3 74 "PlacePoints$Kind" "POLYGON" "LPlacePoints$Kind;", .methodLink RX3 89 yX3_right, .instanceMethod yX3_right, .selects RX3 yX3_right yX3_right, .initialized RX3, .code yX3_right cX3_right 3 (some (.object "PlacePoints$Shape")), .fieldLink RX3 86 "PlacePoints$Shape" "verdict" "I", .methodLink RX3 63 yX3_standing, .instanceMethod yX3_standing, .selects RX3 yX3_standing yX3_standing, .code yX3_standing cX3_standing 2 (some (.object "PlacePoints$Shape")), .fieldLink RX3 15 "PlacePoints" "madeCount" "I", .fieldLink RX3 11 "PlacePoints" "made" "[LPlacePoints$Shape;", .methodLink RX3 119 yX2_twiceEnclosed, .instanceMethod yX2_twiceEnclosed, .selects RX2 yX2_twiceEnclosed yX2_twiceEnclosed, .initialized RX2, .code yX2_twiceEnclosed cX2_twiceEnclosed 4 (some .long), .fieldLink RX2 9 "PlacePoints$Shape" "size" "I", .fieldLink RX2 39 "PlacePoints$Shape" "xs" "[I", .fieldLink RX2 43 "PlacePoints$Shape" "ys" "[I"] ++ wsX20 ++ wsX30)
def wsX3_boxed : List Cond := .code yX3_boxed cX3_boxed 7 (some .int) :: ([.fieldLink RX3 29 "PlacePoints" "boxedCount" "I", .fieldLink RX3 15 "PlacePoints" "madeCount" "I", .fieldLink RX3 25 "PlacePoints" "boxedNumbers" "[I", .methodLink RX3 89 yX3_right, .instanceMethod yX3_right, .selects RX3 yX3_right yX3_right, .initialized RX3, .code yX3_right cX3_right 3 (some (.object "PlacePoints$Shape")), .fieldLink RX3 86 "PlacePoints$Shape" "verdict" "I", .methodLink RX3 63 yX3_standing, .instanceMethod yX3_standing, .selects RX3 yX3_standing yX3_standing, .code yX3_standing cX3_standing 2 (some (.object "PlacePoints$Shape")), .fieldLink RX3 11 "PlacePoints" "made" "[LPlacePoints$Shape;", .methodLink RX3 123 yX2_boxMeets, .instanceMethod yX2_boxMeets, .selects RX2 yX2_boxMeets yX2_boxMeets, .initialized RX2, .code yX2_boxMeets cX2_boxMeets 5 (some .boolean), .fieldLink RX2 18 "PlacePoints$Shape" "lowX" "I", .fieldLink RX2 24 "PlacePoints$Shape" "highX" "I", .fieldLink RX2 21 "PlacePoints$Shape" "lowY" "I", .fieldLink RX2 27 "PlacePoints$Shape" "highY" "I"] ++ wsX30 ++ wsX20)
def wsX3_found : List Cond := .code yX3_found cX3_found 2 (some .int) :: ([.fieldLink RX3 29 "PlacePoints" "boxedCount" "I", .classLink RX3 127 RJx00060, .instantiable RJx00060 6, .initialized RJx00060, .fieldLink RX3 25 "PlacePoints" "boxedNumbers" "[I"] ++ wsX30 ++ wsJx000600)
def wsX3_shapes : List Cond := .code yX3_shapes cX3_shapes 1 (some .int) :: ([.fieldLink RX3 19 "PlacePoints" "standingCount" "I"] ++ wsX30)
def wsX4_thrown : List Cond := .code yX4_thrown cX4_thrown 1 (some .int) :: ([.fieldLink RX4 1 "PlacePointsModel" "thrown" "I"] ++ wsX40)
def wsX4_init : List Cond := .code yX4_init cX4_init 1 none :: ([.methodLink RX4 7 objectInit, .instanceMethod objectInit, .code objectInit ⟨#[0xb1]⟩ 1 none, .arrayClass .int, .fieldLink RX4 13 "PlacePointsModel" "kinds" "[I", .fieldLink RX4 17 "PlacePointsModel" "counts" "[I", .arrayClass .long, .fieldLink RX4 20 "PlacePointsModel" "xs" "[J", .fieldLink RX4 24 "PlacePointsModel" "ys" "[J", .fieldLink RX4 27 "PlacePointsModel" "found" "[I", .fieldLink RX4 30 "PlacePointsModel" "uppers" "[J", .fieldLink RX4 33 "PlacePointsModel" "lowers" "[J", .arrayClass .boolean, .fieldLink RX4 36 "PlacePointsModel" "taken" "[Z"] ++ wsX40)
def wsX4_isPlace : List Cond := .code yX4_isPlace cX4_isPlace 2 (some .boolean) :: ([])
def wsX4_begin : List Cond := .code yX4_begin cX4_begin 2 (some .int) :: ([.fieldLink RX4 40 "PlacePointsModel" "count" "I", .fieldLink RX4 13 "PlacePointsModel" "kinds" "[I", .fieldLink RX4 17 "PlacePointsModel" "counts" "[I"] ++ wsX40)
def wsX4_lay : List Cond := .code yX4_lay cX4_lay 5 none :: ([.fieldLink RX4 17 "PlacePointsModel" "counts" "[I", .fieldLink RX4 20 "PlacePointsModel" "xs" "[J", .fieldLink RX4 24 "PlacePointsModel" "ys" "[J", .fieldLink RX4 43 "PlacePointsModel" "corners" "I"] ++ wsX40)
def wsX4_point : List Cond := .code yX4_point cX4_point 4 (some .int) :: ([.fieldLink RX4 1 "PlacePointsModel" "thrown" "I", .fieldLink RX4 40 "PlacePointsModel" "count" "I", .fieldLink RX4 43 "PlacePointsModel" "corners" "I", .methodLink RX4 46 yX4_isPlace, .static yX4_isPlace, .initialized RX4, .code yX4_isPlace cX4_isPlace 2 (some .boolean), .methodLink RX4 50 yX4_begin, .instanceMethod yX4_begin, .selects RX4 yX4_begin yX4_begin, .code yX4_begin cX4_begin 2 (some .int), .fieldLink RX4 13 "PlacePointsModel" "kinds" "[I", .fieldLink RX4 17 "PlacePointsModel" "counts" "[I", .methodLink RX4 54 yX4_lay, .instanceMethod yX4_lay, .selects RX4 yX4_lay yX4_lay, .code yX4_lay cX4_lay 5 none, .fieldLink RX4 20 "PlacePointsModel" "xs" "[J", .fieldLink RX4 24 "PlacePointsModel" "ys" "[J"] ++ wsX40)
def wsX4_line : List Cond := .code yX4_line cX4_line 1 (some .int) :: ([.fieldLink RX4 1 "PlacePointsModel" "thrown" "I", .methodLink RX4 50 yX4_begin, .instanceMethod yX4_begin, .selects RX4 yX4_begin yX4_begin, .initialized RX4, .code yX4_begin cX4_begin 2 (some .int), .fieldLink RX4 40 "PlacePointsModel" "count" "I", .fieldLink RX4 13 "PlacePointsModel" "kinds" "[I", .fieldLink RX4 17 "PlacePointsModel" "counts" "[I"] ++ wsX40)
def wsX4_polygon : List Cond := .code yX4_polygon cX4_polygon 1 (some .int) :: ([.fieldLink RX4 1 "PlacePointsModel" "thrown" "I", .methodLink RX4 50 yX4_begin, .instanceMethod yX4_begin, .selects RX4 yX4_begin yX4_begin, .initialized RX4, .code yX4_begin cX4_begin 2 (some .int), .fieldLink RX4 40 "PlacePointsModel" "count" "I", .fieldLink RX4 13 "PlacePointsModel" "kinds" "[I", .fieldLink RX4 17 "PlacePointsModel" "counts" "[I"] ++ wsX40)
def wsX4_isShape : List Cond := .code yX4_isShape cX4_isShape 2 (some .boolean) :: ([.fieldLink RX4 40 "PlacePointsModel" "count" "I", .fieldLink RX4 13 "PlacePointsModel" "kinds" "[I"] ++ wsX40)
def wsX4_corner : List Cond := .code yX4_corner cX4_corner 4 (some .int) :: ([.fieldLink RX4 1 "PlacePointsModel" "thrown" "I", .fieldLink RX4 13 "PlacePointsModel" "kinds" "[I", .fieldLink RX4 17 "PlacePointsModel" "counts" "[I", .fieldLink RX4 43 "PlacePointsModel" "corners" "I", .methodLink RX4 58 yX4_isShape, .instanceMethod yX4_isShape, .selects RX4 yX4_isShape yX4_isShape, .initialized RX4, .code yX4_isShape cX4_isShape 2 (some .boolean), .fieldLink RX4 40 "PlacePointsModel" "count" "I", .methodLink RX4 46 yX4_isPlace, .static yX4_isPlace, .code yX4_isPlace cX4_isPlace 2 (some .boolean), .methodLink RX4 54 yX4_lay, .instanceMethod yX4_lay, .selects RX4 yX4_lay yX4_lay, .code yX4_lay cX4_lay 5 none, .fieldLink RX4 20 "PlacePointsModel" "xs" "[J", .fieldLink RX4 24 "PlacePointsModel" "ys" "[J"] ++ wsX40)
def wsX4_remove : List Cond := .code yX4_remove cX4_remove 2 (some .int) :: ([.fieldLink RX4 1 "PlacePointsModel" "thrown" "I", .fieldLink RX4 13 "PlacePointsModel" "kinds" "[I", .fieldLink RX4 62 "PlacePointsModel" "gone" "I", .methodLink RX4 58 yX4_isShape, .instanceMethod yX4_isShape, .selects RX4 yX4_isShape yX4_isShape, .initialized RX4, .code yX4_isShape cX4_isShape 2 (some .boolean), .fieldLink RX4 40 "PlacePointsModel" "count" "I"] ++ wsX40)
def wsX4_shapes : List Cond := .code yX4_shapes cX4_shapes 1 (some .int) :: ([.fieldLink RX4 1 "PlacePointsModel" "thrown" "I", .fieldLink RX4 40 "PlacePointsModel" "count" "I", .fieldLink RX4 62 "PlacePointsModel" "gone" "I"] ++ wsX40)
def wsX4_cross : List Cond := .code yX4_cross cX4_cross 8 (some .long) :: ([])
def wsX4_hand : List Cond := .code yX4_hand cX4_hand 14 (some .int) :: ([.methodLink RX4 65 yX4_cross, .static yX4_cross, .initialized RX4, .code yX4_cross cX4_cross 8 (some .long)])
def wsX4_isBetween : List Cond := .code yX4_isBetween cX4_isBetween 6 (some .boolean) :: ([])
def wsX4_isOn : List Cond := .code yX4_isOn cX4_isOn 12 (some .boolean) :: ([.methodLink RX4 69 yX4_hand, .static yX4_hand, .initialized RX4, .code yX4_hand cX4_hand 14 (some .int), .methodLink RX4 65 yX4_cross, .static yX4_cross, .code yX4_cross cX4_cross 8 (some .long), .methodLink RX4 73 yX4_isBetween, .static yX4_isBetween, .code yX4_isBetween cX4_isBetween 6 (some .boolean)])
def wsX4_sides : List Cond := .code yX4_sides cX4_sides 2 (some .int) :: ([.fieldLink RX4 13 "PlacePointsModel" "kinds" "[I", .fieldLink RX4 17 "PlacePointsModel" "counts" "[I"] ++ wsX40)
def wsX4_from : List Cond := .code yX4_from cX4_from 3 (some .int) :: ([])
def wsX4_to : List Cond := .code yX4_to cX4_to 3 (some .int) :: ([.fieldLink RX4 13 "PlacePointsModel" "kinds" "[I", .fieldLink RX4 17 "PlacePointsModel" "counts" "[I"] ++ wsX40)
def wsX4_cut : List Cond := .code yX4_cut cX4_cut 7 (some .boolean) :: ([.fieldLink RX4 20 "PlacePointsModel" "xs" "[J", .fieldLink RX4 24 "PlacePointsModel" "ys" "[J", .methodLink RX4 77 yX4_isOn, .static yX4_isOn, .initialized RX4, .code yX4_isOn cX4_isOn 12 (some .boolean), .methodLink RX4 69 yX4_hand, .static yX4_hand, .code yX4_hand cX4_hand 14 (some .int), .methodLink RX4 65 yX4_cross, .static yX4_cross, .code yX4_cross cX4_cross 8 (some .long), .methodLink RX4 73 yX4_isBetween, .static yX4_isBetween, .code yX4_isBetween cX4_isBetween 6 (some .boolean)] ++ wsX40)
def wsX4_folds : List Cond := .code yX4_folds cX4_folds 12 (some .boolean) :: ([.fieldLink RX4 20 "PlacePointsModel" "xs" "[J", .fieldLink RX4 24 "PlacePointsModel" "ys" "[J", .methodLink RX4 65 yX4_cross, .static yX4_cross, .initialized RX4, .code yX4_cross cX4_cross 8 (some .long)] ++ wsX40)
def wsX4_isWrong_r1 : List Cond := [Cond.fieldLink RX4 20 "PlacePointsModel" "xs" "[J", Cond.fieldLink RX4 24 "PlacePointsModel" "ys" "[J", Cond.fieldLink RX4 13 "PlacePointsModel" "kinds" "[I", Cond.fieldLink RX4 17 "PlacePointsModel" "counts" "[I", Cond.methodLink RX4 81 yX4_from, Cond.instanceMethod yX4_from, Cond.selects RX4 yX4_from yX4_from, Cond.initialized RX4, Cond.code yX4_from cX4_from 3 (some .int), Cond.methodLink RX4 85 yX4_to, Cond.instanceMethod yX4_to, Cond.selects RX4 yX4_to yX4_to, Cond.code yX4_to cX4_to 3 (some .int), Cond.methodLink RX4 88 yX4_folds, Cond.instanceMethod yX4_folds, Cond.selects RX4 yX4_folds yX4_folds, Cond.code yX4_folds cX4_folds 12 (some .boolean), Cond.methodLink RX4 65 yX4_cross, Cond.static yX4_cross, Cond.code yX4_cross cX4_cross 8 (some .long), Cond.methodLink RX4 92 yX4_cut, Cond.instanceMethod yX4_cut, Cond.selects RX4 yX4_cut yX4_cut, Cond.code yX4_cut cX4_cut 7 (some .boolean)]
def wsX4_isWrong_r2 : List Cond := [Cond.methodLink RX4 77 yX4_isOn, Cond.static yX4_isOn, Cond.code yX4_isOn cX4_isOn 12 (some .boolean), Cond.methodLink RX4 69 yX4_hand, Cond.static yX4_hand, Cond.code yX4_hand cX4_hand 14 (some .int), Cond.methodLink RX4 73 yX4_isBetween, Cond.static yX4_isBetween, Cond.code yX4_isBetween cX4_isBetween 6 (some .boolean)]
def wsX4_isWrong : List Cond := .code yX4_isWrong cX4_isWrong 10 (some .boolean) :: ((wsX4_isWrong_r1 ++ wsX4_isWrong_r2) ++ wsX40)
def wsX4_check_r1 : List Cond := [Cond.fieldLink RX4 1 "PlacePointsModel" "thrown" "I", Cond.fieldLink RX4 13 "PlacePointsModel" "kinds" "[I", Cond.fieldLink RX4 17 "PlacePointsModel" "counts" "[I", Cond.methodLink RX4 58 yX4_isShape, Cond.instanceMethod yX4_isShape, Cond.selects RX4 yX4_isShape yX4_isShape, Cond.initialized RX4, Cond.code yX4_isShape cX4_isShape 2 (some .boolean), Cond.fieldLink RX4 40 "PlacePointsModel" "count" "I", Cond.methodLink RX4 96 yX4_sides, Cond.instanceMethod yX4_sides, Cond.selects RX4 yX4_sides yX4_sides, Cond.code yX4_sides cX4_sides 2 (some .int), Cond.methodLink RX4 99 yX4_isWrong, Cond.instanceMethod yX4_isWrong, Cond.selects RX4 yX4_isWrong yX4_isWrong, Cond.code yX4_isWrong cX4_isWrong 10 (some .boolean), Cond.fieldLink RX4 20 "PlacePointsModel" "xs" "[J", Cond.fieldLink RX4 24 "PlacePointsModel" "ys" "[J", Cond.methodLink RX4 81 yX4_from, Cond.instanceMethod yX4_from, Cond.selects RX4 yX4_from yX4_from, Cond.code yX4_from cX4_from 3 (some .int), Cond.methodLink RX4 85 yX4_to]
def wsX4_check_r2 : List Cond := [Cond.instanceMethod yX4_to, Cond.selects RX4 yX4_to yX4_to, Cond.code yX4_to cX4_to 3 (some .int), Cond.methodLink RX4 88 yX4_folds, Cond.instanceMethod yX4_folds, Cond.selects RX4 yX4_folds yX4_folds, Cond.code yX4_folds cX4_folds 12 (some .boolean), Cond.methodLink RX4 65 yX4_cross, Cond.static yX4_cross, Cond.code yX4_cross cX4_cross 8 (some .long), Cond.methodLink RX4 92 yX4_cut, Cond.instanceMethod yX4_cut, Cond.selects RX4 yX4_cut yX4_cut, Cond.code yX4_cut cX4_cut 7 (some .boolean), Cond.methodLink RX4 77 yX4_isOn, Cond.static yX4_isOn, Cond.code yX4_isOn cX4_isOn 12 (some .boolean), Cond.methodLink RX4 69 yX4_hand, Cond.static yX4_hand, Cond.code yX4_hand cX4_hand 14 (some .int), Cond.methodLink RX4 73 yX4_isBetween, Cond.static yX4_isBetween, Cond.code yX4_isBetween cX4_isBetween 6 (some .boolean)]
def wsX4_check : List Cond := .code yX4_check cX4_check 3 (some .int) :: ((wsX4_check_r1 ++ wsX4_check_r2) ++ wsX40)
def wsX4_isRight_r1 : List Cond := [Cond.methodLink RX4 58 yX4_isShape, Cond.instanceMethod yX4_isShape, Cond.selects RX4 yX4_isShape yX4_isShape, Cond.initialized RX4, Cond.code yX4_isShape cX4_isShape 2 (some .boolean), Cond.fieldLink RX4 40 "PlacePointsModel" "count" "I", Cond.fieldLink RX4 13 "PlacePointsModel" "kinds" "[I", Cond.methodLink RX4 102 yX4_check, Cond.instanceMethod yX4_check, Cond.selects RX4 yX4_check yX4_check, Cond.code yX4_check cX4_check 3 (some .int), Cond.fieldLink RX4 1 "PlacePointsModel" "thrown" "I", Cond.fieldLink RX4 17 "PlacePointsModel" "counts" "[I", Cond.methodLink RX4 96 yX4_sides, Cond.instanceMethod yX4_sides, Cond.selects RX4 yX4_sides yX4_sides, Cond.code yX4_sides cX4_sides 2 (some .int), Cond.methodLink RX4 99 yX4_isWrong, Cond.instanceMethod yX4_isWrong, Cond.selects RX4 yX4_isWrong yX4_isWrong, Cond.code yX4_isWrong cX4_isWrong 10 (some .boolean), Cond.fieldLink RX4 20 "PlacePointsModel" "xs" "[J", Cond.fieldLink RX4 24 "PlacePointsModel" "ys" "[J", Cond.methodLink RX4 81 yX4_from]
def wsX4_isRight_r2 : List Cond := [Cond.instanceMethod yX4_from, Cond.selects RX4 yX4_from yX4_from, Cond.code yX4_from cX4_from 3 (some .int), Cond.methodLink RX4 85 yX4_to, Cond.instanceMethod yX4_to, Cond.selects RX4 yX4_to yX4_to, Cond.code yX4_to cX4_to 3 (some .int), Cond.methodLink RX4 88 yX4_folds, Cond.instanceMethod yX4_folds, Cond.selects RX4 yX4_folds yX4_folds, Cond.code yX4_folds cX4_folds 12 (some .boolean), Cond.methodLink RX4 65 yX4_cross, Cond.static yX4_cross, Cond.code yX4_cross cX4_cross 8 (some .long), Cond.methodLink RX4 92 yX4_cut, Cond.instanceMethod yX4_cut, Cond.selects RX4 yX4_cut yX4_cut, Cond.code yX4_cut cX4_cut 7 (some .boolean), Cond.methodLink RX4 77 yX4_isOn, Cond.static yX4_isOn, Cond.code yX4_isOn cX4_isOn 12 (some .boolean), Cond.methodLink RX4 69 yX4_hand, Cond.static yX4_hand, Cond.code yX4_hand cX4_hand 14 (some .int)]
def wsX4_isRight_r3 : List Cond := [Cond.methodLink RX4 73 yX4_isBetween, Cond.static yX4_isBetween, Cond.code yX4_isBetween cX4_isBetween 6 (some .boolean)]
def wsX4_isRight : List Cond := .code yX4_isRight cX4_isRight 2 (some .boolean) :: ((wsX4_isRight_r1 ++ (wsX4_isRight_r2 ++ wsX4_isRight_r3)) ++ wsX40)
def wsX4_stands_r1 : List Cond := [Cond.fieldLink RX4 17 "PlacePointsModel" "counts" "[I", Cond.fieldLink RX4 20 "PlacePointsModel" "xs" "[J", Cond.fieldLink RX4 24 "PlacePointsModel" "ys" "[J", Cond.methodLink RX4 81 yX4_from, Cond.instanceMethod yX4_from, Cond.selects RX4 yX4_from yX4_from, Cond.initialized RX4, Cond.code yX4_from cX4_from 3 (some .int), Cond.methodLink RX4 85 yX4_to, Cond.instanceMethod yX4_to, Cond.selects RX4 yX4_to yX4_to, Cond.code yX4_to cX4_to 3 (some .int), Cond.fieldLink RX4 13 "PlacePointsModel" "kinds" "[I", Cond.methodLink RX4 77 yX4_isOn, Cond.static yX4_isOn, Cond.code yX4_isOn cX4_isOn 12 (some .boolean), Cond.methodLink RX4 69 yX4_hand, Cond.static yX4_hand, Cond.code yX4_hand cX4_hand 14 (some .int), Cond.methodLink RX4 65 yX4_cross, Cond.static yX4_cross, Cond.code yX4_cross cX4_cross 8 (some .long), Cond.methodLink RX4 73 yX4_isBetween, Cond.static yX4_isBetween]
def wsX4_stands_r2 : List Cond := [Cond.code yX4_isBetween cX4_isBetween 6 (some .boolean)]
def wsX4_stands : List Cond := .code yX4_stands cX4_stands 12 (some .int) :: ((wsX4_stands_r1 ++ wsX4_stands_r2) ++ wsX40)
def wsX4_inside_r1 : List Cond := [Cond.fieldLink RX4 1 "PlacePointsModel" "thrown" "I", Cond.fieldLink RX4 13 "PlacePointsModel" "kinds" "[I", Cond.methodLink RX4 46 yX4_isPlace, Cond.static yX4_isPlace, Cond.initialized RX4, Cond.code yX4_isPlace cX4_isPlace 2 (some .boolean), Cond.methodLink RX4 105 yX4_isRight, Cond.instanceMethod yX4_isRight, Cond.selects RX4 yX4_isRight yX4_isRight, Cond.code yX4_isRight cX4_isRight 2 (some .boolean), Cond.methodLink RX4 58 yX4_isShape, Cond.instanceMethod yX4_isShape, Cond.selects RX4 yX4_isShape yX4_isShape, Cond.code yX4_isShape cX4_isShape 2 (some .boolean), Cond.fieldLink RX4 40 "PlacePointsModel" "count" "I", Cond.methodLink RX4 102 yX4_check, Cond.instanceMethod yX4_check, Cond.selects RX4 yX4_check yX4_check, Cond.code yX4_check cX4_check 3 (some .int), Cond.fieldLink RX4 17 "PlacePointsModel" "counts" "[I", Cond.methodLink RX4 96 yX4_sides, Cond.instanceMethod yX4_sides, Cond.selects RX4 yX4_sides yX4_sides, Cond.code yX4_sides cX4_sides 2 (some .int)]
def wsX4_inside_r2 : List Cond := [Cond.methodLink RX4 99 yX4_isWrong, Cond.instanceMethod yX4_isWrong, Cond.selects RX4 yX4_isWrong yX4_isWrong, Cond.code yX4_isWrong cX4_isWrong 10 (some .boolean), Cond.fieldLink RX4 20 "PlacePointsModel" "xs" "[J", Cond.fieldLink RX4 24 "PlacePointsModel" "ys" "[J", Cond.methodLink RX4 81 yX4_from, Cond.instanceMethod yX4_from, Cond.selects RX4 yX4_from yX4_from, Cond.code yX4_from cX4_from 3 (some .int), Cond.methodLink RX4 85 yX4_to, Cond.instanceMethod yX4_to, Cond.selects RX4 yX4_to yX4_to, Cond.code yX4_to cX4_to 3 (some .int), Cond.methodLink RX4 88 yX4_folds, Cond.instanceMethod yX4_folds, Cond.selects RX4 yX4_folds yX4_folds, Cond.code yX4_folds cX4_folds 12 (some .boolean), Cond.methodLink RX4 65 yX4_cross, Cond.static yX4_cross, Cond.code yX4_cross cX4_cross 8 (some .long), Cond.methodLink RX4 92 yX4_cut, Cond.instanceMethod yX4_cut, Cond.selects RX4 yX4_cut yX4_cut]
def wsX4_inside_r3 : List Cond := [Cond.code yX4_cut cX4_cut 7 (some .boolean), Cond.methodLink RX4 77 yX4_isOn, Cond.static yX4_isOn, Cond.code yX4_isOn cX4_isOn 12 (some .boolean), Cond.methodLink RX4 69 yX4_hand, Cond.static yX4_hand, Cond.code yX4_hand cX4_hand 14 (some .int), Cond.methodLink RX4 73 yX4_isBetween, Cond.static yX4_isBetween, Cond.code yX4_isBetween cX4_isBetween 6 (some .boolean), Cond.methodLink RX4 108 yX4_stands, Cond.instanceMethod yX4_stands, Cond.selects RX4 yX4_stands yX4_stands, Cond.code yX4_stands cX4_stands 12 (some .int)]
def wsX4_inside : List Cond := .code yX4_inside cX4_inside 4 (some .int) :: ((wsX4_inside_r1 ++ (wsX4_inside_r2 ++ wsX4_inside_r3)) ++ wsX40)
def wsX4_have_r1 : List Cond := [Cond.fieldLink RX4 13 "PlacePointsModel" "kinds" "[I", Cond.fieldLink RX4 20 "PlacePointsModel" "xs" "[J", Cond.fieldLink RX4 24 "PlacePointsModel" "ys" "[J", Cond.methodLink RX4 96 yX4_sides, Cond.instanceMethod yX4_sides, Cond.selects RX4 yX4_sides yX4_sides, Cond.initialized RX4, Cond.code yX4_sides cX4_sides 2 (some .int), Cond.fieldLink RX4 17 "PlacePointsModel" "counts" "[I", Cond.methodLink RX4 81 yX4_from, Cond.instanceMethod yX4_from, Cond.selects RX4 yX4_from yX4_from, Cond.code yX4_from cX4_from 3 (some .int), Cond.methodLink RX4 85 yX4_to, Cond.instanceMethod yX4_to, Cond.selects RX4 yX4_to yX4_to, Cond.code yX4_to cX4_to 3 (some .int), Cond.methodLink RX4 92 yX4_cut, Cond.instanceMethod yX4_cut, Cond.selects RX4 yX4_cut yX4_cut, Cond.code yX4_cut cX4_cut 7 (some .boolean), Cond.methodLink RX4 77 yX4_isOn, Cond.static yX4_isOn, Cond.code yX4_isOn cX4_isOn 12 (some .boolean)]
def wsX4_have_r2 : List Cond := [Cond.methodLink RX4 69 yX4_hand, Cond.static yX4_hand, Cond.code yX4_hand cX4_hand 14 (some .int), Cond.methodLink RX4 65 yX4_cross, Cond.static yX4_cross, Cond.code yX4_cross cX4_cross 8 (some .long), Cond.methodLink RX4 73 yX4_isBetween, Cond.static yX4_isBetween, Cond.code yX4_isBetween cX4_isBetween 6 (some .boolean), Cond.methodLink RX4 108 yX4_stands, Cond.instanceMethod yX4_stands, Cond.selects RX4 yX4_stands yX4_stands, Cond.code yX4_stands cX4_stands 12 (some .int)]
def wsX4_have : List Cond := .code yX4_have cX4_have 5 (some .boolean) :: ((wsX4_have_r1 ++ wsX4_have_r2) ++ wsX40)
def wsX4_meets_r1 : List Cond := [Cond.fieldLink RX4 1 "PlacePointsModel" "thrown" "I", Cond.methodLink RX4 105 yX4_isRight, Cond.instanceMethod yX4_isRight, Cond.selects RX4 yX4_isRight yX4_isRight, Cond.initialized RX4, Cond.code yX4_isRight cX4_isRight 2 (some .boolean), Cond.methodLink RX4 58 yX4_isShape, Cond.instanceMethod yX4_isShape, Cond.selects RX4 yX4_isShape yX4_isShape, Cond.code yX4_isShape cX4_isShape 2 (some .boolean), Cond.fieldLink RX4 40 "PlacePointsModel" "count" "I", Cond.fieldLink RX4 13 "PlacePointsModel" "kinds" "[I", Cond.methodLink RX4 102 yX4_check, Cond.instanceMethod yX4_check, Cond.selects RX4 yX4_check yX4_check, Cond.code yX4_check cX4_check 3 (some .int), Cond.fieldLink RX4 17 "PlacePointsModel" "counts" "[I", Cond.methodLink RX4 96 yX4_sides, Cond.instanceMethod yX4_sides, Cond.selects RX4 yX4_sides yX4_sides, Cond.code yX4_sides cX4_sides 2 (some .int), Cond.methodLink RX4 99 yX4_isWrong, Cond.instanceMethod yX4_isWrong, Cond.selects RX4 yX4_isWrong yX4_isWrong]
def wsX4_meets_r2 : List Cond := [Cond.code yX4_isWrong cX4_isWrong 10 (some .boolean), Cond.fieldLink RX4 20 "PlacePointsModel" "xs" "[J", Cond.fieldLink RX4 24 "PlacePointsModel" "ys" "[J", Cond.methodLink RX4 81 yX4_from, Cond.instanceMethod yX4_from, Cond.selects RX4 yX4_from yX4_from, Cond.code yX4_from cX4_from 3 (some .int), Cond.methodLink RX4 85 yX4_to, Cond.instanceMethod yX4_to, Cond.selects RX4 yX4_to yX4_to, Cond.code yX4_to cX4_to 3 (some .int), Cond.methodLink RX4 88 yX4_folds, Cond.instanceMethod yX4_folds, Cond.selects RX4 yX4_folds yX4_folds, Cond.code yX4_folds cX4_folds 12 (some .boolean), Cond.methodLink RX4 65 yX4_cross, Cond.static yX4_cross, Cond.code yX4_cross cX4_cross 8 (some .long), Cond.methodLink RX4 92 yX4_cut, Cond.instanceMethod yX4_cut, Cond.selects RX4 yX4_cut yX4_cut, Cond.code yX4_cut cX4_cut 7 (some .boolean), Cond.methodLink RX4 77 yX4_isOn, Cond.static yX4_isOn]
def wsX4_meets_r3 : List Cond := [Cond.code yX4_isOn cX4_isOn 12 (some .boolean), Cond.methodLink RX4 69 yX4_hand, Cond.static yX4_hand, Cond.code yX4_hand cX4_hand 14 (some .int), Cond.methodLink RX4 73 yX4_isBetween, Cond.static yX4_isBetween, Cond.code yX4_isBetween cX4_isBetween 6 (some .boolean), Cond.methodLink RX4 112 yX4_have, Cond.instanceMethod yX4_have, Cond.selects RX4 yX4_have yX4_have, Cond.code yX4_have cX4_have 5 (some .boolean), Cond.methodLink RX4 108 yX4_stands, Cond.instanceMethod yX4_stands, Cond.selects RX4 yX4_stands yX4_stands, Cond.code yX4_stands cX4_stands 12 (some .int)]
def wsX4_meets : List Cond := .code yX4_meets cX4_meets 3 (some .int) :: ((wsX4_meets_r1 ++ (wsX4_meets_r2 ++ wsX4_meets_r3)) ++ wsX40)
def wsX4_divisor : List Cond := .code yX4_divisor cX4_divisor 10 (some .long) :: ([])
def wsX4_isLess : List Cond := .code yX4_isLess cX4_isLess 21 (some .boolean) :: ([])
def wsX4_weigh : List Cond := .code yX4_weigh cX4_weigh 5 none :: ([.fieldLink RX4 115 "PlacePointsModel" "lower" "J", .fieldLink RX4 119 "PlacePointsModel" "upper" "J", .methodLink RX4 122 yX4_isLess, .static yX4_isLess, .initialized RX4, .code yX4_isLess cX4_isLess 21 (some .boolean)] ++ wsX40)
def wsX4_weighSide : List Cond := .code yX4_weighSide cX4_weighSide 23 none :: ([.fieldLink RX4 20 "PlacePointsModel" "xs" "[J", .fieldLink RX4 24 "PlacePointsModel" "ys" "[J", .methodLink RX4 126 yX4_weigh, .instanceMethod yX4_weigh, .selects RX4 yX4_weigh yX4_weigh, .initialized RX4, .code yX4_weigh cX4_weigh 5 none, .fieldLink RX4 115 "PlacePointsModel" "lower" "J", .fieldLink RX4 119 "PlacePointsModel" "upper" "J", .methodLink RX4 122 yX4_isLess, .static yX4_isLess, .code yX4_isLess cX4_isLess 21 (some .boolean), .methodLink RX4 65 yX4_cross, .static yX4_cross, .code yX4_cross cX4_cross 8 (some .long), .methodLink RX4 130 yX4_divisor, .static yX4_divisor, .code yX4_divisor cX4_divisor 10 (some .long)] ++ wsX40)
def wsX4_weighCorners_r1 : List Cond := [Cond.fieldLink RX4 17 "PlacePointsModel" "counts" "[I", Cond.fieldLink RX4 20 "PlacePointsModel" "xs" "[J", Cond.fieldLink RX4 24 "PlacePointsModel" "ys" "[J", Cond.methodLink RX4 96 yX4_sides, Cond.instanceMethod yX4_sides, Cond.selects RX4 yX4_sides yX4_sides, Cond.initialized RX4, Cond.code yX4_sides cX4_sides 2 (some .int), Cond.fieldLink RX4 13 "PlacePointsModel" "kinds" "[I", Cond.methodLink RX4 81 yX4_from, Cond.instanceMethod yX4_from, Cond.selects RX4 yX4_from yX4_from, Cond.code yX4_from cX4_from 3 (some .int), Cond.methodLink RX4 85 yX4_to, Cond.instanceMethod yX4_to, Cond.selects RX4 yX4_to yX4_to, Cond.code yX4_to cX4_to 3 (some .int), Cond.methodLink RX4 134 yX4_weighSide, Cond.instanceMethod yX4_weighSide, Cond.selects RX4 yX4_weighSide yX4_weighSide, Cond.code yX4_weighSide cX4_weighSide 23 none, Cond.methodLink RX4 126 yX4_weigh, Cond.instanceMethod yX4_weigh, Cond.selects RX4 yX4_weigh yX4_weigh]
def wsX4_weighCorners_r2 : List Cond := [Cond.code yX4_weigh cX4_weigh 5 none, Cond.fieldLink RX4 115 "PlacePointsModel" "lower" "J", Cond.fieldLink RX4 119 "PlacePointsModel" "upper" "J", Cond.methodLink RX4 122 yX4_isLess, Cond.static yX4_isLess, Cond.code yX4_isLess cX4_isLess 21 (some .boolean), Cond.methodLink RX4 65 yX4_cross, Cond.static yX4_cross, Cond.code yX4_cross cX4_cross 8 (some .long), Cond.methodLink RX4 130 yX4_divisor, Cond.static yX4_divisor, Cond.code yX4_divisor cX4_divisor 10 (some .long)]
def wsX4_weighCorners : List Cond := .code yX4_weighCorners cX4_weighCorners 5 none :: ((wsX4_weighCorners_r1 ++ wsX4_weighCorners_r2) ++ wsX40)
def wsX4_least_r1 : List Cond := [Cond.fieldLink RX4 119 "PlacePointsModel" "upper" "J", Cond.fieldLink RX4 115 "PlacePointsModel" "lower" "J", Cond.methodLink RX4 112 yX4_have, Cond.instanceMethod yX4_have, Cond.selects RX4 yX4_have yX4_have, Cond.initialized RX4, Cond.code yX4_have cX4_have 5 (some .boolean), Cond.fieldLink RX4 13 "PlacePointsModel" "kinds" "[I", Cond.fieldLink RX4 20 "PlacePointsModel" "xs" "[J", Cond.fieldLink RX4 24 "PlacePointsModel" "ys" "[J", Cond.methodLink RX4 96 yX4_sides, Cond.instanceMethod yX4_sides, Cond.selects RX4 yX4_sides yX4_sides, Cond.code yX4_sides cX4_sides 2 (some .int), Cond.fieldLink RX4 17 "PlacePointsModel" "counts" "[I", Cond.methodLink RX4 81 yX4_from, Cond.instanceMethod yX4_from, Cond.selects RX4 yX4_from yX4_from, Cond.code yX4_from cX4_from 3 (some .int), Cond.methodLink RX4 85 yX4_to, Cond.instanceMethod yX4_to, Cond.selects RX4 yX4_to yX4_to, Cond.code yX4_to cX4_to 3 (some .int), Cond.methodLink RX4 92 yX4_cut]
def wsX4_least_r2 : List Cond := [Cond.instanceMethod yX4_cut, Cond.selects RX4 yX4_cut yX4_cut, Cond.code yX4_cut cX4_cut 7 (some .boolean), Cond.methodLink RX4 77 yX4_isOn, Cond.static yX4_isOn, Cond.code yX4_isOn cX4_isOn 12 (some .boolean), Cond.methodLink RX4 69 yX4_hand, Cond.static yX4_hand, Cond.code yX4_hand cX4_hand 14 (some .int), Cond.methodLink RX4 65 yX4_cross, Cond.static yX4_cross, Cond.code yX4_cross cX4_cross 8 (some .long), Cond.methodLink RX4 73 yX4_isBetween, Cond.static yX4_isBetween, Cond.code yX4_isBetween cX4_isBetween 6 (some .boolean), Cond.methodLink RX4 108 yX4_stands, Cond.instanceMethod yX4_stands, Cond.selects RX4 yX4_stands yX4_stands, Cond.code yX4_stands cX4_stands 12 (some .int), Cond.methodLink RX4 138 yX4_weighCorners, Cond.instanceMethod yX4_weighCorners, Cond.selects RX4 yX4_weighCorners yX4_weighCorners, Cond.code yX4_weighCorners cX4_weighCorners 5 none, Cond.methodLink RX4 134 yX4_weighSide]
def wsX4_least_r3 : List Cond := [Cond.instanceMethod yX4_weighSide, Cond.selects RX4 yX4_weighSide yX4_weighSide, Cond.code yX4_weighSide cX4_weighSide 23 none, Cond.methodLink RX4 126 yX4_weigh, Cond.instanceMethod yX4_weigh, Cond.selects RX4 yX4_weigh yX4_weigh, Cond.code yX4_weigh cX4_weigh 5 none, Cond.methodLink RX4 122 yX4_isLess, Cond.static yX4_isLess, Cond.code yX4_isLess cX4_isLess 21 (some .boolean), Cond.methodLink RX4 130 yX4_divisor, Cond.static yX4_divisor, Cond.code yX4_divisor cX4_divisor 10 (some .long)]
def wsX4_least : List Cond := .code yX4_least cX4_least 3 none :: ((wsX4_least_r1 ++ (wsX4_least_r2 ++ wsX4_least_r3)) ++ wsX40)
def wsX4_square_r1 : List Cond := [Cond.fieldLink RX4 1 "PlacePointsModel" "thrown" "I", Cond.constantLong RX4 142 (-1), Cond.fieldLink RX4 119 "PlacePointsModel" "upper" "J", Cond.fieldLink RX4 115 "PlacePointsModel" "lower" "J", Cond.methodLink RX4 105 yX4_isRight, Cond.instanceMethod yX4_isRight, Cond.selects RX4 yX4_isRight yX4_isRight, Cond.initialized RX4, Cond.code yX4_isRight cX4_isRight 2 (some .boolean), Cond.methodLink RX4 58 yX4_isShape, Cond.instanceMethod yX4_isShape, Cond.selects RX4 yX4_isShape yX4_isShape, Cond.code yX4_isShape cX4_isShape 2 (some .boolean), Cond.fieldLink RX4 40 "PlacePointsModel" "count" "I", Cond.fieldLink RX4 13 "PlacePointsModel" "kinds" "[I", Cond.methodLink RX4 102 yX4_check, Cond.instanceMethod yX4_check, Cond.selects RX4 yX4_check yX4_check, Cond.code yX4_check cX4_check 3 (some .int), Cond.fieldLink RX4 17 "PlacePointsModel" "counts" "[I", Cond.methodLink RX4 96 yX4_sides, Cond.instanceMethod yX4_sides, Cond.selects RX4 yX4_sides yX4_sides, Cond.code yX4_sides cX4_sides 2 (some .int)]
def wsX4_square_r2 : List Cond := [Cond.methodLink RX4 99 yX4_isWrong, Cond.instanceMethod yX4_isWrong, Cond.selects RX4 yX4_isWrong yX4_isWrong, Cond.code yX4_isWrong cX4_isWrong 10 (some .boolean), Cond.fieldLink RX4 20 "PlacePointsModel" "xs" "[J", Cond.fieldLink RX4 24 "PlacePointsModel" "ys" "[J", Cond.methodLink RX4 81 yX4_from, Cond.instanceMethod yX4_from, Cond.selects RX4 yX4_from yX4_from, Cond.code yX4_from cX4_from 3 (some .int), Cond.methodLink RX4 85 yX4_to, Cond.instanceMethod yX4_to, Cond.selects RX4 yX4_to yX4_to, Cond.code yX4_to cX4_to 3 (some .int), Cond.methodLink RX4 88 yX4_folds, Cond.instanceMethod yX4_folds, Cond.selects RX4 yX4_folds yX4_folds, Cond.code yX4_folds cX4_folds 12 (some .boolean), Cond.methodLink RX4 65 yX4_cross, Cond.static yX4_cross, Cond.code yX4_cross cX4_cross 8 (some .long), Cond.methodLink RX4 92 yX4_cut, Cond.instanceMethod yX4_cut, Cond.selects RX4 yX4_cut yX4_cut]
def wsX4_square_r3 : List Cond := [Cond.code yX4_cut cX4_cut 7 (some .boolean), Cond.methodLink RX4 77 yX4_isOn, Cond.static yX4_isOn, Cond.code yX4_isOn cX4_isOn 12 (some .boolean), Cond.methodLink RX4 69 yX4_hand, Cond.static yX4_hand, Cond.code yX4_hand cX4_hand 14 (some .int), Cond.methodLink RX4 73 yX4_isBetween, Cond.static yX4_isBetween, Cond.code yX4_isBetween cX4_isBetween 6 (some .boolean), Cond.methodLink RX4 144 yX4_least, Cond.instanceMethod yX4_least, Cond.selects RX4 yX4_least yX4_least, Cond.code yX4_least cX4_least 3 none, Cond.methodLink RX4 112 yX4_have, Cond.instanceMethod yX4_have, Cond.selects RX4 yX4_have yX4_have, Cond.code yX4_have cX4_have 5 (some .boolean), Cond.methodLink RX4 108 yX4_stands, Cond.instanceMethod yX4_stands, Cond.selects RX4 yX4_stands yX4_stands, Cond.code yX4_stands cX4_stands 12 (some .int), Cond.methodLink RX4 138 yX4_weighCorners, Cond.instanceMethod yX4_weighCorners]
def wsX4_square_r4 : List Cond := [Cond.selects RX4 yX4_weighCorners yX4_weighCorners, Cond.code yX4_weighCorners cX4_weighCorners 5 none, Cond.methodLink RX4 134 yX4_weighSide, Cond.instanceMethod yX4_weighSide, Cond.selects RX4 yX4_weighSide yX4_weighSide, Cond.code yX4_weighSide cX4_weighSide 23 none, Cond.methodLink RX4 126 yX4_weigh, Cond.instanceMethod yX4_weigh, Cond.selects RX4 yX4_weigh yX4_weigh, Cond.code yX4_weigh cX4_weigh 5 none, Cond.methodLink RX4 122 yX4_isLess, Cond.static yX4_isLess, Cond.code yX4_isLess cX4_isLess 21 (some .boolean), Cond.methodLink RX4 130 yX4_divisor, Cond.static yX4_divisor, Cond.code yX4_divisor cX4_divisor 10 (some .long)]
def wsX4_square : List Cond := .code yX4_square cX4_square 4 (some .long) :: ((wsX4_square_r1 ++ (wsX4_square_r2 ++ (wsX4_square_r3 ++ wsX4_square_r4))) ++ wsX40)
def wsX4_toPlace_r1 : List Cond := [Cond.fieldLink RX4 119 "PlacePointsModel" "upper" "J", Cond.fieldLink RX4 115 "PlacePointsModel" "lower" "J", Cond.fieldLink RX4 13 "PlacePointsModel" "kinds" "[I", Cond.methodLink RX4 108 yX4_stands, Cond.instanceMethod yX4_stands, Cond.selects RX4 yX4_stands yX4_stands, Cond.initialized RX4, Cond.code yX4_stands cX4_stands 12 (some .int), Cond.fieldLink RX4 17 "PlacePointsModel" "counts" "[I", Cond.fieldLink RX4 20 "PlacePointsModel" "xs" "[J", Cond.fieldLink RX4 24 "PlacePointsModel" "ys" "[J", Cond.methodLink RX4 81 yX4_from, Cond.instanceMethod yX4_from, Cond.selects RX4 yX4_from yX4_from, Cond.code yX4_from cX4_from 3 (some .int), Cond.methodLink RX4 85 yX4_to, Cond.instanceMethod yX4_to, Cond.selects RX4 yX4_to yX4_to, Cond.code yX4_to cX4_to 3 (some .int), Cond.methodLink RX4 77 yX4_isOn, Cond.static yX4_isOn, Cond.code yX4_isOn cX4_isOn 12 (some .boolean), Cond.methodLink RX4 69 yX4_hand, Cond.static yX4_hand]
def wsX4_toPlace_r2 : List Cond := [Cond.code yX4_hand cX4_hand 14 (some .int), Cond.methodLink RX4 65 yX4_cross, Cond.static yX4_cross, Cond.code yX4_cross cX4_cross 8 (some .long), Cond.methodLink RX4 73 yX4_isBetween, Cond.static yX4_isBetween, Cond.code yX4_isBetween cX4_isBetween 6 (some .boolean), Cond.methodLink RX4 96 yX4_sides, Cond.instanceMethod yX4_sides, Cond.selects RX4 yX4_sides yX4_sides, Cond.code yX4_sides cX4_sides 2 (some .int), Cond.methodLink RX4 134 yX4_weighSide, Cond.instanceMethod yX4_weighSide, Cond.selects RX4 yX4_weighSide yX4_weighSide, Cond.code yX4_weighSide cX4_weighSide 23 none, Cond.methodLink RX4 126 yX4_weigh, Cond.instanceMethod yX4_weigh, Cond.selects RX4 yX4_weigh yX4_weigh, Cond.code yX4_weigh cX4_weigh 5 none, Cond.methodLink RX4 122 yX4_isLess, Cond.static yX4_isLess, Cond.code yX4_isLess cX4_isLess 21 (some .boolean), Cond.methodLink RX4 130 yX4_divisor, Cond.static yX4_divisor]
def wsX4_toPlace_r3 : List Cond := [Cond.code yX4_divisor cX4_divisor 10 (some .long)]
def wsX4_toPlace : List Cond := .code yX4_toPlace cX4_toPlace 5 none :: ((wsX4_toPlace_r1 ++ (wsX4_toPlace_r2 ++ wsX4_toPlace_r3)) ++ wsX40)
def wsX4_near_r1 : List Cond := [Cond.fieldLink RX4 1 "PlacePointsModel" "thrown" "I", Cond.fieldLink RX4 40 "PlacePointsModel" "count" "I", Cond.fieldLink RX4 36 "PlacePointsModel" "taken" "[Z", Cond.fieldLink RX4 30 "PlacePointsModel" "uppers" "[J", Cond.fieldLink RX4 119 "PlacePointsModel" "upper" "J", Cond.fieldLink RX4 33 "PlacePointsModel" "lowers" "[J", Cond.fieldLink RX4 115 "PlacePointsModel" "lower" "J", Cond.methodLink RX4 46 yX4_isPlace, Cond.static yX4_isPlace, Cond.initialized RX4, Cond.code yX4_isPlace cX4_isPlace 2 (some .boolean), Cond.methodLink RX4 105 yX4_isRight, Cond.instanceMethod yX4_isRight, Cond.selects RX4 yX4_isRight yX4_isRight, Cond.code yX4_isRight cX4_isRight 2 (some .boolean), Cond.methodLink RX4 58 yX4_isShape, Cond.instanceMethod yX4_isShape, Cond.selects RX4 yX4_isShape yX4_isShape, Cond.code yX4_isShape cX4_isShape 2 (some .boolean), Cond.fieldLink RX4 13 "PlacePointsModel" "kinds" "[I", Cond.methodLink RX4 102 yX4_check, Cond.instanceMethod yX4_check, Cond.selects RX4 yX4_check yX4_check, Cond.code yX4_check cX4_check 3 (some .int)]
def wsX4_near_r2 : List Cond := [Cond.fieldLink RX4 17 "PlacePointsModel" "counts" "[I", Cond.methodLink RX4 96 yX4_sides, Cond.instanceMethod yX4_sides, Cond.selects RX4 yX4_sides yX4_sides, Cond.code yX4_sides cX4_sides 2 (some .int), Cond.methodLink RX4 99 yX4_isWrong, Cond.instanceMethod yX4_isWrong, Cond.selects RX4 yX4_isWrong yX4_isWrong, Cond.code yX4_isWrong cX4_isWrong 10 (some .boolean), Cond.fieldLink RX4 20 "PlacePointsModel" "xs" "[J", Cond.fieldLink RX4 24 "PlacePointsModel" "ys" "[J", Cond.methodLink RX4 81 yX4_from, Cond.instanceMethod yX4_from, Cond.selects RX4 yX4_from yX4_from, Cond.code yX4_from cX4_from 3 (some .int), Cond.methodLink RX4 85 yX4_to, Cond.instanceMethod yX4_to, Cond.selects RX4 yX4_to yX4_to, Cond.code yX4_to cX4_to 3 (some .int), Cond.methodLink RX4 88 yX4_folds, Cond.instanceMethod yX4_folds, Cond.selects RX4 yX4_folds yX4_folds, Cond.code yX4_folds cX4_folds 12 (some .boolean), Cond.methodLink RX4 65 yX4_cross]
def wsX4_near_r3 : List Cond := [Cond.static yX4_cross, Cond.code yX4_cross cX4_cross 8 (some .long), Cond.methodLink RX4 92 yX4_cut, Cond.instanceMethod yX4_cut, Cond.selects RX4 yX4_cut yX4_cut, Cond.code yX4_cut cX4_cut 7 (some .boolean), Cond.methodLink RX4 77 yX4_isOn, Cond.static yX4_isOn, Cond.code yX4_isOn cX4_isOn 12 (some .boolean), Cond.methodLink RX4 69 yX4_hand, Cond.static yX4_hand, Cond.code yX4_hand cX4_hand 14 (some .int), Cond.methodLink RX4 73 yX4_isBetween, Cond.static yX4_isBetween, Cond.code yX4_isBetween cX4_isBetween 6 (some .boolean), Cond.methodLink RX4 147 yX4_toPlace, Cond.instanceMethod yX4_toPlace, Cond.selects RX4 yX4_toPlace yX4_toPlace, Cond.code yX4_toPlace cX4_toPlace 5 none, Cond.methodLink RX4 108 yX4_stands, Cond.instanceMethod yX4_stands, Cond.selects RX4 yX4_stands yX4_stands, Cond.code yX4_stands cX4_stands 12 (some .int), Cond.methodLink RX4 134 yX4_weighSide]
def wsX4_near_r4 : List Cond := [Cond.instanceMethod yX4_weighSide, Cond.selects RX4 yX4_weighSide yX4_weighSide, Cond.code yX4_weighSide cX4_weighSide 23 none, Cond.methodLink RX4 126 yX4_weigh, Cond.instanceMethod yX4_weigh, Cond.selects RX4 yX4_weigh yX4_weigh, Cond.code yX4_weigh cX4_weigh 5 none, Cond.methodLink RX4 122 yX4_isLess, Cond.static yX4_isLess, Cond.code yX4_isLess cX4_isLess 21 (some .boolean), Cond.methodLink RX4 130 yX4_divisor, Cond.static yX4_divisor, Cond.code yX4_divisor cX4_divisor 10 (some .long)]
def wsX4_near : List Cond := .code yX4_near cX4_near 7 (some .int) :: ((wsX4_near_r1 ++ (wsX4_near_r2 ++ (wsX4_near_r3 ++ wsX4_near_r4))) ++ wsX40)
def wsX4_area_r1 : List Cond := [Cond.fieldLink RX4 1 "PlacePointsModel" "thrown" "I", Cond.fieldLink RX4 13 "PlacePointsModel" "kinds" "[I", Cond.fieldLink RX4 17 "PlacePointsModel" "counts" "[I", Cond.fieldLink RX4 20 "PlacePointsModel" "xs" "[J", Cond.fieldLink RX4 24 "PlacePointsModel" "ys" "[J", Cond.methodLink RX4 105 yX4_isRight, Cond.instanceMethod yX4_isRight, Cond.selects RX4 yX4_isRight yX4_isRight, Cond.initialized RX4, Cond.code yX4_isRight cX4_isRight 2 (some .boolean), Cond.methodLink RX4 58 yX4_isShape, Cond.instanceMethod yX4_isShape, Cond.selects RX4 yX4_isShape yX4_isShape, Cond.code yX4_isShape cX4_isShape 2 (some .boolean), Cond.fieldLink RX4 40 "PlacePointsModel" "count" "I", Cond.methodLink RX4 102 yX4_check, Cond.instanceMethod yX4_check, Cond.selects RX4 yX4_check yX4_check, Cond.code yX4_check cX4_check 3 (some .int), Cond.methodLink RX4 96 yX4_sides, Cond.instanceMethod yX4_sides, Cond.selects RX4 yX4_sides yX4_sides, Cond.code yX4_sides cX4_sides 2 (some .int), Cond.methodLink RX4 99 yX4_isWrong]
def wsX4_area_r2 : List Cond := [Cond.instanceMethod yX4_isWrong, Cond.selects RX4 yX4_isWrong yX4_isWrong, Cond.code yX4_isWrong cX4_isWrong 10 (some .boolean), Cond.methodLink RX4 81 yX4_from, Cond.instanceMethod yX4_from, Cond.selects RX4 yX4_from yX4_from, Cond.code yX4_from cX4_from 3 (some .int), Cond.methodLink RX4 85 yX4_to, Cond.instanceMethod yX4_to, Cond.selects RX4 yX4_to yX4_to, Cond.code yX4_to cX4_to 3 (some .int), Cond.methodLink RX4 88 yX4_folds, Cond.instanceMethod yX4_folds, Cond.selects RX4 yX4_folds yX4_folds, Cond.code yX4_folds cX4_folds 12 (some .boolean), Cond.methodLink RX4 65 yX4_cross, Cond.static yX4_cross, Cond.code yX4_cross cX4_cross 8 (some .long), Cond.methodLink RX4 92 yX4_cut, Cond.instanceMethod yX4_cut, Cond.selects RX4 yX4_cut yX4_cut, Cond.code yX4_cut cX4_cut 7 (some .boolean), Cond.methodLink RX4 77 yX4_isOn, Cond.static yX4_isOn]
def wsX4_area_r3 : List Cond := [Cond.code yX4_isOn cX4_isOn 12 (some .boolean), Cond.methodLink RX4 69 yX4_hand, Cond.static yX4_hand, Cond.code yX4_hand cX4_hand 14 (some .int), Cond.methodLink RX4 73 yX4_isBetween, Cond.static yX4_isBetween, Cond.code yX4_isBetween cX4_isBetween 6 (some .boolean)]
def wsX4_area : List Cond := .code yX4_area cX4_area 5 (some .long) :: ((wsX4_area_r1 ++ (wsX4_area_r2 ++ wsX4_area_r3)) ++ wsX40)
def wsX4_isIn : List Cond := .code yX4_isIn cX4_isIn 12 (some .boolean) :: ([.fieldLink RX4 17 "PlacePointsModel" "counts" "[I", .fieldLink RX4 20 "PlacePointsModel" "xs" "[J", .fieldLink RX4 24 "PlacePointsModel" "ys" "[J", .methodLink RX4 81 yX4_from, .instanceMethod yX4_from, .selects RX4 yX4_from yX4_from, .initialized RX4, .code yX4_from cX4_from 3 (some .int)] ++ wsX40)
def wsX4_boxed_r1 : List Cond := [Cond.fieldLink RX4 1 "PlacePointsModel" "thrown" "I", Cond.fieldLink RX4 150 "PlacePointsModel" "foundCount" "I", Cond.fieldLink RX4 40 "PlacePointsModel" "count" "I", Cond.fieldLink RX4 27 "PlacePointsModel" "found" "[I", Cond.methodLink RX4 105 yX4_isRight, Cond.instanceMethod yX4_isRight, Cond.selects RX4 yX4_isRight yX4_isRight, Cond.initialized RX4, Cond.code yX4_isRight cX4_isRight 2 (some .boolean), Cond.methodLink RX4 58 yX4_isShape, Cond.instanceMethod yX4_isShape, Cond.selects RX4 yX4_isShape yX4_isShape, Cond.code yX4_isShape cX4_isShape 2 (some .boolean), Cond.fieldLink RX4 13 "PlacePointsModel" "kinds" "[I", Cond.methodLink RX4 102 yX4_check, Cond.instanceMethod yX4_check, Cond.selects RX4 yX4_check yX4_check, Cond.code yX4_check cX4_check 3 (some .int), Cond.fieldLink RX4 17 "PlacePointsModel" "counts" "[I", Cond.methodLink RX4 96 yX4_sides, Cond.instanceMethod yX4_sides, Cond.selects RX4 yX4_sides yX4_sides, Cond.code yX4_sides cX4_sides 2 (some .int), Cond.methodLink RX4 99 yX4_isWrong]
def wsX4_boxed_r2 : List Cond := [Cond.instanceMethod yX4_isWrong, Cond.selects RX4 yX4_isWrong yX4_isWrong, Cond.code yX4_isWrong cX4_isWrong 10 (some .boolean), Cond.fieldLink RX4 20 "PlacePointsModel" "xs" "[J", Cond.fieldLink RX4 24 "PlacePointsModel" "ys" "[J", Cond.methodLink RX4 81 yX4_from, Cond.instanceMethod yX4_from, Cond.selects RX4 yX4_from yX4_from, Cond.code yX4_from cX4_from 3 (some .int), Cond.methodLink RX4 85 yX4_to, Cond.instanceMethod yX4_to, Cond.selects RX4 yX4_to yX4_to, Cond.code yX4_to cX4_to 3 (some .int), Cond.methodLink RX4 88 yX4_folds, Cond.instanceMethod yX4_folds, Cond.selects RX4 yX4_folds yX4_folds, Cond.code yX4_folds cX4_folds 12 (some .boolean), Cond.methodLink RX4 65 yX4_cross, Cond.static yX4_cross, Cond.code yX4_cross cX4_cross 8 (some .long), Cond.methodLink RX4 92 yX4_cut, Cond.instanceMethod yX4_cut, Cond.selects RX4 yX4_cut yX4_cut, Cond.code yX4_cut cX4_cut 7 (some .boolean)]
def wsX4_boxed_r3 : List Cond := [Cond.methodLink RX4 77 yX4_isOn, Cond.static yX4_isOn, Cond.code yX4_isOn cX4_isOn 12 (some .boolean), Cond.methodLink RX4 69 yX4_hand, Cond.static yX4_hand, Cond.code yX4_hand cX4_hand 14 (some .int), Cond.methodLink RX4 73 yX4_isBetween, Cond.static yX4_isBetween, Cond.code yX4_isBetween cX4_isBetween 6 (some .boolean), Cond.methodLink RX4 153 yX4_isIn, Cond.instanceMethod yX4_isIn, Cond.selects RX4 yX4_isIn yX4_isIn, Cond.code yX4_isIn cX4_isIn 12 (some .boolean)]
def wsX4_boxed : List Cond := .code yX4_boxed cX4_boxed 6 (some .int) :: ((wsX4_boxed_r1 ++ (wsX4_boxed_r2 ++ wsX4_boxed_r3)) ++ wsX40)
def wsX4_found : List Cond := .code yX4_found cX4_found 2 (some .int) :: ([.fieldLink RX4 150 "PlacePointsModel" "foundCount" "I", .fieldLink RX4 1 "PlacePointsModel" "thrown" "I", .fieldLink RX4 27 "PlacePointsModel" "found" "[I"] ++ wsX40)
def wsJx00060_init_da8c8 : List Cond := .code yJx00060_init_da8c8 cJx00060_init_da8c8 1 none :: ([])
def wsJ9_max_7cf53 : List Cond := .code yJ9_max_7cf53 cJ9_max_7cf53 2 (some .int) :: ([])
def wsJ9_min_7cf53 : List Cond := .code yJ9_min_7cf53 cJ9_min_7cf53 2 (some .int) :: ([])
def wsL_found : List Cond := .codeWith yL_found cL_found 4 (some .int) [(0, 9, 12, 13)] :: ([.methodLink RL 7 yX3_found, .instanceMethod yX3_found, .selects RX3 yX3_found yX3_found, .initialized RX3, .code yX3_found cX3_found 2 (some .int), .fieldLink RX3 29 "PlacePoints" "boxedCount" "I", .classLink RX3 127 RJx00060, .instantiable RJx00060 6, .initialized RJx00060, .fieldLink RX3 25 "PlacePoints" "boxedNumbers" "[I"] ++ wsX30 ++ wsJx000600)
def wsL_law_r1 : List Cond := [Cond.classLink RL 8 RX3, Cond.instantiable RX3 10, Cond.initialized RX3, Cond.classLink RL 16 RX4, Cond.instantiable RX4 15, Cond.initialized RX4, Cond.arrayClass .long, Cond.methodLink RL 15 yX3_init, Cond.instanceMethod yX3_init, Cond.code yX3_init cX3_init 1 none, Cond.methodLink RX3 1 objectInit, Cond.instanceMethod objectInit, Cond.code objectInit ⟨#[0xb1]⟩ 1 none, Cond.classLink RX3 9 RX2, Cond.fieldLink RX3 11 "PlacePoints" "made" "[LPlacePoints$Shape;", Cond.fieldLink RX3 15 "PlacePoints" "madeCount" "I", Cond.fieldLink RX3 19 "PlacePoints" "standingCount" "I", Cond.fieldLink RX3 22 "PlacePoints" "cornersUsed" "I", Cond.arrayClass .int, Cond.fieldLink RX3 25 "PlacePoints" "boxedNumbers" "[I", Cond.fieldLink RX3 29 "PlacePoints" "boxedCount" "I", Cond.classLink RX3 32 RX0, Cond.instantiable RX0 2, Cond.initialized RX0]
def wsL_law_r2 : List Cond := [Cond.fieldLink RX3 35 "PlacePoints" "gap" "LPlacePoints$Fraction;", Cond.fieldLink RX3 39 "PlacePoints" "gapUppers" "[J", Cond.fieldLink RX3 43 "PlacePoints" "gapLowers" "[J", Cond.fieldLink RX3 46 "PlacePoints" "sortedNumbers" "[I", Cond.instanceMethod yX0_init, Cond.code yX0_init cX0_init 1 none, Cond.methodLink RX0 1 objectInit, Cond.fieldLink RX0 7 "PlacePoints$Fraction" "upper" "J", Cond.fieldLink RX0 13 "PlacePoints$Fraction" "lower" "J", Cond.methodLink RL 18 yX4_init, Cond.instanceMethod yX4_init, Cond.code yX4_init cX4_init 1 none, Cond.methodLink RX4 7 objectInit, Cond.fieldLink RX4 13 "PlacePointsModel" "kinds" "[I", Cond.fieldLink RX4 17 "PlacePointsModel" "counts" "[I", Cond.fieldLink RX4 20 "PlacePointsModel" "xs" "[J", Cond.fieldLink RX4 24 "PlacePointsModel" "ys" "[J", Cond.fieldLink RX4 27 "PlacePointsModel" "found" "[I", Cond.fieldLink RX4 30 "PlacePointsModel" "uppers" "[J", Cond.fieldLink RX4 33 "PlacePointsModel" "lowers" "[J", Cond.arrayClass .boolean, Cond.fieldLink RX4 36 "PlacePointsModel" "taken" "[Z", Cond.methodLink RL 19 yX3_point, Cond.instanceMethod yX3_point]
def wsL_law_r3 : List Cond := [Cond.selects RX3 yX3_point yX3_point, Cond.code yX3_point cX3_point 5 (some .int), Cond.fieldLink RX3 53 "PlacePoints$Kind" "POINT" "LPlacePoints$Kind;", Cond.methodLink RX3 49 yX3_isPlace, Cond.static yX3_isPlace, Cond.code yX3_isPlace cX3_isPlace 2 (some .boolean), Cond.methodLink RX3 59 yX3_make, Cond.instanceMethod yX3_make, Cond.selects RX3 yX3_make yX3_make, Cond.code yX3_make cX3_make 3 (some .int), Cond.instantiable RX2 9, Cond.initialized RX2, Cond.methodLink RX3 130 yX2_init, Cond.instanceMethod yX2_init, Cond.code yX2_init cX2_init 2 none, Cond.methodLink RX2 3 objectInit, Cond.fieldLink RX2 9 "PlacePoints$Shape" "size" "I", Cond.fieldLink RX2 15 "PlacePoints$Shape" "verdict" "I", Cond.fieldLink RX2 18 "PlacePoints$Shape" "lowX" "I", Cond.fieldLink RX2 21 "PlacePoints$Shape" "lowY" "I", Cond.fieldLink RX2 24 "PlacePoints$Shape" "highX" "I", Cond.fieldLink RX2 27 "PlacePoints$Shape" "highY" "I", Cond.fieldLink RX2 30 "PlacePoints$Shape" "kind" "LPlacePoints$Kind;", Cond.fieldLink RX2 34 "PlacePoints$Kind" "most" "I"]
def wsL_law_r4 : List Cond := [Cond.fieldLink RX2 39 "PlacePoints$Shape" "xs" "[I", Cond.fieldLink RX2 43 "PlacePoints$Shape" "ys" "[I", Cond.methodLink RX3 63 yX3_standing, Cond.instanceMethod yX3_standing, Cond.selects RX3 yX3_standing yX3_standing, Cond.code yX3_standing cX3_standing 2 (some (.object "PlacePoints$Shape")), Cond.methodLink RX3 67 yX2_add, Cond.instanceMethod yX2_add, Cond.selects RX2 yX2_add yX2_add, Cond.code yX2_add cX2_add 3 none, Cond.methodLink RX2 46 Lib.Math.min.name, Cond.static Lib.Math.min.name, Cond.initialized "java/lang/Math", Cond.code Lib.Math.min.name Lib.Math.min.code 2 (some .int), Cond.methodLink RX2 52 Lib.Math.max.name, Cond.static Lib.Math.max.name, Cond.code Lib.Math.max.name Lib.Math.max.code 2 (some .int), Cond.methodLink RX2 55 yX2_judge, Cond.instanceMethod yX2_judge, Cond.selects RX2 yX2_judge yX2_judge, Cond.code yX2_judge cX2_judge 2 (some .int), Cond.fieldLink RX2 112 "PlacePoints$Kind" "least" "I", Cond.fieldLink RX2 115 "PlacePoints$Kind" "POINT" "LPlacePoints$Kind;", Cond.methodLink RX2 67 yX2_sideCount]
def wsL_law_r5 : List Cond := [Cond.instanceMethod yX2_sideCount, Cond.selects RX2 yX2_sideCount yX2_sideCount, Cond.code yX2_sideCount cX2_sideCount 1 (some .int), Cond.fieldLink RX2 109 "PlacePoints$Kind" "LINE" "LPlacePoints$Kind;", Cond.methodLink RX2 118 yX2_isWrongSide, Cond.instanceMethod yX2_isWrongSide, Cond.selects RX2 yX2_isWrongSide yX2_isWrongSide, Cond.code yX2_isWrongSide cX2_isWrongSide 3 (some .boolean), Cond.fieldLink RX2 103 "PlacePoints$Kind" "POLYGON" "LPlacePoints$Kind;", Cond.methodLink RX2 122 yX2_clash, Cond.instanceMethod yX2_clash, Cond.selects RX2 yX2_clash yX2_clash, Cond.code yX2_clash cX2_clash 3 (some .boolean), Cond.methodLink RX2 125 yX2_foldsBack, Cond.instanceMethod yX2_foldsBack, Cond.selects RX2 yX2_foldsBack yX2_foldsBack, Cond.code yX2_foldsBack cX2_foldsBack 11 (some .boolean), Cond.methodLink RX2 70 yX2_sideTouches, Cond.instanceMethod yX2_sideTouches, Cond.selects RX2 yX2_sideTouches yX2_sideTouches, Cond.code yX2_sideTouches cX2_sideTouches 6 (some .boolean), Cond.methodLink RX2 63 yX2_overlap, Cond.static yX2_overlap, Cond.code yX2_overlap cX2_overlap 4 (some .boolean)]
def wsL_law_r6 : List Cond := [Cond.methodLink RX2 59 yX2_turn, Cond.instanceMethod yX2_turn, Cond.selects RX2 yX2_turn yX2_turn, Cond.code yX2_turn cX2_turn 8 (some .long), Cond.methodLink RL 23 yX4_point, Cond.instanceMethod yX4_point, Cond.selects RX4 yX4_point yX4_point, Cond.code yX4_point cX4_point 4 (some .int), Cond.fieldLink RX4 1 "PlacePointsModel" "thrown" "I", Cond.fieldLink RX4 40 "PlacePointsModel" "count" "I", Cond.fieldLink RX4 43 "PlacePointsModel" "corners" "I", Cond.methodLink RX4 46 yX4_isPlace, Cond.static yX4_isPlace, Cond.code yX4_isPlace cX4_isPlace 2 (some .boolean), Cond.methodLink RX4 50 yX4_begin, Cond.instanceMethod yX4_begin, Cond.selects RX4 yX4_begin yX4_begin, Cond.code yX4_begin cX4_begin 2 (some .int), Cond.methodLink RX4 54 yX4_lay, Cond.instanceMethod yX4_lay, Cond.selects RX4 yX4_lay yX4_lay, Cond.code yX4_lay cX4_lay 5 none, Cond.methodLink RL 24 yX3_line, Cond.instanceMethod yX3_line]
def wsL_law_r7 : List Cond := [Cond.selects RX3 yX3_line yX3_line, Cond.code yX3_line cX3_line 1 (some .int), Cond.fieldLink RX3 71 "PlacePoints$Kind" "LINE" "LPlacePoints$Kind;", Cond.methodLink RL 28 yX4_line, Cond.instanceMethod yX4_line, Cond.selects RX4 yX4_line yX4_line, Cond.code yX4_line cX4_line 1 (some .int), Cond.methodLink RL 29 yX3_polygon, Cond.instanceMethod yX3_polygon, Cond.selects RX3 yX3_polygon yX3_polygon, Cond.code yX3_polygon cX3_polygon 1 (some .int), Cond.fieldLink RX3 74 "PlacePoints$Kind" "POLYGON" "LPlacePoints$Kind;", Cond.methodLink RL 32 yX4_polygon, Cond.instanceMethod yX4_polygon, Cond.selects RX4 yX4_polygon yX4_polygon, Cond.code yX4_polygon cX4_polygon 1 (some .int), Cond.methodLink RL 33 yX3_corner, Cond.instanceMethod yX3_corner, Cond.selects RX3 yX3_corner yX3_corner, Cond.code yX3_corner cX3_corner 5 (some .int), Cond.fieldLink RX3 77 "PlacePoints$Shape" "kind" "LPlacePoints$Kind;", Cond.fieldLink RX3 80 "PlacePoints$Shape" "size" "I", Cond.fieldLink RX3 83 "PlacePoints$Kind" "most" "I", Cond.methodLink RL 37 yX4_corner]
def wsL_law_r8 : List Cond := [Cond.instanceMethod yX4_corner, Cond.selects RX4 yX4_corner yX4_corner, Cond.code yX4_corner cX4_corner 4 (some .int), Cond.methodLink RX4 58 yX4_isShape, Cond.instanceMethod yX4_isShape, Cond.selects RX4 yX4_isShape yX4_isShape, Cond.code yX4_isShape cX4_isShape 2 (some .boolean), Cond.methodLink RL 38 yX3_remove, Cond.instanceMethod yX3_remove, Cond.selects RX3 yX3_remove yX3_remove, Cond.code yX3_remove cX3_remove 2 (some .int), Cond.methodLink RL 41 yX4_remove, Cond.instanceMethod yX4_remove, Cond.selects RX4 yX4_remove yX4_remove, Cond.code yX4_remove cX4_remove 2 (some .int), Cond.fieldLink RX4 62 "PlacePointsModel" "gone" "I", Cond.methodLink RL 42 yX3_check, Cond.instanceMethod yX3_check, Cond.selects RX3 yX3_check yX3_check, Cond.code yX3_check cX3_check 3 (some .int), Cond.fieldLink RX3 86 "PlacePoints$Shape" "verdict" "I", Cond.methodLink RL 45 yX4_check, Cond.instanceMethod yX4_check, Cond.selects RX4 yX4_check yX4_check]
def wsL_law_r9 : List Cond := [Cond.code yX4_check cX4_check 3 (some .int), Cond.methodLink RX4 96 yX4_sides, Cond.instanceMethod yX4_sides, Cond.selects RX4 yX4_sides yX4_sides, Cond.code yX4_sides cX4_sides 2 (some .int), Cond.methodLink RX4 99 yX4_isWrong, Cond.instanceMethod yX4_isWrong, Cond.selects RX4 yX4_isWrong yX4_isWrong, Cond.code yX4_isWrong cX4_isWrong 10 (some .boolean), Cond.methodLink RX4 81 yX4_from, Cond.instanceMethod yX4_from, Cond.selects RX4 yX4_from yX4_from, Cond.code yX4_from cX4_from 3 (some .int), Cond.methodLink RX4 85 yX4_to, Cond.instanceMethod yX4_to, Cond.selects RX4 yX4_to yX4_to, Cond.code yX4_to cX4_to 3 (some .int), Cond.methodLink RX4 88 yX4_folds, Cond.instanceMethod yX4_folds, Cond.selects RX4 yX4_folds yX4_folds, Cond.code yX4_folds cX4_folds 12 (some .boolean), Cond.methodLink RX4 65 yX4_cross, Cond.static yX4_cross, Cond.code yX4_cross cX4_cross 8 (some .long)]
def wsL_law_r10 : List Cond := [Cond.methodLink RX4 92 yX4_cut, Cond.instanceMethod yX4_cut, Cond.selects RX4 yX4_cut yX4_cut, Cond.code yX4_cut cX4_cut 7 (some .boolean), Cond.methodLink RX4 77 yX4_isOn, Cond.static yX4_isOn, Cond.code yX4_isOn cX4_isOn 12 (some .boolean), Cond.methodLink RX4 69 yX4_hand, Cond.static yX4_hand, Cond.code yX4_hand cX4_hand 14 (some .int), Cond.methodLink RX4 73 yX4_isBetween, Cond.static yX4_isBetween, Cond.code yX4_isBetween cX4_isBetween 6 (some .boolean), Cond.methodLink RL 46 yX3_inside, Cond.instanceMethod yX3_inside, Cond.selects RX3 yX3_inside yX3_inside, Cond.code yX3_inside cX3_inside 5 (some .int), Cond.methodLink RX3 89 yX3_right, Cond.instanceMethod yX3_right, Cond.selects RX3 yX3_right yX3_right, Cond.code yX3_right cX3_right 3 (some (.object "PlacePoints$Shape")), Cond.methodLink RX3 92 yX2_whereIs, Cond.instanceMethod yX2_whereIs, Cond.selects RX2 yX2_whereIs yX2_whereIs]
def wsL_law_r11 : List Cond := [Cond.code yX2_whereIs cX2_whereIs 9 (some .int), Cond.methodLink RL 49 yX4_inside, Cond.instanceMethod yX4_inside, Cond.selects RX4 yX4_inside yX4_inside, Cond.code yX4_inside cX4_inside 4 (some .int), Cond.methodLink RX4 105 yX4_isRight, Cond.instanceMethod yX4_isRight, Cond.selects RX4 yX4_isRight yX4_isRight, Cond.code yX4_isRight cX4_isRight 2 (some .boolean), Cond.methodLink RX4 102 yX4_check, Cond.methodLink RX4 108 yX4_stands, Cond.instanceMethod yX4_stands, Cond.selects RX4 yX4_stands yX4_stands, Cond.code yX4_stands cX4_stands 12 (some .int), Cond.methodLink RL 50 yX3_meets, Cond.instanceMethod yX3_meets, Cond.selects RX3 yX3_meets yX3_meets, Cond.code yX3_meets cX3_meets 5 (some .int), Cond.methodLink RX3 96 yX2_touches, Cond.instanceMethod yX2_touches, Cond.selects RX2 yX2_touches yX2_touches, Cond.code yX2_touches cX2_touches 4 (some .boolean), Cond.methodLink RX2 74 yX2_holds, Cond.instanceMethod yX2_holds]
def wsL_law_r12 : List Cond := [Cond.selects RX2 yX2_holds yX2_holds, Cond.code yX2_holds cX2_holds 3 (some .boolean), Cond.methodLink RX2 106 yX2_whereIs, Cond.methodLink RL 53 yX4_meets, Cond.instanceMethod yX4_meets, Cond.selects RX4 yX4_meets yX4_meets, Cond.code yX4_meets cX4_meets 3 (some .int), Cond.methodLink RX4 112 yX4_have, Cond.instanceMethod yX4_have, Cond.selects RX4 yX4_have yX4_have, Cond.code yX4_have cX4_have 5 (some .boolean), Cond.methodLink RL 54 yX3_square, Cond.instanceMethod yX3_square, Cond.selects RX3 yX3_square yX3_square, Cond.code yX3_square cX3_square 6 (some .long), Cond.constantLong RX3 100 (-1), Cond.fieldLink RX3 109 "PlacePoints$Fraction" "upper" "J", Cond.fieldLink RX3 113 "PlacePoints$Fraction" "lower" "J", Cond.methodLink RX3 102 yX2_measureTo, Cond.instanceMethod yX2_measureTo, Cond.selects RX2 yX2_measureTo yX2_measureTo, Cond.code yX2_measureTo cX2_measureTo 3 none, Cond.methodLink RX2 78 yX2_touches, Cond.methodLink RX2 82 yX0_set]
def wsL_law_r13 : List Cond := [Cond.instanceMethod yX0_set, Cond.selects RX0 yX0_set yX0_set, Cond.code yX0_set cX0_set 5 none, Cond.methodLink RX2 88 yX2_squareOf, Cond.static yX2_squareOf, Cond.code yX2_squareOf cX2_squareOf 4 (some .long), Cond.methodLink RX2 92 yX2_lessenByCorners, Cond.instanceMethod yX2_lessenByCorners, Cond.selects RX2 yX2_lessenByCorners yX2_lessenByCorners, Cond.code yX2_lessenByCorners cX2_lessenByCorners 5 none, Cond.methodLink RX2 96 yX2_lessenBySide, Cond.instanceMethod yX2_lessenBySide, Cond.selects RX2 yX2_lessenBySide yX2_lessenBySide, Cond.code yX2_lessenBySide cX2_lessenBySide 15 none, Cond.methodLink RX2 100 yX0_lessen, Cond.instanceMethod yX0_lessen, Cond.selects RX0 yX0_lessen yX0_lessen, Cond.code yX0_lessen cX0_lessen 5 none, Cond.methodLink RX0 16 yX0_isAbove, Cond.static yX0_isAbove, Cond.code yX0_isAbove cX0_isAbove 12 (some .boolean), Cond.methodLink RX0 20 yX0_set, Cond.methodLink RX3 106 yX0_reduce, Cond.instanceMethod yX0_reduce]
def wsL_law_r14 : List Cond := [Cond.selects RX0 yX0_reduce yX0_reduce, Cond.code yX0_reduce cX0_reduce 3 none, Cond.methodLink RX0 24 yX0_greatestDivisor, Cond.static yX0_greatestDivisor, Cond.code yX0_greatestDivisor cX0_greatestDivisor 7 (some .long), Cond.methodLink RL 58 yX4_square, Cond.instanceMethod yX4_square, Cond.selects RX4 yX4_square yX4_square, Cond.code yX4_square cX4_square 4 (some .long), Cond.constantLong RX4 142 (-1), Cond.fieldLink RX4 119 "PlacePointsModel" "upper" "J", Cond.fieldLink RX4 115 "PlacePointsModel" "lower" "J", Cond.methodLink RX4 144 yX4_least, Cond.instanceMethod yX4_least, Cond.selects RX4 yX4_least yX4_least, Cond.code yX4_least cX4_least 3 none, Cond.methodLink RX4 138 yX4_weighCorners, Cond.instanceMethod yX4_weighCorners, Cond.selects RX4 yX4_weighCorners yX4_weighCorners, Cond.code yX4_weighCorners cX4_weighCorners 5 none, Cond.methodLink RX4 134 yX4_weighSide, Cond.instanceMethod yX4_weighSide, Cond.selects RX4 yX4_weighSide yX4_weighSide, Cond.code yX4_weighSide cX4_weighSide 23 none]
def wsL_law_r15 : List Cond := [Cond.methodLink RX4 126 yX4_weigh, Cond.instanceMethod yX4_weigh, Cond.selects RX4 yX4_weigh yX4_weigh, Cond.code yX4_weigh cX4_weigh 5 none, Cond.methodLink RX4 122 yX4_isLess, Cond.static yX4_isLess, Cond.code yX4_isLess cX4_isLess 21 (some .boolean), Cond.methodLink RX4 130 yX4_divisor, Cond.static yX4_divisor, Cond.code yX4_divisor cX4_divisor 10 (some .long), Cond.methodLink RL 59 yX3_near, Cond.instanceMethod yX3_near, Cond.selects RX3 yX3_near yX3_near, Cond.code yX3_near cX3_near 5 (some .int), Cond.methodLink RX3 116 yX3_sortByGapTo, Cond.instanceMethod yX3_sortByGapTo, Cond.selects RX3 yX3_sortByGapTo yX3_sortByGapTo, Cond.code yX3_sortByGapTo cX3_sortByGapTo 7 (some .int), Cond.methodLink RX3 133 yX3_insertByGap, Cond.instanceMethod yX3_insertByGap, Cond.selects RX3 yX3_insertByGap yX3_insertByGap, Cond.code yX3_insertByGap cX3_insertByGap 4 none, Cond.methodLink RX3 136 yX3_isFarther, Cond.instanceMethod yX3_isFarther]
def wsL_law_r16 : List Cond := [Cond.selects RX3 yX3_isFarther yX3_isFarther, Cond.code yX3_isFarther cX3_isFarther 3 (some .boolean), Cond.methodLink RX3 139 yX0_isAbove, Cond.methodLink RL 62 yX4_near, Cond.instanceMethod yX4_near, Cond.selects RX4 yX4_near yX4_near, Cond.code yX4_near cX4_near 7 (some .int), Cond.methodLink RX4 147 yX4_toPlace, Cond.instanceMethod yX4_toPlace, Cond.selects RX4 yX4_toPlace yX4_toPlace, Cond.code yX4_toPlace cX4_toPlace 5 none, Cond.methodLink RL 63 yX3_area, Cond.instanceMethod yX3_area, Cond.selects RX3 yX3_area yX3_area, Cond.code yX3_area cX3_area 3 (some .long), Cond.methodLink RX3 119 yX2_twiceEnclosed, Cond.instanceMethod yX2_twiceEnclosed, Cond.selects RX2 yX2_twiceEnclosed yX2_twiceEnclosed, Cond.code yX2_twiceEnclosed cX2_twiceEnclosed 4 (some .long), Cond.methodLink RL 67 yX4_area, Cond.instanceMethod yX4_area, Cond.selects RX4 yX4_area yX4_area, Cond.code yX4_area cX4_area 5 (some .long), Cond.methodLink RL 68 yX3_boxed]
def wsL_law_r17 : List Cond := [Cond.instanceMethod yX3_boxed, Cond.selects RX3 yX3_boxed yX3_boxed, Cond.code yX3_boxed cX3_boxed 7 (some .int), Cond.methodLink RX3 123 yX2_boxMeets, Cond.instanceMethod yX2_boxMeets, Cond.selects RX2 yX2_boxMeets yX2_boxMeets, Cond.code yX2_boxMeets cX2_boxMeets 5 (some .boolean), Cond.methodLink RL 72 yX4_boxed, Cond.instanceMethod yX4_boxed, Cond.selects RX4 yX4_boxed yX4_boxed, Cond.code yX4_boxed cX4_boxed 6 (some .int), Cond.fieldLink RX4 150 "PlacePointsModel" "foundCount" "I", Cond.methodLink RX4 153 yX4_isIn, Cond.instanceMethod yX4_isIn, Cond.selects RX4 yX4_isIn yX4_isIn, Cond.code yX4_isIn cX4_isIn 12 (some .boolean), Cond.methodLink RL 73 yL_found, Cond.static yL_found, Cond.initialized RL, Cond.codeWith yL_found cL_found 4 (some .int) [(0, 9, 12, 13)], Cond.methodLink RL 7 yX3_found, Cond.instanceMethod yX3_found, Cond.selects RX3 yX3_found yX3_found, Cond.code yX3_found cX3_found 2 (some .int)]
def wsL_law_r18 : List Cond := [Cond.classLink RX3 127 RJx00060, Cond.instantiable RJx00060 6, Cond.initialized RJx00060, Cond.methodLink RL 78 yX4_found, Cond.instanceMethod yX4_found, Cond.selects RX4 yX4_found yX4_found, Cond.code yX4_found cX4_found 2 (some .int), Cond.methodLink RL 79 yX4_thrown, Cond.instanceMethod yX4_thrown, Cond.selects RX4 yX4_thrown yX4_thrown, Cond.code yX4_thrown cX4_thrown 1 (some .int), Cond.methodLink RL 82 yX3_shapes, Cond.instanceMethod yX3_shapes, Cond.selects RX3 yX3_shapes yX3_shapes, Cond.code yX3_shapes cX3_shapes 1 (some .int), Cond.methodLink RL 85 yX4_shapes, Cond.instanceMethod yX4_shapes, Cond.selects RX4 yX4_shapes yX4_shapes, Cond.code yX4_shapes cX4_shapes 1 (some .int)]
def wsL_law : List Cond := (wsL_law_r1 ++ (wsL_law_r2 ++ (wsL_law_r3 ++ (wsL_law_r4 ++ (wsL_law_r5 ++ (wsL_law_r6 ++ (wsL_law_r7 ++ (wsL_law_r8 ++ (wsL_law_r9 ++ (wsL_law_r10 ++ (wsL_law_r11 ++ (wsL_law_r12 ++ (wsL_law_r13 ++ (wsL_law_r14 ++ (wsL_law_r15 ++ (wsL_law_r16 ++ (wsL_law_r17 ++ wsL_law_r18))))))))))))))))) ++ wsX30 ++ wsX40 ++ wsX00 ++ wsX20 ++ wsJx000600 ++ ([] : List Cond)
abbrev vwCl : List vw_C := [(RJx00060, TJx00060, 6), (RX0, TX0, 2), (RX2, TX2, 9), (RX3, TX3, 10), (RX4, TX4, 15)]
end
section
theorem dX0_init_0 : decode cX0_init 0 = .ok (.aload_n 0, 1) := by decide +kernel
theorem dX0_init_1 : decode cX0_init 1 = .ok (.invokespecial 1, 3) := by decide +kernel
theorem dX0_init_4 : decode cX0_init 4 = .ok (.aload_n 0, 1) := by decide +kernel
theorem dX0_init_5 : decode cX0_init 5 = .ok (.lconst 0, 1) := by decide +kernel
theorem dX0_init_6 : decode cX0_init 6 = .ok (.putfield 7, 3) := by decide +kernel
theorem dX0_init_9 : decode cX0_init 9 = .ok (.aload_n 0, 1) := by decide +kernel
theorem dX0_init_10 : decode cX0_init 10 = .ok (.lconst 1, 1) := by decide +kernel
theorem dX0_init_11 : decode cX0_init 11 = .ok (.putfield 13, 3) := by decide +kernel
theorem dX0_init_14 : decode cX0_init 14 = .ok (.return_, 1) := by decide +kernel
theorem dX0_set_0 : decode cX0_set 0 = .ok (.aload_n 0, 1) := by decide +kernel
theorem dX0_set_1 : decode cX0_set 1 = .ok (.lload_n 1, 1) := by decide +kernel
theorem dX0_set_2 : decode cX0_set 2 = .ok (.putfield 7, 3) := by decide +kernel
theorem dX0_set_5 : decode cX0_set 5 = .ok (.aload_n 0, 1) := by decide +kernel
theorem dX0_set_6 : decode cX0_set 6 = .ok (.lload_n 3, 1) := by decide +kernel
theorem dX0_set_7 : decode cX0_set 7 = .ok (.putfield 13, 3) := by decide +kernel
theorem dX0_set_10 : decode cX0_set 10 = .ok (.return_, 1) := by decide +kernel
set_option maxRecDepth 20000 in
theorem ggX0_lessen_X0_isAbove : GoodIn wsX0_lessen wsX0_isAbove := goodIn_r _ [6] (by decide +kernel) (by decide +kernel)
set_option maxRecDepth 20000 in
theorem gX0_lessen_X0_isAbove : GoodIn wsX0_lessen (va_wsS RX0 16 yX0_isAbove wsX0_isAbove) := goodIn_app (goodIn_of _ (by decide +kernel)) ggX0_lessen_X0_isAbove
set_option maxRecDepth 20000 in
theorem ggX0_lessen_X0_set : GoodIn wsX0_lessen wsX0_set := goodIn_r _ [10, 1, 2, 11, 12] (by decide +kernel) (by decide +kernel)
set_option maxRecDepth 20000 in
theorem gX0_lessen_X0_set : GoodIn wsX0_lessen (wsV RX0 20 RX0 yX0_set wsX0_set) := goodIn_app (goodIn_of _ (by decide +kernel)) ggX0_lessen_X0_set
theorem dX0_lessen_0 : decode cX0_lessen 0 = .ok (.aload_n 0, 1) := by decide +kernel
theorem dX0_lessen_1 : decode cX0_lessen 1 = .ok (.getfield 7, 3) := by decide +kernel
theorem dX0_lessen_4 : decode cX0_lessen 4 = .ok (.aload_n 0, 1) := by decide +kernel
theorem dX0_lessen_5 : decode cX0_lessen 5 = .ok (.getfield 13, 3) := by decide +kernel
theorem dX0_lessen_8 : decode cX0_lessen 8 = .ok (.lload_n 1, 1) := by decide +kernel
theorem dX0_lessen_9 : decode cX0_lessen 9 = .ok (.lload_n 3, 1) := by decide +kernel
theorem dX0_lessen_10 : decode cX0_lessen 10 = .ok (.invokestatic 16, 3) := by decide +kernel
theorem dX0_lessen_13 : decode cX0_lessen 13 = .ok (.ifCond .eq 9, 3) := by decide +kernel
theorem dX0_lessen_16 : decode cX0_lessen 16 = .ok (.aload_n 0, 1) := by decide +kernel
theorem dX0_lessen_17 : decode cX0_lessen 17 = .ok (.lload_n 1, 1) := by decide +kernel
theorem dX0_lessen_18 : decode cX0_lessen 18 = .ok (.lload_n 3, 1) := by decide +kernel
theorem dX0_lessen_19 : decode cX0_lessen 19 = .ok (.invokevirtual 20, 3) := by decide +kernel
theorem dX0_lessen_22 : decode cX0_lessen 22 = .ok (.return_, 1) := by decide +kernel
theorem dX0_isAbove_0 : decode cX0_isAbove 0 = .ok (.lload_n 2, 1) := by decide +kernel
theorem dX0_isAbove_1 : decode cX0_isAbove 1 = .ok (.lconst 0, 1) := by decide +kernel
theorem dX0_isAbove_2 : decode cX0_isAbove 2 = .ok (.lcmp, 1) := by decide +kernel
theorem dX0_isAbove_3 : decode cX0_isAbove 3 = .ok (.ifCond .le 10, 3) := by decide +kernel
theorem dX0_isAbove_6 : decode cX0_isAbove 6 = .ok (.lload 6, 2) := by decide +kernel
theorem dX0_isAbove_8 : decode cX0_isAbove 8 = .ok (.lconst 0, 1) := by decide +kernel
theorem dX0_isAbove_9 : decode cX0_isAbove 9 = .ok (.lcmp, 1) := by decide +kernel
theorem dX0_isAbove_10 : decode cX0_isAbove 10 = .ok (.ifCond .gt 5, 3) := by decide +kernel
theorem dX0_isAbove_13 : decode cX0_isAbove 13 = .ok (.iconst 0, 1) := by decide +kernel
theorem dX0_isAbove_14 : decode cX0_isAbove 14 = .ok (.ireturn, 1) := by decide +kernel
theorem dX0_isAbove_15 : decode cX0_isAbove 15 = .ok (.lload_n 0, 1) := by decide +kernel
theorem dX0_isAbove_16 : decode cX0_isAbove 16 = .ok (.lload_n 2, 1) := by decide +kernel
theorem dX0_isAbove_17 : decode cX0_isAbove 17 = .ok (.ldiv, 1) := by decide +kernel
theorem dX0_isAbove_18 : decode cX0_isAbove 18 = .ok (.lstore 8, 2) := by decide +kernel
theorem dX0_isAbove_20 : decode cX0_isAbove 20 = .ok (.lload 4, 2) := by decide +kernel
theorem dX0_isAbove_22 : decode cX0_isAbove 22 = .ok (.lload 6, 2) := by decide +kernel
theorem dX0_isAbove_24 : decode cX0_isAbove 24 = .ok (.ldiv, 1) := by decide +kernel
theorem dX0_isAbove_25 : decode cX0_isAbove 25 = .ok (.lstore 10, 2) := by decide +kernel
theorem dX0_isAbove_27 : decode cX0_isAbove 27 = .ok (.lload 8, 2) := by decide +kernel
theorem dX0_isAbove_29 : decode cX0_isAbove 29 = .ok (.lload 10, 2) := by decide +kernel
theorem dX0_isAbove_31 : decode cX0_isAbove 31 = .ok (.lcmp, 1) := by decide +kernel
theorem dX0_isAbove_32 : decode cX0_isAbove 32 = .ok (.ifCond .eq 17, 3) := by decide +kernel
theorem dX0_isAbove_35 : decode cX0_isAbove 35 = .ok (.lload 8, 2) := by decide +kernel
theorem dX0_isAbove_37 : decode cX0_isAbove 37 = .ok (.lload 10, 2) := by decide +kernel
theorem dX0_isAbove_39 : decode cX0_isAbove 39 = .ok (.lcmp, 1) := by decide +kernel
theorem dX0_isAbove_40 : decode cX0_isAbove 40 = .ok (.ifCond .le 7, 3) := by decide +kernel
theorem dX0_isAbove_43 : decode cX0_isAbove 43 = .ok (.iconst 1, 1) := by decide +kernel
theorem dX0_isAbove_44 : decode cX0_isAbove 44 = .ok (.goto 4, 3) := by decide +kernel
theorem dX0_isAbove_47 : decode cX0_isAbove 47 = .ok (.iconst 0, 1) := by decide +kernel
theorem dX0_isAbove_48 : decode cX0_isAbove 48 = .ok (.ireturn, 1) := by decide +kernel
theorem dX0_isAbove_49 : decode cX0_isAbove 49 = .ok (.lload_n 0, 1) := by decide +kernel
theorem dX0_isAbove_50 : decode cX0_isAbove 50 = .ok (.lload_n 2, 1) := by decide +kernel
theorem dX0_isAbove_51 : decode cX0_isAbove 51 = .ok (.lrem, 1) := by decide +kernel
theorem dX0_isAbove_52 : decode cX0_isAbove 52 = .ok (.lload 6, 2) := by decide +kernel
theorem dX0_isAbove_54 : decode cX0_isAbove 54 = .ok (.lmul, 1) := by decide +kernel
theorem dX0_isAbove_55 : decode cX0_isAbove 55 = .ok (.lload 4, 2) := by decide +kernel
theorem dX0_isAbove_57 : decode cX0_isAbove 57 = .ok (.lload 6, 2) := by decide +kernel
theorem dX0_isAbove_59 : decode cX0_isAbove 59 = .ok (.lrem, 1) := by decide +kernel
theorem dX0_isAbove_60 : decode cX0_isAbove 60 = .ok (.lload_n 2, 1) := by decide +kernel
theorem dX0_isAbove_61 : decode cX0_isAbove 61 = .ok (.lmul, 1) := by decide +kernel
theorem dX0_isAbove_62 : decode cX0_isAbove 62 = .ok (.lcmp, 1) := by decide +kernel
theorem dX0_isAbove_63 : decode cX0_isAbove 63 = .ok (.ifCond .le 7, 3) := by decide +kernel
theorem dX0_isAbove_66 : decode cX0_isAbove 66 = .ok (.iconst 1, 1) := by decide +kernel
theorem dX0_isAbove_67 : decode cX0_isAbove 67 = .ok (.goto 4, 3) := by decide +kernel
theorem dX0_isAbove_70 : decode cX0_isAbove 70 = .ok (.iconst 0, 1) := by decide +kernel
theorem dX0_isAbove_71 : decode cX0_isAbove 71 = .ok (.ireturn, 1) := by decide +kernel
set_option maxRecDepth 20000 in
theorem ggX0_reduce_X0_greatestDivisor : GoodIn wsX0_reduce wsX0_greatestDivisor := goodIn_r _ [6] (by decide +kernel) (by decide +kernel)
set_option maxRecDepth 20000 in
theorem gX0_reduce_X0_greatestDivisor : GoodIn wsX0_reduce (va_wsS RX0 24 yX0_greatestDivisor wsX0_greatestDivisor) := goodIn_app (goodIn_of _ (by decide +kernel)) ggX0_reduce_X0_greatestDivisor
theorem dX0_reduce_0 : decode cX0_reduce 0 = .ok (.aload_n 0, 1) := by decide +kernel
theorem dX0_reduce_1 : decode cX0_reduce 1 = .ok (.getfield 7, 3) := by decide +kernel
theorem dX0_reduce_4 : decode cX0_reduce 4 = .ok (.aload_n 0, 1) := by decide +kernel
theorem dX0_reduce_5 : decode cX0_reduce 5 = .ok (.getfield 13, 3) := by decide +kernel
theorem dX0_reduce_8 : decode cX0_reduce 8 = .ok (.invokestatic 24, 3) := by decide +kernel
theorem dX0_reduce_11 : decode cX0_reduce 11 = .ok (.lstore_n 1, 1) := by decide +kernel
theorem dX0_reduce_12 : decode cX0_reduce 12 = .ok (.lload_n 1, 1) := by decide +kernel
theorem dX0_reduce_13 : decode cX0_reduce 13 = .ok (.lconst 1, 1) := by decide +kernel
theorem dX0_reduce_14 : decode cX0_reduce 14 = .ok (.lcmp, 1) := by decide +kernel
theorem dX0_reduce_15 : decode cX0_reduce 15 = .ok (.ifCond .le 23, 3) := by decide +kernel
theorem dX0_reduce_18 : decode cX0_reduce 18 = .ok (.aload_n 0, 1) := by decide +kernel
theorem dX0_reduce_19 : decode cX0_reduce 19 = .ok (.dup, 1) := by decide +kernel
theorem dX0_reduce_20 : decode cX0_reduce 20 = .ok (.getfield 7, 3) := by decide +kernel
theorem dX0_reduce_23 : decode cX0_reduce 23 = .ok (.lload_n 1, 1) := by decide +kernel
theorem dX0_reduce_24 : decode cX0_reduce 24 = .ok (.ldiv, 1) := by decide +kernel
theorem dX0_reduce_25 : decode cX0_reduce 25 = .ok (.putfield 7, 3) := by decide +kernel
theorem dX0_reduce_28 : decode cX0_reduce 28 = .ok (.aload_n 0, 1) := by decide +kernel
theorem dX0_reduce_29 : decode cX0_reduce 29 = .ok (.dup, 1) := by decide +kernel
theorem dX0_reduce_30 : decode cX0_reduce 30 = .ok (.getfield 13, 3) := by decide +kernel
theorem dX0_reduce_33 : decode cX0_reduce 33 = .ok (.lload_n 1, 1) := by decide +kernel
theorem dX0_reduce_34 : decode cX0_reduce 34 = .ok (.ldiv, 1) := by decide +kernel
theorem dX0_reduce_35 : decode cX0_reduce 35 = .ok (.putfield 13, 3) := by decide +kernel
theorem dX0_reduce_38 : decode cX0_reduce 38 = .ok (.return_, 1) := by decide +kernel
theorem dX0_greatestDivisor_0 : decode cX0_greatestDivisor 0 = .ok (.iconst 0, 1) := by decide +kernel
theorem dX0_greatestDivisor_1 : decode cX0_greatestDivisor 1 = .ok (.istore 4, 2) := by decide +kernel
theorem dX0_greatestDivisor_3 : decode cX0_greatestDivisor 3 = .ok (.iload 4, 2) := by decide +kernel
theorem dX0_greatestDivisor_5 : decode cX0_greatestDivisor 5 = .ok (.sipush 200, 3) := by decide +kernel
theorem dX0_greatestDivisor_8 : decode cX0_greatestDivisor 8 = .ok (.if_icmp .ge 25, 3) := by decide +kernel
theorem dX0_greatestDivisor_11 : decode cX0_greatestDivisor 11 = .ok (.lload_n 2, 1) := by decide +kernel
theorem dX0_greatestDivisor_12 : decode cX0_greatestDivisor 12 = .ok (.lconst 0, 1) := by decide +kernel
theorem dX0_greatestDivisor_13 : decode cX0_greatestDivisor 13 = .ok (.lcmp, 1) := by decide +kernel
theorem dX0_greatestDivisor_14 : decode cX0_greatestDivisor 14 = .ok (.ifCond .eq 19, 3) := by decide +kernel
theorem dX0_greatestDivisor_17 : decode cX0_greatestDivisor 17 = .ok (.lload_n 0, 1) := by decide +kernel
theorem dX0_greatestDivisor_18 : decode cX0_greatestDivisor 18 = .ok (.lload_n 2, 1) := by decide +kernel
theorem dX0_greatestDivisor_19 : decode cX0_greatestDivisor 19 = .ok (.lrem, 1) := by decide +kernel
theorem dX0_greatestDivisor_20 : decode cX0_greatestDivisor 20 = .ok (.lstore 5, 2) := by decide +kernel
theorem dX0_greatestDivisor_22 : decode cX0_greatestDivisor 22 = .ok (.lload_n 2, 1) := by decide +kernel
theorem dX0_greatestDivisor_23 : decode cX0_greatestDivisor 23 = .ok (.lstore_n 0, 1) := by decide +kernel
theorem dX0_greatestDivisor_24 : decode cX0_greatestDivisor 24 = .ok (.lload 5, 2) := by decide +kernel
theorem dX0_greatestDivisor_26 : decode cX0_greatestDivisor 26 = .ok (.lstore_n 2, 1) := by decide +kernel
theorem dX0_greatestDivisor_27 : decode cX0_greatestDivisor 27 = .ok (.iinc 4 1, 3) := by decide +kernel
theorem dX0_greatestDivisor_30 : decode cX0_greatestDivisor 30 = .ok (.goto (-27), 3) := by decide +kernel
theorem dX0_greatestDivisor_33 : decode cX0_greatestDivisor 33 = .ok (.lload_n 0, 1) := by decide +kernel
theorem dX0_greatestDivisor_34 : decode cX0_greatestDivisor 34 = .ok (.lreturn, 1) := by decide +kernel
theorem dX2_init_0 : decode cX2_init 0 = .ok (.aload_n 0, 1) := by decide +kernel
theorem dX2_init_1 : decode cX2_init 1 = .ok (.invokespecial 3, 3) := by decide +kernel
theorem dX2_init_4 : decode cX2_init 4 = .ok (.aload_n 0, 1) := by decide +kernel
theorem dX2_init_5 : decode cX2_init 5 = .ok (.iconst 0, 1) := by decide +kernel
theorem dX2_init_6 : decode cX2_init 6 = .ok (.putfield 9, 3) := by decide +kernel
theorem dX2_init_9 : decode cX2_init 9 = .ok (.aload_n 0, 1) := by decide +kernel
theorem dX2_init_10 : decode cX2_init 10 = .ok (.iconst 0, 1) := by decide +kernel
theorem dX2_init_11 : decode cX2_init 11 = .ok (.putfield 15, 3) := by decide +kernel
theorem dX2_init_14 : decode cX2_init 14 = .ok (.aload_n 0, 1) := by decide +kernel
theorem dX2_init_15 : decode cX2_init 15 = .ok (.sipush 10000, 3) := by decide +kernel
theorem dX2_init_18 : decode cX2_init 18 = .ok (.putfield 18, 3) := by decide +kernel
theorem dX2_init_21 : decode cX2_init 21 = .ok (.aload_n 0, 1) := by decide +kernel
theorem dX2_init_22 : decode cX2_init 22 = .ok (.sipush 10000, 3) := by decide +kernel
theorem dX2_init_25 : decode cX2_init 25 = .ok (.putfield 21, 3) := by decide +kernel
theorem dX2_init_28 : decode cX2_init 28 = .ok (.aload_n 0, 1) := by decide +kernel
theorem dX2_init_29 : decode cX2_init 29 = .ok (.sipush (-10000), 3) := by decide +kernel
theorem dX2_init_32 : decode cX2_init 32 = .ok (.putfield 24, 3) := by decide +kernel
theorem dX2_init_35 : decode cX2_init 35 = .ok (.aload_n 0, 1) := by decide +kernel
theorem dX2_init_36 : decode cX2_init 36 = .ok (.sipush (-10000), 3) := by decide +kernel
theorem dX2_init_39 : decode cX2_init 39 = .ok (.putfield 27, 3) := by decide +kernel
theorem dX2_init_42 : decode cX2_init 42 = .ok (.aload_n 0, 1) := by decide +kernel
theorem dX2_init_43 : decode cX2_init 43 = .ok (.aload_n 1, 1) := by decide +kernel
theorem dX2_init_44 : decode cX2_init 44 = .ok (.putfield 30, 3) := by decide +kernel
theorem dX2_init_47 : decode cX2_init 47 = .ok (.aload_n 0, 1) := by decide +kernel
theorem dX2_init_48 : decode cX2_init 48 = .ok (.aload_n 1, 1) := by decide +kernel
theorem dX2_init_49 : decode cX2_init 49 = .ok (.getfield 34, 3) := by decide +kernel
theorem dX2_init_52 : decode cX2_init 52 = .ok (.iconst 1, 1) := by decide +kernel
theorem dX2_init_53 : decode cX2_init 53 = .ok (.iadd, 1) := by decide +kernel
theorem dX2_init_54 : decode cX2_init 54 = .ok (.newarray .int, 2) := by decide +kernel
theorem dX2_init_56 : decode cX2_init 56 = .ok (.putfield 39, 3) := by decide +kernel
theorem dX2_init_59 : decode cX2_init 59 = .ok (.aload_n 0, 1) := by decide +kernel
theorem dX2_init_60 : decode cX2_init 60 = .ok (.aload_n 1, 1) := by decide +kernel
theorem dX2_init_61 : decode cX2_init 61 = .ok (.getfield 34, 3) := by decide +kernel
theorem dX2_init_64 : decode cX2_init 64 = .ok (.iconst 1, 1) := by decide +kernel
theorem dX2_init_65 : decode cX2_init 65 = .ok (.iadd, 1) := by decide +kernel
theorem dX2_init_66 : decode cX2_init 66 = .ok (.newarray .int, 2) := by decide +kernel
theorem dX2_init_68 : decode cX2_init 68 = .ok (.putfield 43, 3) := by decide +kernel
theorem dX2_init_71 : decode cX2_init 71 = .ok (.return_, 1) := by decide +kernel
set_option maxRecDepth 20000 in
theorem ggX2_add_X2_judge : GoodIn wsX2_add wsX2_judge := goodIn_r _ [22, 1, 2, 23, 24, 25, 26, 27, 21, 28, 29, 30, 31, 32, 33, 4, 5, 34, 35, 36, 37, 38, 39, 40, 41, 42, 43, 44, 45, 46, 47, 48, 49, 13, 14, 9, 15, 7, 8, 10, 50, 51, 52, 53, 54, 55, 56, 57, 58, 59, 60, 61, 62] (by decide +kernel) (by decide +kernel)
set_option maxRecDepth 20000 in
theorem gX2_add_X2_judge : GoodIn wsX2_add (wsV RX2 55 RX2 yX2_judge wsX2_judge) := goodIn_app (goodIn_of _ (by decide +kernel)) ggX2_add_X2_judge
theorem dX2_add_0 : decode cX2_add 0 = .ok (.aload_n 0, 1) := by decide +kernel
theorem dX2_add_1 : decode cX2_add 1 = .ok (.getfield 9, 3) := by decide +kernel
theorem dX2_add_4 : decode cX2_add 4 = .ok (.aload_n 0, 1) := by decide +kernel
theorem dX2_add_5 : decode cX2_add 5 = .ok (.getfield 30, 3) := by decide +kernel
theorem dX2_add_8 : decode cX2_add 8 = .ok (.getfield 34, 3) := by decide +kernel
theorem dX2_add_11 : decode cX2_add 11 = .ok (.if_icmp .lt 4, 3) := by decide +kernel
theorem dX2_add_14 : decode cX2_add 14 = .ok (.return_, 1) := by decide +kernel
theorem dX2_add_15 : decode cX2_add 15 = .ok (.aload_n 0, 1) := by decide +kernel
theorem dX2_add_16 : decode cX2_add 16 = .ok (.getfield 39, 3) := by decide +kernel
theorem dX2_add_19 : decode cX2_add 19 = .ok (.aload_n 0, 1) := by decide +kernel
theorem dX2_add_20 : decode cX2_add 20 = .ok (.getfield 9, 3) := by decide +kernel
theorem dX2_add_23 : decode cX2_add 23 = .ok (.iload_n 1, 1) := by decide +kernel
theorem dX2_add_24 : decode cX2_add 24 = .ok (.iastore, 1) := by decide +kernel
theorem dX2_add_25 : decode cX2_add 25 = .ok (.aload_n 0, 1) := by decide +kernel
theorem dX2_add_26 : decode cX2_add 26 = .ok (.getfield 43, 3) := by decide +kernel
theorem dX2_add_29 : decode cX2_add 29 = .ok (.aload_n 0, 1) := by decide +kernel
theorem dX2_add_30 : decode cX2_add 30 = .ok (.getfield 9, 3) := by decide +kernel
theorem dX2_add_33 : decode cX2_add 33 = .ok (.iload_n 2, 1) := by decide +kernel
theorem dX2_add_34 : decode cX2_add 34 = .ok (.iastore, 1) := by decide +kernel
theorem dX2_add_35 : decode cX2_add 35 = .ok (.aload_n 0, 1) := by decide +kernel
theorem dX2_add_36 : decode cX2_add 36 = .ok (.dup, 1) := by decide +kernel
theorem dX2_add_37 : decode cX2_add 37 = .ok (.getfield 9, 3) := by decide +kernel
theorem dX2_add_40 : decode cX2_add 40 = .ok (.iconst 1, 1) := by decide +kernel
theorem dX2_add_41 : decode cX2_add 41 = .ok (.iadd, 1) := by decide +kernel
theorem dX2_add_42 : decode cX2_add 42 = .ok (.putfield 9, 3) := by decide +kernel
theorem dX2_add_45 : decode cX2_add 45 = .ok (.aload_n 0, 1) := by decide +kernel
theorem dX2_add_46 : decode cX2_add 46 = .ok (.getfield 39, 3) := by decide +kernel
theorem dX2_add_49 : decode cX2_add 49 = .ok (.aload_n 0, 1) := by decide +kernel
theorem dX2_add_50 : decode cX2_add 50 = .ok (.getfield 9, 3) := by decide +kernel
theorem dX2_add_53 : decode cX2_add 53 = .ok (.aload_n 0, 1) := by decide +kernel
theorem dX2_add_54 : decode cX2_add 54 = .ok (.getfield 39, 3) := by decide +kernel
theorem dX2_add_57 : decode cX2_add 57 = .ok (.iconst 0, 1) := by decide +kernel
theorem dX2_add_58 : decode cX2_add 58 = .ok (.iaload, 1) := by decide +kernel
theorem dX2_add_59 : decode cX2_add 59 = .ok (.iastore, 1) := by decide +kernel
theorem dX2_add_60 : decode cX2_add 60 = .ok (.aload_n 0, 1) := by decide +kernel
theorem dX2_add_61 : decode cX2_add 61 = .ok (.getfield 43, 3) := by decide +kernel
theorem dX2_add_64 : decode cX2_add 64 = .ok (.aload_n 0, 1) := by decide +kernel
theorem dX2_add_65 : decode cX2_add 65 = .ok (.getfield 9, 3) := by decide +kernel
theorem dX2_add_68 : decode cX2_add 68 = .ok (.aload_n 0, 1) := by decide +kernel
theorem dX2_add_69 : decode cX2_add 69 = .ok (.getfield 43, 3) := by decide +kernel
theorem dX2_add_72 : decode cX2_add 72 = .ok (.iconst 0, 1) := by decide +kernel
theorem dX2_add_73 : decode cX2_add 73 = .ok (.iaload, 1) := by decide +kernel
theorem dX2_add_74 : decode cX2_add 74 = .ok (.iastore, 1) := by decide +kernel
theorem dX2_add_75 : decode cX2_add 75 = .ok (.aload_n 0, 1) := by decide +kernel
theorem dX2_add_76 : decode cX2_add 76 = .ok (.aload_n 0, 1) := by decide +kernel
theorem dX2_add_77 : decode cX2_add 77 = .ok (.getfield 18, 3) := by decide +kernel
theorem dX2_add_80 : decode cX2_add 80 = .ok (.iload_n 1, 1) := by decide +kernel
theorem dX2_add_81 : decode cX2_add 81 = .ok (.invokestatic 46, 3) := by decide +kernel
theorem dX2_add_84 : decode cX2_add 84 = .ok (.putfield 18, 3) := by decide +kernel
theorem dX2_add_87 : decode cX2_add 87 = .ok (.aload_n 0, 1) := by decide +kernel
theorem dX2_add_88 : decode cX2_add 88 = .ok (.aload_n 0, 1) := by decide +kernel
theorem dX2_add_89 : decode cX2_add 89 = .ok (.getfield 21, 3) := by decide +kernel
theorem dX2_add_92 : decode cX2_add 92 = .ok (.iload_n 2, 1) := by decide +kernel
theorem dX2_add_93 : decode cX2_add 93 = .ok (.invokestatic 46, 3) := by decide +kernel
theorem dX2_add_96 : decode cX2_add 96 = .ok (.putfield 21, 3) := by decide +kernel
theorem dX2_add_99 : decode cX2_add 99 = .ok (.aload_n 0, 1) := by decide +kernel
theorem dX2_add_100 : decode cX2_add 100 = .ok (.aload_n 0, 1) := by decide +kernel
theorem dX2_add_101 : decode cX2_add 101 = .ok (.getfield 24, 3) := by decide +kernel
theorem dX2_add_104 : decode cX2_add 104 = .ok (.iload_n 1, 1) := by decide +kernel
theorem dX2_add_105 : decode cX2_add 105 = .ok (.invokestatic 52, 3) := by decide +kernel
theorem dX2_add_108 : decode cX2_add 108 = .ok (.putfield 24, 3) := by decide +kernel
theorem dX2_add_111 : decode cX2_add 111 = .ok (.aload_n 0, 1) := by decide +kernel
theorem dX2_add_112 : decode cX2_add 112 = .ok (.aload_n 0, 1) := by decide +kernel
theorem dX2_add_113 : decode cX2_add 113 = .ok (.getfield 27, 3) := by decide +kernel
theorem dX2_add_116 : decode cX2_add 116 = .ok (.iload_n 2, 1) := by decide +kernel
theorem dX2_add_117 : decode cX2_add 117 = .ok (.invokestatic 52, 3) := by decide +kernel
theorem dX2_add_120 : decode cX2_add 120 = .ok (.putfield 27, 3) := by decide +kernel
theorem dX2_add_123 : decode cX2_add 123 = .ok (.aload_n 0, 1) := by decide +kernel
theorem dX2_add_124 : decode cX2_add 124 = .ok (.aload_n 0, 1) := by decide +kernel
theorem dX2_add_125 : decode cX2_add 125 = .ok (.invokevirtual 55, 3) := by decide +kernel
theorem dX2_add_128 : decode cX2_add 128 = .ok (.putfield 15, 3) := by decide +kernel
theorem dX2_add_131 : decode cX2_add 131 = .ok (.return_, 1) := by decide +kernel
theorem dX2_boxMeets_0 : decode cX2_boxMeets 0 = .ok (.aload_n 0, 1) := by decide +kernel
theorem dX2_boxMeets_1 : decode cX2_boxMeets 1 = .ok (.getfield 18, 3) := by decide +kernel
theorem dX2_boxMeets_4 : decode cX2_boxMeets 4 = .ok (.iload_n 3, 1) := by decide +kernel
theorem dX2_boxMeets_5 : decode cX2_boxMeets 5 = .ok (.if_icmp .gt 32, 3) := by decide +kernel
theorem dX2_boxMeets_8 : decode cX2_boxMeets 8 = .ok (.aload_n 0, 1) := by decide +kernel
theorem dX2_boxMeets_9 : decode cX2_boxMeets 9 = .ok (.getfield 24, 3) := by decide +kernel
theorem dX2_boxMeets_12 : decode cX2_boxMeets 12 = .ok (.iload_n 1, 1) := by decide +kernel
theorem dX2_boxMeets_13 : decode cX2_boxMeets 13 = .ok (.if_icmp .lt 24, 3) := by decide +kernel
theorem dX2_boxMeets_16 : decode cX2_boxMeets 16 = .ok (.aload_n 0, 1) := by decide +kernel
theorem dX2_boxMeets_17 : decode cX2_boxMeets 17 = .ok (.getfield 21, 3) := by decide +kernel
theorem dX2_boxMeets_20 : decode cX2_boxMeets 20 = .ok (.iload 4, 2) := by decide +kernel
theorem dX2_boxMeets_22 : decode cX2_boxMeets 22 = .ok (.if_icmp .gt 15, 3) := by decide +kernel
theorem dX2_boxMeets_25 : decode cX2_boxMeets 25 = .ok (.aload_n 0, 1) := by decide +kernel
theorem dX2_boxMeets_26 : decode cX2_boxMeets 26 = .ok (.getfield 27, 3) := by decide +kernel
theorem dX2_boxMeets_29 : decode cX2_boxMeets 29 = .ok (.iload_n 2, 1) := by decide +kernel
theorem dX2_boxMeets_30 : decode cX2_boxMeets 30 = .ok (.if_icmp .lt 7, 3) := by decide +kernel
theorem dX2_boxMeets_33 : decode cX2_boxMeets 33 = .ok (.iconst 1, 1) := by decide +kernel
theorem dX2_boxMeets_34 : decode cX2_boxMeets 34 = .ok (.goto 4, 3) := by decide +kernel
theorem dX2_boxMeets_37 : decode cX2_boxMeets 37 = .ok (.iconst 0, 1) := by decide +kernel
theorem dX2_boxMeets_38 : decode cX2_boxMeets 38 = .ok (.ireturn, 1) := by decide +kernel
theorem dX2_twiceEnclosed_0 : decode cX2_twiceEnclosed 0 = .ok (.lconst 0, 1) := by decide +kernel
theorem dX2_twiceEnclosed_1 : decode cX2_twiceEnclosed 1 = .ok (.lstore_n 1, 1) := by decide +kernel
theorem dX2_twiceEnclosed_2 : decode cX2_twiceEnclosed 2 = .ok (.iconst 0, 1) := by decide +kernel
theorem dX2_twiceEnclosed_3 : decode cX2_twiceEnclosed 3 = .ok (.istore_n 3, 1) := by decide +kernel
theorem dX2_twiceEnclosed_4 : decode cX2_twiceEnclosed 4 = .ok (.iload_n 3, 1) := by decide +kernel
theorem dX2_twiceEnclosed_5 : decode cX2_twiceEnclosed 5 = .ok (.aload_n 0, 1) := by decide +kernel
theorem dX2_twiceEnclosed_6 : decode cX2_twiceEnclosed 6 = .ok (.getfield 9, 3) := by decide +kernel
theorem dX2_twiceEnclosed_9 : decode cX2_twiceEnclosed 9 = .ok (.if_icmp .ge 47, 3) := by decide +kernel
theorem dX2_twiceEnclosed_12 : decode cX2_twiceEnclosed 12 = .ok (.lload_n 1, 1) := by decide +kernel
theorem dX2_twiceEnclosed_13 : decode cX2_twiceEnclosed 13 = .ok (.aload_n 0, 1) := by decide +kernel
theorem dX2_twiceEnclosed_14 : decode cX2_twiceEnclosed 14 = .ok (.getfield 39, 3) := by decide +kernel
theorem dX2_twiceEnclosed_17 : decode cX2_twiceEnclosed 17 = .ok (.iload_n 3, 1) := by decide +kernel
theorem dX2_twiceEnclosed_18 : decode cX2_twiceEnclosed 18 = .ok (.iaload, 1) := by decide +kernel
theorem dX2_twiceEnclosed_19 : decode cX2_twiceEnclosed 19 = .ok (.i2l, 1) := by decide +kernel
theorem dX2_twiceEnclosed_20 : decode cX2_twiceEnclosed 20 = .ok (.aload_n 0, 1) := by decide +kernel
theorem dX2_twiceEnclosed_21 : decode cX2_twiceEnclosed 21 = .ok (.getfield 43, 3) := by decide +kernel
theorem dX2_twiceEnclosed_24 : decode cX2_twiceEnclosed 24 = .ok (.iload_n 3, 1) := by decide +kernel
theorem dX2_twiceEnclosed_25 : decode cX2_twiceEnclosed 25 = .ok (.iconst 1, 1) := by decide +kernel
theorem dX2_twiceEnclosed_26 : decode cX2_twiceEnclosed 26 = .ok (.iadd, 1) := by decide +kernel
theorem dX2_twiceEnclosed_27 : decode cX2_twiceEnclosed 27 = .ok (.iaload, 1) := by decide +kernel
theorem dX2_twiceEnclosed_28 : decode cX2_twiceEnclosed 28 = .ok (.i2l, 1) := by decide +kernel
theorem dX2_twiceEnclosed_29 : decode cX2_twiceEnclosed 29 = .ok (.lmul, 1) := by decide +kernel
theorem dX2_twiceEnclosed_30 : decode cX2_twiceEnclosed 30 = .ok (.aload_n 0, 1) := by decide +kernel
theorem dX2_twiceEnclosed_31 : decode cX2_twiceEnclosed 31 = .ok (.getfield 39, 3) := by decide +kernel
theorem dX2_twiceEnclosed_34 : decode cX2_twiceEnclosed 34 = .ok (.iload_n 3, 1) := by decide +kernel
theorem dX2_twiceEnclosed_35 : decode cX2_twiceEnclosed 35 = .ok (.iconst 1, 1) := by decide +kernel
theorem dX2_twiceEnclosed_36 : decode cX2_twiceEnclosed 36 = .ok (.iadd, 1) := by decide +kernel
theorem dX2_twiceEnclosed_37 : decode cX2_twiceEnclosed 37 = .ok (.iaload, 1) := by decide +kernel
theorem dX2_twiceEnclosed_38 : decode cX2_twiceEnclosed 38 = .ok (.i2l, 1) := by decide +kernel
theorem dX2_twiceEnclosed_39 : decode cX2_twiceEnclosed 39 = .ok (.aload_n 0, 1) := by decide +kernel
theorem dX2_twiceEnclosed_40 : decode cX2_twiceEnclosed 40 = .ok (.getfield 43, 3) := by decide +kernel
theorem dX2_twiceEnclosed_43 : decode cX2_twiceEnclosed 43 = .ok (.iload_n 3, 1) := by decide +kernel
theorem dX2_twiceEnclosed_44 : decode cX2_twiceEnclosed 44 = .ok (.iaload, 1) := by decide +kernel
theorem dX2_twiceEnclosed_45 : decode cX2_twiceEnclosed 45 = .ok (.i2l, 1) := by decide +kernel
theorem dX2_twiceEnclosed_46 : decode cX2_twiceEnclosed 46 = .ok (.lmul, 1) := by decide +kernel
theorem dX2_twiceEnclosed_47 : decode cX2_twiceEnclosed 47 = .ok (.lsub, 1) := by decide +kernel
theorem dX2_twiceEnclosed_48 : decode cX2_twiceEnclosed 48 = .ok (.ladd, 1) := by decide +kernel
theorem dX2_twiceEnclosed_49 : decode cX2_twiceEnclosed 49 = .ok (.lstore_n 1, 1) := by decide +kernel
theorem dX2_twiceEnclosed_50 : decode cX2_twiceEnclosed 50 = .ok (.iinc 3 1, 3) := by decide +kernel
theorem dX2_twiceEnclosed_53 : decode cX2_twiceEnclosed 53 = .ok (.goto (-49), 3) := by decide +kernel
theorem dX2_twiceEnclosed_56 : decode cX2_twiceEnclosed 56 = .ok (.lload_n 1, 1) := by decide +kernel
theorem dX2_twiceEnclosed_57 : decode cX2_twiceEnclosed 57 = .ok (.lreturn, 1) := by decide +kernel
set_option maxRecDepth 20000 in
theorem ggX2_whereIs_X2_turn : GoodIn wsX2_whereIs wsX2_turn := goodIn_r _ [8, 2, 3, 19, 20, 21, 22, 23, 24, 25, 26, 27] (by decide +kernel) (by decide +kernel)
set_option maxRecDepth 20000 in
theorem gX2_whereIs_X2_turn : GoodIn wsX2_whereIs (wsV RX2 59 RX2 yX2_turn wsX2_turn) := goodIn_app (goodIn_of _ (by decide +kernel)) ggX2_whereIs_X2_turn
set_option maxRecDepth 20000 in
theorem ggX2_whereIs_X2_overlap : GoodIn wsX2_whereIs wsX2_overlap := goodIn_r _ [11, 12, 13, 14, 15, 16, 17, 18] (by decide +kernel) (by decide +kernel)
set_option maxRecDepth 20000 in
theorem gX2_whereIs_X2_overlap : GoodIn wsX2_whereIs (va_wsS RX2 63 yX2_overlap wsX2_overlap) := goodIn_app (goodIn_of _ (by decide +kernel)) ggX2_whereIs_X2_overlap
theorem dX2_whereIs_0 : decode cX2_whereIs 0 = .ok (.iconst 0, 1) := by decide +kernel
theorem dX2_whereIs_1 : decode cX2_whereIs 1 = .ok (.istore_n 3, 1) := by decide +kernel
theorem dX2_whereIs_2 : decode cX2_whereIs 2 = .ok (.iconst 0, 1) := by decide +kernel
theorem dX2_whereIs_3 : decode cX2_whereIs 3 = .ok (.istore 4, 2) := by decide +kernel
theorem dX2_whereIs_5 : decode cX2_whereIs 5 = .ok (.iload 4, 2) := by decide +kernel
theorem dX2_whereIs_7 : decode cX2_whereIs 7 = .ok (.aload_n 0, 1) := by decide +kernel
theorem dX2_whereIs_8 : decode cX2_whereIs 8 = .ok (.getfield 9, 3) := by decide +kernel
theorem dX2_whereIs_11 : decode cX2_whereIs 11 = .ok (.if_icmp .ge 172, 3) := by decide +kernel
theorem dX2_whereIs_14 : decode cX2_whereIs 14 = .ok (.aload_n 0, 1) := by decide +kernel
theorem dX2_whereIs_15 : decode cX2_whereIs 15 = .ok (.iload 4, 2) := by decide +kernel
theorem dX2_whereIs_17 : decode cX2_whereIs 17 = .ok (.iload_n 1, 1) := by decide +kernel
theorem dX2_whereIs_18 : decode cX2_whereIs 18 = .ok (.iload_n 2, 1) := by decide +kernel
theorem dX2_whereIs_19 : decode cX2_whereIs 19 = .ok (.invokevirtual 59, 3) := by decide +kernel
theorem dX2_whereIs_22 : decode cX2_whereIs 22 = .ok (.lstore 5, 2) := by decide +kernel
theorem dX2_whereIs_24 : decode cX2_whereIs 24 = .ok (.lload 5, 2) := by decide +kernel
theorem dX2_whereIs_26 : decode cX2_whereIs 26 = .ok (.lconst 0, 1) := by decide +kernel
theorem dX2_whereIs_27 : decode cX2_whereIs 27 = .ok (.lcmp, 1) := by decide +kernel
theorem dX2_whereIs_28 : decode cX2_whereIs 28 = .ok (.ifCond .ne 53, 3) := by decide +kernel
theorem dX2_whereIs_31 : decode cX2_whereIs 31 = .ok (.aload_n 0, 1) := by decide +kernel
theorem dX2_whereIs_32 : decode cX2_whereIs 32 = .ok (.getfield 39, 3) := by decide +kernel
theorem dX2_whereIs_35 : decode cX2_whereIs 35 = .ok (.iload 4, 2) := by decide +kernel
theorem dX2_whereIs_37 : decode cX2_whereIs 37 = .ok (.iaload, 1) := by decide +kernel
theorem dX2_whereIs_38 : decode cX2_whereIs 38 = .ok (.aload_n 0, 1) := by decide +kernel
theorem dX2_whereIs_39 : decode cX2_whereIs 39 = .ok (.getfield 39, 3) := by decide +kernel
theorem dX2_whereIs_42 : decode cX2_whereIs 42 = .ok (.iload 4, 2) := by decide +kernel
theorem dX2_whereIs_44 : decode cX2_whereIs 44 = .ok (.iconst 1, 1) := by decide +kernel
theorem dX2_whereIs_45 : decode cX2_whereIs 45 = .ok (.iadd, 1) := by decide +kernel
theorem dX2_whereIs_46 : decode cX2_whereIs 46 = .ok (.iaload, 1) := by decide +kernel
theorem dX2_whereIs_47 : decode cX2_whereIs 47 = .ok (.iload_n 1, 1) := by decide +kernel
theorem dX2_whereIs_48 : decode cX2_whereIs 48 = .ok (.iload_n 1, 1) := by decide +kernel
theorem dX2_whereIs_49 : decode cX2_whereIs 49 = .ok (.invokestatic 63, 3) := by decide +kernel
theorem dX2_whereIs_52 : decode cX2_whereIs 52 = .ok (.ifCond .eq 29, 3) := by decide +kernel
theorem dX2_whereIs_55 : decode cX2_whereIs 55 = .ok (.aload_n 0, 1) := by decide +kernel
theorem dX2_whereIs_56 : decode cX2_whereIs 56 = .ok (.getfield 43, 3) := by decide +kernel
theorem dX2_whereIs_59 : decode cX2_whereIs 59 = .ok (.iload 4, 2) := by decide +kernel
theorem dX2_whereIs_61 : decode cX2_whereIs 61 = .ok (.iaload, 1) := by decide +kernel
theorem dX2_whereIs_62 : decode cX2_whereIs 62 = .ok (.aload_n 0, 1) := by decide +kernel
theorem dX2_whereIs_63 : decode cX2_whereIs 63 = .ok (.getfield 43, 3) := by decide +kernel
theorem dX2_whereIs_66 : decode cX2_whereIs 66 = .ok (.iload 4, 2) := by decide +kernel
theorem dX2_whereIs_68 : decode cX2_whereIs 68 = .ok (.iconst 1, 1) := by decide +kernel
theorem dX2_whereIs_69 : decode cX2_whereIs 69 = .ok (.iadd, 1) := by decide +kernel
theorem dX2_whereIs_70 : decode cX2_whereIs 70 = .ok (.iaload, 1) := by decide +kernel
theorem dX2_whereIs_71 : decode cX2_whereIs 71 = .ok (.iload_n 2, 1) := by decide +kernel
theorem dX2_whereIs_72 : decode cX2_whereIs 72 = .ok (.iload_n 2, 1) := by decide +kernel
theorem dX2_whereIs_73 : decode cX2_whereIs 73 = .ok (.invokestatic 63, 3) := by decide +kernel
theorem dX2_whereIs_76 : decode cX2_whereIs 76 = .ok (.ifCond .eq 5, 3) := by decide +kernel
theorem dX2_whereIs_79 : decode cX2_whereIs 79 = .ok (.iconst 2, 1) := by decide +kernel
theorem dX2_whereIs_80 : decode cX2_whereIs 80 = .ok (.ireturn, 1) := by decide +kernel
theorem dX2_whereIs_81 : decode cX2_whereIs 81 = .ok (.aload_n 0, 1) := by decide +kernel
theorem dX2_whereIs_82 : decode cX2_whereIs 82 = .ok (.getfield 43, 3) := by decide +kernel
theorem dX2_whereIs_85 : decode cX2_whereIs 85 = .ok (.iload 4, 2) := by decide +kernel
theorem dX2_whereIs_87 : decode cX2_whereIs 87 = .ok (.iaload, 1) := by decide +kernel
theorem dX2_whereIs_88 : decode cX2_whereIs 88 = .ok (.iload_n 2, 1) := by decide +kernel
theorem dX2_whereIs_89 : decode cX2_whereIs 89 = .ok (.if_icmp .gt 20, 3) := by decide +kernel
theorem dX2_whereIs_92 : decode cX2_whereIs 92 = .ok (.iload_n 2, 1) := by decide +kernel
theorem dX2_whereIs_93 : decode cX2_whereIs 93 = .ok (.aload_n 0, 1) := by decide +kernel
theorem dX2_whereIs_94 : decode cX2_whereIs 94 = .ok (.getfield 43, 3) := by decide +kernel
theorem dX2_whereIs_97 : decode cX2_whereIs 97 = .ok (.iload 4, 2) := by decide +kernel
theorem dX2_whereIs_99 : decode cX2_whereIs 99 = .ok (.iconst 1, 1) := by decide +kernel
theorem dX2_whereIs_100 : decode cX2_whereIs 100 = .ok (.iadd, 1) := by decide +kernel
theorem dX2_whereIs_101 : decode cX2_whereIs 101 = .ok (.iaload, 1) := by decide +kernel
theorem dX2_whereIs_102 : decode cX2_whereIs 102 = .ok (.if_icmp .ge 7, 3) := by decide +kernel
theorem dX2_whereIs_105 : decode cX2_whereIs 105 = .ok (.iconst 1, 1) := by decide +kernel
theorem dX2_whereIs_106 : decode cX2_whereIs 106 = .ok (.goto 4, 3) := by decide +kernel
theorem dX2_whereIs_109 : decode cX2_whereIs 109 = .ok (.iconst 0, 1) := by decide +kernel
theorem dX2_whereIs_110 : decode cX2_whereIs 110 = .ok (.istore 7, 2) := by decide +kernel
theorem dX2_whereIs_112 : decode cX2_whereIs 112 = .ok (.aload_n 0, 1) := by decide +kernel
theorem dX2_whereIs_113 : decode cX2_whereIs 113 = .ok (.getfield 43, 3) := by decide +kernel
theorem dX2_whereIs_116 : decode cX2_whereIs 116 = .ok (.iload 4, 2) := by decide +kernel
theorem dX2_whereIs_118 : decode cX2_whereIs 118 = .ok (.iconst 1, 1) := by decide +kernel
theorem dX2_whereIs_119 : decode cX2_whereIs 119 = .ok (.iadd, 1) := by decide +kernel
theorem dX2_whereIs_120 : decode cX2_whereIs 120 = .ok (.iaload, 1) := by decide +kernel
theorem dX2_whereIs_121 : decode cX2_whereIs 121 = .ok (.iload_n 2, 1) := by decide +kernel
theorem dX2_whereIs_122 : decode cX2_whereIs 122 = .ok (.if_icmp .gt 18, 3) := by decide +kernel
theorem dX2_whereIs_125 : decode cX2_whereIs 125 = .ok (.iload_n 2, 1) := by decide +kernel
theorem dX2_whereIs_126 : decode cX2_whereIs 126 = .ok (.aload_n 0, 1) := by decide +kernel
theorem dX2_whereIs_127 : decode cX2_whereIs 127 = .ok (.getfield 43, 3) := by decide +kernel
theorem dX2_whereIs_130 : decode cX2_whereIs 130 = .ok (.iload 4, 2) := by decide +kernel
theorem dX2_whereIs_132 : decode cX2_whereIs 132 = .ok (.iaload, 1) := by decide +kernel
theorem dX2_whereIs_133 : decode cX2_whereIs 133 = .ok (.if_icmp .ge 7, 3) := by decide +kernel
theorem dX2_whereIs_136 : decode cX2_whereIs 136 = .ok (.iconst 1, 1) := by decide +kernel
theorem dX2_whereIs_137 : decode cX2_whereIs 137 = .ok (.goto 4, 3) := by decide +kernel
theorem dX2_whereIs_140 : decode cX2_whereIs 140 = .ok (.iconst 0, 1) := by decide +kernel
theorem dX2_whereIs_141 : decode cX2_whereIs 141 = .ok (.istore 8, 2) := by decide +kernel
theorem dX2_whereIs_143 : decode cX2_whereIs 143 = .ok (.iload 7, 2) := by decide +kernel
theorem dX2_whereIs_145 : decode cX2_whereIs 145 = .ok (.ifCond .eq 10, 3) := by decide +kernel
theorem dX2_whereIs_148 : decode cX2_whereIs 148 = .ok (.lload 5, 2) := by decide +kernel
theorem dX2_whereIs_150 : decode cX2_whereIs 150 = .ok (.lconst 0, 1) := by decide +kernel
theorem dX2_whereIs_151 : decode cX2_whereIs 151 = .ok (.lcmp, 1) := by decide +kernel
theorem dX2_whereIs_152 : decode cX2_whereIs 152 = .ok (.ifCond .gt 15, 3) := by decide +kernel
theorem dX2_whereIs_155 : decode cX2_whereIs 155 = .ok (.iload 8, 2) := by decide +kernel
theorem dX2_whereIs_157 : decode cX2_whereIs 157 = .ok (.ifCond .eq 20, 3) := by decide +kernel
theorem dX2_whereIs_160 : decode cX2_whereIs 160 = .ok (.lload 5, 2) := by decide +kernel
theorem dX2_whereIs_162 : decode cX2_whereIs 162 = .ok (.lconst 0, 1) := by decide +kernel
theorem dX2_whereIs_163 : decode cX2_whereIs 163 = .ok (.lcmp, 1) := by decide +kernel
theorem dX2_whereIs_164 : decode cX2_whereIs 164 = .ok (.ifCond .ge 13, 3) := by decide +kernel
theorem dX2_whereIs_167 : decode cX2_whereIs 167 = .ok (.iload_n 3, 1) := by decide +kernel
theorem dX2_whereIs_168 : decode cX2_whereIs 168 = .ok (.ifCond .ne 7, 3) := by decide +kernel
theorem dX2_whereIs_171 : decode cX2_whereIs 171 = .ok (.iconst 1, 1) := by decide +kernel
theorem dX2_whereIs_172 : decode cX2_whereIs 172 = .ok (.goto 4, 3) := by decide +kernel
theorem dX2_whereIs_175 : decode cX2_whereIs 175 = .ok (.iconst 0, 1) := by decide +kernel
theorem dX2_whereIs_176 : decode cX2_whereIs 176 = .ok (.istore_n 3, 1) := by decide +kernel
theorem dX2_whereIs_177 : decode cX2_whereIs 177 = .ok (.iinc 4 1, 3) := by decide +kernel
theorem dX2_whereIs_180 : decode cX2_whereIs 180 = .ok (.goto (-175), 3) := by decide +kernel
theorem dX2_whereIs_183 : decode cX2_whereIs 183 = .ok (.iload_n 3, 1) := by decide +kernel
theorem dX2_whereIs_184 : decode cX2_whereIs 184 = .ok (.ifCond .eq 7, 3) := by decide +kernel
theorem dX2_whereIs_187 : decode cX2_whereIs 187 = .ok (.iconst 1, 1) := by decide +kernel
theorem dX2_whereIs_188 : decode cX2_whereIs 188 = .ok (.goto 4, 3) := by decide +kernel
theorem dX2_whereIs_191 : decode cX2_whereIs 191 = .ok (.iconst 0, 1) := by decide +kernel
theorem dX2_whereIs_192 : decode cX2_whereIs 192 = .ok (.ireturn, 1) := by decide +kernel
set_option maxRecDepth 20000 in
theorem ggX2_touches_X2_sideCount : GoodIn wsX2_touches wsX2_sideCount := goodIn_r _ [7, 8, 9, 10, 38, 39, 40, 41, 42, 43, 44, 45, 46] (by decide +kernel) (by decide +kernel)
set_option maxRecDepth 20000 in
theorem gX2_touches_X2_sideCount : GoodIn wsX2_touches (wsV RX2 67 RX2 yX2_sideCount wsX2_sideCount) := goodIn_app (goodIn_of _ (by decide +kernel)) ggX2_touches_X2_sideCount
set_option maxRecDepth 20000 in
theorem ggX2_touches_X2_sideTouches : GoodIn wsX2_touches wsX2_sideTouches := goodIn_r _ [14, 1, 2, 15, 16, 6, 17, 18, 19, 20, 21, 22, 23, 24, 25, 26, 27, 28, 38, 39, 40, 41, 42, 43, 44, 45, 46] (by decide +kernel) (by decide +kernel)
set_option maxRecDepth 20000 in
theorem gX2_touches_X2_sideTouches : GoodIn wsX2_touches (wsV RX2 70 RX2 yX2_sideTouches wsX2_sideTouches) := goodIn_app (goodIn_of _ (by decide +kernel)) ggX2_touches_X2_sideTouches
set_option maxRecDepth 20000 in
theorem ggX2_touches_X2_holds : GoodIn wsX2_touches wsX2_holds := goodIn_r _ [32, 8, 33, 34, 35, 36, 6, 37, 10, 1, 2, 25, 26, 27, 28, 15, 16, 17, 18, 19, 20, 21, 22, 23, 24, 38, 39, 40, 41, 42, 43, 44, 45, 46] (by decide +kernel) (by decide +kernel)
set_option maxRecDepth 20000 in
theorem gX2_touches_X2_holds : GoodIn wsX2_touches (wsV RX2 74 RX2 yX2_holds wsX2_holds) := goodIn_app (goodIn_of _ (by decide +kernel)) ggX2_touches_X2_holds
theorem dX2_touches_0 : decode cX2_touches 0 = .ok (.iconst 0, 1) := by decide +kernel
theorem dX2_touches_1 : decode cX2_touches 1 = .ok (.istore_n 2, 1) := by decide +kernel
theorem dX2_touches_2 : decode cX2_touches 2 = .ok (.iload_n 2, 1) := by decide +kernel
theorem dX2_touches_3 : decode cX2_touches 3 = .ok (.aload_n 0, 1) := by decide +kernel
theorem dX2_touches_4 : decode cX2_touches 4 = .ok (.invokevirtual 67, 3) := by decide +kernel
theorem dX2_touches_7 : decode cX2_touches 7 = .ok (.if_icmp .ge 37, 3) := by decide +kernel
theorem dX2_touches_10 : decode cX2_touches 10 = .ok (.iconst 0, 1) := by decide +kernel
theorem dX2_touches_11 : decode cX2_touches 11 = .ok (.istore_n 3, 1) := by decide +kernel
theorem dX2_touches_12 : decode cX2_touches 12 = .ok (.iload_n 3, 1) := by decide +kernel
theorem dX2_touches_13 : decode cX2_touches 13 = .ok (.aload_n 1, 1) := by decide +kernel
theorem dX2_touches_14 : decode cX2_touches 14 = .ok (.invokevirtual 67, 3) := by decide +kernel
theorem dX2_touches_17 : decode cX2_touches 17 = .ok (.if_icmp .ge 21, 3) := by decide +kernel
theorem dX2_touches_20 : decode cX2_touches 20 = .ok (.aload_n 0, 1) := by decide +kernel
theorem dX2_touches_21 : decode cX2_touches 21 = .ok (.iload_n 2, 1) := by decide +kernel
theorem dX2_touches_22 : decode cX2_touches 22 = .ok (.aload_n 1, 1) := by decide +kernel
theorem dX2_touches_23 : decode cX2_touches 23 = .ok (.iload_n 3, 1) := by decide +kernel
theorem dX2_touches_24 : decode cX2_touches 24 = .ok (.invokevirtual 70, 3) := by decide +kernel
theorem dX2_touches_27 : decode cX2_touches 27 = .ok (.ifCond .eq 5, 3) := by decide +kernel
theorem dX2_touches_30 : decode cX2_touches 30 = .ok (.iconst 1, 1) := by decide +kernel
theorem dX2_touches_31 : decode cX2_touches 31 = .ok (.ireturn, 1) := by decide +kernel
theorem dX2_touches_32 : decode cX2_touches 32 = .ok (.iinc 3 1, 3) := by decide +kernel
theorem dX2_touches_35 : decode cX2_touches 35 = .ok (.goto (-23), 3) := by decide +kernel
theorem dX2_touches_38 : decode cX2_touches 38 = .ok (.iinc 2 1, 3) := by decide +kernel
theorem dX2_touches_41 : decode cX2_touches 41 = .ok (.goto (-39), 3) := by decide +kernel
theorem dX2_touches_44 : decode cX2_touches 44 = .ok (.aload_n 0, 1) := by decide +kernel
theorem dX2_touches_45 : decode cX2_touches 45 = .ok (.aload_n 1, 1) := by decide +kernel
theorem dX2_touches_46 : decode cX2_touches 46 = .ok (.getfield 39, 3) := by decide +kernel
theorem dX2_touches_49 : decode cX2_touches 49 = .ok (.iconst 0, 1) := by decide +kernel
theorem dX2_touches_50 : decode cX2_touches 50 = .ok (.iaload, 1) := by decide +kernel
theorem dX2_touches_51 : decode cX2_touches 51 = .ok (.aload_n 1, 1) := by decide +kernel
theorem dX2_touches_52 : decode cX2_touches 52 = .ok (.getfield 43, 3) := by decide +kernel
theorem dX2_touches_55 : decode cX2_touches 55 = .ok (.iconst 0, 1) := by decide +kernel
theorem dX2_touches_56 : decode cX2_touches 56 = .ok (.iaload, 1) := by decide +kernel
theorem dX2_touches_57 : decode cX2_touches 57 = .ok (.invokevirtual 74, 3) := by decide +kernel
theorem dX2_touches_60 : decode cX2_touches 60 = .ok (.ifCond .ne 22, 3) := by decide +kernel
theorem dX2_touches_63 : decode cX2_touches 63 = .ok (.aload_n 1, 1) := by decide +kernel
theorem dX2_touches_64 : decode cX2_touches 64 = .ok (.aload_n 0, 1) := by decide +kernel
theorem dX2_touches_65 : decode cX2_touches 65 = .ok (.getfield 39, 3) := by decide +kernel
theorem dX2_touches_68 : decode cX2_touches 68 = .ok (.iconst 0, 1) := by decide +kernel
theorem dX2_touches_69 : decode cX2_touches 69 = .ok (.iaload, 1) := by decide +kernel
theorem dX2_touches_70 : decode cX2_touches 70 = .ok (.aload_n 0, 1) := by decide +kernel
theorem dX2_touches_71 : decode cX2_touches 71 = .ok (.getfield 43, 3) := by decide +kernel
theorem dX2_touches_74 : decode cX2_touches 74 = .ok (.iconst 0, 1) := by decide +kernel
theorem dX2_touches_75 : decode cX2_touches 75 = .ok (.iaload, 1) := by decide +kernel
theorem dX2_touches_76 : decode cX2_touches 76 = .ok (.invokevirtual 74, 3) := by decide +kernel
theorem dX2_touches_79 : decode cX2_touches 79 = .ok (.ifCond .eq 7, 3) := by decide +kernel
theorem dX2_touches_82 : decode cX2_touches 82 = .ok (.iconst 1, 1) := by decide +kernel
theorem dX2_touches_83 : decode cX2_touches 83 = .ok (.goto 4, 3) := by decide +kernel
theorem dX2_touches_86 : decode cX2_touches 86 = .ok (.iconst 0, 1) := by decide +kernel
theorem dX2_touches_87 : decode cX2_touches 87 = .ok (.ireturn, 1) := by decide +kernel
set_option maxRecDepth 20000 in
theorem ggX2_measureTo_X2_touches : GoodIn wsX2_measureTo wsX2_touches := goodIn_r _ [7, 1, 2, 8, 9, 10, 6, 11, 12, 13, 14, 15, 16, 17, 18, 19, 20, 21, 22, 23, 24, 25, 26, 27, 28, 29, 30, 31, 32, 33, 34, 35, 36, 37, 38, 39, 40, 41, 68, 69, 70, 71, 72, 73, 74, 75, 76] (by decide +kernel) (by decide +kernel)
set_option maxRecDepth 20000 in
theorem gX2_measureTo_X2_touches : GoodIn wsX2_measureTo (wsV RX2 78 RX2 yX2_touches wsX2_touches) := goodIn_app (goodIn_of _ (by decide +kernel)) ggX2_measureTo_X2_touches
set_option maxRecDepth 20000 in
theorem ggX2_measureTo_X0_set : GoodIn wsX2_measureTo wsX0_set := goodIn_r _ [46, 47, 48, 77, 78] (by decide +kernel) (by decide +kernel)
set_option maxRecDepth 20000 in
theorem gX2_measureTo_X0_set : GoodIn wsX2_measureTo (wsV RX2 82 RX0 yX0_set wsX0_set) := goodIn_app (goodIn_of _ (by decide +kernel)) ggX2_measureTo_X0_set
set_option maxRecDepth 20000 in
theorem ggX2_measureTo_X2_squareOf : GoodIn wsX2_measureTo wsX2_squareOf := goodIn_r _ [51] (by decide +kernel) (by decide +kernel)
set_option maxRecDepth 20000 in
theorem gX2_measureTo_X2_squareOf : GoodIn wsX2_measureTo (va_wsS RX2 88 yX2_squareOf wsX2_squareOf) := goodIn_app (goodIn_of _ (by decide +kernel)) ggX2_measureTo_X2_squareOf
set_option maxRecDepth 20000 in
theorem ggX2_measureTo_X2_lessenByCorners : GoodIn wsX2_measureTo wsX2_lessenByCorners := goodIn_r _ [55, 14, 1, 2, 8, 9, 10, 6, 11, 12, 13, 56, 57, 58, 59, 49, 50, 51, 60, 61, 62, 45, 63, 47, 48, 64, 65, 66, 67, 43, 44, 46, 29, 30, 31, 32, 68, 69, 70, 71, 72, 73, 74, 75, 76, 77, 78] (by decide +kernel) (by decide +kernel)
set_option maxRecDepth 20000 in
theorem gX2_measureTo_X2_lessenByCorners : GoodIn wsX2_measureTo (wsV RX2 92 RX2 yX2_lessenByCorners wsX2_lessenByCorners) := goodIn_app (goodIn_of _ (by decide +kernel)) ggX2_measureTo_X2_lessenByCorners
theorem dX2_measureTo_0 : decode cX2_measureTo 0 = .ok (.aload_n 0, 1) := by decide +kernel
theorem dX2_measureTo_1 : decode cX2_measureTo 1 = .ok (.aload_n 1, 1) := by decide +kernel
theorem dX2_measureTo_2 : decode cX2_measureTo 2 = .ok (.invokevirtual 78, 3) := by decide +kernel
theorem dX2_measureTo_5 : decode cX2_measureTo 5 = .ok (.ifCond .eq 10, 3) := by decide +kernel
theorem dX2_measureTo_8 : decode cX2_measureTo 8 = .ok (.aload_n 2, 1) := by decide +kernel
theorem dX2_measureTo_9 : decode cX2_measureTo 9 = .ok (.lconst 0, 1) := by decide +kernel
theorem dX2_measureTo_10 : decode cX2_measureTo 10 = .ok (.lconst 1, 1) := by decide +kernel
theorem dX2_measureTo_11 : decode cX2_measureTo 11 = .ok (.invokevirtual 82, 3) := by decide +kernel
theorem dX2_measureTo_14 : decode cX2_measureTo 14 = .ok (.return_, 1) := by decide +kernel
theorem dX2_measureTo_15 : decode cX2_measureTo 15 = .ok (.aload_n 2, 1) := by decide +kernel
theorem dX2_measureTo_16 : decode cX2_measureTo 16 = .ok (.aload_n 1, 1) := by decide +kernel
theorem dX2_measureTo_17 : decode cX2_measureTo 17 = .ok (.getfield 39, 3) := by decide +kernel
theorem dX2_measureTo_20 : decode cX2_measureTo 20 = .ok (.iconst 0, 1) := by decide +kernel
theorem dX2_measureTo_21 : decode cX2_measureTo 21 = .ok (.iaload, 1) := by decide +kernel
theorem dX2_measureTo_22 : decode cX2_measureTo 22 = .ok (.aload_n 0, 1) := by decide +kernel
theorem dX2_measureTo_23 : decode cX2_measureTo 23 = .ok (.getfield 39, 3) := by decide +kernel
theorem dX2_measureTo_26 : decode cX2_measureTo 26 = .ok (.iconst 0, 1) := by decide +kernel
theorem dX2_measureTo_27 : decode cX2_measureTo 27 = .ok (.iaload, 1) := by decide +kernel
theorem dX2_measureTo_28 : decode cX2_measureTo 28 = .ok (.isub, 1) := by decide +kernel
theorem dX2_measureTo_29 : decode cX2_measureTo 29 = .ok (.i2l, 1) := by decide +kernel
theorem dX2_measureTo_30 : decode cX2_measureTo 30 = .ok (.aload_n 1, 1) := by decide +kernel
theorem dX2_measureTo_31 : decode cX2_measureTo 31 = .ok (.getfield 43, 3) := by decide +kernel
theorem dX2_measureTo_34 : decode cX2_measureTo 34 = .ok (.iconst 0, 1) := by decide +kernel
theorem dX2_measureTo_35 : decode cX2_measureTo 35 = .ok (.iaload, 1) := by decide +kernel
theorem dX2_measureTo_36 : decode cX2_measureTo 36 = .ok (.aload_n 0, 1) := by decide +kernel
theorem dX2_measureTo_37 : decode cX2_measureTo 37 = .ok (.getfield 43, 3) := by decide +kernel
theorem dX2_measureTo_40 : decode cX2_measureTo 40 = .ok (.iconst 0, 1) := by decide +kernel
theorem dX2_measureTo_41 : decode cX2_measureTo 41 = .ok (.iaload, 1) := by decide +kernel
theorem dX2_measureTo_42 : decode cX2_measureTo 42 = .ok (.isub, 1) := by decide +kernel
theorem dX2_measureTo_43 : decode cX2_measureTo 43 = .ok (.i2l, 1) := by decide +kernel
theorem dX2_measureTo_44 : decode cX2_measureTo 44 = .ok (.invokestatic 88, 3) := by decide +kernel
theorem dX2_measureTo_47 : decode cX2_measureTo 47 = .ok (.lconst 1, 1) := by decide +kernel
theorem dX2_measureTo_48 : decode cX2_measureTo 48 = .ok (.invokevirtual 82, 3) := by decide +kernel
theorem dX2_measureTo_51 : decode cX2_measureTo 51 = .ok (.aload_n 0, 1) := by decide +kernel
theorem dX2_measureTo_52 : decode cX2_measureTo 52 = .ok (.aload_n 1, 1) := by decide +kernel
theorem dX2_measureTo_53 : decode cX2_measureTo 53 = .ok (.aload_n 2, 1) := by decide +kernel
theorem dX2_measureTo_54 : decode cX2_measureTo 54 = .ok (.invokevirtual 92, 3) := by decide +kernel
theorem dX2_measureTo_57 : decode cX2_measureTo 57 = .ok (.aload_n 1, 1) := by decide +kernel
theorem dX2_measureTo_58 : decode cX2_measureTo 58 = .ok (.aload_n 0, 1) := by decide +kernel
theorem dX2_measureTo_59 : decode cX2_measureTo 59 = .ok (.aload_n 2, 1) := by decide +kernel
theorem dX2_measureTo_60 : decode cX2_measureTo 60 = .ok (.invokevirtual 92, 3) := by decide +kernel
theorem dX2_measureTo_63 : decode cX2_measureTo 63 = .ok (.return_, 1) := by decide +kernel
set_option maxRecDepth 20000 in
theorem ggX2_lessenByCorners_X2_sideCount : GoodIn wsX2_lessenByCorners wsX2_sideCount := goodIn_r _ [8, 9, 10, 1, 36, 37, 38, 39, 40, 41, 42, 43, 44] (by decide +kernel) (by decide +kernel)
set_option maxRecDepth 20000 in
theorem gX2_lessenByCorners_X2_sideCount : GoodIn wsX2_lessenByCorners (wsV RX2 67 RX2 yX2_sideCount wsX2_sideCount) := goodIn_app (goodIn_of _ (by decide +kernel)) ggX2_lessenByCorners_X2_sideCount
set_option maxRecDepth 20000 in
theorem ggX2_lessenByCorners_X2_lessenBySide : GoodIn wsX2_lessenByCorners wsX2_lessenBySide := goodIn_r _ [14, 2, 3, 15, 16, 7, 17, 18, 19, 20, 21, 22, 23, 24, 25, 26, 27, 28, 29, 30, 31, 32, 33, 34, 35, 36, 37, 38, 39, 40, 41, 42, 43, 44, 45, 46] (by decide +kernel) (by decide +kernel)
set_option maxRecDepth 20000 in
theorem gX2_lessenByCorners_X2_lessenBySide : GoodIn wsX2_lessenByCorners (wsV RX2 96 RX2 yX2_lessenBySide wsX2_lessenBySide) := goodIn_app (goodIn_of _ (by decide +kernel)) ggX2_lessenByCorners_X2_lessenBySide
theorem dX2_lessenByCorners_0 : decode cX2_lessenByCorners 0 = .ok (.iconst 0, 1) := by decide +kernel
theorem dX2_lessenByCorners_1 : decode cX2_lessenByCorners 1 = .ok (.istore_n 3, 1) := by decide +kernel
theorem dX2_lessenByCorners_2 : decode cX2_lessenByCorners 2 = .ok (.iload_n 3, 1) := by decide +kernel
theorem dX2_lessenByCorners_3 : decode cX2_lessenByCorners 3 = .ok (.aload_n 0, 1) := by decide +kernel
theorem dX2_lessenByCorners_4 : decode cX2_lessenByCorners 4 = .ok (.getfield 9, 3) := by decide +kernel
theorem dX2_lessenByCorners_7 : decode cX2_lessenByCorners 7 = .ok (.if_icmp .ge 46, 3) := by decide +kernel
theorem dX2_lessenByCorners_10 : decode cX2_lessenByCorners 10 = .ok (.iconst 0, 1) := by decide +kernel
theorem dX2_lessenByCorners_11 : decode cX2_lessenByCorners 11 = .ok (.istore 4, 2) := by decide +kernel
theorem dX2_lessenByCorners_13 : decode cX2_lessenByCorners 13 = .ok (.iload 4, 2) := by decide +kernel
theorem dX2_lessenByCorners_15 : decode cX2_lessenByCorners 15 = .ok (.aload_n 1, 1) := by decide +kernel
theorem dX2_lessenByCorners_16 : decode cX2_lessenByCorners 16 = .ok (.invokevirtual 67, 3) := by decide +kernel
theorem dX2_lessenByCorners_19 : decode cX2_lessenByCorners 19 = .ok (.if_icmp .ge 28, 3) := by decide +kernel
theorem dX2_lessenByCorners_22 : decode cX2_lessenByCorners 22 = .ok (.aload_n 1, 1) := by decide +kernel
theorem dX2_lessenByCorners_23 : decode cX2_lessenByCorners 23 = .ok (.iload 4, 2) := by decide +kernel
theorem dX2_lessenByCorners_25 : decode cX2_lessenByCorners 25 = .ok (.aload_n 0, 1) := by decide +kernel
theorem dX2_lessenByCorners_26 : decode cX2_lessenByCorners 26 = .ok (.getfield 39, 3) := by decide +kernel
theorem dX2_lessenByCorners_29 : decode cX2_lessenByCorners 29 = .ok (.iload_n 3, 1) := by decide +kernel
theorem dX2_lessenByCorners_30 : decode cX2_lessenByCorners 30 = .ok (.iaload, 1) := by decide +kernel
theorem dX2_lessenByCorners_31 : decode cX2_lessenByCorners 31 = .ok (.aload_n 0, 1) := by decide +kernel
theorem dX2_lessenByCorners_32 : decode cX2_lessenByCorners 32 = .ok (.getfield 43, 3) := by decide +kernel
theorem dX2_lessenByCorners_35 : decode cX2_lessenByCorners 35 = .ok (.iload_n 3, 1) := by decide +kernel
theorem dX2_lessenByCorners_36 : decode cX2_lessenByCorners 36 = .ok (.iaload, 1) := by decide +kernel
theorem dX2_lessenByCorners_37 : decode cX2_lessenByCorners 37 = .ok (.aload_n 2, 1) := by decide +kernel
theorem dX2_lessenByCorners_38 : decode cX2_lessenByCorners 38 = .ok (.invokevirtual 96, 3) := by decide +kernel
theorem dX2_lessenByCorners_41 : decode cX2_lessenByCorners 41 = .ok (.iinc 4 1, 3) := by decide +kernel
theorem dX2_lessenByCorners_44 : decode cX2_lessenByCorners 44 = .ok (.goto (-31), 3) := by decide +kernel
theorem dX2_lessenByCorners_47 : decode cX2_lessenByCorners 47 = .ok (.iinc 3 1, 3) := by decide +kernel
theorem dX2_lessenByCorners_50 : decode cX2_lessenByCorners 50 = .ok (.goto (-48), 3) := by decide +kernel
theorem dX2_lessenByCorners_53 : decode cX2_lessenByCorners 53 = .ok (.return_, 1) := by decide +kernel
set_option maxRecDepth 20000 in
theorem ggX2_lessenBySide_X2_squareOf : GoodIn wsX2_lessenBySide wsX2_squareOf := goodIn_r _ [6] (by decide +kernel) (by decide +kernel)
set_option maxRecDepth 20000 in
theorem gX2_lessenBySide_X2_squareOf : GoodIn wsX2_lessenBySide (va_wsS RX2 88 yX2_squareOf wsX2_squareOf) := goodIn_app (goodIn_of _ (by decide +kernel)) ggX2_lessenBySide_X2_squareOf
set_option maxRecDepth 20000 in
theorem ggX2_lessenBySide_X0_lessen : GoodIn wsX2_lessenBySide wsX0_lessen := goodIn_r _ [11, 12, 13, 14, 15, 10, 16, 17, 18, 19, 20, 34, 35] (by decide +kernel) (by decide +kernel)
set_option maxRecDepth 20000 in
theorem gX2_lessenBySide_X0_lessen : GoodIn wsX2_lessenBySide (wsV RX2 100 RX0 yX0_lessen wsX0_lessen) := goodIn_app (goodIn_of _ (by decide +kernel)) ggX2_lessenBySide_X0_lessen
set_option maxRecDepth 20000 in
theorem ggX2_lessenBySide_X2_turn : GoodIn wsX2_lessenBySide wsX2_turn := goodIn_r _ [24, 1, 2, 25, 26, 27, 28, 29, 30, 31, 32, 33] (by decide +kernel) (by decide +kernel)
set_option maxRecDepth 20000 in
theorem gX2_lessenBySide_X2_turn : GoodIn wsX2_lessenBySide (wsV RX2 59 RX2 yX2_turn wsX2_turn) := goodIn_app (goodIn_of _ (by decide +kernel)) ggX2_lessenBySide_X2_turn
theorem dX2_lessenBySide_0 : decode cX2_lessenBySide 0 = .ok (.aload_n 0, 1) := by decide +kernel
theorem dX2_lessenBySide_1 : decode cX2_lessenBySide 1 = .ok (.getfield 39, 3) := by decide +kernel
theorem dX2_lessenBySide_4 : decode cX2_lessenBySide 4 = .ok (.iload_n 1, 1) := by decide +kernel
theorem dX2_lessenBySide_5 : decode cX2_lessenBySide 5 = .ok (.iconst 1, 1) := by decide +kernel
theorem dX2_lessenBySide_6 : decode cX2_lessenBySide 6 = .ok (.iadd, 1) := by decide +kernel
theorem dX2_lessenBySide_7 : decode cX2_lessenBySide 7 = .ok (.iaload, 1) := by decide +kernel
theorem dX2_lessenBySide_8 : decode cX2_lessenBySide 8 = .ok (.aload_n 0, 1) := by decide +kernel
theorem dX2_lessenBySide_9 : decode cX2_lessenBySide 9 = .ok (.getfield 39, 3) := by decide +kernel
theorem dX2_lessenBySide_12 : decode cX2_lessenBySide 12 = .ok (.iload_n 1, 1) := by decide +kernel
theorem dX2_lessenBySide_13 : decode cX2_lessenBySide 13 = .ok (.iaload, 1) := by decide +kernel
theorem dX2_lessenBySide_14 : decode cX2_lessenBySide 14 = .ok (.isub, 1) := by decide +kernel
theorem dX2_lessenBySide_15 : decode cX2_lessenBySide 15 = .ok (.i2l, 1) := by decide +kernel
theorem dX2_lessenBySide_16 : decode cX2_lessenBySide 16 = .ok (.lstore 5, 2) := by decide +kernel
theorem dX2_lessenBySide_18 : decode cX2_lessenBySide 18 = .ok (.aload_n 0, 1) := by decide +kernel
theorem dX2_lessenBySide_19 : decode cX2_lessenBySide 19 = .ok (.getfield 43, 3) := by decide +kernel
theorem dX2_lessenBySide_22 : decode cX2_lessenBySide 22 = .ok (.iload_n 1, 1) := by decide +kernel
theorem dX2_lessenBySide_23 : decode cX2_lessenBySide 23 = .ok (.iconst 1, 1) := by decide +kernel
theorem dX2_lessenBySide_24 : decode cX2_lessenBySide 24 = .ok (.iadd, 1) := by decide +kernel
theorem dX2_lessenBySide_25 : decode cX2_lessenBySide 25 = .ok (.iaload, 1) := by decide +kernel
theorem dX2_lessenBySide_26 : decode cX2_lessenBySide 26 = .ok (.aload_n 0, 1) := by decide +kernel
theorem dX2_lessenBySide_27 : decode cX2_lessenBySide 27 = .ok (.getfield 43, 3) := by decide +kernel
theorem dX2_lessenBySide_30 : decode cX2_lessenBySide 30 = .ok (.iload_n 1, 1) := by decide +kernel
theorem dX2_lessenBySide_31 : decode cX2_lessenBySide 31 = .ok (.iaload, 1) := by decide +kernel
theorem dX2_lessenBySide_32 : decode cX2_lessenBySide 32 = .ok (.isub, 1) := by decide +kernel
theorem dX2_lessenBySide_33 : decode cX2_lessenBySide 33 = .ok (.i2l, 1) := by decide +kernel
theorem dX2_lessenBySide_34 : decode cX2_lessenBySide 34 = .ok (.lstore 7, 2) := by decide +kernel
theorem dX2_lessenBySide_36 : decode cX2_lessenBySide 36 = .ok (.lload 5, 2) := by decide +kernel
theorem dX2_lessenBySide_38 : decode cX2_lessenBySide 38 = .ok (.lload 7, 2) := by decide +kernel
theorem dX2_lessenBySide_40 : decode cX2_lessenBySide 40 = .ok (.invokestatic 88, 3) := by decide +kernel
theorem dX2_lessenBySide_43 : decode cX2_lessenBySide 43 = .ok (.lstore 9, 2) := by decide +kernel
theorem dX2_lessenBySide_45 : decode cX2_lessenBySide 45 = .ok (.lload 5, 2) := by decide +kernel
theorem dX2_lessenBySide_47 : decode cX2_lessenBySide 47 = .ok (.iload_n 2, 1) := by decide +kernel
theorem dX2_lessenBySide_48 : decode cX2_lessenBySide 48 = .ok (.aload_n 0, 1) := by decide +kernel
theorem dX2_lessenBySide_49 : decode cX2_lessenBySide 49 = .ok (.getfield 39, 3) := by decide +kernel
theorem dX2_lessenBySide_52 : decode cX2_lessenBySide 52 = .ok (.iload_n 1, 1) := by decide +kernel
theorem dX2_lessenBySide_53 : decode cX2_lessenBySide 53 = .ok (.iaload, 1) := by decide +kernel
theorem dX2_lessenBySide_54 : decode cX2_lessenBySide 54 = .ok (.isub, 1) := by decide +kernel
theorem dX2_lessenBySide_55 : decode cX2_lessenBySide 55 = .ok (.i2l, 1) := by decide +kernel
theorem dX2_lessenBySide_56 : decode cX2_lessenBySide 56 = .ok (.lmul, 1) := by decide +kernel
theorem dX2_lessenBySide_57 : decode cX2_lessenBySide 57 = .ok (.lload 7, 2) := by decide +kernel
theorem dX2_lessenBySide_59 : decode cX2_lessenBySide 59 = .ok (.iload_n 3, 1) := by decide +kernel
theorem dX2_lessenBySide_60 : decode cX2_lessenBySide 60 = .ok (.aload_n 0, 1) := by decide +kernel
theorem dX2_lessenBySide_61 : decode cX2_lessenBySide 61 = .ok (.getfield 43, 3) := by decide +kernel
theorem dX2_lessenBySide_64 : decode cX2_lessenBySide 64 = .ok (.iload_n 1, 1) := by decide +kernel
theorem dX2_lessenBySide_65 : decode cX2_lessenBySide 65 = .ok (.iaload, 1) := by decide +kernel
theorem dX2_lessenBySide_66 : decode cX2_lessenBySide 66 = .ok (.isub, 1) := by decide +kernel
theorem dX2_lessenBySide_67 : decode cX2_lessenBySide 67 = .ok (.i2l, 1) := by decide +kernel
theorem dX2_lessenBySide_68 : decode cX2_lessenBySide 68 = .ok (.lmul, 1) := by decide +kernel
theorem dX2_lessenBySide_69 : decode cX2_lessenBySide 69 = .ok (.ladd, 1) := by decide +kernel
theorem dX2_lessenBySide_70 : decode cX2_lessenBySide 70 = .ok (.lstore 11, 2) := by decide +kernel
theorem dX2_lessenBySide_72 : decode cX2_lessenBySide 72 = .ok (.lload 11, 2) := by decide +kernel
theorem dX2_lessenBySide_74 : decode cX2_lessenBySide 74 = .ok (.lconst 0, 1) := by decide +kernel
theorem dX2_lessenBySide_75 : decode cX2_lessenBySide 75 = .ok (.lcmp, 1) := by decide +kernel
theorem dX2_lessenBySide_76 : decode cX2_lessenBySide 76 = .ok (.ifCond .gt 33, 3) := by decide +kernel
theorem dX2_lessenBySide_79 : decode cX2_lessenBySide 79 = .ok (.aload 4, 2) := by decide +kernel
theorem dX2_lessenBySide_81 : decode cX2_lessenBySide 81 = .ok (.iload_n 2, 1) := by decide +kernel
theorem dX2_lessenBySide_82 : decode cX2_lessenBySide 82 = .ok (.aload_n 0, 1) := by decide +kernel
theorem dX2_lessenBySide_83 : decode cX2_lessenBySide 83 = .ok (.getfield 39, 3) := by decide +kernel
theorem dX2_lessenBySide_86 : decode cX2_lessenBySide 86 = .ok (.iload_n 1, 1) := by decide +kernel
theorem dX2_lessenBySide_87 : decode cX2_lessenBySide 87 = .ok (.iaload, 1) := by decide +kernel
theorem dX2_lessenBySide_88 : decode cX2_lessenBySide 88 = .ok (.isub, 1) := by decide +kernel
theorem dX2_lessenBySide_89 : decode cX2_lessenBySide 89 = .ok (.i2l, 1) := by decide +kernel
theorem dX2_lessenBySide_90 : decode cX2_lessenBySide 90 = .ok (.iload_n 3, 1) := by decide +kernel
theorem dX2_lessenBySide_91 : decode cX2_lessenBySide 91 = .ok (.aload_n 0, 1) := by decide +kernel
theorem dX2_lessenBySide_92 : decode cX2_lessenBySide 92 = .ok (.getfield 43, 3) := by decide +kernel
theorem dX2_lessenBySide_95 : decode cX2_lessenBySide 95 = .ok (.iload_n 1, 1) := by decide +kernel
theorem dX2_lessenBySide_96 : decode cX2_lessenBySide 96 = .ok (.iaload, 1) := by decide +kernel
theorem dX2_lessenBySide_97 : decode cX2_lessenBySide 97 = .ok (.isub, 1) := by decide +kernel
theorem dX2_lessenBySide_98 : decode cX2_lessenBySide 98 = .ok (.i2l, 1) := by decide +kernel
theorem dX2_lessenBySide_99 : decode cX2_lessenBySide 99 = .ok (.invokestatic 88, 3) := by decide +kernel
theorem dX2_lessenBySide_102 : decode cX2_lessenBySide 102 = .ok (.lconst 1, 1) := by decide +kernel
theorem dX2_lessenBySide_103 : decode cX2_lessenBySide 103 = .ok (.invokevirtual 100, 3) := by decide +kernel
theorem dX2_lessenBySide_106 : decode cX2_lessenBySide 106 = .ok (.goto 66, 3) := by decide +kernel
theorem dX2_lessenBySide_109 : decode cX2_lessenBySide 109 = .ok (.lload 11, 2) := by decide +kernel
theorem dX2_lessenBySide_111 : decode cX2_lessenBySide 111 = .ok (.lload 9, 2) := by decide +kernel
theorem dX2_lessenBySide_113 : decode cX2_lessenBySide 113 = .ok (.lcmp, 1) := by decide +kernel
theorem dX2_lessenBySide_114 : decode cX2_lessenBySide 114 = .ok (.ifCond .lt 37, 3) := by decide +kernel
theorem dX2_lessenBySide_117 : decode cX2_lessenBySide 117 = .ok (.aload 4, 2) := by decide +kernel
theorem dX2_lessenBySide_119 : decode cX2_lessenBySide 119 = .ok (.iload_n 2, 1) := by decide +kernel
theorem dX2_lessenBySide_120 : decode cX2_lessenBySide 120 = .ok (.aload_n 0, 1) := by decide +kernel
theorem dX2_lessenBySide_121 : decode cX2_lessenBySide 121 = .ok (.getfield 39, 3) := by decide +kernel
theorem dX2_lessenBySide_124 : decode cX2_lessenBySide 124 = .ok (.iload_n 1, 1) := by decide +kernel
theorem dX2_lessenBySide_125 : decode cX2_lessenBySide 125 = .ok (.iconst 1, 1) := by decide +kernel
theorem dX2_lessenBySide_126 : decode cX2_lessenBySide 126 = .ok (.iadd, 1) := by decide +kernel
theorem dX2_lessenBySide_127 : decode cX2_lessenBySide 127 = .ok (.iaload, 1) := by decide +kernel
theorem dX2_lessenBySide_128 : decode cX2_lessenBySide 128 = .ok (.isub, 1) := by decide +kernel
theorem dX2_lessenBySide_129 : decode cX2_lessenBySide 129 = .ok (.i2l, 1) := by decide +kernel
theorem dX2_lessenBySide_130 : decode cX2_lessenBySide 130 = .ok (.iload_n 3, 1) := by decide +kernel
theorem dX2_lessenBySide_131 : decode cX2_lessenBySide 131 = .ok (.aload_n 0, 1) := by decide +kernel
theorem dX2_lessenBySide_132 : decode cX2_lessenBySide 132 = .ok (.getfield 43, 3) := by decide +kernel
theorem dX2_lessenBySide_135 : decode cX2_lessenBySide 135 = .ok (.iload_n 1, 1) := by decide +kernel
theorem dX2_lessenBySide_136 : decode cX2_lessenBySide 136 = .ok (.iconst 1, 1) := by decide +kernel
theorem dX2_lessenBySide_137 : decode cX2_lessenBySide 137 = .ok (.iadd, 1) := by decide +kernel
theorem dX2_lessenBySide_138 : decode cX2_lessenBySide 138 = .ok (.iaload, 1) := by decide +kernel
theorem dX2_lessenBySide_139 : decode cX2_lessenBySide 139 = .ok (.isub, 1) := by decide +kernel
theorem dX2_lessenBySide_140 : decode cX2_lessenBySide 140 = .ok (.i2l, 1) := by decide +kernel
theorem dX2_lessenBySide_141 : decode cX2_lessenBySide 141 = .ok (.invokestatic 88, 3) := by decide +kernel
theorem dX2_lessenBySide_144 : decode cX2_lessenBySide 144 = .ok (.lconst 1, 1) := by decide +kernel
theorem dX2_lessenBySide_145 : decode cX2_lessenBySide 145 = .ok (.invokevirtual 100, 3) := by decide +kernel
theorem dX2_lessenBySide_148 : decode cX2_lessenBySide 148 = .ok (.goto 24, 3) := by decide +kernel
theorem dX2_lessenBySide_151 : decode cX2_lessenBySide 151 = .ok (.aload_n 0, 1) := by decide +kernel
theorem dX2_lessenBySide_152 : decode cX2_lessenBySide 152 = .ok (.iload_n 1, 1) := by decide +kernel
theorem dX2_lessenBySide_153 : decode cX2_lessenBySide 153 = .ok (.iload_n 2, 1) := by decide +kernel
theorem dX2_lessenBySide_154 : decode cX2_lessenBySide 154 = .ok (.iload_n 3, 1) := by decide +kernel
theorem dX2_lessenBySide_155 : decode cX2_lessenBySide 155 = .ok (.invokevirtual 59, 3) := by decide +kernel
theorem dX2_lessenBySide_158 : decode cX2_lessenBySide 158 = .ok (.lstore 13, 2) := by decide +kernel
theorem dX2_lessenBySide_160 : decode cX2_lessenBySide 160 = .ok (.aload 4, 2) := by decide +kernel
theorem dX2_lessenBySide_162 : decode cX2_lessenBySide 162 = .ok (.lload 13, 2) := by decide +kernel
theorem dX2_lessenBySide_164 : decode cX2_lessenBySide 164 = .ok (.lload 13, 2) := by decide +kernel
theorem dX2_lessenBySide_166 : decode cX2_lessenBySide 166 = .ok (.lmul, 1) := by decide +kernel
theorem dX2_lessenBySide_167 : decode cX2_lessenBySide 167 = .ok (.lload 9, 2) := by decide +kernel
theorem dX2_lessenBySide_169 : decode cX2_lessenBySide 169 = .ok (.invokevirtual 100, 3) := by decide +kernel
theorem dX2_lessenBySide_172 : decode cX2_lessenBySide 172 = .ok (.return_, 1) := by decide +kernel
set_option maxRecDepth 20000 in
theorem ggX2_holds_X2_whereIs : GoodIn wsX2_holds wsX2_whereIs := goodIn_r _ [7, 8, 9, 10, 11, 12, 13, 6, 14, 15, 16, 17, 18, 19, 20, 21, 22, 23, 24, 25, 26, 27, 28, 29, 30, 31, 32, 33] (by decide +kernel) (by decide +kernel)
set_option maxRecDepth 20000 in
theorem gX2_holds_X2_whereIs : GoodIn wsX2_holds (wsV RX2 106 RX2 yX2_whereIs wsX2_whereIs) := goodIn_app (goodIn_of _ (by decide +kernel)) ggX2_holds_X2_whereIs
theorem dX2_holds_0 : decode cX2_holds 0 = .ok (.aload_n 0, 1) := by decide +kernel
theorem dX2_holds_1 : decode cX2_holds 1 = .ok (.getfield 30, 3) := by decide +kernel
theorem dX2_holds_4 : decode cX2_holds 4 = .ok (.getstatic 103, 3) := by decide +kernel
theorem dX2_holds_7 : decode cX2_holds 7 = .ok (.if_acmp .ne 16, 3) := by decide +kernel
theorem dX2_holds_10 : decode cX2_holds 10 = .ok (.aload_n 0, 1) := by decide +kernel
theorem dX2_holds_11 : decode cX2_holds 11 = .ok (.iload_n 1, 1) := by decide +kernel
theorem dX2_holds_12 : decode cX2_holds 12 = .ok (.iload_n 2, 1) := by decide +kernel
theorem dX2_holds_13 : decode cX2_holds 13 = .ok (.invokevirtual 106, 3) := by decide +kernel
theorem dX2_holds_16 : decode cX2_holds 16 = .ok (.ifCond .eq 7, 3) := by decide +kernel
theorem dX2_holds_19 : decode cX2_holds 19 = .ok (.iconst 1, 1) := by decide +kernel
theorem dX2_holds_20 : decode cX2_holds 20 = .ok (.goto 4, 3) := by decide +kernel
theorem dX2_holds_23 : decode cX2_holds 23 = .ok (.iconst 0, 1) := by decide +kernel
theorem dX2_holds_24 : decode cX2_holds 24 = .ok (.ireturn, 1) := by decide +kernel
theorem dX2_sideCount_0 : decode cX2_sideCount 0 = .ok (.aload_n 0, 1) := by decide +kernel
theorem dX2_sideCount_1 : decode cX2_sideCount 1 = .ok (.getfield 30, 3) := by decide +kernel
theorem dX2_sideCount_4 : decode cX2_sideCount 4 = .ok (.getstatic 109, 3) := by decide +kernel
theorem dX2_sideCount_7 : decode cX2_sideCount 7 = .ok (.if_acmp .ne 12, 3) := by decide +kernel
theorem dX2_sideCount_10 : decode cX2_sideCount 10 = .ok (.aload_n 0, 1) := by decide +kernel
theorem dX2_sideCount_11 : decode cX2_sideCount 11 = .ok (.getfield 9, 3) := by decide +kernel
theorem dX2_sideCount_14 : decode cX2_sideCount 14 = .ok (.iconst 1, 1) := by decide +kernel
theorem dX2_sideCount_15 : decode cX2_sideCount 15 = .ok (.isub, 1) := by decide +kernel
theorem dX2_sideCount_16 : decode cX2_sideCount 16 = .ok (.goto 7, 3) := by decide +kernel
theorem dX2_sideCount_19 : decode cX2_sideCount 19 = .ok (.aload_n 0, 1) := by decide +kernel
theorem dX2_sideCount_20 : decode cX2_sideCount 20 = .ok (.getfield 9, 3) := by decide +kernel
theorem dX2_sideCount_23 : decode cX2_sideCount 23 = .ok (.ireturn, 1) := by decide +kernel
set_option maxRecDepth 20000 in
theorem ggX2_judge_X2_sideCount : GoodIn wsX2_judge wsX2_sideCount := goodIn_r _ [9, 2, 10, 1, 44, 45, 46, 47, 48, 49, 50, 51, 52] (by decide +kernel) (by decide +kernel)
set_option maxRecDepth 20000 in
theorem gX2_judge_X2_sideCount : GoodIn wsX2_judge (wsV RX2 67 RX2 yX2_sideCount wsX2_sideCount) := goodIn_app (goodIn_of _ (by decide +kernel)) ggX2_judge_X2_sideCount
set_option maxRecDepth 20000 in
theorem ggX2_judge_X2_isWrongSide : GoodIn wsX2_judge wsX2_isWrongSide := goodIn_r _ [14, 15, 16, 2, 17, 1, 18, 19, 20, 8, 21, 22, 23, 24, 25, 26, 27, 28, 29, 30, 31, 32, 33, 34, 35, 36, 37, 38, 39, 40, 41, 42, 43, 44, 45, 46, 47, 48, 49, 50, 51, 52] (by decide +kernel) (by decide +kernel)
set_option maxRecDepth 20000 in
theorem gX2_judge_X2_isWrongSide : GoodIn wsX2_judge (wsV RX2 118 RX2 yX2_isWrongSide wsX2_isWrongSide) := goodIn_app (goodIn_of _ (by decide +kernel)) ggX2_judge_X2_isWrongSide
theorem dX2_judge_0 : decode cX2_judge 0 = .ok (.aload_n 0, 1) := by decide +kernel
theorem dX2_judge_1 : decode cX2_judge 1 = .ok (.getfield 9, 3) := by decide +kernel
theorem dX2_judge_4 : decode cX2_judge 4 = .ok (.aload_n 0, 1) := by decide +kernel
theorem dX2_judge_5 : decode cX2_judge 5 = .ok (.getfield 30, 3) := by decide +kernel
theorem dX2_judge_8 : decode cX2_judge 8 = .ok (.getfield 112, 3) := by decide +kernel
theorem dX2_judge_11 : decode cX2_judge 11 = .ok (.if_icmp .ge 5, 3) := by decide +kernel
theorem dX2_judge_14 : decode cX2_judge 14 = .ok (.iconst 0, 1) := by decide +kernel
theorem dX2_judge_15 : decode cX2_judge 15 = .ok (.ireturn, 1) := by decide +kernel
theorem dX2_judge_16 : decode cX2_judge 16 = .ok (.aload_n 0, 1) := by decide +kernel
theorem dX2_judge_17 : decode cX2_judge 17 = .ok (.getfield 30, 3) := by decide +kernel
theorem dX2_judge_20 : decode cX2_judge 20 = .ok (.getstatic 115, 3) := by decide +kernel
theorem dX2_judge_23 : decode cX2_judge 23 = .ok (.if_acmp .ne 5, 3) := by decide +kernel
theorem dX2_judge_26 : decode cX2_judge 26 = .ok (.iconst 1, 1) := by decide +kernel
theorem dX2_judge_27 : decode cX2_judge 27 = .ok (.ireturn, 1) := by decide +kernel
theorem dX2_judge_28 : decode cX2_judge 28 = .ok (.iconst 0, 1) := by decide +kernel
theorem dX2_judge_29 : decode cX2_judge 29 = .ok (.istore_n 1, 1) := by decide +kernel
theorem dX2_judge_30 : decode cX2_judge 30 = .ok (.iload_n 1, 1) := by decide +kernel
theorem dX2_judge_31 : decode cX2_judge 31 = .ok (.aload_n 0, 1) := by decide +kernel
theorem dX2_judge_32 : decode cX2_judge 32 = .ok (.invokevirtual 67, 3) := by decide +kernel
theorem dX2_judge_35 : decode cX2_judge 35 = .ok (.if_icmp .ge 22, 3) := by decide +kernel
theorem dX2_judge_38 : decode cX2_judge 38 = .ok (.aload_n 0, 1) := by decide +kernel
theorem dX2_judge_39 : decode cX2_judge 39 = .ok (.iload_n 1, 1) := by decide +kernel
theorem dX2_judge_40 : decode cX2_judge 40 = .ok (.invokevirtual 118, 3) := by decide +kernel
theorem dX2_judge_43 : decode cX2_judge 43 = .ok (.ifCond .eq 8, 3) := by decide +kernel
theorem dX2_judge_46 : decode cX2_judge 46 = .ok (.bipush (-10), 2) := by decide +kernel
theorem dX2_judge_48 : decode cX2_judge 48 = .ok (.iload_n 1, 1) := by decide +kernel
theorem dX2_judge_49 : decode cX2_judge 49 = .ok (.isub, 1) := by decide +kernel
theorem dX2_judge_50 : decode cX2_judge 50 = .ok (.ireturn, 1) := by decide +kernel
theorem dX2_judge_51 : decode cX2_judge 51 = .ok (.iinc 1 1, 3) := by decide +kernel
theorem dX2_judge_54 : decode cX2_judge 54 = .ok (.goto (-24), 3) := by decide +kernel
theorem dX2_judge_57 : decode cX2_judge 57 = .ok (.iconst 1, 1) := by decide +kernel
theorem dX2_judge_58 : decode cX2_judge 58 = .ok (.ireturn, 1) := by decide +kernel
set_option maxRecDepth 20000 in
theorem ggX2_isWrongSide_X2_clash : GoodIn wsX2_isWrongSide wsX2_clash := goodIn_r _ [10, 5, 11, 12, 13, 9, 14, 1, 2, 15, 16, 17, 18, 19, 20, 21, 22, 23, 24, 25, 26, 27, 28, 29, 30, 31, 32, 33, 34, 35, 36, 37, 38, 39, 40, 41] (by decide +kernel) (by decide +kernel)
set_option maxRecDepth 20000 in
theorem gX2_isWrongSide_X2_clash : GoodIn wsX2_isWrongSide (wsV RX2 122 RX2 yX2_clash wsX2_clash) := goodIn_app (goodIn_of _ (by decide +kernel)) ggX2_isWrongSide_X2_clash
theorem dX2_isWrongSide_0 : decode cX2_isWrongSide 0 = .ok (.aload_n 0, 1) := by decide +kernel
theorem dX2_isWrongSide_1 : decode cX2_isWrongSide 1 = .ok (.getfield 39, 3) := by decide +kernel
theorem dX2_isWrongSide_4 : decode cX2_isWrongSide 4 = .ok (.iload_n 1, 1) := by decide +kernel
theorem dX2_isWrongSide_5 : decode cX2_isWrongSide 5 = .ok (.iaload, 1) := by decide +kernel
theorem dX2_isWrongSide_6 : decode cX2_isWrongSide 6 = .ok (.aload_n 0, 1) := by decide +kernel
theorem dX2_isWrongSide_7 : decode cX2_isWrongSide 7 = .ok (.getfield 39, 3) := by decide +kernel
theorem dX2_isWrongSide_10 : decode cX2_isWrongSide 10 = .ok (.iload_n 1, 1) := by decide +kernel
theorem dX2_isWrongSide_11 : decode cX2_isWrongSide 11 = .ok (.iconst 1, 1) := by decide +kernel
theorem dX2_isWrongSide_12 : decode cX2_isWrongSide 12 = .ok (.iadd, 1) := by decide +kernel
theorem dX2_isWrongSide_13 : decode cX2_isWrongSide 13 = .ok (.iaload, 1) := by decide +kernel
theorem dX2_isWrongSide_14 : decode cX2_isWrongSide 14 = .ok (.if_icmp .ne 22, 3) := by decide +kernel
theorem dX2_isWrongSide_17 : decode cX2_isWrongSide 17 = .ok (.aload_n 0, 1) := by decide +kernel
theorem dX2_isWrongSide_18 : decode cX2_isWrongSide 18 = .ok (.getfield 43, 3) := by decide +kernel
theorem dX2_isWrongSide_21 : decode cX2_isWrongSide 21 = .ok (.iload_n 1, 1) := by decide +kernel
theorem dX2_isWrongSide_22 : decode cX2_isWrongSide 22 = .ok (.iaload, 1) := by decide +kernel
theorem dX2_isWrongSide_23 : decode cX2_isWrongSide 23 = .ok (.aload_n 0, 1) := by decide +kernel
theorem dX2_isWrongSide_24 : decode cX2_isWrongSide 24 = .ok (.getfield 43, 3) := by decide +kernel
theorem dX2_isWrongSide_27 : decode cX2_isWrongSide 27 = .ok (.iload_n 1, 1) := by decide +kernel
theorem dX2_isWrongSide_28 : decode cX2_isWrongSide 28 = .ok (.iconst 1, 1) := by decide +kernel
theorem dX2_isWrongSide_29 : decode cX2_isWrongSide 29 = .ok (.iadd, 1) := by decide +kernel
theorem dX2_isWrongSide_30 : decode cX2_isWrongSide 30 = .ok (.iaload, 1) := by decide +kernel
theorem dX2_isWrongSide_31 : decode cX2_isWrongSide 31 = .ok (.if_icmp .ne 5, 3) := by decide +kernel
theorem dX2_isWrongSide_34 : decode cX2_isWrongSide 34 = .ok (.iconst 1, 1) := by decide +kernel
theorem dX2_isWrongSide_35 : decode cX2_isWrongSide 35 = .ok (.ireturn, 1) := by decide +kernel
theorem dX2_isWrongSide_36 : decode cX2_isWrongSide 36 = .ok (.aload_n 0, 1) := by decide +kernel
theorem dX2_isWrongSide_37 : decode cX2_isWrongSide 37 = .ok (.getfield 30, 3) := by decide +kernel
theorem dX2_isWrongSide_40 : decode cX2_isWrongSide 40 = .ok (.getstatic 103, 3) := by decide +kernel
theorem dX2_isWrongSide_43 : decode cX2_isWrongSide 43 = .ok (.if_acmp .eq 5, 3) := by decide +kernel
theorem dX2_isWrongSide_46 : decode cX2_isWrongSide 46 = .ok (.iconst 0, 1) := by decide +kernel
theorem dX2_isWrongSide_47 : decode cX2_isWrongSide 47 = .ok (.ireturn, 1) := by decide +kernel
theorem dX2_isWrongSide_48 : decode cX2_isWrongSide 48 = .ok (.iload_n 1, 1) := by decide +kernel
theorem dX2_isWrongSide_49 : decode cX2_isWrongSide 49 = .ok (.iconst 1, 1) := by decide +kernel
theorem dX2_isWrongSide_50 : decode cX2_isWrongSide 50 = .ok (.iadd, 1) := by decide +kernel
theorem dX2_isWrongSide_51 : decode cX2_isWrongSide 51 = .ok (.istore_n 2, 1) := by decide +kernel
theorem dX2_isWrongSide_52 : decode cX2_isWrongSide 52 = .ok (.iload_n 2, 1) := by decide +kernel
theorem dX2_isWrongSide_53 : decode cX2_isWrongSide 53 = .ok (.aload_n 0, 1) := by decide +kernel
theorem dX2_isWrongSide_54 : decode cX2_isWrongSide 54 = .ok (.getfield 9, 3) := by decide +kernel
theorem dX2_isWrongSide_57 : decode cX2_isWrongSide 57 = .ok (.if_icmp .ge 20, 3) := by decide +kernel
theorem dX2_isWrongSide_60 : decode cX2_isWrongSide 60 = .ok (.aload_n 0, 1) := by decide +kernel
theorem dX2_isWrongSide_61 : decode cX2_isWrongSide 61 = .ok (.iload_n 1, 1) := by decide +kernel
theorem dX2_isWrongSide_62 : decode cX2_isWrongSide 62 = .ok (.iload_n 2, 1) := by decide +kernel
theorem dX2_isWrongSide_63 : decode cX2_isWrongSide 63 = .ok (.invokevirtual 122, 3) := by decide +kernel
theorem dX2_isWrongSide_66 : decode cX2_isWrongSide 66 = .ok (.ifCond .eq 5, 3) := by decide +kernel
theorem dX2_isWrongSide_69 : decode cX2_isWrongSide 69 = .ok (.iconst 1, 1) := by decide +kernel
theorem dX2_isWrongSide_70 : decode cX2_isWrongSide 70 = .ok (.ireturn, 1) := by decide +kernel
theorem dX2_isWrongSide_71 : decode cX2_isWrongSide 71 = .ok (.iinc 2 1, 3) := by decide +kernel
theorem dX2_isWrongSide_74 : decode cX2_isWrongSide 74 = .ok (.goto (-22), 3) := by decide +kernel
theorem dX2_isWrongSide_77 : decode cX2_isWrongSide 77 = .ok (.iconst 0, 1) := by decide +kernel
theorem dX2_isWrongSide_78 : decode cX2_isWrongSide 78 = .ok (.ireturn, 1) := by decide +kernel
set_option maxRecDepth 20000 in
theorem ggX2_clash_X2_foldsBack : GoodIn wsX2_clash wsX2_foldsBack := goodIn_r _ [6, 7, 8, 27, 28, 29, 30, 31, 32, 33, 34, 35] (by decide +kernel) (by decide +kernel)
set_option maxRecDepth 20000 in
theorem gX2_clash_X2_foldsBack : GoodIn wsX2_clash (wsV RX2 125 RX2 yX2_foldsBack wsX2_foldsBack) := goodIn_app (goodIn_of _ (by decide +kernel)) ggX2_clash_X2_foldsBack
set_option maxRecDepth 20000 in
theorem ggX2_clash_X2_sideTouches : GoodIn wsX2_clash wsX2_sideTouches := goodIn_r _ [12, 7, 8, 13, 14, 5, 15, 16, 17, 18, 19, 20, 21, 22, 23, 24, 25, 26, 27, 28, 29, 30, 31, 32, 33, 34, 35] (by decide +kernel) (by decide +kernel)
set_option maxRecDepth 20000 in
theorem gX2_clash_X2_sideTouches : GoodIn wsX2_clash (wsV RX2 70 RX2 yX2_sideTouches wsX2_sideTouches) := goodIn_app (goodIn_of _ (by decide +kernel)) ggX2_clash_X2_sideTouches
theorem dX2_clash_0 : decode cX2_clash 0 = .ok (.iload_n 2, 1) := by decide +kernel
theorem dX2_clash_1 : decode cX2_clash 1 = .ok (.iload_n 1, 1) := by decide +kernel
theorem dX2_clash_2 : decode cX2_clash 2 = .ok (.iconst 1, 1) := by decide +kernel
theorem dX2_clash_3 : decode cX2_clash 3 = .ok (.iadd, 1) := by decide +kernel
theorem dX2_clash_4 : decode cX2_clash 4 = .ok (.if_icmp .ne 10, 3) := by decide +kernel
theorem dX2_clash_7 : decode cX2_clash 7 = .ok (.aload_n 0, 1) := by decide +kernel
theorem dX2_clash_8 : decode cX2_clash 8 = .ok (.iload_n 1, 1) := by decide +kernel
theorem dX2_clash_9 : decode cX2_clash 9 = .ok (.iload_n 2, 1) := by decide +kernel
theorem dX2_clash_10 : decode cX2_clash 10 = .ok (.invokevirtual 125, 3) := by decide +kernel
theorem dX2_clash_13 : decode cX2_clash 13 = .ok (.ireturn, 1) := by decide +kernel
theorem dX2_clash_14 : decode cX2_clash 14 = .ok (.iload_n 1, 1) := by decide +kernel
theorem dX2_clash_15 : decode cX2_clash 15 = .ok (.ifCond .ne 20, 3) := by decide +kernel
theorem dX2_clash_18 : decode cX2_clash 18 = .ok (.iload_n 2, 1) := by decide +kernel
theorem dX2_clash_19 : decode cX2_clash 19 = .ok (.aload_n 0, 1) := by decide +kernel
theorem dX2_clash_20 : decode cX2_clash 20 = .ok (.getfield 9, 3) := by decide +kernel
theorem dX2_clash_23 : decode cX2_clash 23 = .ok (.iconst 1, 1) := by decide +kernel
theorem dX2_clash_24 : decode cX2_clash 24 = .ok (.isub, 1) := by decide +kernel
theorem dX2_clash_25 : decode cX2_clash 25 = .ok (.if_icmp .ne 10, 3) := by decide +kernel
theorem dX2_clash_28 : decode cX2_clash 28 = .ok (.aload_n 0, 1) := by decide +kernel
theorem dX2_clash_29 : decode cX2_clash 29 = .ok (.iload_n 2, 1) := by decide +kernel
theorem dX2_clash_30 : decode cX2_clash 30 = .ok (.iload_n 1, 1) := by decide +kernel
theorem dX2_clash_31 : decode cX2_clash 31 = .ok (.invokevirtual 125, 3) := by decide +kernel
theorem dX2_clash_34 : decode cX2_clash 34 = .ok (.ireturn, 1) := by decide +kernel
theorem dX2_clash_35 : decode cX2_clash 35 = .ok (.aload_n 0, 1) := by decide +kernel
theorem dX2_clash_36 : decode cX2_clash 36 = .ok (.iload_n 1, 1) := by decide +kernel
theorem dX2_clash_37 : decode cX2_clash 37 = .ok (.aload_n 0, 1) := by decide +kernel
theorem dX2_clash_38 : decode cX2_clash 38 = .ok (.iload_n 2, 1) := by decide +kernel
theorem dX2_clash_39 : decode cX2_clash 39 = .ok (.invokevirtual 70, 3) := by decide +kernel
theorem dX2_clash_42 : decode cX2_clash 42 = .ok (.ireturn, 1) := by decide +kernel
theorem dX2_foldsBack_0 : decode cX2_foldsBack 0 = .ok (.aload_n 0, 1) := by decide +kernel
theorem dX2_foldsBack_1 : decode cX2_foldsBack 1 = .ok (.getfield 39, 3) := by decide +kernel
theorem dX2_foldsBack_4 : decode cX2_foldsBack 4 = .ok (.iload_n 1, 1) := by decide +kernel
theorem dX2_foldsBack_5 : decode cX2_foldsBack 5 = .ok (.iaload, 1) := by decide +kernel
theorem dX2_foldsBack_6 : decode cX2_foldsBack 6 = .ok (.aload_n 0, 1) := by decide +kernel
theorem dX2_foldsBack_7 : decode cX2_foldsBack 7 = .ok (.getfield 39, 3) := by decide +kernel
theorem dX2_foldsBack_10 : decode cX2_foldsBack 10 = .ok (.iload_n 2, 1) := by decide +kernel
theorem dX2_foldsBack_11 : decode cX2_foldsBack 11 = .ok (.iaload, 1) := by decide +kernel
theorem dX2_foldsBack_12 : decode cX2_foldsBack 12 = .ok (.isub, 1) := by decide +kernel
theorem dX2_foldsBack_13 : decode cX2_foldsBack 13 = .ok (.i2l, 1) := by decide +kernel
theorem dX2_foldsBack_14 : decode cX2_foldsBack 14 = .ok (.lstore_n 3, 1) := by decide +kernel
theorem dX2_foldsBack_15 : decode cX2_foldsBack 15 = .ok (.aload_n 0, 1) := by decide +kernel
theorem dX2_foldsBack_16 : decode cX2_foldsBack 16 = .ok (.getfield 43, 3) := by decide +kernel
theorem dX2_foldsBack_19 : decode cX2_foldsBack 19 = .ok (.iload_n 1, 1) := by decide +kernel
theorem dX2_foldsBack_20 : decode cX2_foldsBack 20 = .ok (.iaload, 1) := by decide +kernel
theorem dX2_foldsBack_21 : decode cX2_foldsBack 21 = .ok (.aload_n 0, 1) := by decide +kernel
theorem dX2_foldsBack_22 : decode cX2_foldsBack 22 = .ok (.getfield 43, 3) := by decide +kernel
theorem dX2_foldsBack_25 : decode cX2_foldsBack 25 = .ok (.iload_n 2, 1) := by decide +kernel
theorem dX2_foldsBack_26 : decode cX2_foldsBack 26 = .ok (.iaload, 1) := by decide +kernel
theorem dX2_foldsBack_27 : decode cX2_foldsBack 27 = .ok (.isub, 1) := by decide +kernel
theorem dX2_foldsBack_28 : decode cX2_foldsBack 28 = .ok (.i2l, 1) := by decide +kernel
theorem dX2_foldsBack_29 : decode cX2_foldsBack 29 = .ok (.lstore 5, 2) := by decide +kernel
theorem dX2_foldsBack_31 : decode cX2_foldsBack 31 = .ok (.aload_n 0, 1) := by decide +kernel
theorem dX2_foldsBack_32 : decode cX2_foldsBack 32 = .ok (.getfield 39, 3) := by decide +kernel
theorem dX2_foldsBack_35 : decode cX2_foldsBack 35 = .ok (.iload_n 2, 1) := by decide +kernel
theorem dX2_foldsBack_36 : decode cX2_foldsBack 36 = .ok (.iconst 1, 1) := by decide +kernel
theorem dX2_foldsBack_37 : decode cX2_foldsBack 37 = .ok (.iadd, 1) := by decide +kernel
theorem dX2_foldsBack_38 : decode cX2_foldsBack 38 = .ok (.iaload, 1) := by decide +kernel
theorem dX2_foldsBack_39 : decode cX2_foldsBack 39 = .ok (.aload_n 0, 1) := by decide +kernel
theorem dX2_foldsBack_40 : decode cX2_foldsBack 40 = .ok (.getfield 39, 3) := by decide +kernel
theorem dX2_foldsBack_43 : decode cX2_foldsBack 43 = .ok (.iload_n 2, 1) := by decide +kernel
theorem dX2_foldsBack_44 : decode cX2_foldsBack 44 = .ok (.iaload, 1) := by decide +kernel
theorem dX2_foldsBack_45 : decode cX2_foldsBack 45 = .ok (.isub, 1) := by decide +kernel
theorem dX2_foldsBack_46 : decode cX2_foldsBack 46 = .ok (.i2l, 1) := by decide +kernel
theorem dX2_foldsBack_47 : decode cX2_foldsBack 47 = .ok (.lstore 7, 2) := by decide +kernel
theorem dX2_foldsBack_49 : decode cX2_foldsBack 49 = .ok (.aload_n 0, 1) := by decide +kernel
theorem dX2_foldsBack_50 : decode cX2_foldsBack 50 = .ok (.getfield 43, 3) := by decide +kernel
theorem dX2_foldsBack_53 : decode cX2_foldsBack 53 = .ok (.iload_n 2, 1) := by decide +kernel
theorem dX2_foldsBack_54 : decode cX2_foldsBack 54 = .ok (.iconst 1, 1) := by decide +kernel
theorem dX2_foldsBack_55 : decode cX2_foldsBack 55 = .ok (.iadd, 1) := by decide +kernel
theorem dX2_foldsBack_56 : decode cX2_foldsBack 56 = .ok (.iaload, 1) := by decide +kernel
theorem dX2_foldsBack_57 : decode cX2_foldsBack 57 = .ok (.aload_n 0, 1) := by decide +kernel
theorem dX2_foldsBack_58 : decode cX2_foldsBack 58 = .ok (.getfield 43, 3) := by decide +kernel
theorem dX2_foldsBack_61 : decode cX2_foldsBack 61 = .ok (.iload_n 2, 1) := by decide +kernel
theorem dX2_foldsBack_62 : decode cX2_foldsBack 62 = .ok (.iaload, 1) := by decide +kernel
theorem dX2_foldsBack_63 : decode cX2_foldsBack 63 = .ok (.isub, 1) := by decide +kernel
theorem dX2_foldsBack_64 : decode cX2_foldsBack 64 = .ok (.i2l, 1) := by decide +kernel
theorem dX2_foldsBack_65 : decode cX2_foldsBack 65 = .ok (.lstore 9, 2) := by decide +kernel
theorem dX2_foldsBack_67 : decode cX2_foldsBack 67 = .ok (.lload_n 3, 1) := by decide +kernel
theorem dX2_foldsBack_68 : decode cX2_foldsBack 68 = .ok (.lload 9, 2) := by decide +kernel
theorem dX2_foldsBack_70 : decode cX2_foldsBack 70 = .ok (.lmul, 1) := by decide +kernel
theorem dX2_foldsBack_71 : decode cX2_foldsBack 71 = .ok (.lload 5, 2) := by decide +kernel
theorem dX2_foldsBack_73 : decode cX2_foldsBack 73 = .ok (.lload 7, 2) := by decide +kernel
theorem dX2_foldsBack_75 : decode cX2_foldsBack 75 = .ok (.lmul, 1) := by decide +kernel
theorem dX2_foldsBack_76 : decode cX2_foldsBack 76 = .ok (.lcmp, 1) := by decide +kernel
theorem dX2_foldsBack_77 : decode cX2_foldsBack 77 = .ok (.ifCond .ne 22, 3) := by decide +kernel
theorem dX2_foldsBack_80 : decode cX2_foldsBack 80 = .ok (.lload_n 3, 1) := by decide +kernel
theorem dX2_foldsBack_81 : decode cX2_foldsBack 81 = .ok (.lload 7, 2) := by decide +kernel
theorem dX2_foldsBack_83 : decode cX2_foldsBack 83 = .ok (.lmul, 1) := by decide +kernel
theorem dX2_foldsBack_84 : decode cX2_foldsBack 84 = .ok (.lload 5, 2) := by decide +kernel
theorem dX2_foldsBack_86 : decode cX2_foldsBack 86 = .ok (.lload 9, 2) := by decide +kernel
theorem dX2_foldsBack_88 : decode cX2_foldsBack 88 = .ok (.lmul, 1) := by decide +kernel
theorem dX2_foldsBack_89 : decode cX2_foldsBack 89 = .ok (.ladd, 1) := by decide +kernel
theorem dX2_foldsBack_90 : decode cX2_foldsBack 90 = .ok (.lconst 0, 1) := by decide +kernel
theorem dX2_foldsBack_91 : decode cX2_foldsBack 91 = .ok (.lcmp, 1) := by decide +kernel
theorem dX2_foldsBack_92 : decode cX2_foldsBack 92 = .ok (.ifCond .le 7, 3) := by decide +kernel
theorem dX2_foldsBack_95 : decode cX2_foldsBack 95 = .ok (.iconst 1, 1) := by decide +kernel
theorem dX2_foldsBack_96 : decode cX2_foldsBack 96 = .ok (.goto 4, 3) := by decide +kernel
theorem dX2_foldsBack_99 : decode cX2_foldsBack 99 = .ok (.iconst 0, 1) := by decide +kernel
theorem dX2_foldsBack_100 : decode cX2_foldsBack 100 = .ok (.ireturn, 1) := by decide +kernel
set_option maxRecDepth 20000 in
theorem ggX2_sideTouches_X2_overlap : GoodIn wsX2_sideTouches wsX2_overlap := goodIn_r _ [6, 7, 8, 9, 10, 11, 12, 13] (by decide +kernel) (by decide +kernel)
set_option maxRecDepth 20000 in
theorem gX2_sideTouches_X2_overlap : GoodIn wsX2_sideTouches (va_wsS RX2 63 yX2_overlap wsX2_overlap) := goodIn_app (goodIn_of _ (by decide +kernel)) ggX2_sideTouches_X2_overlap
set_option maxRecDepth 20000 in
theorem ggX2_sideTouches_X2_turn : GoodIn wsX2_sideTouches wsX2_turn := goodIn_r _ [17, 1, 2, 18, 19, 20, 21, 22, 23, 24, 25, 26] (by decide +kernel) (by decide +kernel)
set_option maxRecDepth 20000 in
theorem gX2_sideTouches_X2_turn : GoodIn wsX2_sideTouches (wsV RX2 59 RX2 yX2_turn wsX2_turn) := goodIn_app (goodIn_of _ (by decide +kernel)) ggX2_sideTouches_X2_turn
theorem dX2_sideTouches_0 : decode cX2_sideTouches 0 = .ok (.aload_n 2, 1) := by decide +kernel
theorem dX2_sideTouches_1 : decode cX2_sideTouches 1 = .ok (.getfield 39, 3) := by decide +kernel
theorem dX2_sideTouches_4 : decode cX2_sideTouches 4 = .ok (.astore 4, 2) := by decide +kernel
theorem dX2_sideTouches_6 : decode cX2_sideTouches 6 = .ok (.aload_n 2, 1) := by decide +kernel
theorem dX2_sideTouches_7 : decode cX2_sideTouches 7 = .ok (.getfield 43, 3) := by decide +kernel
theorem dX2_sideTouches_10 : decode cX2_sideTouches 10 = .ok (.astore 5, 2) := by decide +kernel
theorem dX2_sideTouches_12 : decode cX2_sideTouches 12 = .ok (.aload_n 0, 1) := by decide +kernel
theorem dX2_sideTouches_13 : decode cX2_sideTouches 13 = .ok (.getfield 39, 3) := by decide +kernel
theorem dX2_sideTouches_16 : decode cX2_sideTouches 16 = .ok (.iload_n 1, 1) := by decide +kernel
theorem dX2_sideTouches_17 : decode cX2_sideTouches 17 = .ok (.iaload, 1) := by decide +kernel
theorem dX2_sideTouches_18 : decode cX2_sideTouches 18 = .ok (.aload_n 0, 1) := by decide +kernel
theorem dX2_sideTouches_19 : decode cX2_sideTouches 19 = .ok (.getfield 39, 3) := by decide +kernel
theorem dX2_sideTouches_22 : decode cX2_sideTouches 22 = .ok (.iload_n 1, 1) := by decide +kernel
theorem dX2_sideTouches_23 : decode cX2_sideTouches 23 = .ok (.iconst 1, 1) := by decide +kernel
theorem dX2_sideTouches_24 : decode cX2_sideTouches 24 = .ok (.iadd, 1) := by decide +kernel
theorem dX2_sideTouches_25 : decode cX2_sideTouches 25 = .ok (.iaload, 1) := by decide +kernel
theorem dX2_sideTouches_26 : decode cX2_sideTouches 26 = .ok (.aload 4, 2) := by decide +kernel
theorem dX2_sideTouches_28 : decode cX2_sideTouches 28 = .ok (.iload_n 3, 1) := by decide +kernel
theorem dX2_sideTouches_29 : decode cX2_sideTouches 29 = .ok (.iaload, 1) := by decide +kernel
theorem dX2_sideTouches_30 : decode cX2_sideTouches 30 = .ok (.aload 4, 2) := by decide +kernel
theorem dX2_sideTouches_32 : decode cX2_sideTouches 32 = .ok (.iload_n 3, 1) := by decide +kernel
theorem dX2_sideTouches_33 : decode cX2_sideTouches 33 = .ok (.iconst 1, 1) := by decide +kernel
theorem dX2_sideTouches_34 : decode cX2_sideTouches 34 = .ok (.iadd, 1) := by decide +kernel
theorem dX2_sideTouches_35 : decode cX2_sideTouches 35 = .ok (.iaload, 1) := by decide +kernel
theorem dX2_sideTouches_36 : decode cX2_sideTouches 36 = .ok (.invokestatic 63, 3) := by decide +kernel
theorem dX2_sideTouches_39 : decode cX2_sideTouches 39 = .ok (.ifCond .eq 117, 3) := by decide +kernel
theorem dX2_sideTouches_42 : decode cX2_sideTouches 42 = .ok (.aload_n 0, 1) := by decide +kernel
theorem dX2_sideTouches_43 : decode cX2_sideTouches 43 = .ok (.getfield 43, 3) := by decide +kernel
theorem dX2_sideTouches_46 : decode cX2_sideTouches 46 = .ok (.iload_n 1, 1) := by decide +kernel
theorem dX2_sideTouches_47 : decode cX2_sideTouches 47 = .ok (.iaload, 1) := by decide +kernel
theorem dX2_sideTouches_48 : decode cX2_sideTouches 48 = .ok (.aload_n 0, 1) := by decide +kernel
theorem dX2_sideTouches_49 : decode cX2_sideTouches 49 = .ok (.getfield 43, 3) := by decide +kernel
theorem dX2_sideTouches_52 : decode cX2_sideTouches 52 = .ok (.iload_n 1, 1) := by decide +kernel
theorem dX2_sideTouches_53 : decode cX2_sideTouches 53 = .ok (.iconst 1, 1) := by decide +kernel
theorem dX2_sideTouches_54 : decode cX2_sideTouches 54 = .ok (.iadd, 1) := by decide +kernel
theorem dX2_sideTouches_55 : decode cX2_sideTouches 55 = .ok (.iaload, 1) := by decide +kernel
theorem dX2_sideTouches_56 : decode cX2_sideTouches 56 = .ok (.aload 5, 2) := by decide +kernel
theorem dX2_sideTouches_58 : decode cX2_sideTouches 58 = .ok (.iload_n 3, 1) := by decide +kernel
theorem dX2_sideTouches_59 : decode cX2_sideTouches 59 = .ok (.iaload, 1) := by decide +kernel
theorem dX2_sideTouches_60 : decode cX2_sideTouches 60 = .ok (.aload 5, 2) := by decide +kernel
theorem dX2_sideTouches_62 : decode cX2_sideTouches 62 = .ok (.iload_n 3, 1) := by decide +kernel
theorem dX2_sideTouches_63 : decode cX2_sideTouches 63 = .ok (.iconst 1, 1) := by decide +kernel
theorem dX2_sideTouches_64 : decode cX2_sideTouches 64 = .ok (.iadd, 1) := by decide +kernel
theorem dX2_sideTouches_65 : decode cX2_sideTouches 65 = .ok (.iaload, 1) := by decide +kernel
theorem dX2_sideTouches_66 : decode cX2_sideTouches 66 = .ok (.invokestatic 63, 3) := by decide +kernel
theorem dX2_sideTouches_69 : decode cX2_sideTouches 69 = .ok (.ifCond .eq 87, 3) := by decide +kernel
theorem dX2_sideTouches_72 : decode cX2_sideTouches 72 = .ok (.aload_n 0, 1) := by decide +kernel
theorem dX2_sideTouches_73 : decode cX2_sideTouches 73 = .ok (.iload_n 1, 1) := by decide +kernel
theorem dX2_sideTouches_74 : decode cX2_sideTouches 74 = .ok (.aload 4, 2) := by decide +kernel
theorem dX2_sideTouches_76 : decode cX2_sideTouches 76 = .ok (.iload_n 3, 1) := by decide +kernel
theorem dX2_sideTouches_77 : decode cX2_sideTouches 77 = .ok (.iaload, 1) := by decide +kernel
theorem dX2_sideTouches_78 : decode cX2_sideTouches 78 = .ok (.aload 5, 2) := by decide +kernel
theorem dX2_sideTouches_80 : decode cX2_sideTouches 80 = .ok (.iload_n 3, 1) := by decide +kernel
theorem dX2_sideTouches_81 : decode cX2_sideTouches 81 = .ok (.iaload, 1) := by decide +kernel
theorem dX2_sideTouches_82 : decode cX2_sideTouches 82 = .ok (.invokevirtual 59, 3) := by decide +kernel
theorem dX2_sideTouches_85 : decode cX2_sideTouches 85 = .ok (.aload_n 0, 1) := by decide +kernel
theorem dX2_sideTouches_86 : decode cX2_sideTouches 86 = .ok (.iload_n 1, 1) := by decide +kernel
theorem dX2_sideTouches_87 : decode cX2_sideTouches 87 = .ok (.aload 4, 2) := by decide +kernel
theorem dX2_sideTouches_89 : decode cX2_sideTouches 89 = .ok (.iload_n 3, 1) := by decide +kernel
theorem dX2_sideTouches_90 : decode cX2_sideTouches 90 = .ok (.iconst 1, 1) := by decide +kernel
theorem dX2_sideTouches_91 : decode cX2_sideTouches 91 = .ok (.iadd, 1) := by decide +kernel
theorem dX2_sideTouches_92 : decode cX2_sideTouches 92 = .ok (.iaload, 1) := by decide +kernel
theorem dX2_sideTouches_93 : decode cX2_sideTouches 93 = .ok (.aload 5, 2) := by decide +kernel
theorem dX2_sideTouches_95 : decode cX2_sideTouches 95 = .ok (.iload_n 3, 1) := by decide +kernel
theorem dX2_sideTouches_96 : decode cX2_sideTouches 96 = .ok (.iconst 1, 1) := by decide +kernel
theorem dX2_sideTouches_97 : decode cX2_sideTouches 97 = .ok (.iadd, 1) := by decide +kernel
theorem dX2_sideTouches_98 : decode cX2_sideTouches 98 = .ok (.iaload, 1) := by decide +kernel
theorem dX2_sideTouches_99 : decode cX2_sideTouches 99 = .ok (.invokevirtual 59, 3) := by decide +kernel
theorem dX2_sideTouches_102 : decode cX2_sideTouches 102 = .ok (.lmul, 1) := by decide +kernel
theorem dX2_sideTouches_103 : decode cX2_sideTouches 103 = .ok (.lconst 0, 1) := by decide +kernel
theorem dX2_sideTouches_104 : decode cX2_sideTouches 104 = .ok (.lcmp, 1) := by decide +kernel
theorem dX2_sideTouches_105 : decode cX2_sideTouches 105 = .ok (.ifCond .gt 51, 3) := by decide +kernel
theorem dX2_sideTouches_108 : decode cX2_sideTouches 108 = .ok (.aload_n 2, 1) := by decide +kernel
theorem dX2_sideTouches_109 : decode cX2_sideTouches 109 = .ok (.iload_n 3, 1) := by decide +kernel
theorem dX2_sideTouches_110 : decode cX2_sideTouches 110 = .ok (.aload_n 0, 1) := by decide +kernel
theorem dX2_sideTouches_111 : decode cX2_sideTouches 111 = .ok (.getfield 39, 3) := by decide +kernel
theorem dX2_sideTouches_114 : decode cX2_sideTouches 114 = .ok (.iload_n 1, 1) := by decide +kernel
theorem dX2_sideTouches_115 : decode cX2_sideTouches 115 = .ok (.iaload, 1) := by decide +kernel
theorem dX2_sideTouches_116 : decode cX2_sideTouches 116 = .ok (.aload_n 0, 1) := by decide +kernel
theorem dX2_sideTouches_117 : decode cX2_sideTouches 117 = .ok (.getfield 43, 3) := by decide +kernel
theorem dX2_sideTouches_120 : decode cX2_sideTouches 120 = .ok (.iload_n 1, 1) := by decide +kernel
theorem dX2_sideTouches_121 : decode cX2_sideTouches 121 = .ok (.iaload, 1) := by decide +kernel
theorem dX2_sideTouches_122 : decode cX2_sideTouches 122 = .ok (.invokevirtual 59, 3) := by decide +kernel
theorem dX2_sideTouches_125 : decode cX2_sideTouches 125 = .ok (.aload_n 2, 1) := by decide +kernel
theorem dX2_sideTouches_126 : decode cX2_sideTouches 126 = .ok (.iload_n 3, 1) := by decide +kernel
theorem dX2_sideTouches_127 : decode cX2_sideTouches 127 = .ok (.aload_n 0, 1) := by decide +kernel
theorem dX2_sideTouches_128 : decode cX2_sideTouches 128 = .ok (.getfield 39, 3) := by decide +kernel
theorem dX2_sideTouches_131 : decode cX2_sideTouches 131 = .ok (.iload_n 1, 1) := by decide +kernel
theorem dX2_sideTouches_132 : decode cX2_sideTouches 132 = .ok (.iconst 1, 1) := by decide +kernel
theorem dX2_sideTouches_133 : decode cX2_sideTouches 133 = .ok (.iadd, 1) := by decide +kernel
theorem dX2_sideTouches_134 : decode cX2_sideTouches 134 = .ok (.iaload, 1) := by decide +kernel
theorem dX2_sideTouches_135 : decode cX2_sideTouches 135 = .ok (.aload_n 0, 1) := by decide +kernel
theorem dX2_sideTouches_136 : decode cX2_sideTouches 136 = .ok (.getfield 43, 3) := by decide +kernel
theorem dX2_sideTouches_139 : decode cX2_sideTouches 139 = .ok (.iload_n 1, 1) := by decide +kernel
theorem dX2_sideTouches_140 : decode cX2_sideTouches 140 = .ok (.iconst 1, 1) := by decide +kernel
theorem dX2_sideTouches_141 : decode cX2_sideTouches 141 = .ok (.iadd, 1) := by decide +kernel
theorem dX2_sideTouches_142 : decode cX2_sideTouches 142 = .ok (.iaload, 1) := by decide +kernel
theorem dX2_sideTouches_143 : decode cX2_sideTouches 143 = .ok (.invokevirtual 59, 3) := by decide +kernel
theorem dX2_sideTouches_146 : decode cX2_sideTouches 146 = .ok (.lmul, 1) := by decide +kernel
theorem dX2_sideTouches_147 : decode cX2_sideTouches 147 = .ok (.lconst 0, 1) := by decide +kernel
theorem dX2_sideTouches_148 : decode cX2_sideTouches 148 = .ok (.lcmp, 1) := by decide +kernel
theorem dX2_sideTouches_149 : decode cX2_sideTouches 149 = .ok (.ifCond .gt 7, 3) := by decide +kernel
theorem dX2_sideTouches_152 : decode cX2_sideTouches 152 = .ok (.iconst 1, 1) := by decide +kernel
theorem dX2_sideTouches_153 : decode cX2_sideTouches 153 = .ok (.goto 4, 3) := by decide +kernel
theorem dX2_sideTouches_156 : decode cX2_sideTouches 156 = .ok (.iconst 0, 1) := by decide +kernel
theorem dX2_sideTouches_157 : decode cX2_sideTouches 157 = .ok (.ireturn, 1) := by decide +kernel
theorem dX2_turn_0 : decode cX2_turn 0 = .ok (.aload_n 0, 1) := by decide +kernel
theorem dX2_turn_1 : decode cX2_turn 1 = .ok (.getfield 39, 3) := by decide +kernel
theorem dX2_turn_4 : decode cX2_turn 4 = .ok (.iload_n 1, 1) := by decide +kernel
theorem dX2_turn_5 : decode cX2_turn 5 = .ok (.iconst 1, 1) := by decide +kernel
theorem dX2_turn_6 : decode cX2_turn 6 = .ok (.iadd, 1) := by decide +kernel
theorem dX2_turn_7 : decode cX2_turn 7 = .ok (.iaload, 1) := by decide +kernel
theorem dX2_turn_8 : decode cX2_turn 8 = .ok (.aload_n 0, 1) := by decide +kernel
theorem dX2_turn_9 : decode cX2_turn 9 = .ok (.getfield 39, 3) := by decide +kernel
theorem dX2_turn_12 : decode cX2_turn 12 = .ok (.iload_n 1, 1) := by decide +kernel
theorem dX2_turn_13 : decode cX2_turn 13 = .ok (.iaload, 1) := by decide +kernel
theorem dX2_turn_14 : decode cX2_turn 14 = .ok (.isub, 1) := by decide +kernel
theorem dX2_turn_15 : decode cX2_turn 15 = .ok (.i2l, 1) := by decide +kernel
theorem dX2_turn_16 : decode cX2_turn 16 = .ok (.lstore 4, 2) := by decide +kernel
theorem dX2_turn_18 : decode cX2_turn 18 = .ok (.aload_n 0, 1) := by decide +kernel
theorem dX2_turn_19 : decode cX2_turn 19 = .ok (.getfield 43, 3) := by decide +kernel
theorem dX2_turn_22 : decode cX2_turn 22 = .ok (.iload_n 1, 1) := by decide +kernel
theorem dX2_turn_23 : decode cX2_turn 23 = .ok (.iconst 1, 1) := by decide +kernel
theorem dX2_turn_24 : decode cX2_turn 24 = .ok (.iadd, 1) := by decide +kernel
theorem dX2_turn_25 : decode cX2_turn 25 = .ok (.iaload, 1) := by decide +kernel
theorem dX2_turn_26 : decode cX2_turn 26 = .ok (.aload_n 0, 1) := by decide +kernel
theorem dX2_turn_27 : decode cX2_turn 27 = .ok (.getfield 43, 3) := by decide +kernel
theorem dX2_turn_30 : decode cX2_turn 30 = .ok (.iload_n 1, 1) := by decide +kernel
theorem dX2_turn_31 : decode cX2_turn 31 = .ok (.iaload, 1) := by decide +kernel
theorem dX2_turn_32 : decode cX2_turn 32 = .ok (.isub, 1) := by decide +kernel
theorem dX2_turn_33 : decode cX2_turn 33 = .ok (.i2l, 1) := by decide +kernel
theorem dX2_turn_34 : decode cX2_turn 34 = .ok (.lstore 6, 2) := by decide +kernel
theorem dX2_turn_36 : decode cX2_turn 36 = .ok (.lload 4, 2) := by decide +kernel
theorem dX2_turn_38 : decode cX2_turn 38 = .ok (.iload_n 3, 1) := by decide +kernel
theorem dX2_turn_39 : decode cX2_turn 39 = .ok (.aload_n 0, 1) := by decide +kernel
theorem dX2_turn_40 : decode cX2_turn 40 = .ok (.getfield 43, 3) := by decide +kernel
theorem dX2_turn_43 : decode cX2_turn 43 = .ok (.iload_n 1, 1) := by decide +kernel
theorem dX2_turn_44 : decode cX2_turn 44 = .ok (.iaload, 1) := by decide +kernel
theorem dX2_turn_45 : decode cX2_turn 45 = .ok (.isub, 1) := by decide +kernel
theorem dX2_turn_46 : decode cX2_turn 46 = .ok (.i2l, 1) := by decide +kernel
theorem dX2_turn_47 : decode cX2_turn 47 = .ok (.lmul, 1) := by decide +kernel
theorem dX2_turn_48 : decode cX2_turn 48 = .ok (.lload 6, 2) := by decide +kernel
theorem dX2_turn_50 : decode cX2_turn 50 = .ok (.iload_n 2, 1) := by decide +kernel
theorem dX2_turn_51 : decode cX2_turn 51 = .ok (.aload_n 0, 1) := by decide +kernel
theorem dX2_turn_52 : decode cX2_turn 52 = .ok (.getfield 39, 3) := by decide +kernel
theorem dX2_turn_55 : decode cX2_turn 55 = .ok (.iload_n 1, 1) := by decide +kernel
theorem dX2_turn_56 : decode cX2_turn 56 = .ok (.iaload, 1) := by decide +kernel
theorem dX2_turn_57 : decode cX2_turn 57 = .ok (.isub, 1) := by decide +kernel
theorem dX2_turn_58 : decode cX2_turn 58 = .ok (.i2l, 1) := by decide +kernel
theorem dX2_turn_59 : decode cX2_turn 59 = .ok (.lmul, 1) := by decide +kernel
theorem dX2_turn_60 : decode cX2_turn 60 = .ok (.lsub, 1) := by decide +kernel
theorem dX2_turn_61 : decode cX2_turn 61 = .ok (.lreturn, 1) := by decide +kernel
theorem dX2_overlap_0 : decode cX2_overlap 0 = .ok (.iload_n 0, 1) := by decide +kernel
theorem dX2_overlap_1 : decode cX2_overlap 1 = .ok (.iload_n 1, 1) := by decide +kernel
theorem dX2_overlap_2 : decode cX2_overlap 2 = .ok (.invokestatic 52, 3) := by decide +kernel
theorem dX2_overlap_5 : decode cX2_overlap 5 = .ok (.iload_n 2, 1) := by decide +kernel
theorem dX2_overlap_6 : decode cX2_overlap 6 = .ok (.iload_n 3, 1) := by decide +kernel
theorem dX2_overlap_7 : decode cX2_overlap 7 = .ok (.invokestatic 46, 3) := by decide +kernel
theorem dX2_overlap_10 : decode cX2_overlap 10 = .ok (.if_icmp .lt 20, 3) := by decide +kernel
theorem dX2_overlap_13 : decode cX2_overlap 13 = .ok (.iload_n 2, 1) := by decide +kernel
theorem dX2_overlap_14 : decode cX2_overlap 14 = .ok (.iload_n 3, 1) := by decide +kernel
theorem dX2_overlap_15 : decode cX2_overlap 15 = .ok (.invokestatic 52, 3) := by decide +kernel
theorem dX2_overlap_18 : decode cX2_overlap 18 = .ok (.iload_n 0, 1) := by decide +kernel
theorem dX2_overlap_19 : decode cX2_overlap 19 = .ok (.iload_n 1, 1) := by decide +kernel
theorem dX2_overlap_20 : decode cX2_overlap 20 = .ok (.invokestatic 46, 3) := by decide +kernel
theorem dX2_overlap_23 : decode cX2_overlap 23 = .ok (.if_icmp .lt 7, 3) := by decide +kernel
theorem dX2_overlap_26 : decode cX2_overlap 26 = .ok (.iconst 1, 1) := by decide +kernel
theorem dX2_overlap_27 : decode cX2_overlap 27 = .ok (.goto 4, 3) := by decide +kernel
theorem dX2_overlap_30 : decode cX2_overlap 30 = .ok (.iconst 0, 1) := by decide +kernel
theorem dX2_overlap_31 : decode cX2_overlap 31 = .ok (.ireturn, 1) := by decide +kernel
theorem dX2_squareOf_0 : decode cX2_squareOf 0 = .ok (.lload_n 0, 1) := by decide +kernel
theorem dX2_squareOf_1 : decode cX2_squareOf 1 = .ok (.lload_n 0, 1) := by decide +kernel
theorem dX2_squareOf_2 : decode cX2_squareOf 2 = .ok (.lmul, 1) := by decide +kernel
theorem dX2_squareOf_3 : decode cX2_squareOf 3 = .ok (.lload_n 2, 1) := by decide +kernel
theorem dX2_squareOf_4 : decode cX2_squareOf 4 = .ok (.lload_n 2, 1) := by decide +kernel
theorem dX2_squareOf_5 : decode cX2_squareOf 5 = .ok (.lmul, 1) := by decide +kernel
theorem dX2_squareOf_6 : decode cX2_squareOf 6 = .ok (.ladd, 1) := by decide +kernel
theorem dX2_squareOf_7 : decode cX2_squareOf 7 = .ok (.lreturn, 1) := by decide +kernel
set_option maxRecDepth 20000 in
theorem ggX3_init_X0_init : GoodIn wsX3_init wsX0_init := goodIn_r _ [21, 22, 2, 3, 23, 24, 35, 36] (by decide +kernel) (by decide +kernel)
set_option maxRecDepth 20000 in
theorem gX3_init_X0_init_n34 : GoodIn wsX3_init (wsX0_init) := ggX3_init_X0_init
theorem dX3_init_0 : decode cX3_init 0 = .ok (.aload_n 0, 1) := by decide +kernel
theorem dX3_init_1 : decode cX3_init 1 = .ok (.invokespecial 1, 3) := by decide +kernel
theorem dX3_init_4 : decode cX3_init 4 = .ok (.aload_n 0, 1) := by decide +kernel
theorem dX3_init_5 : decode cX3_init 5 = .ok (.bipush 60, 2) := by decide +kernel
theorem dX3_init_7 : decode cX3_init 7 = .ok (.anewarray 9, 3) := by decide +kernel
theorem dX3_init_10 : decode cX3_init 10 = .ok (.putfield 11, 3) := by decide +kernel
theorem dX3_init_13 : decode cX3_init 13 = .ok (.aload_n 0, 1) := by decide +kernel
theorem dX3_init_14 : decode cX3_init 14 = .ok (.iconst 0, 1) := by decide +kernel
theorem dX3_init_15 : decode cX3_init 15 = .ok (.putfield 15, 3) := by decide +kernel
theorem dX3_init_18 : decode cX3_init 18 = .ok (.aload_n 0, 1) := by decide +kernel
theorem dX3_init_19 : decode cX3_init 19 = .ok (.iconst 0, 1) := by decide +kernel
theorem dX3_init_20 : decode cX3_init 20 = .ok (.putfield 19, 3) := by decide +kernel
theorem dX3_init_23 : decode cX3_init 23 = .ok (.aload_n 0, 1) := by decide +kernel
theorem dX3_init_24 : decode cX3_init 24 = .ok (.iconst 0, 1) := by decide +kernel
theorem dX3_init_25 : decode cX3_init 25 = .ok (.putfield 22, 3) := by decide +kernel
theorem dX3_init_28 : decode cX3_init 28 = .ok (.aload_n 0, 1) := by decide +kernel
theorem dX3_init_29 : decode cX3_init 29 = .ok (.bipush 60, 2) := by decide +kernel
theorem dX3_init_31 : decode cX3_init 31 = .ok (.newarray .int, 2) := by decide +kernel
theorem dX3_init_33 : decode cX3_init 33 = .ok (.putfield 25, 3) := by decide +kernel
theorem dX3_init_36 : decode cX3_init 36 = .ok (.aload_n 0, 1) := by decide +kernel
theorem dX3_init_37 : decode cX3_init 37 = .ok (.iconst 0, 1) := by decide +kernel
theorem dX3_init_38 : decode cX3_init 38 = .ok (.putfield 29, 3) := by decide +kernel
theorem dX3_init_41 : decode cX3_init 41 = .ok (.aload_n 0, 1) := by decide +kernel
theorem dX3_init_42 : decode cX3_init 42 = .ok (.new 32, 3) := by decide +kernel
theorem dX3_init_45 : decode cX3_init 45 = .ok (.dup, 1) := by decide +kernel
theorem dX3_init_46 : decode cX3_init 46 = .ok (.invokespecial 34, 3) := by decide +kernel
theorem dX3_init_49 : decode cX3_init 49 = .ok (.putfield 35, 3) := by decide +kernel
theorem dX3_init_52 : decode cX3_init 52 = .ok (.aload_n 0, 1) := by decide +kernel
theorem dX3_init_53 : decode cX3_init 53 = .ok (.bipush 60, 2) := by decide +kernel
theorem dX3_init_55 : decode cX3_init 55 = .ok (.newarray .long, 2) := by decide +kernel
theorem dX3_init_57 : decode cX3_init 57 = .ok (.putfield 39, 3) := by decide +kernel
theorem dX3_init_60 : decode cX3_init 60 = .ok (.aload_n 0, 1) := by decide +kernel
theorem dX3_init_61 : decode cX3_init 61 = .ok (.bipush 60, 2) := by decide +kernel
theorem dX3_init_63 : decode cX3_init 63 = .ok (.newarray .long, 2) := by decide +kernel
theorem dX3_init_65 : decode cX3_init 65 = .ok (.putfield 43, 3) := by decide +kernel
theorem dX3_init_68 : decode cX3_init 68 = .ok (.aload_n 0, 1) := by decide +kernel
theorem dX3_init_69 : decode cX3_init 69 = .ok (.bipush 60, 2) := by decide +kernel
theorem dX3_init_71 : decode cX3_init 71 = .ok (.newarray .int, 2) := by decide +kernel
theorem dX3_init_73 : decode cX3_init 73 = .ok (.putfield 46, 3) := by decide +kernel
theorem dX3_init_76 : decode cX3_init 76 = .ok (.return_, 1) := by decide +kernel
set_option maxRecDepth 20000 in
theorem ggX3_point_X3_isPlace : GoodIn wsX3_point wsX3_isPlace := goodIn_r _ [6] (by decide +kernel) (by decide +kernel)
set_option maxRecDepth 20000 in
theorem gX3_point_X3_isPlace : GoodIn wsX3_point (va_wsS RX3 49 yX3_isPlace wsX3_isPlace) := goodIn_app (goodIn_of _ (by decide +kernel)) ggX3_point_X3_isPlace
set_option maxRecDepth 20000 in
theorem ggX3_point_X3_make : GoodIn wsX3_point wsX3_make := goodIn_r _ [10, 11, 12, 13, 14, 15, 16, 17, 18, 19, 20, 21, 22, 23, 24, 25, 26, 27, 28, 29, 30, 31, 32, 33, 84, 85, 86, 87, 88, 89, 90, 91, 92, 93, 94, 95, 96, 97, 98, 99, 100, 101, 102] (by decide +kernel) (by decide +kernel)
set_option maxRecDepth 20000 in
theorem gX3_point_X3_make : GoodIn wsX3_point (wsV RX3 59 RX3 yX3_make wsX3_make) := goodIn_app (goodIn_of _ (by decide +kernel)) ggX3_point_X3_make
set_option maxRecDepth 20000 in
theorem ggX3_point_X3_standing : GoodIn wsX3_point wsX3_standing := goodIn_r _ [37, 11, 12, 84, 85, 86, 87, 88, 89, 90, 91, 92, 93] (by decide +kernel) (by decide +kernel)
set_option maxRecDepth 20000 in
theorem gX3_point_X3_standing : GoodIn wsX3_point (wsV RX3 63 RX3 yX3_standing wsX3_standing) := goodIn_app (goodIn_of _ (by decide +kernel)) ggX3_point_X3_standing
set_option maxRecDepth 20000 in
theorem ggX3_point_X2_add : GoodIn wsX3_point wsX2_add := goodIn_r _ [41, 23, 29, 30, 32, 33, 25, 42, 43, 44, 45, 26, 27, 46, 47, 48, 28, 24, 49, 50, 51, 15, 52, 53, 54, 55, 56, 57, 58, 59, 60, 61, 62, 63, 64, 65, 66, 67, 68, 69, 70, 71, 72, 73, 74, 75, 76, 77, 78, 79, 80, 81, 82, 83, 94, 95, 96, 97, 98, 99, 100, 101, 102] (by decide +kernel) (by decide +kernel)
set_option maxRecDepth 20000 in
theorem gX3_point_X2_add : GoodIn wsX3_point (wsV RX3 67 RX2 yX2_add wsX2_add) := goodIn_app (goodIn_of _ (by decide +kernel)) ggX3_point_X2_add
theorem dX3_point_0 : decode cX3_point 0 = .ok (.iload_n 1, 1) := by decide +kernel
theorem dX3_point_1 : decode cX3_point 1 = .ok (.iload_n 2, 1) := by decide +kernel
theorem dX3_point_2 : decode cX3_point 2 = .ok (.invokestatic 49, 3) := by decide +kernel
theorem dX3_point_5 : decode cX3_point 5 = .ok (.ifCond .ne 5, 3) := by decide +kernel
theorem dX3_point_8 : decode cX3_point 8 = .ok (.iconst (-1), 1) := by decide +kernel
theorem dX3_point_9 : decode cX3_point 9 = .ok (.ireturn, 1) := by decide +kernel
theorem dX3_point_10 : decode cX3_point 10 = .ok (.aload_n 0, 1) := by decide +kernel
theorem dX3_point_11 : decode cX3_point 11 = .ok (.getfield 22, 3) := by decide +kernel
theorem dX3_point_14 : decode cX3_point 14 = .ok (.sipush 400, 3) := by decide +kernel
theorem dX3_point_17 : decode cX3_point 17 = .ok (.if_icmp .lt 6, 3) := by decide +kernel
theorem dX3_point_20 : decode cX3_point 20 = .ok (.bipush (-2), 2) := by decide +kernel
theorem dX3_point_22 : decode cX3_point 22 = .ok (.ireturn, 1) := by decide +kernel
theorem dX3_point_23 : decode cX3_point 23 = .ok (.aload_n 0, 1) := by decide +kernel
theorem dX3_point_24 : decode cX3_point 24 = .ok (.getstatic 53, 3) := by decide +kernel
theorem dX3_point_27 : decode cX3_point 27 = .ok (.invokevirtual 59, 3) := by decide +kernel
theorem dX3_point_30 : decode cX3_point 30 = .ok (.istore_n 3, 1) := by decide +kernel
theorem dX3_point_31 : decode cX3_point 31 = .ok (.aload_n 0, 1) := by decide +kernel
theorem dX3_point_32 : decode cX3_point 32 = .ok (.iload_n 3, 1) := by decide +kernel
theorem dX3_point_33 : decode cX3_point 33 = .ok (.invokevirtual 63, 3) := by decide +kernel
theorem dX3_point_36 : decode cX3_point 36 = .ok (.astore 4, 2) := by decide +kernel
theorem dX3_point_38 : decode cX3_point 38 = .ok (.aload 4, 2) := by decide +kernel
theorem dX3_point_40 : decode cX3_point 40 = .ok (.ifnull 20, 3) := by decide +kernel
theorem dX3_point_43 : decode cX3_point 43 = .ok (.aload 4, 2) := by decide +kernel
theorem dX3_point_45 : decode cX3_point 45 = .ok (.iload_n 1, 1) := by decide +kernel
theorem dX3_point_46 : decode cX3_point 46 = .ok (.iload_n 2, 1) := by decide +kernel
theorem dX3_point_47 : decode cX3_point 47 = .ok (.invokevirtual 67, 3) := by decide +kernel
theorem dX3_point_50 : decode cX3_point 50 = .ok (.aload_n 0, 1) := by decide +kernel
theorem dX3_point_51 : decode cX3_point 51 = .ok (.dup, 1) := by decide +kernel
theorem dX3_point_52 : decode cX3_point 52 = .ok (.getfield 22, 3) := by decide +kernel
theorem dX3_point_55 : decode cX3_point 55 = .ok (.iconst 1, 1) := by decide +kernel
theorem dX3_point_56 : decode cX3_point 56 = .ok (.iadd, 1) := by decide +kernel
theorem dX3_point_57 : decode cX3_point 57 = .ok (.putfield 22, 3) := by decide +kernel
theorem dX3_point_60 : decode cX3_point 60 = .ok (.iload_n 3, 1) := by decide +kernel
theorem dX3_point_61 : decode cX3_point 61 = .ok (.ireturn, 1) := by decide +kernel
set_option maxRecDepth 20000 in
theorem ggX3_line_X3_make : GoodIn wsX3_line wsX3_make := goodIn_r _ [6, 7, 8, 9, 10, 11, 12, 13, 14, 15, 16, 17, 18, 19, 20, 21, 22, 23, 24, 25, 26, 27, 28, 29, 30, 31, 32, 33, 34, 35, 36, 37, 38, 39, 40, 41, 42, 43, 44, 45, 46, 47, 48] (by decide +kernel) (by decide +kernel)
set_option maxRecDepth 20000 in
theorem gX3_line_X3_make : GoodIn wsX3_line (wsV RX3 59 RX3 yX3_make wsX3_make) := goodIn_app (goodIn_of _ (by decide +kernel)) ggX3_line_X3_make
theorem dX3_line_0 : decode cX3_line 0 = .ok (.aload_n 0, 1) := by decide +kernel
theorem dX3_line_1 : decode cX3_line 1 = .ok (.getstatic 71, 3) := by decide +kernel
theorem dX3_line_4 : decode cX3_line 4 = .ok (.invokevirtual 59, 3) := by decide +kernel
theorem dX3_line_7 : decode cX3_line 7 = .ok (.ireturn, 1) := by decide +kernel
set_option maxRecDepth 20000 in
theorem ggX3_polygon_X3_make : GoodIn wsX3_polygon wsX3_make := goodIn_r _ [6, 7, 8, 9, 10, 11, 12, 13, 14, 15, 16, 17, 18, 19, 20, 21, 22, 23, 24, 25, 26, 27, 28, 29, 30, 31, 32, 33, 34, 35, 36, 37, 38, 39, 40, 41, 42, 43, 44, 45, 46, 47, 48] (by decide +kernel) (by decide +kernel)
set_option maxRecDepth 20000 in
theorem gX3_polygon_X3_make : GoodIn wsX3_polygon (wsV RX3 59 RX3 yX3_make wsX3_make) := goodIn_app (goodIn_of _ (by decide +kernel)) ggX3_polygon_X3_make
theorem dX3_polygon_0 : decode cX3_polygon 0 = .ok (.aload_n 0, 1) := by decide +kernel
theorem dX3_polygon_1 : decode cX3_polygon 1 = .ok (.getstatic 74, 3) := by decide +kernel
theorem dX3_polygon_4 : decode cX3_polygon 4 = .ok (.invokevirtual 59, 3) := by decide +kernel
theorem dX3_polygon_7 : decode cX3_polygon 7 = .ok (.ireturn, 1) := by decide +kernel
set_option maxRecDepth 20000 in
theorem ggX3_corner_X3_standing : GoodIn wsX3_corner wsX3_standing := goodIn_r _ [10, 11, 12, 82, 83, 84, 85, 86, 87, 88, 89, 90, 91] (by decide +kernel) (by decide +kernel)
set_option maxRecDepth 20000 in
theorem gX3_corner_X3_standing : GoodIn wsX3_corner (wsV RX3 63 RX3 yX3_standing wsX3_standing) := goodIn_app (goodIn_of _ (by decide +kernel)) ggX3_corner_X3_standing
set_option maxRecDepth 20000 in
theorem ggX3_corner_X3_isPlace : GoodIn wsX3_corner wsX3_isPlace := goodIn_r _ [15] (by decide +kernel) (by decide +kernel)
set_option maxRecDepth 20000 in
theorem gX3_corner_X3_isPlace : GoodIn wsX3_corner (va_wsS RX3 49 yX3_isPlace wsX3_isPlace) := goodIn_app (goodIn_of _ (by decide +kernel)) ggX3_corner_X3_isPlace
set_option maxRecDepth 20000 in
theorem ggX3_corner_X2_add : GoodIn wsX3_corner wsX2_add := goodIn_r _ [20, 21, 22, 23, 24, 25, 26, 27, 28, 29, 30, 31, 32, 33, 34, 35, 36, 37, 38, 39, 40, 19, 41, 42, 43, 44, 45, 46, 47, 48, 49, 50, 51, 52, 53, 54, 55, 56, 57, 58, 59, 60, 61, 62, 63, 64, 65, 66, 67, 68, 69, 70, 71, 72, 73, 74, 75, 76, 77, 78, 79, 80, 81] (by decide +kernel) (by decide +kernel)
set_option maxRecDepth 20000 in
theorem gX3_corner_X2_add : GoodIn wsX3_corner (wsV RX3 67 RX2 yX2_add wsX2_add) := goodIn_app (goodIn_of _ (by decide +kernel)) ggX3_corner_X2_add
theorem dX3_corner_0 : decode cX3_corner 0 = .ok (.aload_n 0, 1) := by decide +kernel
theorem dX3_corner_1 : decode cX3_corner 1 = .ok (.iload_n 1, 1) := by decide +kernel
theorem dX3_corner_2 : decode cX3_corner 2 = .ok (.invokevirtual 63, 3) := by decide +kernel
theorem dX3_corner_5 : decode cX3_corner 5 = .ok (.astore 4, 2) := by decide +kernel
theorem dX3_corner_7 : decode cX3_corner 7 = .ok (.aload 4, 2) := by decide +kernel
theorem dX3_corner_9 : decode cX3_corner 9 = .ok (.ifnull 22, 3) := by decide +kernel
theorem dX3_corner_12 : decode cX3_corner 12 = .ok (.aload 4, 2) := by decide +kernel
theorem dX3_corner_14 : decode cX3_corner 14 = .ok (.getfield 77, 3) := by decide +kernel
theorem dX3_corner_17 : decode cX3_corner 17 = .ok (.getstatic 53, 3) := by decide +kernel
theorem dX3_corner_20 : decode cX3_corner 20 = .ok (.if_acmp .eq 11, 3) := by decide +kernel
theorem dX3_corner_23 : decode cX3_corner 23 = .ok (.iload_n 2, 1) := by decide +kernel
theorem dX3_corner_24 : decode cX3_corner 24 = .ok (.iload_n 3, 1) := by decide +kernel
theorem dX3_corner_25 : decode cX3_corner 25 = .ok (.invokestatic 49, 3) := by decide +kernel
theorem dX3_corner_28 : decode cX3_corner 28 = .ok (.ifCond .ne 5, 3) := by decide +kernel
theorem dX3_corner_31 : decode cX3_corner 31 = .ok (.iconst (-1), 1) := by decide +kernel
theorem dX3_corner_32 : decode cX3_corner 32 = .ok (.ireturn, 1) := by decide +kernel
theorem dX3_corner_33 : decode cX3_corner 33 = .ok (.aload_n 0, 1) := by decide +kernel
theorem dX3_corner_34 : decode cX3_corner 34 = .ok (.getfield 22, 3) := by decide +kernel
theorem dX3_corner_37 : decode cX3_corner 37 = .ok (.sipush 400, 3) := by decide +kernel
theorem dX3_corner_40 : decode cX3_corner 40 = .ok (.if_icmp .ge 19, 3) := by decide +kernel
theorem dX3_corner_43 : decode cX3_corner 43 = .ok (.aload 4, 2) := by decide +kernel
theorem dX3_corner_45 : decode cX3_corner 45 = .ok (.getfield 80, 3) := by decide +kernel
theorem dX3_corner_48 : decode cX3_corner 48 = .ok (.aload 4, 2) := by decide +kernel
theorem dX3_corner_50 : decode cX3_corner 50 = .ok (.getfield 77, 3) := by decide +kernel
theorem dX3_corner_53 : decode cX3_corner 53 = .ok (.getfield 83, 3) := by decide +kernel
theorem dX3_corner_56 : decode cX3_corner 56 = .ok (.if_icmp .lt 6, 3) := by decide +kernel
theorem dX3_corner_59 : decode cX3_corner 59 = .ok (.bipush (-2), 2) := by decide +kernel
theorem dX3_corner_61 : decode cX3_corner 61 = .ok (.ireturn, 1) := by decide +kernel
theorem dX3_corner_62 : decode cX3_corner 62 = .ok (.aload 4, 2) := by decide +kernel
theorem dX3_corner_64 : decode cX3_corner 64 = .ok (.iload_n 2, 1) := by decide +kernel
theorem dX3_corner_65 : decode cX3_corner 65 = .ok (.iload_n 3, 1) := by decide +kernel
theorem dX3_corner_66 : decode cX3_corner 66 = .ok (.invokevirtual 67, 3) := by decide +kernel
theorem dX3_corner_69 : decode cX3_corner 69 = .ok (.aload_n 0, 1) := by decide +kernel
theorem dX3_corner_70 : decode cX3_corner 70 = .ok (.dup, 1) := by decide +kernel
theorem dX3_corner_71 : decode cX3_corner 71 = .ok (.getfield 22, 3) := by decide +kernel
theorem dX3_corner_74 : decode cX3_corner 74 = .ok (.iconst 1, 1) := by decide +kernel
theorem dX3_corner_75 : decode cX3_corner 75 = .ok (.iadd, 1) := by decide +kernel
theorem dX3_corner_76 : decode cX3_corner 76 = .ok (.putfield 22, 3) := by decide +kernel
theorem dX3_corner_79 : decode cX3_corner 79 = .ok (.aload 4, 2) := by decide +kernel
theorem dX3_corner_81 : decode cX3_corner 81 = .ok (.getfield 80, 3) := by decide +kernel
theorem dX3_corner_84 : decode cX3_corner 84 = .ok (.ireturn, 1) := by decide +kernel
set_option maxRecDepth 20000 in
theorem ggX3_remove_X3_standing : GoodIn wsX3_remove wsX3_standing := goodIn_r _ [7, 8, 1, 9, 10, 11, 12, 13, 14, 15, 16, 17, 18] (by decide +kernel) (by decide +kernel)
set_option maxRecDepth 20000 in
theorem gX3_remove_X3_standing : GoodIn wsX3_remove (wsV RX3 63 RX3 yX3_standing wsX3_standing) := goodIn_app (goodIn_of _ (by decide +kernel)) ggX3_remove_X3_standing
theorem dX3_remove_0 : decode cX3_remove 0 = .ok (.aload_n 0, 1) := by decide +kernel
theorem dX3_remove_1 : decode cX3_remove 1 = .ok (.iload_n 1, 1) := by decide +kernel
theorem dX3_remove_2 : decode cX3_remove 2 = .ok (.invokevirtual 63, 3) := by decide +kernel
theorem dX3_remove_5 : decode cX3_remove 5 = .ok (.ifnonnull 5, 3) := by decide +kernel
theorem dX3_remove_8 : decode cX3_remove 8 = .ok (.iconst (-1), 1) := by decide +kernel
theorem dX3_remove_9 : decode cX3_remove 9 = .ok (.ireturn, 1) := by decide +kernel
theorem dX3_remove_10 : decode cX3_remove 10 = .ok (.aload_n 0, 1) := by decide +kernel
theorem dX3_remove_11 : decode cX3_remove 11 = .ok (.getfield 11, 3) := by decide +kernel
theorem dX3_remove_14 : decode cX3_remove 14 = .ok (.iload_n 1, 1) := by decide +kernel
theorem dX3_remove_15 : decode cX3_remove 15 = .ok (.aconst_null, 1) := by decide +kernel
theorem dX3_remove_16 : decode cX3_remove 16 = .ok (.aastore, 1) := by decide +kernel
theorem dX3_remove_17 : decode cX3_remove 17 = .ok (.aload_n 0, 1) := by decide +kernel
theorem dX3_remove_18 : decode cX3_remove 18 = .ok (.dup, 1) := by decide +kernel
theorem dX3_remove_19 : decode cX3_remove 19 = .ok (.getfield 19, 3) := by decide +kernel
theorem dX3_remove_22 : decode cX3_remove 22 = .ok (.iconst 1, 1) := by decide +kernel
theorem dX3_remove_23 : decode cX3_remove 23 = .ok (.isub, 1) := by decide +kernel
theorem dX3_remove_24 : decode cX3_remove 24 = .ok (.putfield 19, 3) := by decide +kernel
theorem dX3_remove_27 : decode cX3_remove 27 = .ok (.iconst 1, 1) := by decide +kernel
theorem dX3_remove_28 : decode cX3_remove 28 = .ok (.ireturn, 1) := by decide +kernel
set_option maxRecDepth 20000 in
theorem ggX3_check_X3_standing : GoodIn wsX3_check wsX3_standing := goodIn_r _ [6, 7, 8, 18, 19, 20, 21, 22, 23, 24, 25, 26, 27] (by decide +kernel) (by decide +kernel)
set_option maxRecDepth 20000 in
theorem gX3_check_X3_standing : GoodIn wsX3_check (wsV RX3 63 RX3 yX3_standing wsX3_standing) := goodIn_app (goodIn_of _ (by decide +kernel)) ggX3_check_X3_standing
theorem dX3_check_0 : decode cX3_check 0 = .ok (.aload_n 0, 1) := by decide +kernel
theorem dX3_check_1 : decode cX3_check 1 = .ok (.iload_n 1, 1) := by decide +kernel
theorem dX3_check_2 : decode cX3_check 2 = .ok (.invokevirtual 63, 3) := by decide +kernel
theorem dX3_check_5 : decode cX3_check 5 = .ok (.astore_n 2, 1) := by decide +kernel
theorem dX3_check_6 : decode cX3_check 6 = .ok (.aload_n 2, 1) := by decide +kernel
theorem dX3_check_7 : decode cX3_check 7 = .ok (.ifnonnull 7, 3) := by decide +kernel
theorem dX3_check_10 : decode cX3_check 10 = .ok (.iconst (-1), 1) := by decide +kernel
theorem dX3_check_11 : decode cX3_check 11 = .ok (.goto 7, 3) := by decide +kernel
theorem dX3_check_14 : decode cX3_check 14 = .ok (.aload_n 2, 1) := by decide +kernel
theorem dX3_check_15 : decode cX3_check 15 = .ok (.getfield 86, 3) := by decide +kernel
theorem dX3_check_18 : decode cX3_check 18 = .ok (.ireturn, 1) := by decide +kernel
set_option maxRecDepth 20000 in
theorem ggX3_inside_X3_right : GoodIn wsX3_inside wsX3_right := goodIn_r _ [7, 8, 9, 10, 11, 6, 12, 13, 14, 40, 41, 42, 43, 44, 45, 46, 47, 48, 49, 50, 51, 52, 53, 54, 55, 56, 57, 58] (by decide +kernel) (by decide +kernel)
set_option maxRecDepth 20000 in
theorem gX3_inside_X3_right : GoodIn wsX3_inside (wsV RX3 89 RX3 yX3_right wsX3_right) := goodIn_app (goodIn_of _ (by decide +kernel)) ggX3_inside_X3_right
set_option maxRecDepth 20000 in
theorem ggX3_inside_X3_isPlace : GoodIn wsX3_inside wsX3_isPlace := goodIn_r _ [17] (by decide +kernel) (by decide +kernel)
set_option maxRecDepth 20000 in
theorem gX3_inside_X3_isPlace : GoodIn wsX3_inside (va_wsS RX3 49 yX3_isPlace wsX3_isPlace) := goodIn_app (goodIn_of _ (by decide +kernel)) ggX3_inside_X3_isPlace
set_option maxRecDepth 20000 in
theorem ggX3_inside_X2_whereIs : GoodIn wsX3_inside wsX2_whereIs := goodIn_r _ [22, 23, 24, 25, 26, 27, 28, 21, 29, 30, 31, 32, 33, 34, 35, 36, 37, 38, 39, 40, 41, 42, 43, 44, 45, 46, 47, 48] (by decide +kernel) (by decide +kernel)
set_option maxRecDepth 20000 in
theorem gX3_inside_X2_whereIs : GoodIn wsX3_inside (wsV RX3 92 RX2 yX2_whereIs wsX2_whereIs) := goodIn_app (goodIn_of _ (by decide +kernel)) ggX3_inside_X2_whereIs
theorem dX3_inside_0 : decode cX3_inside 0 = .ok (.aload_n 0, 1) := by decide +kernel
theorem dX3_inside_1 : decode cX3_inside 1 = .ok (.iload_n 3, 1) := by decide +kernel
theorem dX3_inside_2 : decode cX3_inside 2 = .ok (.invokevirtual 89, 3) := by decide +kernel
theorem dX3_inside_5 : decode cX3_inside 5 = .ok (.astore 4, 2) := by decide +kernel
theorem dX3_inside_7 : decode cX3_inside 7 = .ok (.aload 4, 2) := by decide +kernel
theorem dX3_inside_9 : decode cX3_inside 9 = .ok (.ifnull 22, 3) := by decide +kernel
theorem dX3_inside_12 : decode cX3_inside 12 = .ok (.aload 4, 2) := by decide +kernel
theorem dX3_inside_14 : decode cX3_inside 14 = .ok (.getfield 77, 3) := by decide +kernel
theorem dX3_inside_17 : decode cX3_inside 17 = .ok (.getstatic 74, 3) := by decide +kernel
theorem dX3_inside_20 : decode cX3_inside 20 = .ok (.if_acmp .ne 11, 3) := by decide +kernel
theorem dX3_inside_23 : decode cX3_inside 23 = .ok (.iload_n 1, 1) := by decide +kernel
theorem dX3_inside_24 : decode cX3_inside 24 = .ok (.iload_n 2, 1) := by decide +kernel
theorem dX3_inside_25 : decode cX3_inside 25 = .ok (.invokestatic 49, 3) := by decide +kernel
theorem dX3_inside_28 : decode cX3_inside 28 = .ok (.ifCond .ne 5, 3) := by decide +kernel
theorem dX3_inside_31 : decode cX3_inside 31 = .ok (.iconst (-1), 1) := by decide +kernel
theorem dX3_inside_32 : decode cX3_inside 32 = .ok (.ireturn, 1) := by decide +kernel
theorem dX3_inside_33 : decode cX3_inside 33 = .ok (.aload 4, 2) := by decide +kernel
theorem dX3_inside_35 : decode cX3_inside 35 = .ok (.iload_n 1, 1) := by decide +kernel
theorem dX3_inside_36 : decode cX3_inside 36 = .ok (.iload_n 2, 1) := by decide +kernel
theorem dX3_inside_37 : decode cX3_inside 37 = .ok (.invokevirtual 92, 3) := by decide +kernel
theorem dX3_inside_40 : decode cX3_inside 40 = .ok (.ireturn, 1) := by decide +kernel
set_option maxRecDepth 20000 in
theorem ggX3_meets_X3_right : GoodIn wsX3_meets wsX3_right := goodIn_r _ [5, 6, 7, 8, 9, 4, 10, 11, 12, 54, 55, 56, 57, 58, 59, 60, 61, 62, 63, 64, 65, 66, 67, 68, 69, 70, 71, 72] (by decide +kernel) (by decide +kernel)
set_option maxRecDepth 20000 in
theorem gX3_meets_X3_right : GoodIn wsX3_meets (wsV RX3 89 RX3 yX3_right wsX3_right) := goodIn_app (goodIn_of _ (by decide +kernel)) ggX3_meets_X3_right
set_option maxRecDepth 20000 in
theorem ggX3_meets_X2_touches : GoodIn wsX3_meets wsX2_touches := goodIn_r _ [17, 18, 19, 20, 21, 22, 16, 23, 24, 25, 26, 27, 28, 29, 30, 31, 32, 33, 34, 35, 36, 37, 38, 39, 40, 41, 42, 43, 44, 45, 46, 47, 48, 49, 50, 51, 52, 53, 54, 55, 56, 57, 58, 59, 60, 61, 62] (by decide +kernel) (by decide +kernel)
set_option maxRecDepth 20000 in
theorem gX3_meets_X2_touches : GoodIn wsX3_meets (wsV RX3 96 RX2 yX2_touches wsX2_touches) := goodIn_app (goodIn_of _ (by decide +kernel)) ggX3_meets_X2_touches
theorem dX3_meets_0 : decode cX3_meets 0 = .ok (.aload_n 0, 1) := by decide +kernel
theorem dX3_meets_1 : decode cX3_meets 1 = .ok (.iload_n 1, 1) := by decide +kernel
theorem dX3_meets_2 : decode cX3_meets 2 = .ok (.invokevirtual 89, 3) := by decide +kernel
theorem dX3_meets_5 : decode cX3_meets 5 = .ok (.astore_n 3, 1) := by decide +kernel
theorem dX3_meets_6 : decode cX3_meets 6 = .ok (.aload_n 0, 1) := by decide +kernel
theorem dX3_meets_7 : decode cX3_meets 7 = .ok (.iload_n 2, 1) := by decide +kernel
theorem dX3_meets_8 : decode cX3_meets 8 = .ok (.invokevirtual 89, 3) := by decide +kernel
theorem dX3_meets_11 : decode cX3_meets 11 = .ok (.astore 4, 2) := by decide +kernel
theorem dX3_meets_13 : decode cX3_meets 13 = .ok (.aload_n 3, 1) := by decide +kernel
theorem dX3_meets_14 : decode cX3_meets 14 = .ok (.ifnull 8, 3) := by decide +kernel
theorem dX3_meets_17 : decode cX3_meets 17 = .ok (.aload 4, 2) := by decide +kernel
theorem dX3_meets_19 : decode cX3_meets 19 = .ok (.ifnonnull 5, 3) := by decide +kernel
theorem dX3_meets_22 : decode cX3_meets 22 = .ok (.iconst (-1), 1) := by decide +kernel
theorem dX3_meets_23 : decode cX3_meets 23 = .ok (.ireturn, 1) := by decide +kernel
theorem dX3_meets_24 : decode cX3_meets 24 = .ok (.aload_n 3, 1) := by decide +kernel
theorem dX3_meets_25 : decode cX3_meets 25 = .ok (.aload 4, 2) := by decide +kernel
theorem dX3_meets_27 : decode cX3_meets 27 = .ok (.invokevirtual 96, 3) := by decide +kernel
theorem dX3_meets_30 : decode cX3_meets 30 = .ok (.ifCond .eq 7, 3) := by decide +kernel
theorem dX3_meets_33 : decode cX3_meets 33 = .ok (.iconst 1, 1) := by decide +kernel
theorem dX3_meets_34 : decode cX3_meets 34 = .ok (.goto 4, 3) := by decide +kernel
theorem dX3_meets_37 : decode cX3_meets 37 = .ok (.iconst 0, 1) := by decide +kernel
theorem dX3_meets_38 : decode cX3_meets 38 = .ok (.ireturn, 1) := by decide +kernel
set_option maxRecDepth 20000 in
theorem ggX3_square_X3_right : GoodIn wsX3_square wsX3_right := goodIn_r _ [9, 10, 11, 12, 13, 8, 14, 15, 16, 107, 108, 109, 110, 111, 112, 113, 114, 115, 95, 96, 97, 98, 99, 100, 101, 102, 103, 104] (by decide +kernel) (by decide +kernel)
set_option maxRecDepth 20000 in
theorem gX3_square_X3_right : GoodIn wsX3_square (wsV RX3 89 RX3 yX3_right wsX3_right) := goodIn_app (goodIn_of _ (by decide +kernel)) ggX3_square_X3_right
set_option maxRecDepth 20000 in
theorem ggX3_square_X2_measureTo : GoodIn wsX3_square wsX2_measureTo := goodIn_r _ [21, 22, 23, 24, 25, 26, 20, 27, 28, 29, 30, 31, 32, 33, 34, 35, 36, 37, 38, 39, 40, 41, 42, 43, 44, 45, 46, 47, 48, 49, 50, 51, 52, 53, 54, 55, 56, 57, 58, 59, 60, 61, 62, 63, 64, 65, 66, 67, 68, 69, 70, 71, 72, 73, 74, 75, 76, 77, 78, 79, 80, 81, 82, 83, 84, 85, 86, 87, 107, 108, 109, 110, 111, 112, 113, 114, 115, 105, 106] (by decide +kernel) (by decide +kernel)
set_option maxRecDepth 20000 in
theorem gX3_square_X2_measureTo : GoodIn wsX3_square (wsV RX3 102 RX2 yX2_measureTo wsX2_measureTo) := goodIn_app (goodIn_of _ (by decide +kernel)) ggX3_square_X2_measureTo
set_option maxRecDepth 20000 in
theorem ggX3_square_X0_reduce : GoodIn wsX3_square wsX0_reduce := goodIn_r _ [91, 67, 68, 92, 93, 65, 94, 105, 106] (by decide +kernel) (by decide +kernel)
set_option maxRecDepth 20000 in
theorem gX3_square_X0_reduce : GoodIn wsX3_square (wsV RX3 106 RX0 yX0_reduce wsX0_reduce) := goodIn_app (goodIn_of _ (by decide +kernel)) ggX3_square_X0_reduce
theorem dX3_square_0 : decode cX3_square 0 = .ok (.aload_n 0, 1) := by decide +kernel
theorem dX3_square_1 : decode cX3_square 1 = .ok (.iload_n 1, 1) := by decide +kernel
theorem dX3_square_2 : decode cX3_square 2 = .ok (.invokevirtual 89, 3) := by decide +kernel
theorem dX3_square_5 : decode cX3_square 5 = .ok (.astore 4, 2) := by decide +kernel
theorem dX3_square_7 : decode cX3_square 7 = .ok (.aload_n 0, 1) := by decide +kernel
theorem dX3_square_8 : decode cX3_square 8 = .ok (.iload_n 2, 1) := by decide +kernel
theorem dX3_square_9 : decode cX3_square 9 = .ok (.invokevirtual 89, 3) := by decide +kernel
theorem dX3_square_12 : decode cX3_square 12 = .ok (.astore 5, 2) := by decide +kernel
theorem dX3_square_14 : decode cX3_square 14 = .ok (.aload 4, 2) := by decide +kernel
theorem dX3_square_16 : decode cX3_square 16 = .ok (.ifnull 8, 3) := by decide +kernel
theorem dX3_square_19 : decode cX3_square 19 = .ok (.aload 5, 2) := by decide +kernel
theorem dX3_square_21 : decode cX3_square 21 = .ok (.ifnonnull 7, 3) := by decide +kernel
theorem dX3_square_24 : decode cX3_square 24 = .ok (.ldc2_w 100, 3) := by decide +kernel
theorem dX3_square_27 : decode cX3_square 27 = .ok (.lreturn, 1) := by decide +kernel
theorem dX3_square_28 : decode cX3_square 28 = .ok (.aload 4, 2) := by decide +kernel
theorem dX3_square_30 : decode cX3_square 30 = .ok (.aload 5, 2) := by decide +kernel
theorem dX3_square_32 : decode cX3_square 32 = .ok (.aload_n 0, 1) := by decide +kernel
theorem dX3_square_33 : decode cX3_square 33 = .ok (.getfield 35, 3) := by decide +kernel
theorem dX3_square_36 : decode cX3_square 36 = .ok (.invokevirtual 102, 3) := by decide +kernel
theorem dX3_square_39 : decode cX3_square 39 = .ok (.aload_n 0, 1) := by decide +kernel
theorem dX3_square_40 : decode cX3_square 40 = .ok (.getfield 35, 3) := by decide +kernel
theorem dX3_square_43 : decode cX3_square 43 = .ok (.invokevirtual 106, 3) := by decide +kernel
theorem dX3_square_46 : decode cX3_square 46 = .ok (.iload_n 3, 1) := by decide +kernel
theorem dX3_square_47 : decode cX3_square 47 = .ok (.ifCond .ne 13, 3) := by decide +kernel
theorem dX3_square_50 : decode cX3_square 50 = .ok (.aload_n 0, 1) := by decide +kernel
theorem dX3_square_51 : decode cX3_square 51 = .ok (.getfield 35, 3) := by decide +kernel
theorem dX3_square_54 : decode cX3_square 54 = .ok (.getfield 109, 3) := by decide +kernel
theorem dX3_square_57 : decode cX3_square 57 = .ok (.goto 10, 3) := by decide +kernel
theorem dX3_square_60 : decode cX3_square 60 = .ok (.aload_n 0, 1) := by decide +kernel
theorem dX3_square_61 : decode cX3_square 61 = .ok (.getfield 35, 3) := by decide +kernel
theorem dX3_square_64 : decode cX3_square 64 = .ok (.getfield 113, 3) := by decide +kernel
theorem dX3_square_67 : decode cX3_square 67 = .ok (.lreturn, 1) := by decide +kernel
set_option maxRecDepth 20000 in
theorem ggX3_near_X3_isPlace : GoodIn wsX3_near wsX3_isPlace := goodIn_r _ [5] (by decide +kernel) (by decide +kernel)
set_option maxRecDepth 20000 in
theorem gX3_near_X3_isPlace : GoodIn wsX3_near (va_wsS RX3 49 yX3_isPlace wsX3_isPlace) := goodIn_app (goodIn_of _ (by decide +kernel)) ggX3_near_X3_isPlace
set_option maxRecDepth 20000 in
theorem ggX3_near_X3_sortByGapTo : GoodIn wsX3_near wsX3_sortByGapTo := goodIn_r _ [9, 10, 11, 12, 13, 14, 15, 16, 17, 18, 19, 20, 21, 22, 23, 24, 25, 26, 27, 28, 29, 30, 31, 32, 33, 34, 35, 36, 37, 38, 39, 40, 41, 42, 43, 44, 45, 46, 47, 48, 49, 50, 51, 52, 53, 54, 55, 56, 57, 58, 59, 60, 61, 62, 63, 64, 65, 66, 67, 68, 69, 70, 71, 72, 73, 74, 75, 76, 77, 78, 79, 80, 81, 82, 83, 84, 85, 4, 86, 87, 88, 89, 90, 91, 92, 93, 94, 95, 96, 97, 98, 99, 100, 101, 102, 103, 104, 105, 106, 107, 108, 109, 110, 111, 112, 113, 114, 115, 116, 117, 118, 119, 120, 121, 122, 123, 124, 125, 126, 127, 128, 129, 130, 131, 132, 133, 134, 135, 136, 137, 138, 1, 139, 140, 141, 142, 143, 154, 155, 156, 157, 158, 159, 160, 161, 162, 144, 145, 146, 147, 148, 149, 150, 151, 152, 153, 163, 164] (by decide +kernel) (by decide +kernel)
set_option maxRecDepth 20000 in
theorem gX3_near_X3_sortByGapTo : GoodIn wsX3_near (wsV RX3 116 RX3 yX3_sortByGapTo wsX3_sortByGapTo) := goodIn_app (goodIn_of _ (by decide +kernel)) ggX3_near_X3_sortByGapTo
theorem dX3_near_0 : decode cX3_near 0 = .ok (.iload_n 1, 1) := by decide +kernel
theorem dX3_near_1 : decode cX3_near 1 = .ok (.iload_n 2, 1) := by decide +kernel
theorem dX3_near_2 : decode cX3_near 2 = .ok (.invokestatic 49, 3) := by decide +kernel
theorem dX3_near_5 : decode cX3_near 5 = .ok (.ifCond .ne 5, 3) := by decide +kernel
theorem dX3_near_8 : decode cX3_near 8 = .ok (.iconst (-1), 1) := by decide +kernel
theorem dX3_near_9 : decode cX3_near 9 = .ok (.ireturn, 1) := by decide +kernel
theorem dX3_near_10 : decode cX3_near 10 = .ok (.aload_n 0, 1) := by decide +kernel
theorem dX3_near_11 : decode cX3_near 11 = .ok (.iload_n 1, 1) := by decide +kernel
theorem dX3_near_12 : decode cX3_near 12 = .ok (.iload_n 2, 1) := by decide +kernel
theorem dX3_near_13 : decode cX3_near 13 = .ok (.invokevirtual 116, 3) := by decide +kernel
theorem dX3_near_16 : decode cX3_near 16 = .ok (.istore 4, 2) := by decide +kernel
theorem dX3_near_18 : decode cX3_near 18 = .ok (.iload_n 3, 1) := by decide +kernel
theorem dX3_near_19 : decode cX3_near 19 = .ok (.ifCond .lt 9, 3) := by decide +kernel
theorem dX3_near_22 : decode cX3_near 22 = .ok (.iload_n 3, 1) := by decide +kernel
theorem dX3_near_23 : decode cX3_near 23 = .ok (.iload 4, 2) := by decide +kernel
theorem dX3_near_25 : decode cX3_near 25 = .ok (.if_icmp .lt 7, 3) := by decide +kernel
theorem dX3_near_28 : decode cX3_near 28 = .ok (.iconst (-1), 1) := by decide +kernel
theorem dX3_near_29 : decode cX3_near 29 = .ok (.goto 9, 3) := by decide +kernel
theorem dX3_near_32 : decode cX3_near 32 = .ok (.aload_n 0, 1) := by decide +kernel
theorem dX3_near_33 : decode cX3_near 33 = .ok (.getfield 46, 3) := by decide +kernel
theorem dX3_near_36 : decode cX3_near 36 = .ok (.iload_n 3, 1) := by decide +kernel
theorem dX3_near_37 : decode cX3_near 37 = .ok (.iaload, 1) := by decide +kernel
theorem dX3_near_38 : decode cX3_near 38 = .ok (.ireturn, 1) := by decide +kernel
set_option maxRecDepth 20000 in
theorem ggX3_area_X3_right : GoodIn wsX3_area wsX3_right := goodIn_r _ [7, 8, 9, 10, 11, 6, 12, 13, 14, 23, 24, 25, 26, 27, 28, 29, 30, 31, 32, 33, 34, 35, 36, 37, 38, 39, 40, 41] (by decide +kernel) (by decide +kernel)
set_option maxRecDepth 20000 in
theorem gX3_area_X3_right : GoodIn wsX3_area (wsV RX3 89 RX3 yX3_right wsX3_right) := goodIn_app (goodIn_of _ (by decide +kernel)) ggX3_area_X3_right
set_option maxRecDepth 20000 in
theorem ggX3_area_X2_twiceEnclosed : GoodIn wsX3_area wsX2_twiceEnclosed := goodIn_r _ [19, 20, 21, 22, 23, 24, 25, 26, 27, 28, 29, 30, 31] (by decide +kernel) (by decide +kernel)
set_option maxRecDepth 20000 in
theorem gX3_area_X2_twiceEnclosed : GoodIn wsX3_area (wsV RX3 119 RX2 yX2_twiceEnclosed wsX2_twiceEnclosed) := goodIn_app (goodIn_of _ (by decide +kernel)) ggX3_area_X2_twiceEnclosed
theorem dX3_area_0 : decode cX3_area 0 = .ok (.aload_n 0, 1) := by decide +kernel
theorem dX3_area_1 : decode cX3_area 1 = .ok (.iload_n 1, 1) := by decide +kernel
theorem dX3_area_2 : decode cX3_area 2 = .ok (.invokevirtual 89, 3) := by decide +kernel
theorem dX3_area_5 : decode cX3_area 5 = .ok (.astore_n 2, 1) := by decide +kernel
theorem dX3_area_6 : decode cX3_area 6 = .ok (.aload_n 2, 1) := by decide +kernel
theorem dX3_area_7 : decode cX3_area 7 = .ok (.ifnull 13, 3) := by decide +kernel
theorem dX3_area_10 : decode cX3_area 10 = .ok (.aload_n 2, 1) := by decide +kernel
theorem dX3_area_11 : decode cX3_area 11 = .ok (.getfield 77, 3) := by decide +kernel
theorem dX3_area_14 : decode cX3_area 14 = .ok (.getstatic 74, 3) := by decide +kernel
theorem dX3_area_17 : decode cX3_area 17 = .ok (.if_acmp .eq 7, 3) := by decide +kernel
theorem dX3_area_20 : decode cX3_area 20 = .ok (.lconst 0, 1) := by decide +kernel
theorem dX3_area_21 : decode cX3_area 21 = .ok (.goto 7, 3) := by decide +kernel
theorem dX3_area_24 : decode cX3_area 24 = .ok (.aload_n 2, 1) := by decide +kernel
theorem dX3_area_25 : decode cX3_area 25 = .ok (.invokevirtual 119, 3) := by decide +kernel
theorem dX3_area_28 : decode cX3_area 28 = .ok (.lreturn, 1) := by decide +kernel
set_option maxRecDepth 20000 in
theorem ggX3_boxed_X3_right : GoodIn wsX3_boxed wsX3_right := goodIn_r _ [8, 9, 10, 11, 12, 7, 13, 2, 14, 34, 35, 36, 37, 38, 39, 40, 41, 42, 24, 25, 26, 27, 28, 29, 30, 31, 32, 33] (by decide +kernel) (by decide +kernel)
set_option maxRecDepth 20000 in
theorem gX3_boxed_X3_right : GoodIn wsX3_boxed (wsV RX3 89 RX3 yX3_right wsX3_right) := goodIn_app (goodIn_of _ (by decide +kernel)) ggX3_boxed_X3_right
set_option maxRecDepth 20000 in
theorem ggX3_boxed_X2_boxMeets : GoodIn wsX3_boxed wsX2_boxMeets := goodIn_r _ [19, 20, 21, 22, 23, 34, 35, 36, 37, 38, 39, 40, 41, 42] (by decide +kernel) (by decide +kernel)
set_option maxRecDepth 20000 in
theorem gX3_boxed_X2_boxMeets : GoodIn wsX3_boxed (wsV RX3 123 RX2 yX2_boxMeets wsX2_boxMeets) := goodIn_app (goodIn_of _ (by decide +kernel)) ggX3_boxed_X2_boxMeets
theorem dX3_boxed_0 : decode cX3_boxed 0 = .ok (.aload_n 0, 1) := by decide +kernel
theorem dX3_boxed_1 : decode cX3_boxed 1 = .ok (.iconst 0, 1) := by decide +kernel
theorem dX3_boxed_2 : decode cX3_boxed 2 = .ok (.putfield 29, 3) := by decide +kernel
theorem dX3_boxed_5 : decode cX3_boxed 5 = .ok (.iload_n 1, 1) := by decide +kernel
theorem dX3_boxed_6 : decode cX3_boxed 6 = .ok (.iload_n 3, 1) := by decide +kernel
theorem dX3_boxed_7 : decode cX3_boxed 7 = .ok (.if_icmp .gt 9, 3) := by decide +kernel
theorem dX3_boxed_10 : decode cX3_boxed 10 = .ok (.iload_n 2, 1) := by decide +kernel
theorem dX3_boxed_11 : decode cX3_boxed 11 = .ok (.iload 4, 2) := by decide +kernel
theorem dX3_boxed_13 : decode cX3_boxed 13 = .ok (.if_icmp .le 5, 3) := by decide +kernel
theorem dX3_boxed_16 : decode cX3_boxed 16 = .ok (.iconst 0, 1) := by decide +kernel
theorem dX3_boxed_17 : decode cX3_boxed 17 = .ok (.ireturn, 1) := by decide +kernel
theorem dX3_boxed_18 : decode cX3_boxed 18 = .ok (.iconst 0, 1) := by decide +kernel
theorem dX3_boxed_19 : decode cX3_boxed 19 = .ok (.istore 5, 2) := by decide +kernel
theorem dX3_boxed_21 : decode cX3_boxed 21 = .ok (.iload 5, 2) := by decide +kernel
theorem dX3_boxed_23 : decode cX3_boxed 23 = .ok (.aload_n 0, 1) := by decide +kernel
theorem dX3_boxed_24 : decode cX3_boxed 24 = .ok (.getfield 15, 3) := by decide +kernel
theorem dX3_boxed_27 : decode cX3_boxed 27 = .ok (.if_icmp .ge 56, 3) := by decide +kernel
theorem dX3_boxed_30 : decode cX3_boxed 30 = .ok (.aload_n 0, 1) := by decide +kernel
theorem dX3_boxed_31 : decode cX3_boxed 31 = .ok (.iload 5, 2) := by decide +kernel
theorem dX3_boxed_33 : decode cX3_boxed 33 = .ok (.invokevirtual 89, 3) := by decide +kernel
theorem dX3_boxed_36 : decode cX3_boxed 36 = .ok (.astore 6, 2) := by decide +kernel
theorem dX3_boxed_38 : decode cX3_boxed 38 = .ok (.aload 6, 2) := by decide +kernel
theorem dX3_boxed_40 : decode cX3_boxed 40 = .ok (.ifnull 37, 3) := by decide +kernel
theorem dX3_boxed_43 : decode cX3_boxed 43 = .ok (.aload 6, 2) := by decide +kernel
theorem dX3_boxed_45 : decode cX3_boxed 45 = .ok (.iload_n 1, 1) := by decide +kernel
theorem dX3_boxed_46 : decode cX3_boxed 46 = .ok (.iload_n 2, 1) := by decide +kernel
theorem dX3_boxed_47 : decode cX3_boxed 47 = .ok (.iload_n 3, 1) := by decide +kernel
theorem dX3_boxed_48 : decode cX3_boxed 48 = .ok (.iload 4, 2) := by decide +kernel
theorem dX3_boxed_50 : decode cX3_boxed 50 = .ok (.invokevirtual 123, 3) := by decide +kernel
theorem dX3_boxed_53 : decode cX3_boxed 53 = .ok (.ifCond .eq 24, 3) := by decide +kernel
theorem dX3_boxed_56 : decode cX3_boxed 56 = .ok (.aload_n 0, 1) := by decide +kernel
theorem dX3_boxed_57 : decode cX3_boxed 57 = .ok (.getfield 25, 3) := by decide +kernel
theorem dX3_boxed_60 : decode cX3_boxed 60 = .ok (.aload_n 0, 1) := by decide +kernel
theorem dX3_boxed_61 : decode cX3_boxed 61 = .ok (.getfield 29, 3) := by decide +kernel
theorem dX3_boxed_64 : decode cX3_boxed 64 = .ok (.iload 5, 2) := by decide +kernel
theorem dX3_boxed_66 : decode cX3_boxed 66 = .ok (.iastore, 1) := by decide +kernel
theorem dX3_boxed_67 : decode cX3_boxed 67 = .ok (.aload_n 0, 1) := by decide +kernel
theorem dX3_boxed_68 : decode cX3_boxed 68 = .ok (.dup, 1) := by decide +kernel
theorem dX3_boxed_69 : decode cX3_boxed 69 = .ok (.getfield 29, 3) := by decide +kernel
theorem dX3_boxed_72 : decode cX3_boxed 72 = .ok (.iconst 1, 1) := by decide +kernel
theorem dX3_boxed_73 : decode cX3_boxed 73 = .ok (.iadd, 1) := by decide +kernel
theorem dX3_boxed_74 : decode cX3_boxed 74 = .ok (.putfield 29, 3) := by decide +kernel
theorem dX3_boxed_77 : decode cX3_boxed 77 = .ok (.iinc 5 1, 3) := by decide +kernel
theorem dX3_boxed_80 : decode cX3_boxed 80 = .ok (.goto (-59), 3) := by decide +kernel
theorem dX3_boxed_83 : decode cX3_boxed 83 = .ok (.aload_n 0, 1) := by decide +kernel
theorem dX3_boxed_84 : decode cX3_boxed 84 = .ok (.getfield 29, 3) := by decide +kernel
theorem dX3_boxed_87 : decode cX3_boxed 87 = .ok (.ireturn, 1) := by decide +kernel
theorem dX3_found_0 : decode cX3_found 0 = .ok (.iload_n 1, 1) := by decide +kernel
theorem dX3_found_1 : decode cX3_found 1 = .ok (.ifCond .lt 11, 3) := by decide +kernel
theorem dX3_found_4 : decode cX3_found 4 = .ok (.iload_n 1, 1) := by decide +kernel
theorem dX3_found_5 : decode cX3_found 5 = .ok (.aload_n 0, 1) := by decide +kernel
theorem dX3_found_6 : decode cX3_found 6 = .ok (.getfield 29, 3) := by decide +kernel
theorem dX3_found_9 : decode cX3_found 9 = .ok (.if_icmp .lt 11, 3) := by decide +kernel
theorem dX3_found_12 : decode cX3_found 12 = .ok (.new 127, 3) := by decide +kernel
theorem dX3_found_15 : decode cX3_found 15 = .ok (.dup, 1) := by decide +kernel
theorem dX3_found_16 : decode cX3_found 16 = .ok (.invokespecial 129, 3) := by decide +kernel
theorem dX3_found_19 : decode cX3_found 19 = .ok (.athrow, 1) := by decide +kernel
theorem dX3_found_20 : decode cX3_found 20 = .ok (.aload_n 0, 1) := by decide +kernel
theorem dX3_found_21 : decode cX3_found 21 = .ok (.getfield 25, 3) := by decide +kernel
theorem dX3_found_24 : decode cX3_found 24 = .ok (.iload_n 1, 1) := by decide +kernel
theorem dX3_found_25 : decode cX3_found 25 = .ok (.iaload, 1) := by decide +kernel
theorem dX3_found_26 : decode cX3_found 26 = .ok (.ireturn, 1) := by decide +kernel
theorem dX3_shapes_0 : decode cX3_shapes 0 = .ok (.aload_n 0, 1) := by decide +kernel
theorem dX3_shapes_1 : decode cX3_shapes 1 = .ok (.getfield 19, 3) := by decide +kernel
theorem dX3_shapes_4 : decode cX3_shapes 4 = .ok (.ireturn, 1) := by decide +kernel
theorem dX3_isPlace_0 : decode cX3_isPlace 0 = .ok (.iload_n 0, 1) := by decide +kernel
theorem dX3_isPlace_1 : decode cX3_isPlace 1 = .ok (.sipush (-10000), 3) := by decide +kernel
theorem dX3_isPlace_4 : decode cX3_isPlace 4 = .ok (.if_icmp .lt 28, 3) := by decide +kernel
theorem dX3_isPlace_7 : decode cX3_isPlace 7 = .ok (.iload_n 0, 1) := by decide +kernel
theorem dX3_isPlace_8 : decode cX3_isPlace 8 = .ok (.sipush 10000, 3) := by decide +kernel
theorem dX3_isPlace_11 : decode cX3_isPlace 11 = .ok (.if_icmp .gt 21, 3) := by decide +kernel
theorem dX3_isPlace_14 : decode cX3_isPlace 14 = .ok (.iload_n 1, 1) := by decide +kernel
theorem dX3_isPlace_15 : decode cX3_isPlace 15 = .ok (.sipush (-10000), 3) := by decide +kernel
theorem dX3_isPlace_18 : decode cX3_isPlace 18 = .ok (.if_icmp .lt 14, 3) := by decide +kernel
theorem dX3_isPlace_21 : decode cX3_isPlace 21 = .ok (.iload_n 1, 1) := by decide +kernel
theorem dX3_isPlace_22 : decode cX3_isPlace 22 = .ok (.sipush 10000, 3) := by decide +kernel
theorem dX3_isPlace_25 : decode cX3_isPlace 25 = .ok (.if_icmp .gt 7, 3) := by decide +kernel
theorem dX3_isPlace_28 : decode cX3_isPlace 28 = .ok (.iconst 1, 1) := by decide +kernel
theorem dX3_isPlace_29 : decode cX3_isPlace 29 = .ok (.goto 4, 3) := by decide +kernel
theorem dX3_isPlace_32 : decode cX3_isPlace 32 = .ok (.iconst 0, 1) := by decide +kernel
theorem dX3_isPlace_33 : decode cX3_isPlace 33 = .ok (.ireturn, 1) := by decide +kernel
set_option maxRecDepth 20000 in
theorem ggX3_make_X2_init : GoodIn wsX3_make wsX2_init := goodIn_r _ [9, 10, 11, 12, 13, 14, 15, 16, 17, 18, 19, 20, 21, 22, 23, 34, 35, 36, 37, 38, 39, 40, 41, 42] (by decide +kernel) (by decide +kernel)
set_option maxRecDepth 20000 in
theorem gX3_make_X2_init : GoodIn wsX3_make (wsX2_init) := ggX3_make_X2_init
theorem dX3_make_0 : decode cX3_make 0 = .ok (.aload_n 0, 1) := by decide +kernel
theorem dX3_make_1 : decode cX3_make 1 = .ok (.getfield 15, 3) := by decide +kernel
theorem dX3_make_4 : decode cX3_make 4 = .ok (.bipush 60, 2) := by decide +kernel
theorem dX3_make_6 : decode cX3_make 6 = .ok (.if_icmp .lt 6, 3) := by decide +kernel
theorem dX3_make_9 : decode cX3_make 9 = .ok (.bipush (-2), 2) := by decide +kernel
theorem dX3_make_11 : decode cX3_make 11 = .ok (.ireturn, 1) := by decide +kernel
theorem dX3_make_12 : decode cX3_make 12 = .ok (.aload_n 0, 1) := by decide +kernel
theorem dX3_make_13 : decode cX3_make 13 = .ok (.getfield 15, 3) := by decide +kernel
theorem dX3_make_16 : decode cX3_make 16 = .ok (.istore_n 2, 1) := by decide +kernel
theorem dX3_make_17 : decode cX3_make 17 = .ok (.aload_n 0, 1) := by decide +kernel
theorem dX3_make_18 : decode cX3_make 18 = .ok (.getfield 11, 3) := by decide +kernel
theorem dX3_make_21 : decode cX3_make 21 = .ok (.iload_n 2, 1) := by decide +kernel
theorem dX3_make_22 : decode cX3_make 22 = .ok (.new 9, 3) := by decide +kernel
theorem dX3_make_25 : decode cX3_make 25 = .ok (.dup, 1) := by decide +kernel
theorem dX3_make_26 : decode cX3_make 26 = .ok (.aload_n 1, 1) := by decide +kernel
theorem dX3_make_27 : decode cX3_make 27 = .ok (.invokespecial 130, 3) := by decide +kernel
theorem dX3_make_30 : decode cX3_make 30 = .ok (.aastore, 1) := by decide +kernel
theorem dX3_make_31 : decode cX3_make 31 = .ok (.aload_n 0, 1) := by decide +kernel
theorem dX3_make_32 : decode cX3_make 32 = .ok (.dup, 1) := by decide +kernel
theorem dX3_make_33 : decode cX3_make 33 = .ok (.getfield 15, 3) := by decide +kernel
theorem dX3_make_36 : decode cX3_make 36 = .ok (.iconst 1, 1) := by decide +kernel
theorem dX3_make_37 : decode cX3_make 37 = .ok (.iadd, 1) := by decide +kernel
theorem dX3_make_38 : decode cX3_make 38 = .ok (.putfield 15, 3) := by decide +kernel
theorem dX3_make_41 : decode cX3_make 41 = .ok (.aload_n 0, 1) := by decide +kernel
theorem dX3_make_42 : decode cX3_make 42 = .ok (.dup, 1) := by decide +kernel
theorem dX3_make_43 : decode cX3_make 43 = .ok (.getfield 19, 3) := by decide +kernel
theorem dX3_make_46 : decode cX3_make 46 = .ok (.iconst 1, 1) := by decide +kernel
theorem dX3_make_47 : decode cX3_make 47 = .ok (.iadd, 1) := by decide +kernel
theorem dX3_make_48 : decode cX3_make 48 = .ok (.putfield 19, 3) := by decide +kernel
theorem dX3_make_51 : decode cX3_make 51 = .ok (.iload_n 2, 1) := by decide +kernel
theorem dX3_make_52 : decode cX3_make 52 = .ok (.ireturn, 1) := by decide +kernel
theorem dX3_standing_0 : decode cX3_standing 0 = .ok (.iload_n 1, 1) := by decide +kernel
theorem dX3_standing_1 : decode cX3_standing 1 = .ok (.ifCond .lt 11, 3) := by decide +kernel
theorem dX3_standing_4 : decode cX3_standing 4 = .ok (.iload_n 1, 1) := by decide +kernel
theorem dX3_standing_5 : decode cX3_standing 5 = .ok (.aload_n 0, 1) := by decide +kernel
theorem dX3_standing_6 : decode cX3_standing 6 = .ok (.getfield 15, 3) := by decide +kernel
theorem dX3_standing_9 : decode cX3_standing 9 = .ok (.if_icmp .lt 7, 3) := by decide +kernel
theorem dX3_standing_12 : decode cX3_standing 12 = .ok (.aconst_null, 1) := by decide +kernel
theorem dX3_standing_13 : decode cX3_standing 13 = .ok (.goto 9, 3) := by decide +kernel
theorem dX3_standing_16 : decode cX3_standing 16 = .ok (.aload_n 0, 1) := by decide +kernel
theorem dX3_standing_17 : decode cX3_standing 17 = .ok (.getfield 11, 3) := by decide +kernel
theorem dX3_standing_20 : decode cX3_standing 20 = .ok (.iload_n 1, 1) := by decide +kernel
theorem dX3_standing_21 : decode cX3_standing 21 = .ok (.aaload, 1) := by decide +kernel
theorem dX3_standing_22 : decode cX3_standing 22 = .ok (.areturn, 1) := by decide +kernel
set_option maxRecDepth 20000 in
theorem ggX3_right_X3_standing : GoodIn wsX3_right wsX3_standing := goodIn_r _ [6, 7, 8, 18, 19, 20, 21, 22, 23, 24, 25, 26, 27] (by decide +kernel) (by decide +kernel)
set_option maxRecDepth 20000 in
theorem gX3_right_X3_standing : GoodIn wsX3_right (wsV RX3 63 RX3 yX3_standing wsX3_standing) := goodIn_app (goodIn_of _ (by decide +kernel)) ggX3_right_X3_standing
theorem dX3_right_0 : decode cX3_right 0 = .ok (.aload_n 0, 1) := by decide +kernel
theorem dX3_right_1 : decode cX3_right 1 = .ok (.iload_n 1, 1) := by decide +kernel
theorem dX3_right_2 : decode cX3_right 2 = .ok (.invokevirtual 63, 3) := by decide +kernel
theorem dX3_right_5 : decode cX3_right 5 = .ok (.astore_n 2, 1) := by decide +kernel
theorem dX3_right_6 : decode cX3_right 6 = .ok (.aload_n 2, 1) := by decide +kernel
theorem dX3_right_7 : decode cX3_right 7 = .ok (.ifnull 11, 3) := by decide +kernel
theorem dX3_right_10 : decode cX3_right 10 = .ok (.aload_n 2, 1) := by decide +kernel
theorem dX3_right_11 : decode cX3_right 11 = .ok (.getfield 86, 3) := by decide +kernel
theorem dX3_right_14 : decode cX3_right 14 = .ok (.iconst 1, 1) := by decide +kernel
theorem dX3_right_15 : decode cX3_right 15 = .ok (.if_icmp .eq 7, 3) := by decide +kernel
theorem dX3_right_18 : decode cX3_right 18 = .ok (.aconst_null, 1) := by decide +kernel
theorem dX3_right_19 : decode cX3_right 19 = .ok (.goto 4, 3) := by decide +kernel
theorem dX3_right_22 : decode cX3_right 22 = .ok (.aload_n 2, 1) := by decide +kernel
theorem dX3_right_23 : decode cX3_right 23 = .ok (.areturn, 1) := by decide +kernel
set_option maxRecDepth 20000 in
theorem ggX3_sortByGapTo_X2_init : GoodIn wsX3_sortByGapTo wsX2_init := goodIn_r _ [13, 14, 15, 16, 17, 18, 19, 20, 21, 22, 23, 24, 25, 26, 27, 137, 138, 139, 140, 141, 142, 143, 144, 145] (by decide +kernel) (by decide +kernel)
set_option maxRecDepth 20000 in
theorem gX3_sortByGapTo_X2_init : GoodIn wsX3_sortByGapTo (wsX2_init) := ggX3_sortByGapTo_X2_init
set_option maxRecDepth 20000 in
theorem ggX3_sortByGapTo_X2_add : GoodIn wsX3_sortByGapTo wsX2_add := goodIn_r _ [31, 17, 23, 24, 26, 27, 19, 32, 33, 34, 35, 20, 21, 36, 37, 38, 22, 18, 39, 40, 41, 3, 42, 43, 44, 45, 46, 47, 48, 49, 50, 51, 52, 53, 54, 55, 56, 57, 58, 59, 60, 61, 62, 63, 64, 65, 66, 67, 68, 69, 70, 71, 72, 73, 137, 138, 139, 140, 141, 142, 143, 144, 145] (by decide +kernel) (by decide +kernel)
set_option maxRecDepth 20000 in
theorem gX3_sortByGapTo_X2_add : GoodIn wsX3_sortByGapTo (wsV RX3 67 RX2 yX2_add wsX2_add) := goodIn_app (goodIn_of _ (by decide +kernel)) ggX3_sortByGapTo_X2_add
set_option maxRecDepth 20000 in
theorem ggX3_sortByGapTo_X3_right : GoodIn wsX3_sortByGapTo wsX3_right := goodIn_r _ [78, 79, 80, 81, 82, 77, 83, 5, 84, 137, 138, 139, 140, 141, 142, 143, 144, 145, 146, 147, 148, 149, 150, 151, 152, 153, 154, 155] (by decide +kernel) (by decide +kernel)
set_option maxRecDepth 20000 in
theorem gX3_sortByGapTo_X3_right : GoodIn wsX3_sortByGapTo (wsV RX3 89 RX3 yX3_right wsX3_right) := goodIn_app (goodIn_of _ (by decide +kernel)) ggX3_sortByGapTo_X3_right
set_option maxRecDepth 20000 in
theorem ggX3_sortByGapTo_X2_measureTo : GoodIn wsX3_sortByGapTo wsX2_measureTo := goodIn_r _ [88, 26, 27, 89, 90, 91, 3, 92, 45, 46, 47, 48, 23, 49, 17, 63, 64, 65, 66, 67, 68, 69, 36, 37, 34, 38, 32, 33, 35, 70, 71, 72, 73, 93, 94, 95, 96, 54, 97, 98, 99, 100, 101, 102, 103, 104, 105, 106, 107, 108, 109, 110, 111, 112, 113, 114, 115, 116, 117, 118, 119, 120, 121, 122, 123, 124, 125, 126, 137, 138, 139, 140, 141, 142, 143, 144, 145, 156, 157] (by decide +kernel) (by decide +kernel)
set_option maxRecDepth 20000 in
theorem gX3_sortByGapTo_X2_measureTo : GoodIn wsX3_sortByGapTo (wsV RX3 102 RX2 yX2_measureTo wsX2_measureTo) := goodIn_app (goodIn_of _ (by decide +kernel)) ggX3_sortByGapTo_X2_measureTo
set_option maxRecDepth 20000 in
theorem ggX3_sortByGapTo_X3_insertByGap : GoodIn wsX3_sortByGapTo wsX3_insertByGap := goodIn_r _ [130, 131, 132, 133, 134, 77, 135, 7, 9, 136, 124, 104, 125, 146, 147, 148, 149, 150, 151, 152, 153, 154, 155] (by decide +kernel) (by decide +kernel)
set_option maxRecDepth 20000 in
theorem gX3_sortByGapTo_X3_insertByGap : GoodIn wsX3_sortByGapTo (wsV RX3 133 RX3 yX3_insertByGap wsX3_insertByGap) := goodIn_app (goodIn_of _ (by decide +kernel)) ggX3_sortByGapTo_X3_insertByGap
theorem dX3_sortByGapTo_0 : decode cX3_sortByGapTo 0 = .ok (.new 9, 3) := by decide +kernel
theorem dX3_sortByGapTo_3 : decode cX3_sortByGapTo 3 = .ok (.dup, 1) := by decide +kernel
theorem dX3_sortByGapTo_4 : decode cX3_sortByGapTo 4 = .ok (.getstatic 53, 3) := by decide +kernel
theorem dX3_sortByGapTo_7 : decode cX3_sortByGapTo 7 = .ok (.invokespecial 130, 3) := by decide +kernel
theorem dX3_sortByGapTo_10 : decode cX3_sortByGapTo 10 = .ok (.astore_n 3, 1) := by decide +kernel
theorem dX3_sortByGapTo_11 : decode cX3_sortByGapTo 11 = .ok (.aload_n 3, 1) := by decide +kernel
theorem dX3_sortByGapTo_12 : decode cX3_sortByGapTo 12 = .ok (.iload_n 1, 1) := by decide +kernel
theorem dX3_sortByGapTo_13 : decode cX3_sortByGapTo 13 = .ok (.iload_n 2, 1) := by decide +kernel
theorem dX3_sortByGapTo_14 : decode cX3_sortByGapTo 14 = .ok (.invokevirtual 67, 3) := by decide +kernel
theorem dX3_sortByGapTo_17 : decode cX3_sortByGapTo 17 = .ok (.iconst 0, 1) := by decide +kernel
theorem dX3_sortByGapTo_18 : decode cX3_sortByGapTo 18 = .ok (.istore 4, 2) := by decide +kernel
theorem dX3_sortByGapTo_20 : decode cX3_sortByGapTo 20 = .ok (.iconst 0, 1) := by decide +kernel
theorem dX3_sortByGapTo_21 : decode cX3_sortByGapTo 21 = .ok (.istore 5, 2) := by decide +kernel
theorem dX3_sortByGapTo_23 : decode cX3_sortByGapTo 23 = .ok (.iload 5, 2) := by decide +kernel
theorem dX3_sortByGapTo_25 : decode cX3_sortByGapTo 25 = .ok (.aload_n 0, 1) := by decide +kernel
theorem dX3_sortByGapTo_26 : decode cX3_sortByGapTo 26 = .ok (.getfield 15, 3) := by decide +kernel
theorem dX3_sortByGapTo_29 : decode cX3_sortByGapTo 29 = .ok (.if_icmp .ge 71, 3) := by decide +kernel
theorem dX3_sortByGapTo_32 : decode cX3_sortByGapTo 32 = .ok (.aload_n 0, 1) := by decide +kernel
theorem dX3_sortByGapTo_33 : decode cX3_sortByGapTo 33 = .ok (.iload 5, 2) := by decide +kernel
theorem dX3_sortByGapTo_35 : decode cX3_sortByGapTo 35 = .ok (.invokevirtual 89, 3) := by decide +kernel
theorem dX3_sortByGapTo_38 : decode cX3_sortByGapTo 38 = .ok (.astore 6, 2) := by decide +kernel
theorem dX3_sortByGapTo_40 : decode cX3_sortByGapTo 40 = .ok (.aload 6, 2) := by decide +kernel
theorem dX3_sortByGapTo_42 : decode cX3_sortByGapTo 42 = .ok (.ifnull 52, 3) := by decide +kernel
theorem dX3_sortByGapTo_45 : decode cX3_sortByGapTo 45 = .ok (.aload 6, 2) := by decide +kernel
theorem dX3_sortByGapTo_47 : decode cX3_sortByGapTo 47 = .ok (.aload_n 3, 1) := by decide +kernel
theorem dX3_sortByGapTo_48 : decode cX3_sortByGapTo 48 = .ok (.aload_n 0, 1) := by decide +kernel
theorem dX3_sortByGapTo_49 : decode cX3_sortByGapTo 49 = .ok (.getfield 35, 3) := by decide +kernel
theorem dX3_sortByGapTo_52 : decode cX3_sortByGapTo 52 = .ok (.invokevirtual 102, 3) := by decide +kernel
theorem dX3_sortByGapTo_55 : decode cX3_sortByGapTo 55 = .ok (.aload_n 0, 1) := by decide +kernel
theorem dX3_sortByGapTo_56 : decode cX3_sortByGapTo 56 = .ok (.getfield 39, 3) := by decide +kernel
theorem dX3_sortByGapTo_59 : decode cX3_sortByGapTo 59 = .ok (.iload 5, 2) := by decide +kernel
theorem dX3_sortByGapTo_61 : decode cX3_sortByGapTo 61 = .ok (.aload_n 0, 1) := by decide +kernel
theorem dX3_sortByGapTo_62 : decode cX3_sortByGapTo 62 = .ok (.getfield 35, 3) := by decide +kernel
theorem dX3_sortByGapTo_65 : decode cX3_sortByGapTo 65 = .ok (.getfield 109, 3) := by decide +kernel
theorem dX3_sortByGapTo_68 : decode cX3_sortByGapTo 68 = .ok (.lastore, 1) := by decide +kernel
theorem dX3_sortByGapTo_69 : decode cX3_sortByGapTo 69 = .ok (.aload_n 0, 1) := by decide +kernel
theorem dX3_sortByGapTo_70 : decode cX3_sortByGapTo 70 = .ok (.getfield 43, 3) := by decide +kernel
theorem dX3_sortByGapTo_73 : decode cX3_sortByGapTo 73 = .ok (.iload 5, 2) := by decide +kernel
theorem dX3_sortByGapTo_75 : decode cX3_sortByGapTo 75 = .ok (.aload_n 0, 1) := by decide +kernel
theorem dX3_sortByGapTo_76 : decode cX3_sortByGapTo 76 = .ok (.getfield 35, 3) := by decide +kernel
theorem dX3_sortByGapTo_79 : decode cX3_sortByGapTo 79 = .ok (.getfield 113, 3) := by decide +kernel
theorem dX3_sortByGapTo_82 : decode cX3_sortByGapTo 82 = .ok (.lastore, 1) := by decide +kernel
theorem dX3_sortByGapTo_83 : decode cX3_sortByGapTo 83 = .ok (.aload_n 0, 1) := by decide +kernel
theorem dX3_sortByGapTo_84 : decode cX3_sortByGapTo 84 = .ok (.iload 5, 2) := by decide +kernel
theorem dX3_sortByGapTo_86 : decode cX3_sortByGapTo 86 = .ok (.iload 4, 2) := by decide +kernel
theorem dX3_sortByGapTo_88 : decode cX3_sortByGapTo 88 = .ok (.invokevirtual 133, 3) := by decide +kernel
theorem dX3_sortByGapTo_91 : decode cX3_sortByGapTo 91 = .ok (.iinc 4 1, 3) := by decide +kernel
theorem dX3_sortByGapTo_94 : decode cX3_sortByGapTo 94 = .ok (.iinc 5 1, 3) := by decide +kernel
theorem dX3_sortByGapTo_97 : decode cX3_sortByGapTo 97 = .ok (.goto (-74), 3) := by decide +kernel
theorem dX3_sortByGapTo_100 : decode cX3_sortByGapTo 100 = .ok (.iload 4, 2) := by decide +kernel
theorem dX3_sortByGapTo_102 : decode cX3_sortByGapTo 102 = .ok (.ireturn, 1) := by decide +kernel
set_option maxRecDepth 20000 in
theorem ggX3_insertByGap_X3_isFarther : GoodIn wsX3_insertByGap wsX3_isFarther := goodIn_r _ [6, 7, 8, 9, 10, 11, 12, 13, 14, 15, 16, 17, 18, 19, 20, 21, 22] (by decide +kernel) (by decide +kernel)
set_option maxRecDepth 20000 in
theorem gX3_insertByGap_X3_isFarther : GoodIn wsX3_insertByGap (wsV RX3 136 RX3 yX3_isFarther wsX3_isFarther) := goodIn_app (goodIn_of _ (by decide +kernel)) ggX3_insertByGap_X3_isFarther
theorem dX3_insertByGap_0 : decode cX3_insertByGap 0 = .ok (.iload_n 2, 1) := by decide +kernel
theorem dX3_insertByGap_1 : decode cX3_insertByGap 1 = .ok (.istore_n 3, 1) := by decide +kernel
theorem dX3_insertByGap_2 : decode cX3_insertByGap 2 = .ok (.iload_n 3, 1) := by decide +kernel
theorem dX3_insertByGap_3 : decode cX3_insertByGap 3 = .ok (.ifCond .le 39, 3) := by decide +kernel
theorem dX3_insertByGap_6 : decode cX3_insertByGap 6 = .ok (.aload_n 0, 1) := by decide +kernel
theorem dX3_insertByGap_7 : decode cX3_insertByGap 7 = .ok (.aload_n 0, 1) := by decide +kernel
theorem dX3_insertByGap_8 : decode cX3_insertByGap 8 = .ok (.getfield 46, 3) := by decide +kernel
theorem dX3_insertByGap_11 : decode cX3_insertByGap 11 = .ok (.iload_n 3, 1) := by decide +kernel
theorem dX3_insertByGap_12 : decode cX3_insertByGap 12 = .ok (.iconst 1, 1) := by decide +kernel
theorem dX3_insertByGap_13 : decode cX3_insertByGap 13 = .ok (.isub, 1) := by decide +kernel
theorem dX3_insertByGap_14 : decode cX3_insertByGap 14 = .ok (.iaload, 1) := by decide +kernel
theorem dX3_insertByGap_15 : decode cX3_insertByGap 15 = .ok (.iload_n 1, 1) := by decide +kernel
theorem dX3_insertByGap_16 : decode cX3_insertByGap 16 = .ok (.invokevirtual 136, 3) := by decide +kernel
theorem dX3_insertByGap_19 : decode cX3_insertByGap 19 = .ok (.ifCond .eq 23, 3) := by decide +kernel
theorem dX3_insertByGap_22 : decode cX3_insertByGap 22 = .ok (.aload_n 0, 1) := by decide +kernel
theorem dX3_insertByGap_23 : decode cX3_insertByGap 23 = .ok (.getfield 46, 3) := by decide +kernel
theorem dX3_insertByGap_26 : decode cX3_insertByGap 26 = .ok (.iload_n 3, 1) := by decide +kernel
theorem dX3_insertByGap_27 : decode cX3_insertByGap 27 = .ok (.aload_n 0, 1) := by decide +kernel
theorem dX3_insertByGap_28 : decode cX3_insertByGap 28 = .ok (.getfield 46, 3) := by decide +kernel
theorem dX3_insertByGap_31 : decode cX3_insertByGap 31 = .ok (.iload_n 3, 1) := by decide +kernel
theorem dX3_insertByGap_32 : decode cX3_insertByGap 32 = .ok (.iconst 1, 1) := by decide +kernel
theorem dX3_insertByGap_33 : decode cX3_insertByGap 33 = .ok (.isub, 1) := by decide +kernel
theorem dX3_insertByGap_34 : decode cX3_insertByGap 34 = .ok (.iaload, 1) := by decide +kernel
theorem dX3_insertByGap_35 : decode cX3_insertByGap 35 = .ok (.iastore, 1) := by decide +kernel
theorem dX3_insertByGap_36 : decode cX3_insertByGap 36 = .ok (.iinc 3 (-1), 3) := by decide +kernel
theorem dX3_insertByGap_39 : decode cX3_insertByGap 39 = .ok (.goto (-37), 3) := by decide +kernel
theorem dX3_insertByGap_42 : decode cX3_insertByGap 42 = .ok (.aload_n 0, 1) := by decide +kernel
theorem dX3_insertByGap_43 : decode cX3_insertByGap 43 = .ok (.getfield 46, 3) := by decide +kernel
theorem dX3_insertByGap_46 : decode cX3_insertByGap 46 = .ok (.iload_n 3, 1) := by decide +kernel
theorem dX3_insertByGap_47 : decode cX3_insertByGap 47 = .ok (.iload_n 1, 1) := by decide +kernel
theorem dX3_insertByGap_48 : decode cX3_insertByGap 48 = .ok (.iastore, 1) := by decide +kernel
theorem dX3_insertByGap_49 : decode cX3_insertByGap 49 = .ok (.return_, 1) := by decide +kernel
set_option maxRecDepth 20000 in
theorem ggX3_isFarther_X0_isAbove : GoodIn wsX3_isFarther wsX0_isAbove := goodIn_r _ [6] (by decide +kernel) (by decide +kernel)
set_option maxRecDepth 20000 in
theorem gX3_isFarther_X0_isAbove : GoodIn wsX3_isFarther (va_wsS RX3 139 yX0_isAbove wsX0_isAbove) := goodIn_app (goodIn_of _ (by decide +kernel)) ggX3_isFarther_X0_isAbove
theorem dX3_isFarther_0 : decode cX3_isFarther 0 = .ok (.aload_n 0, 1) := by decide +kernel
theorem dX3_isFarther_1 : decode cX3_isFarther 1 = .ok (.getfield 39, 3) := by decide +kernel
theorem dX3_isFarther_4 : decode cX3_isFarther 4 = .ok (.iload_n 1, 1) := by decide +kernel
theorem dX3_isFarther_5 : decode cX3_isFarther 5 = .ok (.laload, 1) := by decide +kernel
theorem dX3_isFarther_6 : decode cX3_isFarther 6 = .ok (.aload_n 0, 1) := by decide +kernel
theorem dX3_isFarther_7 : decode cX3_isFarther 7 = .ok (.getfield 43, 3) := by decide +kernel
theorem dX3_isFarther_10 : decode cX3_isFarther 10 = .ok (.iload_n 1, 1) := by decide +kernel
theorem dX3_isFarther_11 : decode cX3_isFarther 11 = .ok (.laload, 1) := by decide +kernel
theorem dX3_isFarther_12 : decode cX3_isFarther 12 = .ok (.aload_n 0, 1) := by decide +kernel
theorem dX3_isFarther_13 : decode cX3_isFarther 13 = .ok (.getfield 39, 3) := by decide +kernel
theorem dX3_isFarther_16 : decode cX3_isFarther 16 = .ok (.iload_n 2, 1) := by decide +kernel
theorem dX3_isFarther_17 : decode cX3_isFarther 17 = .ok (.laload, 1) := by decide +kernel
theorem dX3_isFarther_18 : decode cX3_isFarther 18 = .ok (.aload_n 0, 1) := by decide +kernel
theorem dX3_isFarther_19 : decode cX3_isFarther 19 = .ok (.getfield 43, 3) := by decide +kernel
theorem dX3_isFarther_22 : decode cX3_isFarther 22 = .ok (.iload_n 2, 1) := by decide +kernel
theorem dX3_isFarther_23 : decode cX3_isFarther 23 = .ok (.laload, 1) := by decide +kernel
theorem dX3_isFarther_24 : decode cX3_isFarther 24 = .ok (.invokestatic 139, 3) := by decide +kernel
theorem dX3_isFarther_27 : decode cX3_isFarther 27 = .ok (.ireturn, 1) := by decide +kernel
end
section
theorem dX4_thrown_0 : decode cX4_thrown 0 = .ok (.aload_n 0, 1) := by decide +kernel
theorem dX4_thrown_1 : decode cX4_thrown 1 = .ok (.getfield 1, 3) := by decide +kernel
theorem dX4_thrown_4 : decode cX4_thrown 4 = .ok (.ireturn, 1) := by decide +kernel
theorem dX4_init_0 : decode cX4_init 0 = .ok (.aload_n 0, 1) := by decide +kernel
theorem dX4_init_1 : decode cX4_init 1 = .ok (.invokespecial 7, 3) := by decide +kernel
theorem dX4_init_4 : decode cX4_init 4 = .ok (.aload_n 0, 1) := by decide +kernel
theorem dX4_init_5 : decode cX4_init 5 = .ok (.bipush 60, 2) := by decide +kernel
theorem dX4_init_7 : decode cX4_init 7 = .ok (.newarray .int, 2) := by decide +kernel
theorem dX4_init_9 : decode cX4_init 9 = .ok (.putfield 13, 3) := by decide +kernel
theorem dX4_init_12 : decode cX4_init 12 = .ok (.aload_n 0, 1) := by decide +kernel
theorem dX4_init_13 : decode cX4_init 13 = .ok (.bipush 60, 2) := by decide +kernel
theorem dX4_init_15 : decode cX4_init 15 = .ok (.newarray .int, 2) := by decide +kernel
theorem dX4_init_17 : decode cX4_init 17 = .ok (.putfield 17, 3) := by decide +kernel
theorem dX4_init_20 : decode cX4_init 20 = .ok (.aload_n 0, 1) := by decide +kernel
theorem dX4_init_21 : decode cX4_init 21 = .ok (.sipush 1500, 3) := by decide +kernel
theorem dX4_init_24 : decode cX4_init 24 = .ok (.newarray .long, 2) := by decide +kernel
theorem dX4_init_26 : decode cX4_init 26 = .ok (.putfield 20, 3) := by decide +kernel
theorem dX4_init_29 : decode cX4_init 29 = .ok (.aload_n 0, 1) := by decide +kernel
theorem dX4_init_30 : decode cX4_init 30 = .ok (.sipush 1500, 3) := by decide +kernel
theorem dX4_init_33 : decode cX4_init 33 = .ok (.newarray .long, 2) := by decide +kernel
theorem dX4_init_35 : decode cX4_init 35 = .ok (.putfield 24, 3) := by decide +kernel
theorem dX4_init_38 : decode cX4_init 38 = .ok (.aload_n 0, 1) := by decide +kernel
theorem dX4_init_39 : decode cX4_init 39 = .ok (.bipush 60, 2) := by decide +kernel
theorem dX4_init_41 : decode cX4_init 41 = .ok (.newarray .int, 2) := by decide +kernel
theorem dX4_init_43 : decode cX4_init 43 = .ok (.putfield 27, 3) := by decide +kernel
theorem dX4_init_46 : decode cX4_init 46 = .ok (.aload_n 0, 1) := by decide +kernel
theorem dX4_init_47 : decode cX4_init 47 = .ok (.bipush 60, 2) := by decide +kernel
theorem dX4_init_49 : decode cX4_init 49 = .ok (.newarray .long, 2) := by decide +kernel
theorem dX4_init_51 : decode cX4_init 51 = .ok (.putfield 30, 3) := by decide +kernel
theorem dX4_init_54 : decode cX4_init 54 = .ok (.aload_n 0, 1) := by decide +kernel
theorem dX4_init_55 : decode cX4_init 55 = .ok (.bipush 60, 2) := by decide +kernel
theorem dX4_init_57 : decode cX4_init 57 = .ok (.newarray .long, 2) := by decide +kernel
theorem dX4_init_59 : decode cX4_init 59 = .ok (.putfield 33, 3) := by decide +kernel
theorem dX4_init_62 : decode cX4_init 62 = .ok (.aload_n 0, 1) := by decide +kernel
theorem dX4_init_63 : decode cX4_init 63 = .ok (.bipush 60, 2) := by decide +kernel
theorem dX4_init_65 : decode cX4_init 65 = .ok (.newarray .boolean, 2) := by decide +kernel
theorem dX4_init_67 : decode cX4_init 67 = .ok (.putfield 36, 3) := by decide +kernel
theorem dX4_init_70 : decode cX4_init 70 = .ok (.return_, 1) := by decide +kernel
theorem dX4_isPlace_0 : decode cX4_isPlace 0 = .ok (.iload_n 0, 1) := by decide +kernel
theorem dX4_isPlace_1 : decode cX4_isPlace 1 = .ok (.sipush (-10000), 3) := by decide +kernel
theorem dX4_isPlace_4 : decode cX4_isPlace 4 = .ok (.if_icmp .lt 28, 3) := by decide +kernel
theorem dX4_isPlace_7 : decode cX4_isPlace 7 = .ok (.iload_n 0, 1) := by decide +kernel
theorem dX4_isPlace_8 : decode cX4_isPlace 8 = .ok (.sipush 10000, 3) := by decide +kernel
theorem dX4_isPlace_11 : decode cX4_isPlace 11 = .ok (.if_icmp .gt 21, 3) := by decide +kernel
theorem dX4_isPlace_14 : decode cX4_isPlace 14 = .ok (.iload_n 1, 1) := by decide +kernel
theorem dX4_isPlace_15 : decode cX4_isPlace 15 = .ok (.sipush (-10000), 3) := by decide +kernel
theorem dX4_isPlace_18 : decode cX4_isPlace 18 = .ok (.if_icmp .lt 14, 3) := by decide +kernel
theorem dX4_isPlace_21 : decode cX4_isPlace 21 = .ok (.iload_n 1, 1) := by decide +kernel
theorem dX4_isPlace_22 : decode cX4_isPlace 22 = .ok (.sipush 10000, 3) := by decide +kernel
theorem dX4_isPlace_25 : decode cX4_isPlace 25 = .ok (.if_icmp .gt 7, 3) := by decide +kernel
theorem dX4_isPlace_28 : decode cX4_isPlace 28 = .ok (.iconst 1, 1) := by decide +kernel
theorem dX4_isPlace_29 : decode cX4_isPlace 29 = .ok (.goto 4, 3) := by decide +kernel
theorem dX4_isPlace_32 : decode cX4_isPlace 32 = .ok (.iconst 0, 1) := by decide +kernel
theorem dX4_isPlace_33 : decode cX4_isPlace 33 = .ok (.ireturn, 1) := by decide +kernel
theorem dX4_begin_0 : decode cX4_begin 0 = .ok (.aload_n 0, 1) := by decide +kernel
theorem dX4_begin_1 : decode cX4_begin 1 = .ok (.getfield 40, 3) := by decide +kernel
theorem dX4_begin_4 : decode cX4_begin 4 = .ok (.bipush 60, 2) := by decide +kernel
theorem dX4_begin_6 : decode cX4_begin 6 = .ok (.if_icmp .ne 6, 3) := by decide +kernel
theorem dX4_begin_9 : decode cX4_begin 9 = .ok (.bipush (-2), 2) := by decide +kernel
theorem dX4_begin_11 : decode cX4_begin 11 = .ok (.ireturn, 1) := by decide +kernel
theorem dX4_begin_12 : decode cX4_begin 12 = .ok (.aload_n 0, 1) := by decide +kernel
theorem dX4_begin_13 : decode cX4_begin 13 = .ok (.getfield 13, 3) := by decide +kernel
theorem dX4_begin_16 : decode cX4_begin 16 = .ok (.aload_n 0, 1) := by decide +kernel
theorem dX4_begin_17 : decode cX4_begin 17 = .ok (.getfield 40, 3) := by decide +kernel
theorem dX4_begin_20 : decode cX4_begin 20 = .ok (.iload_n 1, 1) := by decide +kernel
theorem dX4_begin_21 : decode cX4_begin 21 = .ok (.iastore, 1) := by decide +kernel
theorem dX4_begin_22 : decode cX4_begin 22 = .ok (.aload_n 0, 1) := by decide +kernel
theorem dX4_begin_23 : decode cX4_begin 23 = .ok (.getfield 17, 3) := by decide +kernel
theorem dX4_begin_26 : decode cX4_begin 26 = .ok (.aload_n 0, 1) := by decide +kernel
theorem dX4_begin_27 : decode cX4_begin 27 = .ok (.getfield 40, 3) := by decide +kernel
theorem dX4_begin_30 : decode cX4_begin 30 = .ok (.iconst 0, 1) := by decide +kernel
theorem dX4_begin_31 : decode cX4_begin 31 = .ok (.iastore, 1) := by decide +kernel
theorem dX4_begin_32 : decode cX4_begin 32 = .ok (.aload_n 0, 1) := by decide +kernel
theorem dX4_begin_33 : decode cX4_begin 33 = .ok (.dup, 1) := by decide +kernel
theorem dX4_begin_34 : decode cX4_begin 34 = .ok (.getfield 40, 3) := by decide +kernel
theorem dX4_begin_37 : decode cX4_begin 37 = .ok (.iconst 1, 1) := by decide +kernel
theorem dX4_begin_38 : decode cX4_begin 38 = .ok (.iadd, 1) := by decide +kernel
theorem dX4_begin_39 : decode cX4_begin 39 = .ok (.putfield 40, 3) := by decide +kernel
theorem dX4_begin_42 : decode cX4_begin 42 = .ok (.aload_n 0, 1) := by decide +kernel
theorem dX4_begin_43 : decode cX4_begin 43 = .ok (.getfield 40, 3) := by decide +kernel
theorem dX4_begin_46 : decode cX4_begin 46 = .ok (.iconst 1, 1) := by decide +kernel
theorem dX4_begin_47 : decode cX4_begin 47 = .ok (.isub, 1) := by decide +kernel
theorem dX4_begin_48 : decode cX4_begin 48 = .ok (.ireturn, 1) := by decide +kernel
theorem dX4_lay_0 : decode cX4_lay 0 = .ok (.bipush 24, 2) := by decide +kernel
theorem dX4_lay_2 : decode cX4_lay 2 = .ok (.iload_n 1, 1) := by decide +kernel
theorem dX4_lay_3 : decode cX4_lay 3 = .ok (.imul, 1) := by decide +kernel
theorem dX4_lay_4 : decode cX4_lay 4 = .ok (.aload_n 0, 1) := by decide +kernel
theorem dX4_lay_5 : decode cX4_lay 5 = .ok (.getfield 17, 3) := by decide +kernel
theorem dX4_lay_8 : decode cX4_lay 8 = .ok (.iload_n 1, 1) := by decide +kernel
theorem dX4_lay_9 : decode cX4_lay 9 = .ok (.iaload, 1) := by decide +kernel
theorem dX4_lay_10 : decode cX4_lay 10 = .ok (.iadd, 1) := by decide +kernel
theorem dX4_lay_11 : decode cX4_lay 11 = .ok (.istore 4, 2) := by decide +kernel
theorem dX4_lay_13 : decode cX4_lay 13 = .ok (.aload_n 0, 1) := by decide +kernel
theorem dX4_lay_14 : decode cX4_lay 14 = .ok (.getfield 20, 3) := by decide +kernel
theorem dX4_lay_17 : decode cX4_lay 17 = .ok (.iload 4, 2) := by decide +kernel
theorem dX4_lay_19 : decode cX4_lay 19 = .ok (.iload_n 2, 1) := by decide +kernel
theorem dX4_lay_20 : decode cX4_lay 20 = .ok (.i2l, 1) := by decide +kernel
theorem dX4_lay_21 : decode cX4_lay 21 = .ok (.lastore, 1) := by decide +kernel
theorem dX4_lay_22 : decode cX4_lay 22 = .ok (.aload_n 0, 1) := by decide +kernel
theorem dX4_lay_23 : decode cX4_lay 23 = .ok (.getfield 24, 3) := by decide +kernel
theorem dX4_lay_26 : decode cX4_lay 26 = .ok (.iload 4, 2) := by decide +kernel
theorem dX4_lay_28 : decode cX4_lay 28 = .ok (.iload_n 3, 1) := by decide +kernel
theorem dX4_lay_29 : decode cX4_lay 29 = .ok (.i2l, 1) := by decide +kernel
theorem dX4_lay_30 : decode cX4_lay 30 = .ok (.lastore, 1) := by decide +kernel
theorem dX4_lay_31 : decode cX4_lay 31 = .ok (.aload_n 0, 1) := by decide +kernel
theorem dX4_lay_32 : decode cX4_lay 32 = .ok (.getfield 17, 3) := by decide +kernel
theorem dX4_lay_35 : decode cX4_lay 35 = .ok (.iload_n 1, 1) := by decide +kernel
theorem dX4_lay_36 : decode cX4_lay 36 = .ok (.dup2, 1) := by decide +kernel
theorem dX4_lay_37 : decode cX4_lay 37 = .ok (.iaload, 1) := by decide +kernel
theorem dX4_lay_38 : decode cX4_lay 38 = .ok (.iconst 1, 1) := by decide +kernel
theorem dX4_lay_39 : decode cX4_lay 39 = .ok (.iadd, 1) := by decide +kernel
theorem dX4_lay_40 : decode cX4_lay 40 = .ok (.iastore, 1) := by decide +kernel
theorem dX4_lay_41 : decode cX4_lay 41 = .ok (.aload_n 0, 1) := by decide +kernel
theorem dX4_lay_42 : decode cX4_lay 42 = .ok (.dup, 1) := by decide +kernel
theorem dX4_lay_43 : decode cX4_lay 43 = .ok (.getfield 43, 3) := by decide +kernel
theorem dX4_lay_46 : decode cX4_lay 46 = .ok (.iconst 1, 1) := by decide +kernel
theorem dX4_lay_47 : decode cX4_lay 47 = .ok (.iadd, 1) := by decide +kernel
theorem dX4_lay_48 : decode cX4_lay 48 = .ok (.putfield 43, 3) := by decide +kernel
theorem dX4_lay_51 : decode cX4_lay 51 = .ok (.return_, 1) := by decide +kernel
set_option maxRecDepth 20000 in
theorem ggX4_point_X4_isPlace : GoodIn wsX4_point wsX4_isPlace := goodIn_r _ [7] (by decide +kernel) (by decide +kernel)
set_option maxRecDepth 20000 in
theorem gX4_point_X4_isPlace : GoodIn wsX4_point (va_wsS RX4 46 yX4_isPlace wsX4_isPlace) := goodIn_app (goodIn_of _ (by decide +kernel)) ggX4_point_X4_isPlace
set_option maxRecDepth 20000 in
theorem ggX4_point_X4_begin : GoodIn wsX4_point wsX4_begin := goodIn_r _ [11, 2, 12, 13, 20, 21, 22, 23, 24, 25, 26, 27, 28, 29, 30, 31, 32, 33, 34] (by decide +kernel) (by decide +kernel)
set_option maxRecDepth 20000 in
theorem gX4_point_X4_begin : GoodIn wsX4_point (wsV RX4 50 RX4 yX4_begin wsX4_begin) := goodIn_app (goodIn_of _ (by decide +kernel)) ggX4_point_X4_begin
set_option maxRecDepth 20000 in
theorem ggX4_point_X4_lay : GoodIn wsX4_point wsX4_lay := goodIn_r _ [17, 13, 18, 19, 3, 20, 21, 22, 23, 24, 25, 26, 27, 28, 29, 30, 31, 32, 33, 34] (by decide +kernel) (by decide +kernel)
set_option maxRecDepth 20000 in
theorem gX4_point_X4_lay : GoodIn wsX4_point (wsV RX4 54 RX4 yX4_lay wsX4_lay) := goodIn_app (goodIn_of _ (by decide +kernel)) ggX4_point_X4_lay
theorem dX4_point_0 : decode cX4_point 0 = .ok (.aload_n 0, 1) := by decide +kernel
theorem dX4_point_1 : decode cX4_point 1 = .ok (.iconst 0, 1) := by decide +kernel
theorem dX4_point_2 : decode cX4_point 2 = .ok (.putfield 1, 3) := by decide +kernel
theorem dX4_point_5 : decode cX4_point 5 = .ok (.iload_n 1, 1) := by decide +kernel
theorem dX4_point_6 : decode cX4_point 6 = .ok (.iload_n 2, 1) := by decide +kernel
theorem dX4_point_7 : decode cX4_point 7 = .ok (.invokestatic 46, 3) := by decide +kernel
theorem dX4_point_10 : decode cX4_point 10 = .ok (.ifCond .ne 5, 3) := by decide +kernel
theorem dX4_point_13 : decode cX4_point 13 = .ok (.iconst (-1), 1) := by decide +kernel
theorem dX4_point_14 : decode cX4_point 14 = .ok (.ireturn, 1) := by decide +kernel
theorem dX4_point_15 : decode cX4_point 15 = .ok (.aload_n 0, 1) := by decide +kernel
theorem dX4_point_16 : decode cX4_point 16 = .ok (.getfield 40, 3) := by decide +kernel
theorem dX4_point_19 : decode cX4_point 19 = .ok (.bipush 60, 2) := by decide +kernel
theorem dX4_point_21 : decode cX4_point 21 = .ok (.if_icmp .eq 13, 3) := by decide +kernel
theorem dX4_point_24 : decode cX4_point 24 = .ok (.aload_n 0, 1) := by decide +kernel
theorem dX4_point_25 : decode cX4_point 25 = .ok (.getfield 43, 3) := by decide +kernel
theorem dX4_point_28 : decode cX4_point 28 = .ok (.sipush 400, 3) := by decide +kernel
theorem dX4_point_31 : decode cX4_point 31 = .ok (.if_icmp .ne 6, 3) := by decide +kernel
theorem dX4_point_34 : decode cX4_point 34 = .ok (.bipush (-2), 2) := by decide +kernel
theorem dX4_point_36 : decode cX4_point 36 = .ok (.ireturn, 1) := by decide +kernel
theorem dX4_point_37 : decode cX4_point 37 = .ok (.aload_n 0, 1) := by decide +kernel
theorem dX4_point_38 : decode cX4_point 38 = .ok (.iconst 1, 1) := by decide +kernel
theorem dX4_point_39 : decode cX4_point 39 = .ok (.invokevirtual 50, 3) := by decide +kernel
theorem dX4_point_42 : decode cX4_point 42 = .ok (.istore_n 3, 1) := by decide +kernel
theorem dX4_point_43 : decode cX4_point 43 = .ok (.aload_n 0, 1) := by decide +kernel
theorem dX4_point_44 : decode cX4_point 44 = .ok (.iload_n 3, 1) := by decide +kernel
theorem dX4_point_45 : decode cX4_point 45 = .ok (.iload_n 1, 1) := by decide +kernel
theorem dX4_point_46 : decode cX4_point 46 = .ok (.iload_n 2, 1) := by decide +kernel
theorem dX4_point_47 : decode cX4_point 47 = .ok (.invokevirtual 54, 3) := by decide +kernel
theorem dX4_point_50 : decode cX4_point 50 = .ok (.iload_n 3, 1) := by decide +kernel
theorem dX4_point_51 : decode cX4_point 51 = .ok (.ireturn, 1) := by decide +kernel
set_option maxRecDepth 20000 in
theorem ggX4_line_X4_begin : GoodIn wsX4_line wsX4_begin := goodIn_r _ [6, 7, 8, 9, 10, 11, 12, 13, 14, 15, 16, 17, 18, 19, 20, 21, 22, 23, 24] (by decide +kernel) (by decide +kernel)
set_option maxRecDepth 20000 in
theorem gX4_line_X4_begin : GoodIn wsX4_line (wsV RX4 50 RX4 yX4_begin wsX4_begin) := goodIn_app (goodIn_of _ (by decide +kernel)) ggX4_line_X4_begin
theorem dX4_line_0 : decode cX4_line 0 = .ok (.aload_n 0, 1) := by decide +kernel
theorem dX4_line_1 : decode cX4_line 1 = .ok (.iconst 0, 1) := by decide +kernel
theorem dX4_line_2 : decode cX4_line 2 = .ok (.putfield 1, 3) := by decide +kernel
theorem dX4_line_5 : decode cX4_line 5 = .ok (.aload_n 0, 1) := by decide +kernel
theorem dX4_line_6 : decode cX4_line 6 = .ok (.iconst 2, 1) := by decide +kernel
theorem dX4_line_7 : decode cX4_line 7 = .ok (.invokevirtual 50, 3) := by decide +kernel
theorem dX4_line_10 : decode cX4_line 10 = .ok (.ireturn, 1) := by decide +kernel
set_option maxRecDepth 20000 in
theorem ggX4_polygon_X4_begin : GoodIn wsX4_polygon wsX4_begin := goodIn_r _ [6, 7, 8, 9, 10, 11, 12, 13, 14, 15, 16, 17, 18, 19, 20, 21, 22, 23, 24] (by decide +kernel) (by decide +kernel)
set_option maxRecDepth 20000 in
theorem gX4_polygon_X4_begin : GoodIn wsX4_polygon (wsV RX4 50 RX4 yX4_begin wsX4_begin) := goodIn_app (goodIn_of _ (by decide +kernel)) ggX4_polygon_X4_begin
theorem dX4_polygon_0 : decode cX4_polygon 0 = .ok (.aload_n 0, 1) := by decide +kernel
theorem dX4_polygon_1 : decode cX4_polygon 1 = .ok (.iconst 0, 1) := by decide +kernel
theorem dX4_polygon_2 : decode cX4_polygon 2 = .ok (.putfield 1, 3) := by decide +kernel
theorem dX4_polygon_5 : decode cX4_polygon 5 = .ok (.aload_n 0, 1) := by decide +kernel
theorem dX4_polygon_6 : decode cX4_polygon 6 = .ok (.iconst 3, 1) := by decide +kernel
theorem dX4_polygon_7 : decode cX4_polygon 7 = .ok (.invokevirtual 50, 3) := by decide +kernel
theorem dX4_polygon_10 : decode cX4_polygon 10 = .ok (.ireturn, 1) := by decide +kernel
theorem dX4_isShape_0 : decode cX4_isShape 0 = .ok (.iload_n 1, 1) := by decide +kernel
theorem dX4_isShape_1 : decode cX4_isShape 1 = .ok (.ifCond .lt 24, 3) := by decide +kernel
theorem dX4_isShape_4 : decode cX4_isShape 4 = .ok (.iload_n 1, 1) := by decide +kernel
theorem dX4_isShape_5 : decode cX4_isShape 5 = .ok (.aload_n 0, 1) := by decide +kernel
theorem dX4_isShape_6 : decode cX4_isShape 6 = .ok (.getfield 40, 3) := by decide +kernel
theorem dX4_isShape_9 : decode cX4_isShape 9 = .ok (.if_icmp .ge 16, 3) := by decide +kernel
theorem dX4_isShape_12 : decode cX4_isShape 12 = .ok (.aload_n 0, 1) := by decide +kernel
theorem dX4_isShape_13 : decode cX4_isShape 13 = .ok (.getfield 13, 3) := by decide +kernel
theorem dX4_isShape_16 : decode cX4_isShape 16 = .ok (.iload_n 1, 1) := by decide +kernel
theorem dX4_isShape_17 : decode cX4_isShape 17 = .ok (.iaload, 1) := by decide +kernel
theorem dX4_isShape_18 : decode cX4_isShape 18 = .ok (.ifCond .eq 7, 3) := by decide +kernel
theorem dX4_isShape_21 : decode cX4_isShape 21 = .ok (.iconst 1, 1) := by decide +kernel
theorem dX4_isShape_22 : decode cX4_isShape 22 = .ok (.goto 4, 3) := by decide +kernel
theorem dX4_isShape_25 : decode cX4_isShape 25 = .ok (.iconst 0, 1) := by decide +kernel
theorem dX4_isShape_26 : decode cX4_isShape 26 = .ok (.ireturn, 1) := by decide +kernel
set_option maxRecDepth 20000 in
theorem ggX4_corner_X4_isShape : GoodIn wsX4_corner wsX4_isShape := goodIn_r _ [9, 10, 2, 20, 21, 22, 23, 24, 25, 26, 27, 28, 29, 30, 31, 32, 33, 34] (by decide +kernel) (by decide +kernel)
set_option maxRecDepth 20000 in
theorem gX4_corner_X4_isShape : GoodIn wsX4_corner (wsV RX4 58 RX4 yX4_isShape wsX4_isShape) := goodIn_app (goodIn_of _ (by decide +kernel)) ggX4_corner_X4_isShape
set_option maxRecDepth 20000 in
theorem ggX4_corner_X4_isPlace : GoodIn wsX4_corner wsX4_isPlace := goodIn_r _ [13] (by decide +kernel) (by decide +kernel)
set_option maxRecDepth 20000 in
theorem gX4_corner_X4_isPlace : GoodIn wsX4_corner (va_wsS RX4 46 yX4_isPlace wsX4_isPlace) := goodIn_app (goodIn_of _ (by decide +kernel)) ggX4_corner_X4_isPlace
set_option maxRecDepth 20000 in
theorem ggX4_corner_X4_lay : GoodIn wsX4_corner wsX4_lay := goodIn_r _ [17, 3, 18, 19, 4, 20, 21, 22, 23, 24, 25, 26, 27, 28, 29, 30, 31, 32, 33, 34] (by decide +kernel) (by decide +kernel)
set_option maxRecDepth 20000 in
theorem gX4_corner_X4_lay : GoodIn wsX4_corner (wsV RX4 54 RX4 yX4_lay wsX4_lay) := goodIn_app (goodIn_of _ (by decide +kernel)) ggX4_corner_X4_lay
theorem dX4_corner_0 : decode cX4_corner 0 = .ok (.aload_n 0, 1) := by decide +kernel
theorem dX4_corner_1 : decode cX4_corner 1 = .ok (.iconst 0, 1) := by decide +kernel
theorem dX4_corner_2 : decode cX4_corner 2 = .ok (.putfield 1, 3) := by decide +kernel
theorem dX4_corner_5 : decode cX4_corner 5 = .ok (.aload_n 0, 1) := by decide +kernel
theorem dX4_corner_6 : decode cX4_corner 6 = .ok (.iload_n 1, 1) := by decide +kernel
theorem dX4_corner_7 : decode cX4_corner 7 = .ok (.invokevirtual 58, 3) := by decide +kernel
theorem dX4_corner_10 : decode cX4_corner 10 = .ok (.ifCond .eq 21, 3) := by decide +kernel
theorem dX4_corner_13 : decode cX4_corner 13 = .ok (.aload_n 0, 1) := by decide +kernel
theorem dX4_corner_14 : decode cX4_corner 14 = .ok (.getfield 13, 3) := by decide +kernel
theorem dX4_corner_17 : decode cX4_corner 17 = .ok (.iload_n 1, 1) := by decide +kernel
theorem dX4_corner_18 : decode cX4_corner 18 = .ok (.iaload, 1) := by decide +kernel
theorem dX4_corner_19 : decode cX4_corner 19 = .ok (.iconst 1, 1) := by decide +kernel
theorem dX4_corner_20 : decode cX4_corner 20 = .ok (.if_icmp .eq 11, 3) := by decide +kernel
theorem dX4_corner_23 : decode cX4_corner 23 = .ok (.iload_n 2, 1) := by decide +kernel
theorem dX4_corner_24 : decode cX4_corner 24 = .ok (.iload_n 3, 1) := by decide +kernel
theorem dX4_corner_25 : decode cX4_corner 25 = .ok (.invokestatic 46, 3) := by decide +kernel
theorem dX4_corner_28 : decode cX4_corner 28 = .ok (.ifCond .ne 5, 3) := by decide +kernel
theorem dX4_corner_31 : decode cX4_corner 31 = .ok (.iconst (-1), 1) := by decide +kernel
theorem dX4_corner_32 : decode cX4_corner 32 = .ok (.ireturn, 1) := by decide +kernel
theorem dX4_corner_33 : decode cX4_corner 33 = .ok (.aload_n 0, 1) := by decide +kernel
theorem dX4_corner_34 : decode cX4_corner 34 = .ok (.getfield 17, 3) := by decide +kernel
theorem dX4_corner_37 : decode cX4_corner 37 = .ok (.iload_n 1, 1) := by decide +kernel
theorem dX4_corner_38 : decode cX4_corner 38 = .ok (.iaload, 1) := by decide +kernel
theorem dX4_corner_39 : decode cX4_corner 39 = .ok (.bipush 24, 2) := by decide +kernel
theorem dX4_corner_41 : decode cX4_corner 41 = .ok (.if_icmp .eq 13, 3) := by decide +kernel
theorem dX4_corner_44 : decode cX4_corner 44 = .ok (.aload_n 0, 1) := by decide +kernel
theorem dX4_corner_45 : decode cX4_corner 45 = .ok (.getfield 43, 3) := by decide +kernel
theorem dX4_corner_48 : decode cX4_corner 48 = .ok (.sipush 400, 3) := by decide +kernel
theorem dX4_corner_51 : decode cX4_corner 51 = .ok (.if_icmp .ne 6, 3) := by decide +kernel
theorem dX4_corner_54 : decode cX4_corner 54 = .ok (.bipush (-2), 2) := by decide +kernel
theorem dX4_corner_56 : decode cX4_corner 56 = .ok (.ireturn, 1) := by decide +kernel
theorem dX4_corner_57 : decode cX4_corner 57 = .ok (.aload_n 0, 1) := by decide +kernel
theorem dX4_corner_58 : decode cX4_corner 58 = .ok (.iload_n 1, 1) := by decide +kernel
theorem dX4_corner_59 : decode cX4_corner 59 = .ok (.iload_n 2, 1) := by decide +kernel
theorem dX4_corner_60 : decode cX4_corner 60 = .ok (.iload_n 3, 1) := by decide +kernel
theorem dX4_corner_61 : decode cX4_corner 61 = .ok (.invokevirtual 54, 3) := by decide +kernel
theorem dX4_corner_64 : decode cX4_corner 64 = .ok (.aload_n 0, 1) := by decide +kernel
theorem dX4_corner_65 : decode cX4_corner 65 = .ok (.getfield 17, 3) := by decide +kernel
theorem dX4_corner_68 : decode cX4_corner 68 = .ok (.iload_n 1, 1) := by decide +kernel
theorem dX4_corner_69 : decode cX4_corner 69 = .ok (.iaload, 1) := by decide +kernel
theorem dX4_corner_70 : decode cX4_corner 70 = .ok (.ireturn, 1) := by decide +kernel
set_option maxRecDepth 20000 in
theorem ggX4_remove_X4_isShape : GoodIn wsX4_remove wsX4_isShape := goodIn_r _ [8, 9, 2, 10, 11, 12, 13, 14, 15, 16, 17, 18, 19, 20, 21, 22, 23, 24] (by decide +kernel) (by decide +kernel)
set_option maxRecDepth 20000 in
theorem gX4_remove_X4_isShape : GoodIn wsX4_remove (wsV RX4 58 RX4 yX4_isShape wsX4_isShape) := goodIn_app (goodIn_of _ (by decide +kernel)) ggX4_remove_X4_isShape
theorem dX4_remove_0 : decode cX4_remove 0 = .ok (.aload_n 0, 1) := by decide +kernel
theorem dX4_remove_1 : decode cX4_remove 1 = .ok (.iconst 0, 1) := by decide +kernel
theorem dX4_remove_2 : decode cX4_remove 2 = .ok (.putfield 1, 3) := by decide +kernel
theorem dX4_remove_5 : decode cX4_remove 5 = .ok (.aload_n 0, 1) := by decide +kernel
theorem dX4_remove_6 : decode cX4_remove 6 = .ok (.iload_n 1, 1) := by decide +kernel
theorem dX4_remove_7 : decode cX4_remove 7 = .ok (.invokevirtual 58, 3) := by decide +kernel
theorem dX4_remove_10 : decode cX4_remove 10 = .ok (.ifCond .ne 5, 3) := by decide +kernel
theorem dX4_remove_13 : decode cX4_remove 13 = .ok (.iconst (-1), 1) := by decide +kernel
theorem dX4_remove_14 : decode cX4_remove 14 = .ok (.ireturn, 1) := by decide +kernel
theorem dX4_remove_15 : decode cX4_remove 15 = .ok (.aload_n 0, 1) := by decide +kernel
theorem dX4_remove_16 : decode cX4_remove 16 = .ok (.getfield 13, 3) := by decide +kernel
theorem dX4_remove_19 : decode cX4_remove 19 = .ok (.iload_n 1, 1) := by decide +kernel
theorem dX4_remove_20 : decode cX4_remove 20 = .ok (.iconst 0, 1) := by decide +kernel
theorem dX4_remove_21 : decode cX4_remove 21 = .ok (.iastore, 1) := by decide +kernel
theorem dX4_remove_22 : decode cX4_remove 22 = .ok (.aload_n 0, 1) := by decide +kernel
theorem dX4_remove_23 : decode cX4_remove 23 = .ok (.dup, 1) := by decide +kernel
theorem dX4_remove_24 : decode cX4_remove 24 = .ok (.getfield 62, 3) := by decide +kernel
theorem dX4_remove_27 : decode cX4_remove 27 = .ok (.iconst 1, 1) := by decide +kernel
theorem dX4_remove_28 : decode cX4_remove 28 = .ok (.iadd, 1) := by decide +kernel
theorem dX4_remove_29 : decode cX4_remove 29 = .ok (.putfield 62, 3) := by decide +kernel
theorem dX4_remove_32 : decode cX4_remove 32 = .ok (.iconst 1, 1) := by decide +kernel
theorem dX4_remove_33 : decode cX4_remove 33 = .ok (.ireturn, 1) := by decide +kernel
theorem dX4_shapes_0 : decode cX4_shapes 0 = .ok (.aload_n 0, 1) := by decide +kernel
theorem dX4_shapes_1 : decode cX4_shapes 1 = .ok (.iconst 0, 1) := by decide +kernel
theorem dX4_shapes_2 : decode cX4_shapes 2 = .ok (.putfield 1, 3) := by decide +kernel
theorem dX4_shapes_5 : decode cX4_shapes 5 = .ok (.aload_n 0, 1) := by decide +kernel
theorem dX4_shapes_6 : decode cX4_shapes 6 = .ok (.getfield 40, 3) := by decide +kernel
theorem dX4_shapes_9 : decode cX4_shapes 9 = .ok (.aload_n 0, 1) := by decide +kernel
theorem dX4_shapes_10 : decode cX4_shapes 10 = .ok (.getfield 62, 3) := by decide +kernel
theorem dX4_shapes_13 : decode cX4_shapes 13 = .ok (.isub, 1) := by decide +kernel
theorem dX4_shapes_14 : decode cX4_shapes 14 = .ok (.ireturn, 1) := by decide +kernel
theorem dX4_cross_0 : decode cX4_cross 0 = .ok (.lload_n 0, 1) := by decide +kernel
theorem dX4_cross_1 : decode cX4_cross 1 = .ok (.lload 6, 2) := by decide +kernel
theorem dX4_cross_3 : decode cX4_cross 3 = .ok (.lmul, 1) := by decide +kernel
theorem dX4_cross_4 : decode cX4_cross 4 = .ok (.lload_n 2, 1) := by decide +kernel
theorem dX4_cross_5 : decode cX4_cross 5 = .ok (.lload 4, 2) := by decide +kernel
theorem dX4_cross_7 : decode cX4_cross 7 = .ok (.lmul, 1) := by decide +kernel
theorem dX4_cross_8 : decode cX4_cross 8 = .ok (.lsub, 1) := by decide +kernel
theorem dX4_cross_9 : decode cX4_cross 9 = .ok (.lreturn, 1) := by decide +kernel
set_option maxRecDepth 20000 in
theorem ggX4_hand_X4_cross : GoodIn wsX4_hand wsX4_cross := goodIn_r _ [4] (by decide +kernel) (by decide +kernel)
set_option maxRecDepth 20000 in
theorem gX4_hand_X4_cross : GoodIn wsX4_hand (va_wsS RX4 65 yX4_cross wsX4_cross) := goodIn_app (goodIn_of _ (by decide +kernel)) ggX4_hand_X4_cross
theorem dX4_hand_0 : decode cX4_hand 0 = .ok (.lload 4, 2) := by decide +kernel
theorem dX4_hand_2 : decode cX4_hand 2 = .ok (.lload_n 0, 1) := by decide +kernel
theorem dX4_hand_3 : decode cX4_hand 3 = .ok (.lsub, 1) := by decide +kernel
theorem dX4_hand_4 : decode cX4_hand 4 = .ok (.lload 6, 2) := by decide +kernel
theorem dX4_hand_6 : decode cX4_hand 6 = .ok (.lload_n 2, 1) := by decide +kernel
theorem dX4_hand_7 : decode cX4_hand 7 = .ok (.lsub, 1) := by decide +kernel
theorem dX4_hand_8 : decode cX4_hand 8 = .ok (.lload 8, 2) := by decide +kernel
theorem dX4_hand_10 : decode cX4_hand 10 = .ok (.lload_n 0, 1) := by decide +kernel
theorem dX4_hand_11 : decode cX4_hand 11 = .ok (.lsub, 1) := by decide +kernel
theorem dX4_hand_12 : decode cX4_hand 12 = .ok (.lload 10, 2) := by decide +kernel
theorem dX4_hand_14 : decode cX4_hand 14 = .ok (.lload_n 2, 1) := by decide +kernel
theorem dX4_hand_15 : decode cX4_hand 15 = .ok (.lsub, 1) := by decide +kernel
theorem dX4_hand_16 : decode cX4_hand 16 = .ok (.invokestatic 65, 3) := by decide +kernel
theorem dX4_hand_19 : decode cX4_hand 19 = .ok (.lstore 12, 2) := by decide +kernel
theorem dX4_hand_21 : decode cX4_hand 21 = .ok (.lload 12, 2) := by decide +kernel
theorem dX4_hand_23 : decode cX4_hand 23 = .ok (.lconst 0, 1) := by decide +kernel
theorem dX4_hand_24 : decode cX4_hand 24 = .ok (.lcmp, 1) := by decide +kernel
theorem dX4_hand_25 : decode cX4_hand 25 = .ok (.ifCond .ge 7, 3) := by decide +kernel
theorem dX4_hand_28 : decode cX4_hand 28 = .ok (.iconst (-1), 1) := by decide +kernel
theorem dX4_hand_29 : decode cX4_hand 29 = .ok (.goto 15, 3) := by decide +kernel
theorem dX4_hand_32 : decode cX4_hand 32 = .ok (.lload 12, 2) := by decide +kernel
theorem dX4_hand_34 : decode cX4_hand 34 = .ok (.lconst 0, 1) := by decide +kernel
theorem dX4_hand_35 : decode cX4_hand 35 = .ok (.lcmp, 1) := by decide +kernel
theorem dX4_hand_36 : decode cX4_hand 36 = .ok (.ifCond .le 7, 3) := by decide +kernel
theorem dX4_hand_39 : decode cX4_hand 39 = .ok (.iconst 1, 1) := by decide +kernel
theorem dX4_hand_40 : decode cX4_hand 40 = .ok (.goto 4, 3) := by decide +kernel
theorem dX4_hand_43 : decode cX4_hand 43 = .ok (.iconst 0, 1) := by decide +kernel
theorem dX4_hand_44 : decode cX4_hand 44 = .ok (.ireturn, 1) := by decide +kernel
theorem dX4_isBetween_0 : decode cX4_isBetween 0 = .ok (.lload_n 0, 1) := by decide +kernel
theorem dX4_isBetween_1 : decode cX4_isBetween 1 = .ok (.lload 4, 2) := by decide +kernel
theorem dX4_isBetween_3 : decode cX4_isBetween 3 = .ok (.lcmp, 1) := by decide +kernel
theorem dX4_isBetween_4 : decode cX4_isBetween 4 = .ok (.ifCond .gt 10, 3) := by decide +kernel
theorem dX4_isBetween_7 : decode cX4_isBetween 7 = .ok (.lload 4, 2) := by decide +kernel
theorem dX4_isBetween_9 : decode cX4_isBetween 9 = .ok (.lload_n 2, 1) := by decide +kernel
theorem dX4_isBetween_10 : decode cX4_isBetween 10 = .ok (.lcmp, 1) := by decide +kernel
theorem dX4_isBetween_11 : decode cX4_isBetween 11 = .ok (.ifCond .le 17, 3) := by decide +kernel
theorem dX4_isBetween_14 : decode cX4_isBetween 14 = .ok (.lload_n 2, 1) := by decide +kernel
theorem dX4_isBetween_15 : decode cX4_isBetween 15 = .ok (.lload 4, 2) := by decide +kernel
theorem dX4_isBetween_17 : decode cX4_isBetween 17 = .ok (.lcmp, 1) := by decide +kernel
theorem dX4_isBetween_18 : decode cX4_isBetween 18 = .ok (.ifCond .gt 14, 3) := by decide +kernel
theorem dX4_isBetween_21 : decode cX4_isBetween 21 = .ok (.lload 4, 2) := by decide +kernel
theorem dX4_isBetween_23 : decode cX4_isBetween 23 = .ok (.lload_n 0, 1) := by decide +kernel
theorem dX4_isBetween_24 : decode cX4_isBetween 24 = .ok (.lcmp, 1) := by decide +kernel
theorem dX4_isBetween_25 : decode cX4_isBetween 25 = .ok (.ifCond .gt 7, 3) := by decide +kernel
theorem dX4_isBetween_28 : decode cX4_isBetween 28 = .ok (.iconst 1, 1) := by decide +kernel
theorem dX4_isBetween_29 : decode cX4_isBetween 29 = .ok (.goto 4, 3) := by decide +kernel
theorem dX4_isBetween_32 : decode cX4_isBetween 32 = .ok (.iconst 0, 1) := by decide +kernel
theorem dX4_isBetween_33 : decode cX4_isBetween 33 = .ok (.ireturn, 1) := by decide +kernel
set_option maxRecDepth 20000 in
theorem ggX4_isOn_X4_hand : GoodIn wsX4_isOn wsX4_hand := goodIn_r _ [4, 5, 6, 3, 7] (by decide +kernel) (by decide +kernel)
set_option maxRecDepth 20000 in
theorem gX4_isOn_X4_hand : GoodIn wsX4_isOn (va_wsS RX4 69 yX4_hand wsX4_hand) := goodIn_app (goodIn_of _ (by decide +kernel)) ggX4_isOn_X4_hand
set_option maxRecDepth 20000 in
theorem ggX4_isOn_X4_isBetween : GoodIn wsX4_isOn wsX4_isBetween := goodIn_r _ [10] (by decide +kernel) (by decide +kernel)
set_option maxRecDepth 20000 in
theorem gX4_isOn_X4_isBetween : GoodIn wsX4_isOn (va_wsS RX4 73 yX4_isBetween wsX4_isBetween) := goodIn_app (goodIn_of _ (by decide +kernel)) ggX4_isOn_X4_isBetween
theorem dX4_isOn_0 : decode cX4_isOn 0 = .ok (.lload_n 0, 1) := by decide +kernel
theorem dX4_isOn_1 : decode cX4_isOn 1 = .ok (.lload_n 2, 1) := by decide +kernel
theorem dX4_isOn_2 : decode cX4_isOn 2 = .ok (.lload 4, 2) := by decide +kernel
theorem dX4_isOn_4 : decode cX4_isOn 4 = .ok (.lload 6, 2) := by decide +kernel
theorem dX4_isOn_6 : decode cX4_isOn 6 = .ok (.lload 8, 2) := by decide +kernel
theorem dX4_isOn_8 : decode cX4_isOn 8 = .ok (.lload 10, 2) := by decide +kernel
theorem dX4_isOn_10 : decode cX4_isOn 10 = .ok (.invokestatic 69, 3) := by decide +kernel
theorem dX4_isOn_13 : decode cX4_isOn 13 = .ok (.ifCond .ne 29, 3) := by decide +kernel
theorem dX4_isOn_16 : decode cX4_isOn 16 = .ok (.lload_n 0, 1) := by decide +kernel
theorem dX4_isOn_17 : decode cX4_isOn 17 = .ok (.lload 4, 2) := by decide +kernel
theorem dX4_isOn_19 : decode cX4_isOn 19 = .ok (.lload 8, 2) := by decide +kernel
theorem dX4_isOn_21 : decode cX4_isOn 21 = .ok (.invokestatic 73, 3) := by decide +kernel
theorem dX4_isOn_24 : decode cX4_isOn 24 = .ok (.ifCond .eq 18, 3) := by decide +kernel
theorem dX4_isOn_27 : decode cX4_isOn 27 = .ok (.lload_n 2, 1) := by decide +kernel
theorem dX4_isOn_28 : decode cX4_isOn 28 = .ok (.lload 6, 2) := by decide +kernel
theorem dX4_isOn_30 : decode cX4_isOn 30 = .ok (.lload 10, 2) := by decide +kernel
theorem dX4_isOn_32 : decode cX4_isOn 32 = .ok (.invokestatic 73, 3) := by decide +kernel
theorem dX4_isOn_35 : decode cX4_isOn 35 = .ok (.ifCond .eq 7, 3) := by decide +kernel
theorem dX4_isOn_38 : decode cX4_isOn 38 = .ok (.iconst 1, 1) := by decide +kernel
theorem dX4_isOn_39 : decode cX4_isOn 39 = .ok (.goto 4, 3) := by decide +kernel
theorem dX4_isOn_42 : decode cX4_isOn 42 = .ok (.iconst 0, 1) := by decide +kernel
theorem dX4_isOn_43 : decode cX4_isOn 43 = .ok (.ireturn, 1) := by decide +kernel
theorem dX4_sides_0 : decode cX4_sides 0 = .ok (.aload_n 0, 1) := by decide +kernel
theorem dX4_sides_1 : decode cX4_sides 1 = .ok (.getfield 13, 3) := by decide +kernel
theorem dX4_sides_4 : decode cX4_sides 4 = .ok (.iload_n 1, 1) := by decide +kernel
theorem dX4_sides_5 : decode cX4_sides 5 = .ok (.iaload, 1) := by decide +kernel
theorem dX4_sides_6 : decode cX4_sides 6 = .ok (.iconst 2, 1) := by decide +kernel
theorem dX4_sides_7 : decode cX4_sides 7 = .ok (.if_icmp .ne 14, 3) := by decide +kernel
theorem dX4_sides_10 : decode cX4_sides 10 = .ok (.aload_n 0, 1) := by decide +kernel
theorem dX4_sides_11 : decode cX4_sides 11 = .ok (.getfield 17, 3) := by decide +kernel
theorem dX4_sides_14 : decode cX4_sides 14 = .ok (.iload_n 1, 1) := by decide +kernel
theorem dX4_sides_15 : decode cX4_sides 15 = .ok (.iaload, 1) := by decide +kernel
theorem dX4_sides_16 : decode cX4_sides 16 = .ok (.iconst 1, 1) := by decide +kernel
theorem dX4_sides_17 : decode cX4_sides 17 = .ok (.isub, 1) := by decide +kernel
theorem dX4_sides_18 : decode cX4_sides 18 = .ok (.goto 9, 3) := by decide +kernel
theorem dX4_sides_21 : decode cX4_sides 21 = .ok (.aload_n 0, 1) := by decide +kernel
theorem dX4_sides_22 : decode cX4_sides 22 = .ok (.getfield 17, 3) := by decide +kernel
theorem dX4_sides_25 : decode cX4_sides 25 = .ok (.iload_n 1, 1) := by decide +kernel
theorem dX4_sides_26 : decode cX4_sides 26 = .ok (.iaload, 1) := by decide +kernel
theorem dX4_sides_27 : decode cX4_sides 27 = .ok (.ireturn, 1) := by decide +kernel
theorem dX4_from_0 : decode cX4_from 0 = .ok (.bipush 24, 2) := by decide +kernel
theorem dX4_from_2 : decode cX4_from 2 = .ok (.iload_n 1, 1) := by decide +kernel
theorem dX4_from_3 : decode cX4_from 3 = .ok (.imul, 1) := by decide +kernel
theorem dX4_from_4 : decode cX4_from 4 = .ok (.iload_n 2, 1) := by decide +kernel
theorem dX4_from_5 : decode cX4_from 5 = .ok (.iadd, 1) := by decide +kernel
theorem dX4_from_6 : decode cX4_from 6 = .ok (.ireturn, 1) := by decide +kernel
theorem dX4_to_0 : decode cX4_to 0 = .ok (.bipush 24, 2) := by decide +kernel
theorem dX4_to_2 : decode cX4_to 2 = .ok (.iload_n 1, 1) := by decide +kernel
theorem dX4_to_3 : decode cX4_to 3 = .ok (.imul, 1) := by decide +kernel
theorem dX4_to_4 : decode cX4_to 4 = .ok (.aload_n 0, 1) := by decide +kernel
theorem dX4_to_5 : decode cX4_to 5 = .ok (.getfield 13, 3) := by decide +kernel
theorem dX4_to_8 : decode cX4_to 8 = .ok (.iload_n 1, 1) := by decide +kernel
theorem dX4_to_9 : decode cX4_to 9 = .ok (.iaload, 1) := by decide +kernel
theorem dX4_to_10 : decode cX4_to 10 = .ok (.iconst 1, 1) := by decide +kernel
theorem dX4_to_11 : decode cX4_to 11 = .ok (.if_icmp .ne 7, 3) := by decide +kernel
theorem dX4_to_14 : decode cX4_to 14 = .ok (.iconst 0, 1) := by decide +kernel
theorem dX4_to_15 : decode cX4_to 15 = .ok (.goto 13, 3) := by decide +kernel
theorem dX4_to_18 : decode cX4_to 18 = .ok (.iload_n 2, 1) := by decide +kernel
theorem dX4_to_19 : decode cX4_to 19 = .ok (.iconst 1, 1) := by decide +kernel
theorem dX4_to_20 : decode cX4_to 20 = .ok (.iadd, 1) := by decide +kernel
theorem dX4_to_21 : decode cX4_to 21 = .ok (.aload_n 0, 1) := by decide +kernel
theorem dX4_to_22 : decode cX4_to 22 = .ok (.getfield 17, 3) := by decide +kernel
theorem dX4_to_25 : decode cX4_to 25 = .ok (.iload_n 1, 1) := by decide +kernel
theorem dX4_to_26 : decode cX4_to 26 = .ok (.iaload, 1) := by decide +kernel
theorem dX4_to_27 : decode cX4_to 27 = .ok (.irem, 1) := by decide +kernel
theorem dX4_to_28 : decode cX4_to 28 = .ok (.iadd, 1) := by decide +kernel
theorem dX4_to_29 : decode cX4_to 29 = .ok (.ireturn, 1) := by decide +kernel
set_option maxRecDepth 20000 in
theorem ggX4_cut_X4_isOn : GoodIn wsX4_cut wsX4_isOn := goodIn_r _ [6, 7, 8, 5, 9, 10, 11, 12, 13, 14, 15] (by decide +kernel) (by decide +kernel)
set_option maxRecDepth 20000 in
theorem gX4_cut_X4_isOn : GoodIn wsX4_cut (va_wsS RX4 77 yX4_isOn wsX4_isOn) := goodIn_app (goodIn_of _ (by decide +kernel)) ggX4_cut_X4_isOn
set_option maxRecDepth 20000 in
theorem ggX4_cut_X4_hand : GoodIn wsX4_cut wsX4_hand := goodIn_r _ [9, 10, 11, 5, 12] (by decide +kernel) (by decide +kernel)
set_option maxRecDepth 20000 in
theorem gX4_cut_X4_hand : GoodIn wsX4_cut (va_wsS RX4 69 yX4_hand wsX4_hand) := goodIn_app (goodIn_of _ (by decide +kernel)) ggX4_cut_X4_hand
theorem dX4_cut_0 : decode cX4_cut 0 = .ok (.aload_n 0, 1) := by decide +kernel
theorem dX4_cut_1 : decode cX4_cut 1 = .ok (.getfield 20, 3) := by decide +kernel
theorem dX4_cut_4 : decode cX4_cut 4 = .ok (.iload_n 1, 1) := by decide +kernel
theorem dX4_cut_5 : decode cX4_cut 5 = .ok (.laload, 1) := by decide +kernel
theorem dX4_cut_6 : decode cX4_cut 6 = .ok (.aload_n 0, 1) := by decide +kernel
theorem dX4_cut_7 : decode cX4_cut 7 = .ok (.getfield 24, 3) := by decide +kernel
theorem dX4_cut_10 : decode cX4_cut 10 = .ok (.iload_n 1, 1) := by decide +kernel
theorem dX4_cut_11 : decode cX4_cut 11 = .ok (.laload, 1) := by decide +kernel
theorem dX4_cut_12 : decode cX4_cut 12 = .ok (.aload_n 0, 1) := by decide +kernel
theorem dX4_cut_13 : decode cX4_cut 13 = .ok (.getfield 20, 3) := by decide +kernel
theorem dX4_cut_16 : decode cX4_cut 16 = .ok (.iload_n 2, 1) := by decide +kernel
theorem dX4_cut_17 : decode cX4_cut 17 = .ok (.laload, 1) := by decide +kernel
theorem dX4_cut_18 : decode cX4_cut 18 = .ok (.aload_n 0, 1) := by decide +kernel
theorem dX4_cut_19 : decode cX4_cut 19 = .ok (.getfield 24, 3) := by decide +kernel
theorem dX4_cut_22 : decode cX4_cut 22 = .ok (.iload_n 2, 1) := by decide +kernel
theorem dX4_cut_23 : decode cX4_cut 23 = .ok (.laload, 1) := by decide +kernel
theorem dX4_cut_24 : decode cX4_cut 24 = .ok (.aload_n 0, 1) := by decide +kernel
theorem dX4_cut_25 : decode cX4_cut 25 = .ok (.getfield 20, 3) := by decide +kernel
theorem dX4_cut_28 : decode cX4_cut 28 = .ok (.iload_n 3, 1) := by decide +kernel
theorem dX4_cut_29 : decode cX4_cut 29 = .ok (.laload, 1) := by decide +kernel
theorem dX4_cut_30 : decode cX4_cut 30 = .ok (.aload_n 0, 1) := by decide +kernel
theorem dX4_cut_31 : decode cX4_cut 31 = .ok (.getfield 24, 3) := by decide +kernel
theorem dX4_cut_34 : decode cX4_cut 34 = .ok (.iload_n 3, 1) := by decide +kernel
theorem dX4_cut_35 : decode cX4_cut 35 = .ok (.laload, 1) := by decide +kernel
theorem dX4_cut_36 : decode cX4_cut 36 = .ok (.invokestatic 77, 3) := by decide +kernel
theorem dX4_cut_39 : decode cX4_cut 39 = .ok (.ifCond .ne 135, 3) := by decide +kernel
theorem dX4_cut_42 : decode cX4_cut 42 = .ok (.aload_n 0, 1) := by decide +kernel
theorem dX4_cut_43 : decode cX4_cut 43 = .ok (.getfield 20, 3) := by decide +kernel
theorem dX4_cut_46 : decode cX4_cut 46 = .ok (.iload_n 1, 1) := by decide +kernel
theorem dX4_cut_47 : decode cX4_cut 47 = .ok (.laload, 1) := by decide +kernel
theorem dX4_cut_48 : decode cX4_cut 48 = .ok (.aload_n 0, 1) := by decide +kernel
theorem dX4_cut_49 : decode cX4_cut 49 = .ok (.getfield 24, 3) := by decide +kernel
theorem dX4_cut_52 : decode cX4_cut 52 = .ok (.iload_n 1, 1) := by decide +kernel
theorem dX4_cut_53 : decode cX4_cut 53 = .ok (.laload, 1) := by decide +kernel
theorem dX4_cut_54 : decode cX4_cut 54 = .ok (.aload_n 0, 1) := by decide +kernel
theorem dX4_cut_55 : decode cX4_cut 55 = .ok (.getfield 20, 3) := by decide +kernel
theorem dX4_cut_58 : decode cX4_cut 58 = .ok (.iload_n 2, 1) := by decide +kernel
theorem dX4_cut_59 : decode cX4_cut 59 = .ok (.laload, 1) := by decide +kernel
theorem dX4_cut_60 : decode cX4_cut 60 = .ok (.aload_n 0, 1) := by decide +kernel
theorem dX4_cut_61 : decode cX4_cut 61 = .ok (.getfield 24, 3) := by decide +kernel
theorem dX4_cut_64 : decode cX4_cut 64 = .ok (.iload_n 2, 1) := by decide +kernel
theorem dX4_cut_65 : decode cX4_cut 65 = .ok (.laload, 1) := by decide +kernel
theorem dX4_cut_66 : decode cX4_cut 66 = .ok (.aload_n 0, 1) := by decide +kernel
theorem dX4_cut_67 : decode cX4_cut 67 = .ok (.getfield 20, 3) := by decide +kernel
theorem dX4_cut_70 : decode cX4_cut 70 = .ok (.iload 4, 2) := by decide +kernel
theorem dX4_cut_72 : decode cX4_cut 72 = .ok (.laload, 1) := by decide +kernel
theorem dX4_cut_73 : decode cX4_cut 73 = .ok (.aload_n 0, 1) := by decide +kernel
theorem dX4_cut_74 : decode cX4_cut 74 = .ok (.getfield 24, 3) := by decide +kernel
theorem dX4_cut_77 : decode cX4_cut 77 = .ok (.iload 4, 2) := by decide +kernel
theorem dX4_cut_79 : decode cX4_cut 79 = .ok (.laload, 1) := by decide +kernel
theorem dX4_cut_80 : decode cX4_cut 80 = .ok (.invokestatic 77, 3) := by decide +kernel
theorem dX4_cut_83 : decode cX4_cut 83 = .ok (.ifCond .ne 91, 3) := by decide +kernel
theorem dX4_cut_86 : decode cX4_cut 86 = .ok (.aload_n 0, 1) := by decide +kernel
theorem dX4_cut_87 : decode cX4_cut 87 = .ok (.getfield 20, 3) := by decide +kernel
theorem dX4_cut_90 : decode cX4_cut 90 = .ok (.iload_n 3, 1) := by decide +kernel
theorem dX4_cut_91 : decode cX4_cut 91 = .ok (.laload, 1) := by decide +kernel
theorem dX4_cut_92 : decode cX4_cut 92 = .ok (.aload_n 0, 1) := by decide +kernel
theorem dX4_cut_93 : decode cX4_cut 93 = .ok (.getfield 24, 3) := by decide +kernel
theorem dX4_cut_96 : decode cX4_cut 96 = .ok (.iload_n 3, 1) := by decide +kernel
theorem dX4_cut_97 : decode cX4_cut 97 = .ok (.laload, 1) := by decide +kernel
theorem dX4_cut_98 : decode cX4_cut 98 = .ok (.aload_n 0, 1) := by decide +kernel
theorem dX4_cut_99 : decode cX4_cut 99 = .ok (.getfield 20, 3) := by decide +kernel
theorem dX4_cut_102 : decode cX4_cut 102 = .ok (.iload 4, 2) := by decide +kernel
theorem dX4_cut_104 : decode cX4_cut 104 = .ok (.laload, 1) := by decide +kernel
theorem dX4_cut_105 : decode cX4_cut 105 = .ok (.aload_n 0, 1) := by decide +kernel
theorem dX4_cut_106 : decode cX4_cut 106 = .ok (.getfield 24, 3) := by decide +kernel
theorem dX4_cut_109 : decode cX4_cut 109 = .ok (.iload 4, 2) := by decide +kernel
theorem dX4_cut_111 : decode cX4_cut 111 = .ok (.laload, 1) := by decide +kernel
theorem dX4_cut_112 : decode cX4_cut 112 = .ok (.aload_n 0, 1) := by decide +kernel
theorem dX4_cut_113 : decode cX4_cut 113 = .ok (.getfield 20, 3) := by decide +kernel
theorem dX4_cut_116 : decode cX4_cut 116 = .ok (.iload_n 1, 1) := by decide +kernel
theorem dX4_cut_117 : decode cX4_cut 117 = .ok (.laload, 1) := by decide +kernel
theorem dX4_cut_118 : decode cX4_cut 118 = .ok (.aload_n 0, 1) := by decide +kernel
theorem dX4_cut_119 : decode cX4_cut 119 = .ok (.getfield 24, 3) := by decide +kernel
theorem dX4_cut_122 : decode cX4_cut 122 = .ok (.iload_n 1, 1) := by decide +kernel
theorem dX4_cut_123 : decode cX4_cut 123 = .ok (.laload, 1) := by decide +kernel
theorem dX4_cut_124 : decode cX4_cut 124 = .ok (.invokestatic 77, 3) := by decide +kernel
theorem dX4_cut_127 : decode cX4_cut 127 = .ok (.ifCond .ne 47, 3) := by decide +kernel
theorem dX4_cut_130 : decode cX4_cut 130 = .ok (.aload_n 0, 1) := by decide +kernel
theorem dX4_cut_131 : decode cX4_cut 131 = .ok (.getfield 20, 3) := by decide +kernel
theorem dX4_cut_134 : decode cX4_cut 134 = .ok (.iload_n 3, 1) := by decide +kernel
theorem dX4_cut_135 : decode cX4_cut 135 = .ok (.laload, 1) := by decide +kernel
theorem dX4_cut_136 : decode cX4_cut 136 = .ok (.aload_n 0, 1) := by decide +kernel
theorem dX4_cut_137 : decode cX4_cut 137 = .ok (.getfield 24, 3) := by decide +kernel
theorem dX4_cut_140 : decode cX4_cut 140 = .ok (.iload_n 3, 1) := by decide +kernel
theorem dX4_cut_141 : decode cX4_cut 141 = .ok (.laload, 1) := by decide +kernel
theorem dX4_cut_142 : decode cX4_cut 142 = .ok (.aload_n 0, 1) := by decide +kernel
theorem dX4_cut_143 : decode cX4_cut 143 = .ok (.getfield 20, 3) := by decide +kernel
theorem dX4_cut_146 : decode cX4_cut 146 = .ok (.iload 4, 2) := by decide +kernel
theorem dX4_cut_148 : decode cX4_cut 148 = .ok (.laload, 1) := by decide +kernel
theorem dX4_cut_149 : decode cX4_cut 149 = .ok (.aload_n 0, 1) := by decide +kernel
theorem dX4_cut_150 : decode cX4_cut 150 = .ok (.getfield 24, 3) := by decide +kernel
theorem dX4_cut_153 : decode cX4_cut 153 = .ok (.iload 4, 2) := by decide +kernel
theorem dX4_cut_155 : decode cX4_cut 155 = .ok (.laload, 1) := by decide +kernel
theorem dX4_cut_156 : decode cX4_cut 156 = .ok (.aload_n 0, 1) := by decide +kernel
theorem dX4_cut_157 : decode cX4_cut 157 = .ok (.getfield 20, 3) := by decide +kernel
theorem dX4_cut_160 : decode cX4_cut 160 = .ok (.iload_n 2, 1) := by decide +kernel
theorem dX4_cut_161 : decode cX4_cut 161 = .ok (.laload, 1) := by decide +kernel
theorem dX4_cut_162 : decode cX4_cut 162 = .ok (.aload_n 0, 1) := by decide +kernel
theorem dX4_cut_163 : decode cX4_cut 163 = .ok (.getfield 24, 3) := by decide +kernel
theorem dX4_cut_166 : decode cX4_cut 166 = .ok (.iload_n 2, 1) := by decide +kernel
theorem dX4_cut_167 : decode cX4_cut 167 = .ok (.laload, 1) := by decide +kernel
theorem dX4_cut_168 : decode cX4_cut 168 = .ok (.invokestatic 77, 3) := by decide +kernel
theorem dX4_cut_171 : decode cX4_cut 171 = .ok (.ifCond .eq 5, 3) := by decide +kernel
theorem dX4_cut_174 : decode cX4_cut 174 = .ok (.iconst 1, 1) := by decide +kernel
theorem dX4_cut_175 : decode cX4_cut 175 = .ok (.ireturn, 1) := by decide +kernel
theorem dX4_cut_176 : decode cX4_cut 176 = .ok (.aload_n 0, 1) := by decide +kernel
theorem dX4_cut_177 : decode cX4_cut 177 = .ok (.getfield 20, 3) := by decide +kernel
theorem dX4_cut_180 : decode cX4_cut 180 = .ok (.iload_n 1, 1) := by decide +kernel
theorem dX4_cut_181 : decode cX4_cut 181 = .ok (.laload, 1) := by decide +kernel
theorem dX4_cut_182 : decode cX4_cut 182 = .ok (.aload_n 0, 1) := by decide +kernel
theorem dX4_cut_183 : decode cX4_cut 183 = .ok (.getfield 24, 3) := by decide +kernel
theorem dX4_cut_186 : decode cX4_cut 186 = .ok (.iload_n 1, 1) := by decide +kernel
theorem dX4_cut_187 : decode cX4_cut 187 = .ok (.laload, 1) := by decide +kernel
theorem dX4_cut_188 : decode cX4_cut 188 = .ok (.aload_n 0, 1) := by decide +kernel
theorem dX4_cut_189 : decode cX4_cut 189 = .ok (.getfield 20, 3) := by decide +kernel
theorem dX4_cut_192 : decode cX4_cut 192 = .ok (.iload_n 2, 1) := by decide +kernel
theorem dX4_cut_193 : decode cX4_cut 193 = .ok (.laload, 1) := by decide +kernel
theorem dX4_cut_194 : decode cX4_cut 194 = .ok (.aload_n 0, 1) := by decide +kernel
theorem dX4_cut_195 : decode cX4_cut 195 = .ok (.getfield 24, 3) := by decide +kernel
theorem dX4_cut_198 : decode cX4_cut 198 = .ok (.iload_n 2, 1) := by decide +kernel
theorem dX4_cut_199 : decode cX4_cut 199 = .ok (.laload, 1) := by decide +kernel
theorem dX4_cut_200 : decode cX4_cut 200 = .ok (.aload_n 0, 1) := by decide +kernel
theorem dX4_cut_201 : decode cX4_cut 201 = .ok (.getfield 20, 3) := by decide +kernel
theorem dX4_cut_204 : decode cX4_cut 204 = .ok (.iload_n 3, 1) := by decide +kernel
theorem dX4_cut_205 : decode cX4_cut 205 = .ok (.laload, 1) := by decide +kernel
theorem dX4_cut_206 : decode cX4_cut 206 = .ok (.aload_n 0, 1) := by decide +kernel
theorem dX4_cut_207 : decode cX4_cut 207 = .ok (.getfield 24, 3) := by decide +kernel
theorem dX4_cut_210 : decode cX4_cut 210 = .ok (.iload_n 3, 1) := by decide +kernel
theorem dX4_cut_211 : decode cX4_cut 211 = .ok (.laload, 1) := by decide +kernel
theorem dX4_cut_212 : decode cX4_cut 212 = .ok (.invokestatic 69, 3) := by decide +kernel
theorem dX4_cut_215 : decode cX4_cut 215 = .ok (.aload_n 0, 1) := by decide +kernel
theorem dX4_cut_216 : decode cX4_cut 216 = .ok (.getfield 20, 3) := by decide +kernel
theorem dX4_cut_219 : decode cX4_cut 219 = .ok (.iload_n 1, 1) := by decide +kernel
theorem dX4_cut_220 : decode cX4_cut 220 = .ok (.laload, 1) := by decide +kernel
theorem dX4_cut_221 : decode cX4_cut 221 = .ok (.aload_n 0, 1) := by decide +kernel
theorem dX4_cut_222 : decode cX4_cut 222 = .ok (.getfield 24, 3) := by decide +kernel
theorem dX4_cut_225 : decode cX4_cut 225 = .ok (.iload_n 1, 1) := by decide +kernel
theorem dX4_cut_226 : decode cX4_cut 226 = .ok (.laload, 1) := by decide +kernel
theorem dX4_cut_227 : decode cX4_cut 227 = .ok (.aload_n 0, 1) := by decide +kernel
theorem dX4_cut_228 : decode cX4_cut 228 = .ok (.getfield 20, 3) := by decide +kernel
theorem dX4_cut_231 : decode cX4_cut 231 = .ok (.iload_n 2, 1) := by decide +kernel
theorem dX4_cut_232 : decode cX4_cut 232 = .ok (.laload, 1) := by decide +kernel
theorem dX4_cut_233 : decode cX4_cut 233 = .ok (.aload_n 0, 1) := by decide +kernel
theorem dX4_cut_234 : decode cX4_cut 234 = .ok (.getfield 24, 3) := by decide +kernel
theorem dX4_cut_237 : decode cX4_cut 237 = .ok (.iload_n 2, 1) := by decide +kernel
theorem dX4_cut_238 : decode cX4_cut 238 = .ok (.laload, 1) := by decide +kernel
theorem dX4_cut_239 : decode cX4_cut 239 = .ok (.aload_n 0, 1) := by decide +kernel
theorem dX4_cut_240 : decode cX4_cut 240 = .ok (.getfield 20, 3) := by decide +kernel
theorem dX4_cut_243 : decode cX4_cut 243 = .ok (.iload 4, 2) := by decide +kernel
theorem dX4_cut_245 : decode cX4_cut 245 = .ok (.laload, 1) := by decide +kernel
theorem dX4_cut_246 : decode cX4_cut 246 = .ok (.aload_n 0, 1) := by decide +kernel
theorem dX4_cut_247 : decode cX4_cut 247 = .ok (.getfield 24, 3) := by decide +kernel
theorem dX4_cut_250 : decode cX4_cut 250 = .ok (.iload 4, 2) := by decide +kernel
theorem dX4_cut_252 : decode cX4_cut 252 = .ok (.laload, 1) := by decide +kernel
theorem dX4_cut_253 : decode cX4_cut 253 = .ok (.invokestatic 69, 3) := by decide +kernel
theorem dX4_cut_256 : decode cX4_cut 256 = .ok (.imul, 1) := by decide +kernel
theorem dX4_cut_257 : decode cX4_cut 257 = .ok (.istore 5, 2) := by decide +kernel
theorem dX4_cut_259 : decode cX4_cut 259 = .ok (.aload_n 0, 1) := by decide +kernel
theorem dX4_cut_260 : decode cX4_cut 260 = .ok (.getfield 20, 3) := by decide +kernel
theorem dX4_cut_263 : decode cX4_cut 263 = .ok (.iload_n 3, 1) := by decide +kernel
theorem dX4_cut_264 : decode cX4_cut 264 = .ok (.laload, 1) := by decide +kernel
theorem dX4_cut_265 : decode cX4_cut 265 = .ok (.aload_n 0, 1) := by decide +kernel
theorem dX4_cut_266 : decode cX4_cut 266 = .ok (.getfield 24, 3) := by decide +kernel
theorem dX4_cut_269 : decode cX4_cut 269 = .ok (.iload_n 3, 1) := by decide +kernel
theorem dX4_cut_270 : decode cX4_cut 270 = .ok (.laload, 1) := by decide +kernel
theorem dX4_cut_271 : decode cX4_cut 271 = .ok (.aload_n 0, 1) := by decide +kernel
theorem dX4_cut_272 : decode cX4_cut 272 = .ok (.getfield 20, 3) := by decide +kernel
theorem dX4_cut_275 : decode cX4_cut 275 = .ok (.iload 4, 2) := by decide +kernel
theorem dX4_cut_277 : decode cX4_cut 277 = .ok (.laload, 1) := by decide +kernel
theorem dX4_cut_278 : decode cX4_cut 278 = .ok (.aload_n 0, 1) := by decide +kernel
theorem dX4_cut_279 : decode cX4_cut 279 = .ok (.getfield 24, 3) := by decide +kernel
theorem dX4_cut_282 : decode cX4_cut 282 = .ok (.iload 4, 2) := by decide +kernel
theorem dX4_cut_284 : decode cX4_cut 284 = .ok (.laload, 1) := by decide +kernel
theorem dX4_cut_285 : decode cX4_cut 285 = .ok (.aload_n 0, 1) := by decide +kernel
theorem dX4_cut_286 : decode cX4_cut 286 = .ok (.getfield 20, 3) := by decide +kernel
theorem dX4_cut_289 : decode cX4_cut 289 = .ok (.iload_n 1, 1) := by decide +kernel
theorem dX4_cut_290 : decode cX4_cut 290 = .ok (.laload, 1) := by decide +kernel
theorem dX4_cut_291 : decode cX4_cut 291 = .ok (.aload_n 0, 1) := by decide +kernel
theorem dX4_cut_292 : decode cX4_cut 292 = .ok (.getfield 24, 3) := by decide +kernel
theorem dX4_cut_295 : decode cX4_cut 295 = .ok (.iload_n 1, 1) := by decide +kernel
theorem dX4_cut_296 : decode cX4_cut 296 = .ok (.laload, 1) := by decide +kernel
theorem dX4_cut_297 : decode cX4_cut 297 = .ok (.invokestatic 69, 3) := by decide +kernel
theorem dX4_cut_300 : decode cX4_cut 300 = .ok (.aload_n 0, 1) := by decide +kernel
theorem dX4_cut_301 : decode cX4_cut 301 = .ok (.getfield 20, 3) := by decide +kernel
theorem dX4_cut_304 : decode cX4_cut 304 = .ok (.iload_n 3, 1) := by decide +kernel
theorem dX4_cut_305 : decode cX4_cut 305 = .ok (.laload, 1) := by decide +kernel
theorem dX4_cut_306 : decode cX4_cut 306 = .ok (.aload_n 0, 1) := by decide +kernel
theorem dX4_cut_307 : decode cX4_cut 307 = .ok (.getfield 24, 3) := by decide +kernel
theorem dX4_cut_310 : decode cX4_cut 310 = .ok (.iload_n 3, 1) := by decide +kernel
theorem dX4_cut_311 : decode cX4_cut 311 = .ok (.laload, 1) := by decide +kernel
theorem dX4_cut_312 : decode cX4_cut 312 = .ok (.aload_n 0, 1) := by decide +kernel
theorem dX4_cut_313 : decode cX4_cut 313 = .ok (.getfield 20, 3) := by decide +kernel
theorem dX4_cut_316 : decode cX4_cut 316 = .ok (.iload 4, 2) := by decide +kernel
theorem dX4_cut_318 : decode cX4_cut 318 = .ok (.laload, 1) := by decide +kernel
theorem dX4_cut_319 : decode cX4_cut 319 = .ok (.aload_n 0, 1) := by decide +kernel
theorem dX4_cut_320 : decode cX4_cut 320 = .ok (.getfield 24, 3) := by decide +kernel
theorem dX4_cut_323 : decode cX4_cut 323 = .ok (.iload 4, 2) := by decide +kernel
theorem dX4_cut_325 : decode cX4_cut 325 = .ok (.laload, 1) := by decide +kernel
theorem dX4_cut_326 : decode cX4_cut 326 = .ok (.aload_n 0, 1) := by decide +kernel
theorem dX4_cut_327 : decode cX4_cut 327 = .ok (.getfield 20, 3) := by decide +kernel
theorem dX4_cut_330 : decode cX4_cut 330 = .ok (.iload_n 2, 1) := by decide +kernel
theorem dX4_cut_331 : decode cX4_cut 331 = .ok (.laload, 1) := by decide +kernel
theorem dX4_cut_332 : decode cX4_cut 332 = .ok (.aload_n 0, 1) := by decide +kernel
theorem dX4_cut_333 : decode cX4_cut 333 = .ok (.getfield 24, 3) := by decide +kernel
theorem dX4_cut_336 : decode cX4_cut 336 = .ok (.iload_n 2, 1) := by decide +kernel
theorem dX4_cut_337 : decode cX4_cut 337 = .ok (.laload, 1) := by decide +kernel
theorem dX4_cut_338 : decode cX4_cut 338 = .ok (.invokestatic 69, 3) := by decide +kernel
theorem dX4_cut_341 : decode cX4_cut 341 = .ok (.imul, 1) := by decide +kernel
theorem dX4_cut_342 : decode cX4_cut 342 = .ok (.istore 6, 2) := by decide +kernel
theorem dX4_cut_344 : decode cX4_cut 344 = .ok (.iload 5, 2) := by decide +kernel
theorem dX4_cut_346 : decode cX4_cut 346 = .ok (.ifCond .ge 12, 3) := by decide +kernel
theorem dX4_cut_349 : decode cX4_cut 349 = .ok (.iload 6, 2) := by decide +kernel
theorem dX4_cut_351 : decode cX4_cut 351 = .ok (.ifCond .ge 7, 3) := by decide +kernel
theorem dX4_cut_354 : decode cX4_cut 354 = .ok (.iconst 1, 1) := by decide +kernel
theorem dX4_cut_355 : decode cX4_cut 355 = .ok (.goto 4, 3) := by decide +kernel
theorem dX4_cut_358 : decode cX4_cut 358 = .ok (.iconst 0, 1) := by decide +kernel
theorem dX4_cut_359 : decode cX4_cut 359 = .ok (.ireturn, 1) := by decide +kernel
set_option maxRecDepth 20000 in
theorem ggX4_folds_X4_cross : GoodIn wsX4_folds wsX4_cross := goodIn_r _ [6] (by decide +kernel) (by decide +kernel)
set_option maxRecDepth 20000 in
theorem gX4_folds_X4_cross : GoodIn wsX4_folds (va_wsS RX4 65 yX4_cross wsX4_cross) := goodIn_app (goodIn_of _ (by decide +kernel)) ggX4_folds_X4_cross
theorem dX4_folds_0 : decode cX4_folds 0 = .ok (.aload_n 0, 1) := by decide +kernel
theorem dX4_folds_1 : decode cX4_folds 1 = .ok (.getfield 20, 3) := by decide +kernel
theorem dX4_folds_4 : decode cX4_folds 4 = .ok (.iload_n 1, 1) := by decide +kernel
theorem dX4_folds_5 : decode cX4_folds 5 = .ok (.laload, 1) := by decide +kernel
theorem dX4_folds_6 : decode cX4_folds 6 = .ok (.aload_n 0, 1) := by decide +kernel
theorem dX4_folds_7 : decode cX4_folds 7 = .ok (.getfield 20, 3) := by decide +kernel
theorem dX4_folds_10 : decode cX4_folds 10 = .ok (.iload_n 2, 1) := by decide +kernel
theorem dX4_folds_11 : decode cX4_folds 11 = .ok (.laload, 1) := by decide +kernel
theorem dX4_folds_12 : decode cX4_folds 12 = .ok (.lsub, 1) := by decide +kernel
theorem dX4_folds_13 : decode cX4_folds 13 = .ok (.lstore 4, 2) := by decide +kernel
theorem dX4_folds_15 : decode cX4_folds 15 = .ok (.aload_n 0, 1) := by decide +kernel
theorem dX4_folds_16 : decode cX4_folds 16 = .ok (.getfield 24, 3) := by decide +kernel
theorem dX4_folds_19 : decode cX4_folds 19 = .ok (.iload_n 1, 1) := by decide +kernel
theorem dX4_folds_20 : decode cX4_folds 20 = .ok (.laload, 1) := by decide +kernel
theorem dX4_folds_21 : decode cX4_folds 21 = .ok (.aload_n 0, 1) := by decide +kernel
theorem dX4_folds_22 : decode cX4_folds 22 = .ok (.getfield 24, 3) := by decide +kernel
theorem dX4_folds_25 : decode cX4_folds 25 = .ok (.iload_n 2, 1) := by decide +kernel
theorem dX4_folds_26 : decode cX4_folds 26 = .ok (.laload, 1) := by decide +kernel
theorem dX4_folds_27 : decode cX4_folds 27 = .ok (.lsub, 1) := by decide +kernel
theorem dX4_folds_28 : decode cX4_folds 28 = .ok (.lstore 6, 2) := by decide +kernel
theorem dX4_folds_30 : decode cX4_folds 30 = .ok (.aload_n 0, 1) := by decide +kernel
theorem dX4_folds_31 : decode cX4_folds 31 = .ok (.getfield 20, 3) := by decide +kernel
theorem dX4_folds_34 : decode cX4_folds 34 = .ok (.iload_n 3, 1) := by decide +kernel
theorem dX4_folds_35 : decode cX4_folds 35 = .ok (.laload, 1) := by decide +kernel
theorem dX4_folds_36 : decode cX4_folds 36 = .ok (.aload_n 0, 1) := by decide +kernel
theorem dX4_folds_37 : decode cX4_folds 37 = .ok (.getfield 20, 3) := by decide +kernel
theorem dX4_folds_40 : decode cX4_folds 40 = .ok (.iload_n 2, 1) := by decide +kernel
theorem dX4_folds_41 : decode cX4_folds 41 = .ok (.laload, 1) := by decide +kernel
theorem dX4_folds_42 : decode cX4_folds 42 = .ok (.lsub, 1) := by decide +kernel
theorem dX4_folds_43 : decode cX4_folds 43 = .ok (.lstore 8, 2) := by decide +kernel
theorem dX4_folds_45 : decode cX4_folds 45 = .ok (.aload_n 0, 1) := by decide +kernel
theorem dX4_folds_46 : decode cX4_folds 46 = .ok (.getfield 24, 3) := by decide +kernel
theorem dX4_folds_49 : decode cX4_folds 49 = .ok (.iload_n 3, 1) := by decide +kernel
theorem dX4_folds_50 : decode cX4_folds 50 = .ok (.laload, 1) := by decide +kernel
theorem dX4_folds_51 : decode cX4_folds 51 = .ok (.aload_n 0, 1) := by decide +kernel
theorem dX4_folds_52 : decode cX4_folds 52 = .ok (.getfield 24, 3) := by decide +kernel
theorem dX4_folds_55 : decode cX4_folds 55 = .ok (.iload_n 2, 1) := by decide +kernel
theorem dX4_folds_56 : decode cX4_folds 56 = .ok (.laload, 1) := by decide +kernel
theorem dX4_folds_57 : decode cX4_folds 57 = .ok (.lsub, 1) := by decide +kernel
theorem dX4_folds_58 : decode cX4_folds 58 = .ok (.lstore 10, 2) := by decide +kernel
theorem dX4_folds_60 : decode cX4_folds 60 = .ok (.lload 4, 2) := by decide +kernel
theorem dX4_folds_62 : decode cX4_folds 62 = .ok (.lload 6, 2) := by decide +kernel
theorem dX4_folds_64 : decode cX4_folds 64 = .ok (.lload 8, 2) := by decide +kernel
theorem dX4_folds_66 : decode cX4_folds 66 = .ok (.lload 10, 2) := by decide +kernel
theorem dX4_folds_68 : decode cX4_folds 68 = .ok (.invokestatic 65, 3) := by decide +kernel
theorem dX4_folds_71 : decode cX4_folds 71 = .ok (.lconst 0, 1) := by decide +kernel
theorem dX4_folds_72 : decode cX4_folds 72 = .ok (.lcmp, 1) := by decide +kernel
theorem dX4_folds_73 : decode cX4_folds 73 = .ok (.ifCond .ne 23, 3) := by decide +kernel
theorem dX4_folds_76 : decode cX4_folds 76 = .ok (.lload 4, 2) := by decide +kernel
theorem dX4_folds_78 : decode cX4_folds 78 = .ok (.lload 8, 2) := by decide +kernel
theorem dX4_folds_80 : decode cX4_folds 80 = .ok (.lmul, 1) := by decide +kernel
theorem dX4_folds_81 : decode cX4_folds 81 = .ok (.lload 6, 2) := by decide +kernel
theorem dX4_folds_83 : decode cX4_folds 83 = .ok (.lload 10, 2) := by decide +kernel
theorem dX4_folds_85 : decode cX4_folds 85 = .ok (.lmul, 1) := by decide +kernel
theorem dX4_folds_86 : decode cX4_folds 86 = .ok (.ladd, 1) := by decide +kernel
theorem dX4_folds_87 : decode cX4_folds 87 = .ok (.lconst 0, 1) := by decide +kernel
theorem dX4_folds_88 : decode cX4_folds 88 = .ok (.lcmp, 1) := by decide +kernel
theorem dX4_folds_89 : decode cX4_folds 89 = .ok (.ifCond .le 7, 3) := by decide +kernel
theorem dX4_folds_92 : decode cX4_folds 92 = .ok (.iconst 1, 1) := by decide +kernel
theorem dX4_folds_93 : decode cX4_folds 93 = .ok (.goto 4, 3) := by decide +kernel
theorem dX4_folds_96 : decode cX4_folds 96 = .ok (.iconst 0, 1) := by decide +kernel
theorem dX4_folds_97 : decode cX4_folds 97 = .ok (.ireturn, 1) := by decide +kernel
set_option maxRecDepth 20000 in
theorem ggX4_isWrong_X4_from : GoodIn wsX4_isWrong wsX4_from := goodIn_r _ [9] (by decide +kernel) (by decide +kernel)
set_option maxRecDepth 20000 in
theorem gX4_isWrong_X4_from : GoodIn wsX4_isWrong (wsV RX4 81 RX4 yX4_from wsX4_from) := goodIn_app (goodIn_of _ (by decide +kernel)) ggX4_isWrong_X4_from
set_option maxRecDepth 20000 in
theorem ggX4_isWrong_X4_to : GoodIn wsX4_isWrong wsX4_to := goodIn_r _ [13, 3, 4, 34, 35, 36, 37, 38, 39, 40, 41, 42, 43, 44, 45, 46, 47, 48] (by decide +kernel) (by decide +kernel)
set_option maxRecDepth 20000 in
theorem gX4_isWrong_X4_to : GoodIn wsX4_isWrong (wsV RX4 85 RX4 yX4_to wsX4_to) := goodIn_app (goodIn_of _ (by decide +kernel)) ggX4_isWrong_X4_to
set_option maxRecDepth 20000 in
theorem ggX4_isWrong_X4_folds : GoodIn wsX4_isWrong wsX4_folds := goodIn_r _ [17, 1, 2, 18, 19, 8, 20, 34, 35, 36, 37, 38, 39, 40, 41, 42, 43, 44, 45, 46, 47, 48] (by decide +kernel) (by decide +kernel)
set_option maxRecDepth 20000 in
theorem gX4_isWrong_X4_folds : GoodIn wsX4_isWrong (wsV RX4 88 RX4 yX4_folds wsX4_folds) := goodIn_app (goodIn_of _ (by decide +kernel)) ggX4_isWrong_X4_folds
set_option maxRecDepth 20000 in
theorem ggX4_isWrong_X4_cut : GoodIn wsX4_isWrong wsX4_cut := goodIn_r _ [24, 1, 2, 25, 26, 8, 27, 28, 29, 30, 18, 19, 20, 31, 32, 33, 34, 35, 36, 37, 38, 39, 40, 41, 42, 43, 44, 45, 46, 47, 48] (by decide +kernel) (by decide +kernel)
set_option maxRecDepth 20000 in
theorem gX4_isWrong_X4_cut : GoodIn wsX4_isWrong (wsV RX4 92 RX4 yX4_cut wsX4_cut) := goodIn_app (goodIn_of _ (by decide +kernel)) ggX4_isWrong_X4_cut
theorem dX4_isWrong_0 : decode cX4_isWrong 0 = .ok (.aload_n 0, 1) := by decide +kernel
theorem dX4_isWrong_1 : decode cX4_isWrong 1 = .ok (.iload_n 1, 1) := by decide +kernel
theorem dX4_isWrong_2 : decode cX4_isWrong 2 = .ok (.iload_n 2, 1) := by decide +kernel
theorem dX4_isWrong_3 : decode cX4_isWrong 3 = .ok (.invokevirtual 81, 3) := by decide +kernel
theorem dX4_isWrong_6 : decode cX4_isWrong 6 = .ok (.istore_n 3, 1) := by decide +kernel
theorem dX4_isWrong_7 : decode cX4_isWrong 7 = .ok (.aload_n 0, 1) := by decide +kernel
theorem dX4_isWrong_8 : decode cX4_isWrong 8 = .ok (.iload_n 1, 1) := by decide +kernel
theorem dX4_isWrong_9 : decode cX4_isWrong 9 = .ok (.iload_n 2, 1) := by decide +kernel
theorem dX4_isWrong_10 : decode cX4_isWrong 10 = .ok (.invokevirtual 85, 3) := by decide +kernel
theorem dX4_isWrong_13 : decode cX4_isWrong 13 = .ok (.istore 4, 2) := by decide +kernel
theorem dX4_isWrong_15 : decode cX4_isWrong 15 = .ok (.aload_n 0, 1) := by decide +kernel
theorem dX4_isWrong_16 : decode cX4_isWrong 16 = .ok (.getfield 20, 3) := by decide +kernel
theorem dX4_isWrong_19 : decode cX4_isWrong 19 = .ok (.iload_n 3, 1) := by decide +kernel
theorem dX4_isWrong_20 : decode cX4_isWrong 20 = .ok (.laload, 1) := by decide +kernel
theorem dX4_isWrong_21 : decode cX4_isWrong 21 = .ok (.aload_n 0, 1) := by decide +kernel
theorem dX4_isWrong_22 : decode cX4_isWrong 22 = .ok (.getfield 20, 3) := by decide +kernel
theorem dX4_isWrong_25 : decode cX4_isWrong 25 = .ok (.iload 4, 2) := by decide +kernel
theorem dX4_isWrong_27 : decode cX4_isWrong 27 = .ok (.laload, 1) := by decide +kernel
theorem dX4_isWrong_28 : decode cX4_isWrong 28 = .ok (.lcmp, 1) := by decide +kernel
theorem dX4_isWrong_29 : decode cX4_isWrong 29 = .ok (.ifCond .ne 22, 3) := by decide +kernel
theorem dX4_isWrong_32 : decode cX4_isWrong 32 = .ok (.aload_n 0, 1) := by decide +kernel
theorem dX4_isWrong_33 : decode cX4_isWrong 33 = .ok (.getfield 24, 3) := by decide +kernel
theorem dX4_isWrong_36 : decode cX4_isWrong 36 = .ok (.iload_n 3, 1) := by decide +kernel
theorem dX4_isWrong_37 : decode cX4_isWrong 37 = .ok (.laload, 1) := by decide +kernel
theorem dX4_isWrong_38 : decode cX4_isWrong 38 = .ok (.aload_n 0, 1) := by decide +kernel
theorem dX4_isWrong_39 : decode cX4_isWrong 39 = .ok (.getfield 24, 3) := by decide +kernel
theorem dX4_isWrong_42 : decode cX4_isWrong 42 = .ok (.iload 4, 2) := by decide +kernel
theorem dX4_isWrong_44 : decode cX4_isWrong 44 = .ok (.laload, 1) := by decide +kernel
theorem dX4_isWrong_45 : decode cX4_isWrong 45 = .ok (.lcmp, 1) := by decide +kernel
theorem dX4_isWrong_46 : decode cX4_isWrong 46 = .ok (.ifCond .ne 5, 3) := by decide +kernel
theorem dX4_isWrong_49 : decode cX4_isWrong 49 = .ok (.iconst 1, 1) := by decide +kernel
theorem dX4_isWrong_50 : decode cX4_isWrong 50 = .ok (.ireturn, 1) := by decide +kernel
theorem dX4_isWrong_51 : decode cX4_isWrong 51 = .ok (.aload_n 0, 1) := by decide +kernel
theorem dX4_isWrong_52 : decode cX4_isWrong 52 = .ok (.getfield 13, 3) := by decide +kernel
theorem dX4_isWrong_55 : decode cX4_isWrong 55 = .ok (.iload_n 1, 1) := by decide +kernel
theorem dX4_isWrong_56 : decode cX4_isWrong 56 = .ok (.iaload, 1) := by decide +kernel
theorem dX4_isWrong_57 : decode cX4_isWrong 57 = .ok (.iconst 2, 1) := by decide +kernel
theorem dX4_isWrong_58 : decode cX4_isWrong 58 = .ok (.if_icmp .ne 5, 3) := by decide +kernel
theorem dX4_isWrong_61 : decode cX4_isWrong 61 = .ok (.iconst 0, 1) := by decide +kernel
theorem dX4_isWrong_62 : decode cX4_isWrong 62 = .ok (.ireturn, 1) := by decide +kernel
theorem dX4_isWrong_63 : decode cX4_isWrong 63 = .ok (.aload_n 0, 1) := by decide +kernel
theorem dX4_isWrong_64 : decode cX4_isWrong 64 = .ok (.getfield 17, 3) := by decide +kernel
theorem dX4_isWrong_67 : decode cX4_isWrong 67 = .ok (.iload_n 1, 1) := by decide +kernel
theorem dX4_isWrong_68 : decode cX4_isWrong 68 = .ok (.iaload, 1) := by decide +kernel
theorem dX4_isWrong_69 : decode cX4_isWrong 69 = .ok (.istore 5, 2) := by decide +kernel
theorem dX4_isWrong_71 : decode cX4_isWrong 71 = .ok (.iconst 0, 1) := by decide +kernel
theorem dX4_isWrong_72 : decode cX4_isWrong 72 = .ok (.istore 6, 2) := by decide +kernel
theorem dX4_isWrong_74 : decode cX4_isWrong 74 = .ok (.iload 6, 2) := by decide +kernel
theorem dX4_isWrong_76 : decode cX4_isWrong 76 = .ok (.iload 5, 2) := by decide +kernel
theorem dX4_isWrong_78 : decode cX4_isWrong 78 = .ok (.if_icmp .ge 128, 3) := by decide +kernel
theorem dX4_isWrong_81 : decode cX4_isWrong 81 = .ok (.iload 6, 2) := by decide +kernel
theorem dX4_isWrong_83 : decode cX4_isWrong 83 = .ok (.iload_n 2, 1) := by decide +kernel
theorem dX4_isWrong_84 : decode cX4_isWrong 84 = .ok (.if_icmp .ne 6, 3) := by decide +kernel
theorem dX4_isWrong_87 : decode cX4_isWrong 87 = .ok (.goto 113, 3) := by decide +kernel
theorem dX4_isWrong_90 : decode cX4_isWrong 90 = .ok (.iload_n 2, 1) := by decide +kernel
theorem dX4_isWrong_91 : decode cX4_isWrong 91 = .ok (.iconst 1, 1) := by decide +kernel
theorem dX4_isWrong_92 : decode cX4_isWrong 92 = .ok (.iadd, 1) := by decide +kernel
theorem dX4_isWrong_93 : decode cX4_isWrong 93 = .ok (.iload 5, 2) := by decide +kernel
theorem dX4_isWrong_95 : decode cX4_isWrong 95 = .ok (.irem, 1) := by decide +kernel
theorem dX4_isWrong_96 : decode cX4_isWrong 96 = .ok (.iload 6, 2) := by decide +kernel
theorem dX4_isWrong_98 : decode cX4_isWrong 98 = .ok (.if_icmp .ne 7, 3) := by decide +kernel
theorem dX4_isWrong_101 : decode cX4_isWrong 101 = .ok (.iconst 1, 1) := by decide +kernel
theorem dX4_isWrong_102 : decode cX4_isWrong 102 = .ok (.goto 4, 3) := by decide +kernel
theorem dX4_isWrong_105 : decode cX4_isWrong 105 = .ok (.iconst 0, 1) := by decide +kernel
theorem dX4_isWrong_106 : decode cX4_isWrong 106 = .ok (.istore 7, 2) := by decide +kernel
theorem dX4_isWrong_108 : decode cX4_isWrong 108 = .ok (.iload 6, 2) := by decide +kernel
theorem dX4_isWrong_110 : decode cX4_isWrong 110 = .ok (.iconst 1, 1) := by decide +kernel
theorem dX4_isWrong_111 : decode cX4_isWrong 111 = .ok (.iadd, 1) := by decide +kernel
theorem dX4_isWrong_112 : decode cX4_isWrong 112 = .ok (.iload 5, 2) := by decide +kernel
theorem dX4_isWrong_114 : decode cX4_isWrong 114 = .ok (.irem, 1) := by decide +kernel
theorem dX4_isWrong_115 : decode cX4_isWrong 115 = .ok (.iload_n 2, 1) := by decide +kernel
theorem dX4_isWrong_116 : decode cX4_isWrong 116 = .ok (.if_icmp .ne 7, 3) := by decide +kernel
theorem dX4_isWrong_119 : decode cX4_isWrong 119 = .ok (.iconst 1, 1) := by decide +kernel
theorem dX4_isWrong_120 : decode cX4_isWrong 120 = .ok (.goto 4, 3) := by decide +kernel
theorem dX4_isWrong_123 : decode cX4_isWrong 123 = .ok (.iconst 0, 1) := by decide +kernel
theorem dX4_isWrong_124 : decode cX4_isWrong 124 = .ok (.istore 8, 2) := by decide +kernel
theorem dX4_isWrong_126 : decode cX4_isWrong 126 = .ok (.iload 7, 2) := by decide +kernel
theorem dX4_isWrong_128 : decode cX4_isWrong 128 = .ok (.ifCond .eq 20, 3) := by decide +kernel
theorem dX4_isWrong_131 : decode cX4_isWrong 131 = .ok (.aload_n 0, 1) := by decide +kernel
theorem dX4_isWrong_132 : decode cX4_isWrong 132 = .ok (.iload_n 3, 1) := by decide +kernel
theorem dX4_isWrong_133 : decode cX4_isWrong 133 = .ok (.iload 4, 2) := by decide +kernel
theorem dX4_isWrong_135 : decode cX4_isWrong 135 = .ok (.aload_n 0, 1) := by decide +kernel
theorem dX4_isWrong_136 : decode cX4_isWrong 136 = .ok (.iload_n 1, 1) := by decide +kernel
theorem dX4_isWrong_137 : decode cX4_isWrong 137 = .ok (.iload 6, 2) := by decide +kernel
theorem dX4_isWrong_139 : decode cX4_isWrong 139 = .ok (.invokevirtual 85, 3) := by decide +kernel
theorem dX4_isWrong_142 : decode cX4_isWrong 142 = .ok (.invokevirtual 88, 3) := by decide +kernel
theorem dX4_isWrong_145 : decode cX4_isWrong 145 = .ok (.goto 46, 3) := by decide +kernel
theorem dX4_isWrong_148 : decode cX4_isWrong 148 = .ok (.iload 8, 2) := by decide +kernel
theorem dX4_isWrong_150 : decode cX4_isWrong 150 = .ok (.ifCond .eq 20, 3) := by decide +kernel
theorem dX4_isWrong_153 : decode cX4_isWrong 153 = .ok (.aload_n 0, 1) := by decide +kernel
theorem dX4_isWrong_154 : decode cX4_isWrong 154 = .ok (.aload_n 0, 1) := by decide +kernel
theorem dX4_isWrong_155 : decode cX4_isWrong 155 = .ok (.iload_n 1, 1) := by decide +kernel
theorem dX4_isWrong_156 : decode cX4_isWrong 156 = .ok (.iload 6, 2) := by decide +kernel
theorem dX4_isWrong_158 : decode cX4_isWrong 158 = .ok (.invokevirtual 81, 3) := by decide +kernel
theorem dX4_isWrong_161 : decode cX4_isWrong 161 = .ok (.iload_n 3, 1) := by decide +kernel
theorem dX4_isWrong_162 : decode cX4_isWrong 162 = .ok (.iload 4, 2) := by decide +kernel
theorem dX4_isWrong_164 : decode cX4_isWrong 164 = .ok (.invokevirtual 88, 3) := by decide +kernel
theorem dX4_isWrong_167 : decode cX4_isWrong 167 = .ok (.goto 24, 3) := by decide +kernel
theorem dX4_isWrong_170 : decode cX4_isWrong 170 = .ok (.aload_n 0, 1) := by decide +kernel
theorem dX4_isWrong_171 : decode cX4_isWrong 171 = .ok (.iload_n 3, 1) := by decide +kernel
theorem dX4_isWrong_172 : decode cX4_isWrong 172 = .ok (.iload 4, 2) := by decide +kernel
theorem dX4_isWrong_174 : decode cX4_isWrong 174 = .ok (.aload_n 0, 1) := by decide +kernel
theorem dX4_isWrong_175 : decode cX4_isWrong 175 = .ok (.iload_n 1, 1) := by decide +kernel
theorem dX4_isWrong_176 : decode cX4_isWrong 176 = .ok (.iload 6, 2) := by decide +kernel
theorem dX4_isWrong_178 : decode cX4_isWrong 178 = .ok (.invokevirtual 81, 3) := by decide +kernel
theorem dX4_isWrong_181 : decode cX4_isWrong 181 = .ok (.aload_n 0, 1) := by decide +kernel
theorem dX4_isWrong_182 : decode cX4_isWrong 182 = .ok (.iload_n 1, 1) := by decide +kernel
theorem dX4_isWrong_183 : decode cX4_isWrong 183 = .ok (.iload 6, 2) := by decide +kernel
theorem dX4_isWrong_185 : decode cX4_isWrong 185 = .ok (.invokevirtual 85, 3) := by decide +kernel
theorem dX4_isWrong_188 : decode cX4_isWrong 188 = .ok (.invokevirtual 92, 3) := by decide +kernel
theorem dX4_isWrong_191 : decode cX4_isWrong 191 = .ok (.istore 9, 2) := by decide +kernel
theorem dX4_isWrong_193 : decode cX4_isWrong 193 = .ok (.iload 9, 2) := by decide +kernel
theorem dX4_isWrong_195 : decode cX4_isWrong 195 = .ok (.ifCond .eq 5, 3) := by decide +kernel
theorem dX4_isWrong_198 : decode cX4_isWrong 198 = .ok (.iconst 1, 1) := by decide +kernel
theorem dX4_isWrong_199 : decode cX4_isWrong 199 = .ok (.ireturn, 1) := by decide +kernel
theorem dX4_isWrong_200 : decode cX4_isWrong 200 = .ok (.iinc 6 1, 3) := by decide +kernel
theorem dX4_isWrong_203 : decode cX4_isWrong 203 = .ok (.goto (-129), 3) := by decide +kernel
theorem dX4_isWrong_206 : decode cX4_isWrong 206 = .ok (.iconst 0, 1) := by decide +kernel
theorem dX4_isWrong_207 : decode cX4_isWrong 207 = .ok (.ireturn, 1) := by decide +kernel
set_option maxRecDepth 20000 in
theorem ggX4_check_X4_isShape : GoodIn wsX4_check wsX4_isShape := goodIn_r _ [8, 9, 2, 48, 49, 50, 51, 52, 53, 54, 55, 56, 57, 58, 59, 60, 61, 62] (by decide +kernel) (by decide +kernel)
set_option maxRecDepth 20000 in
theorem gX4_check_X4_isShape : GoodIn wsX4_check (wsV RX4 58 RX4 yX4_isShape wsX4_isShape) := goodIn_app (goodIn_of _ (by decide +kernel)) ggX4_check_X4_isShape
set_option maxRecDepth 20000 in
theorem ggX4_check_X4_sides : GoodIn wsX4_check wsX4_sides := goodIn_r _ [13, 2, 3, 48, 49, 50, 51, 52, 53, 54, 55, 56, 57, 58, 59, 60, 61, 62] (by decide +kernel) (by decide +kernel)
set_option maxRecDepth 20000 in
theorem gX4_check_X4_sides : GoodIn wsX4_check (wsV RX4 96 RX4 yX4_sides wsX4_sides) := goodIn_app (goodIn_of _ (by decide +kernel)) ggX4_check_X4_sides
set_option maxRecDepth 20000 in
theorem ggX4_check_X4_isWrong : GoodIn wsX4_check wsX4_isWrong := goodIn_r _ [17, 18, 19, 2, 3, 20, 21, 22, 7, 23, 24, 25, 26, 27, 28, 29, 30, 31, 32, 33, 34, 35, 36, 37, 38, 39, 40, 41, 42, 43, 44, 45, 46, 47, 48, 49, 50, 51, 52, 53, 54, 55, 56, 57, 58, 59, 60, 61, 62] (by decide +kernel) (by decide +kernel)
set_option maxRecDepth 20000 in
theorem gX4_check_X4_isWrong : GoodIn wsX4_check (wsV RX4 99 RX4 yX4_isWrong wsX4_isWrong) := goodIn_app (goodIn_of _ (by decide +kernel)) ggX4_check_X4_isWrong
theorem dX4_check_0 : decode cX4_check 0 = .ok (.aload_n 0, 1) := by decide +kernel
theorem dX4_check_1 : decode cX4_check 1 = .ok (.iconst 0, 1) := by decide +kernel
theorem dX4_check_2 : decode cX4_check 2 = .ok (.putfield 1, 3) := by decide +kernel
theorem dX4_check_5 : decode cX4_check 5 = .ok (.aload_n 0, 1) := by decide +kernel
theorem dX4_check_6 : decode cX4_check 6 = .ok (.iload_n 1, 1) := by decide +kernel
theorem dX4_check_7 : decode cX4_check 7 = .ok (.invokevirtual 58, 3) := by decide +kernel
theorem dX4_check_10 : decode cX4_check 10 = .ok (.ifCond .ne 5, 3) := by decide +kernel
theorem dX4_check_13 : decode cX4_check 13 = .ok (.iconst (-1), 1) := by decide +kernel
theorem dX4_check_14 : decode cX4_check 14 = .ok (.ireturn, 1) := by decide +kernel
theorem dX4_check_15 : decode cX4_check 15 = .ok (.aload_n 0, 1) := by decide +kernel
theorem dX4_check_16 : decode cX4_check 16 = .ok (.getfield 13, 3) := by decide +kernel
theorem dX4_check_19 : decode cX4_check 19 = .ok (.iload_n 1, 1) := by decide +kernel
theorem dX4_check_20 : decode cX4_check 20 = .ok (.iaload, 1) := by decide +kernel
theorem dX4_check_21 : decode cX4_check 21 = .ok (.iconst 1, 1) := by decide +kernel
theorem dX4_check_22 : decode cX4_check 22 = .ok (.if_icmp .ne 5, 3) := by decide +kernel
theorem dX4_check_25 : decode cX4_check 25 = .ok (.iconst 1, 1) := by decide +kernel
theorem dX4_check_26 : decode cX4_check 26 = .ok (.ireturn, 1) := by decide +kernel
theorem dX4_check_27 : decode cX4_check 27 = .ok (.aload_n 0, 1) := by decide +kernel
theorem dX4_check_28 : decode cX4_check 28 = .ok (.getfield 17, 3) := by decide +kernel
theorem dX4_check_31 : decode cX4_check 31 = .ok (.iload_n 1, 1) := by decide +kernel
theorem dX4_check_32 : decode cX4_check 32 = .ok (.iaload, 1) := by decide +kernel
theorem dX4_check_33 : decode cX4_check 33 = .ok (.aload_n 0, 1) := by decide +kernel
theorem dX4_check_34 : decode cX4_check 34 = .ok (.getfield 13, 3) := by decide +kernel
theorem dX4_check_37 : decode cX4_check 37 = .ok (.iload_n 1, 1) := by decide +kernel
theorem dX4_check_38 : decode cX4_check 38 = .ok (.iaload, 1) := by decide +kernel
theorem dX4_check_39 : decode cX4_check 39 = .ok (.if_icmp .ge 5, 3) := by decide +kernel
theorem dX4_check_42 : decode cX4_check 42 = .ok (.iconst 0, 1) := by decide +kernel
theorem dX4_check_43 : decode cX4_check 43 = .ok (.ireturn, 1) := by decide +kernel
theorem dX4_check_44 : decode cX4_check 44 = .ok (.iconst 0, 1) := by decide +kernel
theorem dX4_check_45 : decode cX4_check 45 = .ok (.istore_n 2, 1) := by decide +kernel
theorem dX4_check_46 : decode cX4_check 46 = .ok (.iload_n 2, 1) := by decide +kernel
theorem dX4_check_47 : decode cX4_check 47 = .ok (.aload_n 0, 1) := by decide +kernel
theorem dX4_check_48 : decode cX4_check 48 = .ok (.iload_n 1, 1) := by decide +kernel
theorem dX4_check_49 : decode cX4_check 49 = .ok (.invokevirtual 96, 3) := by decide +kernel
theorem dX4_check_52 : decode cX4_check 52 = .ok (.if_icmp .ge 23, 3) := by decide +kernel
theorem dX4_check_55 : decode cX4_check 55 = .ok (.aload_n 0, 1) := by decide +kernel
theorem dX4_check_56 : decode cX4_check 56 = .ok (.iload_n 1, 1) := by decide +kernel
theorem dX4_check_57 : decode cX4_check 57 = .ok (.iload_n 2, 1) := by decide +kernel
theorem dX4_check_58 : decode cX4_check 58 = .ok (.invokevirtual 99, 3) := by decide +kernel
theorem dX4_check_61 : decode cX4_check 61 = .ok (.ifCond .eq 8, 3) := by decide +kernel
theorem dX4_check_64 : decode cX4_check 64 = .ok (.bipush (-10), 2) := by decide +kernel
theorem dX4_check_66 : decode cX4_check 66 = .ok (.iload_n 2, 1) := by decide +kernel
theorem dX4_check_67 : decode cX4_check 67 = .ok (.isub, 1) := by decide +kernel
theorem dX4_check_68 : decode cX4_check 68 = .ok (.ireturn, 1) := by decide +kernel
theorem dX4_check_69 : decode cX4_check 69 = .ok (.iinc 2 1, 3) := by decide +kernel
theorem dX4_check_72 : decode cX4_check 72 = .ok (.goto (-26), 3) := by decide +kernel
theorem dX4_check_75 : decode cX4_check 75 = .ok (.iconst 1, 1) := by decide +kernel
theorem dX4_check_76 : decode cX4_check 76 = .ok (.ireturn, 1) := by decide +kernel
set_option maxRecDepth 20000 in
theorem ggX4_isRight_X4_isShape : GoodIn wsX4_isRight wsX4_isShape := goodIn_r _ [5, 6, 7, 52, 53, 54, 55, 56, 57, 58, 59, 60, 61, 62, 63, 64, 65, 66] (by decide +kernel) (by decide +kernel)
set_option maxRecDepth 20000 in
theorem gX4_isRight_X4_isShape : GoodIn wsX4_isRight (wsV RX4 58 RX4 yX4_isShape wsX4_isShape) := goodIn_app (goodIn_of _ (by decide +kernel)) ggX4_isRight_X4_isShape
set_option maxRecDepth 20000 in
theorem ggX4_isRight_X4_check : GoodIn wsX4_isRight wsX4_check := goodIn_r _ [11, 12, 7, 13, 1, 2, 3, 4, 5, 6, 14, 15, 16, 17, 18, 19, 20, 21, 22, 23, 24, 25, 26, 27, 28, 29, 30, 31, 32, 33, 34, 35, 36, 37, 38, 39, 40, 41, 42, 43, 44, 45, 46, 47, 48, 49, 50, 51, 52, 53, 54, 55, 56, 57, 58, 59, 60, 61, 62, 63, 64, 65, 66] (by decide +kernel) (by decide +kernel)
set_option maxRecDepth 20000 in
theorem gX4_isRight_X4_check : GoodIn wsX4_isRight (wsV RX4 102 RX4 yX4_check wsX4_check) := goodIn_app (goodIn_of _ (by decide +kernel)) ggX4_isRight_X4_check
theorem dX4_isRight_0 : decode cX4_isRight 0 = .ok (.aload_n 0, 1) := by decide +kernel
theorem dX4_isRight_1 : decode cX4_isRight 1 = .ok (.iload_n 1, 1) := by decide +kernel
theorem dX4_isRight_2 : decode cX4_isRight 2 = .ok (.invokevirtual 58, 3) := by decide +kernel
theorem dX4_isRight_5 : decode cX4_isRight 5 = .ok (.ifCond .eq 16, 3) := by decide +kernel
theorem dX4_isRight_8 : decode cX4_isRight 8 = .ok (.aload_n 0, 1) := by decide +kernel
theorem dX4_isRight_9 : decode cX4_isRight 9 = .ok (.iload_n 1, 1) := by decide +kernel
theorem dX4_isRight_10 : decode cX4_isRight 10 = .ok (.invokevirtual 102, 3) := by decide +kernel
theorem dX4_isRight_13 : decode cX4_isRight 13 = .ok (.iconst 1, 1) := by decide +kernel
theorem dX4_isRight_14 : decode cX4_isRight 14 = .ok (.if_icmp .ne 7, 3) := by decide +kernel
theorem dX4_isRight_17 : decode cX4_isRight 17 = .ok (.iconst 1, 1) := by decide +kernel
theorem dX4_isRight_18 : decode cX4_isRight 18 = .ok (.goto 4, 3) := by decide +kernel
theorem dX4_isRight_21 : decode cX4_isRight 21 = .ok (.iconst 0, 1) := by decide +kernel
theorem dX4_isRight_22 : decode cX4_isRight 22 = .ok (.ireturn, 1) := by decide +kernel
set_option maxRecDepth 20000 in
theorem ggX4_stands_X4_from : GoodIn wsX4_stands wsX4_from := goodIn_r _ [8] (by decide +kernel) (by decide +kernel)
set_option maxRecDepth 20000 in
theorem gX4_stands_X4_from : GoodIn wsX4_stands (wsV RX4 81 RX4 yX4_from wsX4_from) := goodIn_app (goodIn_of _ (by decide +kernel)) ggX4_stands_X4_from
set_option maxRecDepth 20000 in
theorem ggX4_stands_X4_to : GoodIn wsX4_stands wsX4_to := goodIn_r _ [12, 13, 1, 26, 27, 28, 29, 30, 31, 32, 33, 34, 35, 36, 37, 38, 39, 40] (by decide +kernel) (by decide +kernel)
set_option maxRecDepth 20000 in
theorem gX4_stands_X4_to : GoodIn wsX4_stands (wsV RX4 85 RX4 yX4_to wsX4_to) := goodIn_app (goodIn_of _ (by decide +kernel)) ggX4_stands_X4_to
set_option maxRecDepth 20000 in
theorem ggX4_stands_X4_isOn : GoodIn wsX4_stands wsX4_isOn := goodIn_r _ [16, 17, 18, 7, 19, 20, 21, 22, 23, 24, 25] (by decide +kernel) (by decide +kernel)
set_option maxRecDepth 20000 in
theorem gX4_stands_X4_isOn : GoodIn wsX4_stands (va_wsS RX4 77 yX4_isOn wsX4_isOn) := goodIn_app (goodIn_of _ (by decide +kernel)) ggX4_stands_X4_isOn
set_option maxRecDepth 20000 in
theorem ggX4_stands_X4_hand : GoodIn wsX4_stands wsX4_hand := goodIn_r _ [19, 20, 21, 7, 22] (by decide +kernel) (by decide +kernel)
set_option maxRecDepth 20000 in
theorem gX4_stands_X4_hand : GoodIn wsX4_stands (va_wsS RX4 69 yX4_hand wsX4_hand) := goodIn_app (goodIn_of _ (by decide +kernel)) ggX4_stands_X4_hand
theorem dX4_stands_0 : decode cX4_stands 0 = .ok (.iconst 0, 1) := by decide +kernel
theorem dX4_stands_1 : decode cX4_stands 1 = .ok (.istore 6, 2) := by decide +kernel
theorem dX4_stands_3 : decode cX4_stands 3 = .ok (.iconst 0, 1) := by decide +kernel
theorem dX4_stands_4 : decode cX4_stands 4 = .ok (.istore 7, 2) := by decide +kernel
theorem dX4_stands_6 : decode cX4_stands 6 = .ok (.iload 7, 2) := by decide +kernel
theorem dX4_stands_8 : decode cX4_stands 8 = .ok (.aload_n 0, 1) := by decide +kernel
theorem dX4_stands_9 : decode cX4_stands 9 = .ok (.getfield 17, 3) := by decide +kernel
theorem dX4_stands_12 : decode cX4_stands 12 = .ok (.iload 5, 2) := by decide +kernel
theorem dX4_stands_14 : decode cX4_stands 14 = .ok (.iaload, 1) := by decide +kernel
theorem dX4_stands_15 : decode cX4_stands 15 = .ok (.if_icmp .ge 198, 3) := by decide +kernel
theorem dX4_stands_18 : decode cX4_stands 18 = .ok (.aload_n 0, 1) := by decide +kernel
theorem dX4_stands_19 : decode cX4_stands 19 = .ok (.iload 5, 2) := by decide +kernel
theorem dX4_stands_21 : decode cX4_stands 21 = .ok (.iload 7, 2) := by decide +kernel
theorem dX4_stands_23 : decode cX4_stands 23 = .ok (.invokevirtual 81, 3) := by decide +kernel
theorem dX4_stands_26 : decode cX4_stands 26 = .ok (.istore 8, 2) := by decide +kernel
theorem dX4_stands_28 : decode cX4_stands 28 = .ok (.aload_n 0, 1) := by decide +kernel
theorem dX4_stands_29 : decode cX4_stands 29 = .ok (.iload 5, 2) := by decide +kernel
theorem dX4_stands_31 : decode cX4_stands 31 = .ok (.iload 7, 2) := by decide +kernel
theorem dX4_stands_33 : decode cX4_stands 33 = .ok (.invokevirtual 85, 3) := by decide +kernel
theorem dX4_stands_36 : decode cX4_stands 36 = .ok (.istore 9, 2) := by decide +kernel
theorem dX4_stands_38 : decode cX4_stands 38 = .ok (.aload_n 0, 1) := by decide +kernel
theorem dX4_stands_39 : decode cX4_stands 39 = .ok (.getfield 20, 3) := by decide +kernel
theorem dX4_stands_42 : decode cX4_stands 42 = .ok (.iload 8, 2) := by decide +kernel
theorem dX4_stands_44 : decode cX4_stands 44 = .ok (.laload, 1) := by decide +kernel
theorem dX4_stands_45 : decode cX4_stands 45 = .ok (.aload_n 0, 1) := by decide +kernel
theorem dX4_stands_46 : decode cX4_stands 46 = .ok (.getfield 24, 3) := by decide +kernel
theorem dX4_stands_49 : decode cX4_stands 49 = .ok (.iload 8, 2) := by decide +kernel
theorem dX4_stands_51 : decode cX4_stands 51 = .ok (.laload, 1) := by decide +kernel
theorem dX4_stands_52 : decode cX4_stands 52 = .ok (.aload_n 0, 1) := by decide +kernel
theorem dX4_stands_53 : decode cX4_stands 53 = .ok (.getfield 20, 3) := by decide +kernel
theorem dX4_stands_56 : decode cX4_stands 56 = .ok (.iload 9, 2) := by decide +kernel
theorem dX4_stands_58 : decode cX4_stands 58 = .ok (.laload, 1) := by decide +kernel
theorem dX4_stands_59 : decode cX4_stands 59 = .ok (.aload_n 0, 1) := by decide +kernel
theorem dX4_stands_60 : decode cX4_stands 60 = .ok (.getfield 24, 3) := by decide +kernel
theorem dX4_stands_63 : decode cX4_stands 63 = .ok (.iload 9, 2) := by decide +kernel
theorem dX4_stands_65 : decode cX4_stands 65 = .ok (.laload, 1) := by decide +kernel
theorem dX4_stands_66 : decode cX4_stands 66 = .ok (.lload_n 1, 1) := by decide +kernel
theorem dX4_stands_67 : decode cX4_stands 67 = .ok (.lload_n 3, 1) := by decide +kernel
theorem dX4_stands_68 : decode cX4_stands 68 = .ok (.invokestatic 77, 3) := by decide +kernel
theorem dX4_stands_71 : decode cX4_stands 71 = .ok (.ifCond .eq 5, 3) := by decide +kernel
theorem dX4_stands_74 : decode cX4_stands 74 = .ok (.iconst 2, 1) := by decide +kernel
theorem dX4_stands_75 : decode cX4_stands 75 = .ok (.ireturn, 1) := by decide +kernel
theorem dX4_stands_76 : decode cX4_stands 76 = .ok (.aload_n 0, 1) := by decide +kernel
theorem dX4_stands_77 : decode cX4_stands 77 = .ok (.getfield 24, 3) := by decide +kernel
theorem dX4_stands_80 : decode cX4_stands 80 = .ok (.iload 8, 2) := by decide +kernel
theorem dX4_stands_82 : decode cX4_stands 82 = .ok (.laload, 1) := by decide +kernel
theorem dX4_stands_83 : decode cX4_stands 83 = .ok (.lload_n 3, 1) := by decide +kernel
theorem dX4_stands_84 : decode cX4_stands 84 = .ok (.lcmp, 1) := by decide +kernel
theorem dX4_stands_85 : decode cX4_stands 85 = .ok (.ifCond .le 7, 3) := by decide +kernel
theorem dX4_stands_88 : decode cX4_stands 88 = .ok (.iconst 1, 1) := by decide +kernel
theorem dX4_stands_89 : decode cX4_stands 89 = .ok (.goto 4, 3) := by decide +kernel
theorem dX4_stands_92 : decode cX4_stands 92 = .ok (.iconst 0, 1) := by decide +kernel
theorem dX4_stands_93 : decode cX4_stands 93 = .ok (.aload_n 0, 1) := by decide +kernel
theorem dX4_stands_94 : decode cX4_stands 94 = .ok (.getfield 24, 3) := by decide +kernel
theorem dX4_stands_97 : decode cX4_stands 97 = .ok (.iload 9, 2) := by decide +kernel
theorem dX4_stands_99 : decode cX4_stands 99 = .ok (.laload, 1) := by decide +kernel
theorem dX4_stands_100 : decode cX4_stands 100 = .ok (.lload_n 3, 1) := by decide +kernel
theorem dX4_stands_101 : decode cX4_stands 101 = .ok (.lcmp, 1) := by decide +kernel
theorem dX4_stands_102 : decode cX4_stands 102 = .ok (.ifCond .le 7, 3) := by decide +kernel
theorem dX4_stands_105 : decode cX4_stands 105 = .ok (.iconst 1, 1) := by decide +kernel
theorem dX4_stands_106 : decode cX4_stands 106 = .ok (.goto 4, 3) := by decide +kernel
theorem dX4_stands_109 : decode cX4_stands 109 = .ok (.iconst 0, 1) := by decide +kernel
theorem dX4_stands_110 : decode cX4_stands 110 = .ok (.if_icmp .ne 6, 3) := by decide +kernel
theorem dX4_stands_113 : decode cX4_stands 113 = .ok (.goto 94, 3) := by decide +kernel
theorem dX4_stands_116 : decode cX4_stands 116 = .ok (.aload_n 0, 1) := by decide +kernel
theorem dX4_stands_117 : decode cX4_stands 117 = .ok (.getfield 24, 3) := by decide +kernel
theorem dX4_stands_120 : decode cX4_stands 120 = .ok (.iload 8, 2) := by decide +kernel
theorem dX4_stands_122 : decode cX4_stands 122 = .ok (.laload, 1) := by decide +kernel
theorem dX4_stands_123 : decode cX4_stands 123 = .ok (.aload_n 0, 1) := by decide +kernel
theorem dX4_stands_124 : decode cX4_stands 124 = .ok (.getfield 24, 3) := by decide +kernel
theorem dX4_stands_127 : decode cX4_stands 127 = .ok (.iload 9, 2) := by decide +kernel
theorem dX4_stands_129 : decode cX4_stands 129 = .ok (.laload, 1) := by decide +kernel
theorem dX4_stands_130 : decode cX4_stands 130 = .ok (.lcmp, 1) := by decide +kernel
theorem dX4_stands_131 : decode cX4_stands 131 = .ok (.ifCond .ge 8, 3) := by decide +kernel
theorem dX4_stands_134 : decode cX4_stands 134 = .ok (.iload 8, 2) := by decide +kernel
theorem dX4_stands_136 : decode cX4_stands 136 = .ok (.goto 5, 3) := by decide +kernel
theorem dX4_stands_139 : decode cX4_stands 139 = .ok (.iload 9, 2) := by decide +kernel
theorem dX4_stands_141 : decode cX4_stands 141 = .ok (.istore 10, 2) := by decide +kernel
theorem dX4_stands_143 : decode cX4_stands 143 = .ok (.iload 10, 2) := by decide +kernel
theorem dX4_stands_145 : decode cX4_stands 145 = .ok (.iload 8, 2) := by decide +kernel
theorem dX4_stands_147 : decode cX4_stands 147 = .ok (.if_icmp .ne 8, 3) := by decide +kernel
theorem dX4_stands_150 : decode cX4_stands 150 = .ok (.iload 9, 2) := by decide +kernel
theorem dX4_stands_152 : decode cX4_stands 152 = .ok (.goto 5, 3) := by decide +kernel
theorem dX4_stands_155 : decode cX4_stands 155 = .ok (.iload 8, 2) := by decide +kernel
theorem dX4_stands_157 : decode cX4_stands 157 = .ok (.istore 11, 2) := by decide +kernel
theorem dX4_stands_159 : decode cX4_stands 159 = .ok (.aload_n 0, 1) := by decide +kernel
theorem dX4_stands_160 : decode cX4_stands 160 = .ok (.getfield 20, 3) := by decide +kernel
theorem dX4_stands_163 : decode cX4_stands 163 = .ok (.iload 10, 2) := by decide +kernel
theorem dX4_stands_165 : decode cX4_stands 165 = .ok (.laload, 1) := by decide +kernel
theorem dX4_stands_166 : decode cX4_stands 166 = .ok (.aload_n 0, 1) := by decide +kernel
theorem dX4_stands_167 : decode cX4_stands 167 = .ok (.getfield 24, 3) := by decide +kernel
theorem dX4_stands_170 : decode cX4_stands 170 = .ok (.iload 10, 2) := by decide +kernel
theorem dX4_stands_172 : decode cX4_stands 172 = .ok (.laload, 1) := by decide +kernel
theorem dX4_stands_173 : decode cX4_stands 173 = .ok (.aload_n 0, 1) := by decide +kernel
theorem dX4_stands_174 : decode cX4_stands 174 = .ok (.getfield 20, 3) := by decide +kernel
theorem dX4_stands_177 : decode cX4_stands 177 = .ok (.iload 11, 2) := by decide +kernel
theorem dX4_stands_179 : decode cX4_stands 179 = .ok (.laload, 1) := by decide +kernel
theorem dX4_stands_180 : decode cX4_stands 180 = .ok (.aload_n 0, 1) := by decide +kernel
theorem dX4_stands_181 : decode cX4_stands 181 = .ok (.getfield 24, 3) := by decide +kernel
theorem dX4_stands_184 : decode cX4_stands 184 = .ok (.iload 11, 2) := by decide +kernel
theorem dX4_stands_186 : decode cX4_stands 186 = .ok (.laload, 1) := by decide +kernel
theorem dX4_stands_187 : decode cX4_stands 187 = .ok (.lload_n 1, 1) := by decide +kernel
theorem dX4_stands_188 : decode cX4_stands 188 = .ok (.lload_n 3, 1) := by decide +kernel
theorem dX4_stands_189 : decode cX4_stands 189 = .ok (.invokestatic 69, 3) := by decide +kernel
theorem dX4_stands_192 : decode cX4_stands 192 = .ok (.ifCond .le 15, 3) := by decide +kernel
theorem dX4_stands_195 : decode cX4_stands 195 = .ok (.iload 6, 2) := by decide +kernel
theorem dX4_stands_197 : decode cX4_stands 197 = .ok (.ifCond .ne 7, 3) := by decide +kernel
theorem dX4_stands_200 : decode cX4_stands 200 = .ok (.iconst 1, 1) := by decide +kernel
theorem dX4_stands_201 : decode cX4_stands 201 = .ok (.goto 4, 3) := by decide +kernel
theorem dX4_stands_204 : decode cX4_stands 204 = .ok (.iconst 0, 1) := by decide +kernel
theorem dX4_stands_205 : decode cX4_stands 205 = .ok (.istore 6, 2) := by decide +kernel
theorem dX4_stands_207 : decode cX4_stands 207 = .ok (.iinc 7 1, 3) := by decide +kernel
theorem dX4_stands_210 : decode cX4_stands 210 = .ok (.goto (-204), 3) := by decide +kernel
theorem dX4_stands_213 : decode cX4_stands 213 = .ok (.iload 6, 2) := by decide +kernel
theorem dX4_stands_215 : decode cX4_stands 215 = .ok (.ifCond .eq 7, 3) := by decide +kernel
theorem dX4_stands_218 : decode cX4_stands 218 = .ok (.iconst 1, 1) := by decide +kernel
theorem dX4_stands_219 : decode cX4_stands 219 = .ok (.goto 4, 3) := by decide +kernel
theorem dX4_stands_222 : decode cX4_stands 222 = .ok (.iconst 0, 1) := by decide +kernel
theorem dX4_stands_223 : decode cX4_stands 223 = .ok (.ireturn, 1) := by decide +kernel
set_option maxRecDepth 20000 in
theorem ggX4_inside_X4_isPlace : GoodIn wsX4_inside wsX4_isPlace := goodIn_r _ [6] (by decide +kernel) (by decide +kernel)
set_option maxRecDepth 20000 in
theorem gX4_inside_X4_isPlace : GoodIn wsX4_inside (va_wsS RX4 46 yX4_isPlace wsX4_isPlace) := goodIn_app (goodIn_of _ (by decide +kernel)) ggX4_inside_X4_isPlace
set_option maxRecDepth 20000 in
theorem ggX4_inside_X4_isRight : GoodIn wsX4_inside wsX4_isRight := goodIn_r _ [10, 11, 12, 13, 5, 14, 15, 2, 16, 17, 18, 19, 1, 20, 21, 22, 23, 24, 25, 26, 27, 28, 29, 30, 31, 32, 33, 34, 35, 36, 37, 38, 39, 40, 41, 42, 43, 44, 45, 46, 47, 48, 49, 50, 51, 52, 53, 54, 55, 56, 57, 58, 63, 64, 65, 66, 67, 68, 69, 70, 71, 72, 73, 74, 75, 76, 77] (by decide +kernel) (by decide +kernel)
set_option maxRecDepth 20000 in
theorem gX4_inside_X4_isRight : GoodIn wsX4_inside (wsV RX4 105 RX4 yX4_isRight wsX4_isRight) := goodIn_app (goodIn_of _ (by decide +kernel)) ggX4_inside_X4_isRight
set_option maxRecDepth 20000 in
theorem ggX4_inside_X4_stands : GoodIn wsX4_inside wsX4_stands := goodIn_r _ [62, 20, 29, 30, 31, 32, 33, 5, 34, 35, 36, 37, 38, 2, 50, 51, 52, 53, 54, 55, 43, 44, 45, 56, 57, 58, 63, 64, 65, 66, 67, 68, 69, 70, 71, 72, 73, 74, 75, 76, 77] (by decide +kernel) (by decide +kernel)
set_option maxRecDepth 20000 in
theorem gX4_inside_X4_stands : GoodIn wsX4_inside (wsV RX4 108 RX4 yX4_stands wsX4_stands) := goodIn_app (goodIn_of _ (by decide +kernel)) ggX4_inside_X4_stands
theorem dX4_inside_0 : decode cX4_inside 0 = .ok (.aload_n 0, 1) := by decide +kernel
theorem dX4_inside_1 : decode cX4_inside 1 = .ok (.iconst 0, 1) := by decide +kernel
theorem dX4_inside_2 : decode cX4_inside 2 = .ok (.putfield 1, 3) := by decide +kernel
theorem dX4_inside_5 : decode cX4_inside 5 = .ok (.iload_n 1, 1) := by decide +kernel
theorem dX4_inside_6 : decode cX4_inside 6 = .ok (.iload_n 2, 1) := by decide +kernel
theorem dX4_inside_7 : decode cX4_inside 7 = .ok (.invokestatic 46, 3) := by decide +kernel
theorem dX4_inside_10 : decode cX4_inside 10 = .ok (.ifCond .eq 21, 3) := by decide +kernel
theorem dX4_inside_13 : decode cX4_inside 13 = .ok (.aload_n 0, 1) := by decide +kernel
theorem dX4_inside_14 : decode cX4_inside 14 = .ok (.iload_n 3, 1) := by decide +kernel
theorem dX4_inside_15 : decode cX4_inside 15 = .ok (.invokevirtual 105, 3) := by decide +kernel
theorem dX4_inside_18 : decode cX4_inside 18 = .ok (.ifCond .eq 13, 3) := by decide +kernel
theorem dX4_inside_21 : decode cX4_inside 21 = .ok (.aload_n 0, 1) := by decide +kernel
theorem dX4_inside_22 : decode cX4_inside 22 = .ok (.getfield 13, 3) := by decide +kernel
theorem dX4_inside_25 : decode cX4_inside 25 = .ok (.iload_n 3, 1) := by decide +kernel
theorem dX4_inside_26 : decode cX4_inside 26 = .ok (.iaload, 1) := by decide +kernel
theorem dX4_inside_27 : decode cX4_inside 27 = .ok (.iconst 3, 1) := by decide +kernel
theorem dX4_inside_28 : decode cX4_inside 28 = .ok (.if_icmp .eq 7, 3) := by decide +kernel
theorem dX4_inside_31 : decode cX4_inside 31 = .ok (.iconst (-1), 1) := by decide +kernel
theorem dX4_inside_32 : decode cX4_inside 32 = .ok (.goto 12, 3) := by decide +kernel
theorem dX4_inside_35 : decode cX4_inside 35 = .ok (.aload_n 0, 1) := by decide +kernel
theorem dX4_inside_36 : decode cX4_inside 36 = .ok (.iload_n 1, 1) := by decide +kernel
theorem dX4_inside_37 : decode cX4_inside 37 = .ok (.i2l, 1) := by decide +kernel
theorem dX4_inside_38 : decode cX4_inside 38 = .ok (.iload_n 2, 1) := by decide +kernel
theorem dX4_inside_39 : decode cX4_inside 39 = .ok (.i2l, 1) := by decide +kernel
theorem dX4_inside_40 : decode cX4_inside 40 = .ok (.iload_n 3, 1) := by decide +kernel
theorem dX4_inside_41 : decode cX4_inside 41 = .ok (.invokevirtual 108, 3) := by decide +kernel
theorem dX4_inside_44 : decode cX4_inside 44 = .ok (.ireturn, 1) := by decide +kernel
set_option maxRecDepth 20000 in
theorem ggX4_have_X4_sides : GoodIn wsX4_have wsX4_sides := goodIn_r _ [8, 1, 9, 38, 39, 40, 41, 42, 43, 44, 45, 46, 47, 48, 49, 50, 51, 52] (by decide +kernel) (by decide +kernel)
set_option maxRecDepth 20000 in
theorem gX4_have_X4_sides : GoodIn wsX4_have (wsV RX4 96 RX4 yX4_sides wsX4_sides) := goodIn_app (goodIn_of _ (by decide +kernel)) ggX4_have_X4_sides
set_option maxRecDepth 20000 in
theorem ggX4_have_X4_from : GoodIn wsX4_have wsX4_from := goodIn_r _ [13] (by decide +kernel) (by decide +kernel)
set_option maxRecDepth 20000 in
theorem gX4_have_X4_from : GoodIn wsX4_have (wsV RX4 81 RX4 yX4_from wsX4_from) := goodIn_app (goodIn_of _ (by decide +kernel)) ggX4_have_X4_from
set_option maxRecDepth 20000 in
theorem ggX4_have_X4_to : GoodIn wsX4_have wsX4_to := goodIn_r _ [17, 1, 9, 38, 39, 40, 41, 42, 43, 44, 45, 46, 47, 48, 49, 50, 51, 52] (by decide +kernel) (by decide +kernel)
set_option maxRecDepth 20000 in
theorem gX4_have_X4_to : GoodIn wsX4_have (wsV RX4 85 RX4 yX4_to wsX4_to) := goodIn_app (goodIn_of _ (by decide +kernel)) ggX4_have_X4_to
set_option maxRecDepth 20000 in
theorem ggX4_have_X4_cut : GoodIn wsX4_have wsX4_cut := goodIn_r _ [21, 2, 3, 22, 23, 7, 24, 25, 26, 27, 28, 29, 30, 31, 32, 33, 38, 39, 40, 41, 42, 43, 44, 45, 46, 47, 48, 49, 50, 51, 52] (by decide +kernel) (by decide +kernel)
set_option maxRecDepth 20000 in
theorem gX4_have_X4_cut : GoodIn wsX4_have (wsV RX4 92 RX4 yX4_cut wsX4_cut) := goodIn_app (goodIn_of _ (by decide +kernel)) ggX4_have_X4_cut
set_option maxRecDepth 20000 in
theorem ggX4_have_X4_stands : GoodIn wsX4_have wsX4_stands := goodIn_r _ [37, 9, 2, 3, 10, 11, 12, 7, 13, 14, 15, 16, 17, 1, 22, 23, 24, 25, 26, 27, 28, 29, 30, 31, 32, 33, 38, 39, 40, 41, 42, 43, 44, 45, 46, 47, 48, 49, 50, 51, 52] (by decide +kernel) (by decide +kernel)
set_option maxRecDepth 20000 in
theorem gX4_have_X4_stands : GoodIn wsX4_have (wsV RX4 108 RX4 yX4_stands wsX4_stands) := goodIn_app (goodIn_of _ (by decide +kernel)) ggX4_have_X4_stands
theorem dX4_have_0 : decode cX4_have 0 = .ok (.iconst 0, 1) := by decide +kernel
theorem dX4_have_1 : decode cX4_have 1 = .ok (.istore_n 3, 1) := by decide +kernel
theorem dX4_have_2 : decode cX4_have 2 = .ok (.iload_n 3, 1) := by decide +kernel
theorem dX4_have_3 : decode cX4_have 3 = .ok (.aload_n 0, 1) := by decide +kernel
theorem dX4_have_4 : decode cX4_have 4 = .ok (.iload_n 1, 1) := by decide +kernel
theorem dX4_have_5 : decode cX4_have 5 = .ok (.invokevirtual 96, 3) := by decide +kernel
theorem dX4_have_8 : decode cX4_have 8 = .ok (.if_icmp .ge 63, 3) := by decide +kernel
theorem dX4_have_11 : decode cX4_have 11 = .ok (.iconst 0, 1) := by decide +kernel
theorem dX4_have_12 : decode cX4_have 12 = .ok (.istore 4, 2) := by decide +kernel
theorem dX4_have_14 : decode cX4_have 14 = .ok (.iload 4, 2) := by decide +kernel
theorem dX4_have_16 : decode cX4_have 16 = .ok (.aload_n 0, 1) := by decide +kernel
theorem dX4_have_17 : decode cX4_have 17 = .ok (.iload_n 2, 1) := by decide +kernel
theorem dX4_have_18 : decode cX4_have 18 = .ok (.invokevirtual 96, 3) := by decide +kernel
theorem dX4_have_21 : decode cX4_have 21 = .ok (.if_icmp .ge 44, 3) := by decide +kernel
theorem dX4_have_24 : decode cX4_have 24 = .ok (.aload_n 0, 1) := by decide +kernel
theorem dX4_have_25 : decode cX4_have 25 = .ok (.aload_n 0, 1) := by decide +kernel
theorem dX4_have_26 : decode cX4_have 26 = .ok (.iload_n 1, 1) := by decide +kernel
theorem dX4_have_27 : decode cX4_have 27 = .ok (.iload_n 3, 1) := by decide +kernel
theorem dX4_have_28 : decode cX4_have 28 = .ok (.invokevirtual 81, 3) := by decide +kernel
theorem dX4_have_31 : decode cX4_have 31 = .ok (.aload_n 0, 1) := by decide +kernel
theorem dX4_have_32 : decode cX4_have 32 = .ok (.iload_n 1, 1) := by decide +kernel
theorem dX4_have_33 : decode cX4_have 33 = .ok (.iload_n 3, 1) := by decide +kernel
theorem dX4_have_34 : decode cX4_have 34 = .ok (.invokevirtual 85, 3) := by decide +kernel
theorem dX4_have_37 : decode cX4_have 37 = .ok (.aload_n 0, 1) := by decide +kernel
theorem dX4_have_38 : decode cX4_have 38 = .ok (.iload_n 2, 1) := by decide +kernel
theorem dX4_have_39 : decode cX4_have 39 = .ok (.iload 4, 2) := by decide +kernel
theorem dX4_have_41 : decode cX4_have 41 = .ok (.invokevirtual 81, 3) := by decide +kernel
theorem dX4_have_44 : decode cX4_have 44 = .ok (.aload_n 0, 1) := by decide +kernel
theorem dX4_have_45 : decode cX4_have 45 = .ok (.iload_n 2, 1) := by decide +kernel
theorem dX4_have_46 : decode cX4_have 46 = .ok (.iload 4, 2) := by decide +kernel
theorem dX4_have_48 : decode cX4_have 48 = .ok (.invokevirtual 85, 3) := by decide +kernel
theorem dX4_have_51 : decode cX4_have 51 = .ok (.invokevirtual 92, 3) := by decide +kernel
theorem dX4_have_54 : decode cX4_have 54 = .ok (.ifCond .eq 5, 3) := by decide +kernel
theorem dX4_have_57 : decode cX4_have 57 = .ok (.iconst 1, 1) := by decide +kernel
theorem dX4_have_58 : decode cX4_have 58 = .ok (.ireturn, 1) := by decide +kernel
theorem dX4_have_59 : decode cX4_have 59 = .ok (.iinc 4 1, 3) := by decide +kernel
theorem dX4_have_62 : decode cX4_have 62 = .ok (.goto (-48), 3) := by decide +kernel
theorem dX4_have_65 : decode cX4_have 65 = .ok (.iinc 3 1, 3) := by decide +kernel
theorem dX4_have_68 : decode cX4_have 68 = .ok (.goto (-66), 3) := by decide +kernel
theorem dX4_have_71 : decode cX4_have 71 = .ok (.aload_n 0, 1) := by decide +kernel
theorem dX4_have_72 : decode cX4_have 72 = .ok (.getfield 13, 3) := by decide +kernel
theorem dX4_have_75 : decode cX4_have 75 = .ok (.iload_n 1, 1) := by decide +kernel
theorem dX4_have_76 : decode cX4_have 76 = .ok (.iaload, 1) := by decide +kernel
theorem dX4_have_77 : decode cX4_have 77 = .ok (.iconst 3, 1) := by decide +kernel
theorem dX4_have_78 : decode cX4_have 78 = .ok (.if_icmp .ne 33, 3) := by decide +kernel
theorem dX4_have_81 : decode cX4_have 81 = .ok (.aload_n 0, 1) := by decide +kernel
theorem dX4_have_82 : decode cX4_have 82 = .ok (.aload_n 0, 1) := by decide +kernel
theorem dX4_have_83 : decode cX4_have 83 = .ok (.getfield 20, 3) := by decide +kernel
theorem dX4_have_86 : decode cX4_have 86 = .ok (.aload_n 0, 1) := by decide +kernel
theorem dX4_have_87 : decode cX4_have 87 = .ok (.iload_n 2, 1) := by decide +kernel
theorem dX4_have_88 : decode cX4_have 88 = .ok (.iconst 0, 1) := by decide +kernel
theorem dX4_have_89 : decode cX4_have 89 = .ok (.invokevirtual 81, 3) := by decide +kernel
theorem dX4_have_92 : decode cX4_have 92 = .ok (.laload, 1) := by decide +kernel
theorem dX4_have_93 : decode cX4_have 93 = .ok (.aload_n 0, 1) := by decide +kernel
theorem dX4_have_94 : decode cX4_have 94 = .ok (.getfield 24, 3) := by decide +kernel
theorem dX4_have_97 : decode cX4_have 97 = .ok (.aload_n 0, 1) := by decide +kernel
theorem dX4_have_98 : decode cX4_have 98 = .ok (.iload_n 2, 1) := by decide +kernel
theorem dX4_have_99 : decode cX4_have 99 = .ok (.iconst 0, 1) := by decide +kernel
theorem dX4_have_100 : decode cX4_have 100 = .ok (.invokevirtual 81, 3) := by decide +kernel
theorem dX4_have_103 : decode cX4_have 103 = .ok (.laload, 1) := by decide +kernel
theorem dX4_have_104 : decode cX4_have 104 = .ok (.iload_n 1, 1) := by decide +kernel
theorem dX4_have_105 : decode cX4_have 105 = .ok (.invokevirtual 108, 3) := by decide +kernel
theorem dX4_have_108 : decode cX4_have 108 = .ok (.ifCond .gt 43, 3) := by decide +kernel
theorem dX4_have_111 : decode cX4_have 111 = .ok (.aload_n 0, 1) := by decide +kernel
theorem dX4_have_112 : decode cX4_have 112 = .ok (.getfield 13, 3) := by decide +kernel
theorem dX4_have_115 : decode cX4_have 115 = .ok (.iload_n 2, 1) := by decide +kernel
theorem dX4_have_116 : decode cX4_have 116 = .ok (.iaload, 1) := by decide +kernel
theorem dX4_have_117 : decode cX4_have 117 = .ok (.iconst 3, 1) := by decide +kernel
theorem dX4_have_118 : decode cX4_have 118 = .ok (.if_icmp .ne 37, 3) := by decide +kernel
theorem dX4_have_121 : decode cX4_have 121 = .ok (.aload_n 0, 1) := by decide +kernel
theorem dX4_have_122 : decode cX4_have 122 = .ok (.aload_n 0, 1) := by decide +kernel
theorem dX4_have_123 : decode cX4_have 123 = .ok (.getfield 20, 3) := by decide +kernel
theorem dX4_have_126 : decode cX4_have 126 = .ok (.aload_n 0, 1) := by decide +kernel
theorem dX4_have_127 : decode cX4_have 127 = .ok (.iload_n 1, 1) := by decide +kernel
theorem dX4_have_128 : decode cX4_have 128 = .ok (.iconst 0, 1) := by decide +kernel
theorem dX4_have_129 : decode cX4_have 129 = .ok (.invokevirtual 81, 3) := by decide +kernel
theorem dX4_have_132 : decode cX4_have 132 = .ok (.laload, 1) := by decide +kernel
theorem dX4_have_133 : decode cX4_have 133 = .ok (.aload_n 0, 1) := by decide +kernel
theorem dX4_have_134 : decode cX4_have 134 = .ok (.getfield 24, 3) := by decide +kernel
theorem dX4_have_137 : decode cX4_have 137 = .ok (.aload_n 0, 1) := by decide +kernel
theorem dX4_have_138 : decode cX4_have 138 = .ok (.iload_n 1, 1) := by decide +kernel
theorem dX4_have_139 : decode cX4_have 139 = .ok (.iconst 0, 1) := by decide +kernel
theorem dX4_have_140 : decode cX4_have 140 = .ok (.invokevirtual 81, 3) := by decide +kernel
theorem dX4_have_143 : decode cX4_have 143 = .ok (.laload, 1) := by decide +kernel
theorem dX4_have_144 : decode cX4_have 144 = .ok (.iload_n 2, 1) := by decide +kernel
theorem dX4_have_145 : decode cX4_have 145 = .ok (.invokevirtual 108, 3) := by decide +kernel
theorem dX4_have_148 : decode cX4_have 148 = .ok (.ifCond .le 7, 3) := by decide +kernel
theorem dX4_have_151 : decode cX4_have 151 = .ok (.iconst 1, 1) := by decide +kernel
theorem dX4_have_152 : decode cX4_have 152 = .ok (.goto 4, 3) := by decide +kernel
theorem dX4_have_155 : decode cX4_have 155 = .ok (.iconst 0, 1) := by decide +kernel
theorem dX4_have_156 : decode cX4_have 156 = .ok (.ireturn, 1) := by decide +kernel
set_option maxRecDepth 20000 in
theorem ggX4_meets_X4_isRight : GoodIn wsX4_meets wsX4_isRight := goodIn_r _ [6, 7, 8, 9, 5, 10, 11, 12, 13, 14, 15, 16, 1, 17, 18, 19, 20, 21, 22, 23, 24, 25, 26, 27, 28, 29, 30, 31, 32, 33, 34, 35, 36, 37, 38, 39, 40, 41, 42, 43, 44, 45, 46, 47, 48, 49, 50, 51, 52, 53, 54, 55, 64, 65, 66, 67, 68, 69, 70, 71, 72, 73, 74, 75, 76, 77, 78] (by decide +kernel) (by decide +kernel)
set_option maxRecDepth 20000 in
theorem gX4_meets_X4_isRight : GoodIn wsX4_meets (wsV RX4 105 RX4 yX4_isRight wsX4_isRight) := goodIn_app (goodIn_of _ (by decide +kernel)) ggX4_meets_X4_isRight
set_option maxRecDepth 20000 in
theorem ggX4_meets_X4_have : GoodIn wsX4_meets wsX4_have := goodIn_r _ [59, 12, 26, 27, 18, 19, 20, 5, 21, 17, 28, 29, 30, 31, 32, 33, 34, 35, 43, 44, 45, 46, 47, 48, 49, 50, 51, 52, 40, 41, 42, 53, 54, 55, 60, 61, 62, 63, 64, 65, 66, 67, 68, 69, 70, 71, 72, 73, 74, 75, 76, 77, 78] (by decide +kernel) (by decide +kernel)
set_option maxRecDepth 20000 in
theorem gX4_meets_X4_have : GoodIn wsX4_meets (wsV RX4 112 RX4 yX4_have wsX4_have) := goodIn_app (goodIn_of _ (by decide +kernel)) ggX4_meets_X4_have
theorem dX4_meets_0 : decode cX4_meets 0 = .ok (.aload_n 0, 1) := by decide +kernel
theorem dX4_meets_1 : decode cX4_meets 1 = .ok (.iconst 0, 1) := by decide +kernel
theorem dX4_meets_2 : decode cX4_meets 2 = .ok (.putfield 1, 3) := by decide +kernel
theorem dX4_meets_5 : decode cX4_meets 5 = .ok (.aload_n 0, 1) := by decide +kernel
theorem dX4_meets_6 : decode cX4_meets 6 = .ok (.iload_n 1, 1) := by decide +kernel
theorem dX4_meets_7 : decode cX4_meets 7 = .ok (.invokevirtual 105, 3) := by decide +kernel
theorem dX4_meets_10 : decode cX4_meets 10 = .ok (.ifCond .eq 11, 3) := by decide +kernel
theorem dX4_meets_13 : decode cX4_meets 13 = .ok (.aload_n 0, 1) := by decide +kernel
theorem dX4_meets_14 : decode cX4_meets 14 = .ok (.iload_n 2, 1) := by decide +kernel
theorem dX4_meets_15 : decode cX4_meets 15 = .ok (.invokevirtual 105, 3) := by decide +kernel
theorem dX4_meets_18 : decode cX4_meets 18 = .ok (.ifCond .ne 7, 3) := by decide +kernel
theorem dX4_meets_21 : decode cX4_meets 21 = .ok (.iconst (-1), 1) := by decide +kernel
theorem dX4_meets_22 : decode cX4_meets 22 = .ok (.goto 17, 3) := by decide +kernel
theorem dX4_meets_25 : decode cX4_meets 25 = .ok (.aload_n 0, 1) := by decide +kernel
theorem dX4_meets_26 : decode cX4_meets 26 = .ok (.iload_n 1, 1) := by decide +kernel
theorem dX4_meets_27 : decode cX4_meets 27 = .ok (.iload_n 2, 1) := by decide +kernel
theorem dX4_meets_28 : decode cX4_meets 28 = .ok (.invokevirtual 112, 3) := by decide +kernel
theorem dX4_meets_31 : decode cX4_meets 31 = .ok (.ifCond .eq 7, 3) := by decide +kernel
theorem dX4_meets_34 : decode cX4_meets 34 = .ok (.iconst 1, 1) := by decide +kernel
theorem dX4_meets_35 : decode cX4_meets 35 = .ok (.goto 4, 3) := by decide +kernel
theorem dX4_meets_38 : decode cX4_meets 38 = .ok (.iconst 0, 1) := by decide +kernel
theorem dX4_meets_39 : decode cX4_meets 39 = .ok (.ireturn, 1) := by decide +kernel
theorem dX4_divisor_0 : decode cX4_divisor 0 = .ok (.lload_n 0, 1) := by decide +kernel
theorem dX4_divisor_1 : decode cX4_divisor 1 = .ok (.lstore 4, 2) := by decide +kernel
theorem dX4_divisor_3 : decode cX4_divisor 3 = .ok (.lload_n 2, 1) := by decide +kernel
theorem dX4_divisor_4 : decode cX4_divisor 4 = .ok (.lstore 6, 2) := by decide +kernel
theorem dX4_divisor_6 : decode cX4_divisor 6 = .ok (.lload 6, 2) := by decide +kernel
theorem dX4_divisor_8 : decode cX4_divisor 8 = .ok (.lconst 0, 1) := by decide +kernel
theorem dX4_divisor_9 : decode cX4_divisor 9 = .ok (.lcmp, 1) := by decide +kernel
theorem dX4_divisor_10 : decode cX4_divisor 10 = .ok (.ifCond .eq 21, 3) := by decide +kernel
theorem dX4_divisor_13 : decode cX4_divisor 13 = .ok (.lload 4, 2) := by decide +kernel
theorem dX4_divisor_15 : decode cX4_divisor 15 = .ok (.lload 6, 2) := by decide +kernel
theorem dX4_divisor_17 : decode cX4_divisor 17 = .ok (.lrem, 1) := by decide +kernel
theorem dX4_divisor_18 : decode cX4_divisor 18 = .ok (.lstore 8, 2) := by decide +kernel
theorem dX4_divisor_20 : decode cX4_divisor 20 = .ok (.lload 6, 2) := by decide +kernel
theorem dX4_divisor_22 : decode cX4_divisor 22 = .ok (.lstore 4, 2) := by decide +kernel
theorem dX4_divisor_24 : decode cX4_divisor 24 = .ok (.lload 8, 2) := by decide +kernel
theorem dX4_divisor_26 : decode cX4_divisor 26 = .ok (.lstore 6, 2) := by decide +kernel
theorem dX4_divisor_28 : decode cX4_divisor 28 = .ok (.goto (-22), 3) := by decide +kernel
theorem dX4_divisor_31 : decode cX4_divisor 31 = .ok (.lload 4, 2) := by decide +kernel
theorem dX4_divisor_33 : decode cX4_divisor 33 = .ok (.lreturn, 1) := by decide +kernel
theorem dX4_isLess_0 : decode cX4_isLess 0 = .ok (.lload_n 0, 1) := by decide +kernel
theorem dX4_isLess_1 : decode cX4_isLess 1 = .ok (.lstore 8, 2) := by decide +kernel
theorem dX4_isLess_3 : decode cX4_isLess 3 = .ok (.lload_n 2, 1) := by decide +kernel
theorem dX4_isLess_4 : decode cX4_isLess 4 = .ok (.lstore 10, 2) := by decide +kernel
theorem dX4_isLess_6 : decode cX4_isLess 6 = .ok (.lload 4, 2) := by decide +kernel
theorem dX4_isLess_8 : decode cX4_isLess 8 = .ok (.lstore 12, 2) := by decide +kernel
theorem dX4_isLess_10 : decode cX4_isLess 10 = .ok (.lload 6, 2) := by decide +kernel
theorem dX4_isLess_12 : decode cX4_isLess 12 = .ok (.lstore 14, 2) := by decide +kernel
theorem dX4_isLess_14 : decode cX4_isLess 14 = .ok (.iconst 0, 1) := by decide +kernel
theorem dX4_isLess_15 : decode cX4_isLess 15 = .ok (.istore 16, 2) := by decide +kernel
theorem dX4_isLess_17 : decode cX4_isLess 17 = .ok (.lload 10, 2) := by decide +kernel
theorem dX4_isLess_19 : decode cX4_isLess 19 = .ok (.lconst 0, 1) := by decide +kernel
theorem dX4_isLess_20 : decode cX4_isLess 20 = .ok (.lcmp, 1) := by decide +kernel
theorem dX4_isLess_21 : decode cX4_isLess 21 = .ok (.ifCond .eq 10, 3) := by decide +kernel
theorem dX4_isLess_24 : decode cX4_isLess 24 = .ok (.lload 14, 2) := by decide +kernel
theorem dX4_isLess_26 : decode cX4_isLess 26 = .ok (.lconst 0, 1) := by decide +kernel
theorem dX4_isLess_27 : decode cX4_isLess 27 = .ok (.lcmp, 1) := by decide +kernel
theorem dX4_isLess_28 : decode cX4_isLess 28 = .ok (.ifCond .ne 54, 3) := by decide +kernel
theorem dX4_isLess_31 : decode cX4_isLess 31 = .ok (.lload 14, 2) := by decide +kernel
theorem dX4_isLess_33 : decode cX4_isLess 33 = .ok (.lconst 0, 1) := by decide +kernel
theorem dX4_isLess_34 : decode cX4_isLess 34 = .ok (.lcmp, 1) := by decide +kernel
theorem dX4_isLess_35 : decode cX4_isLess 35 = .ok (.ifCond .ne 14, 3) := by decide +kernel
theorem dX4_isLess_38 : decode cX4_isLess 38 = .ok (.lload 10, 2) := by decide +kernel
theorem dX4_isLess_40 : decode cX4_isLess 40 = .ok (.lconst 0, 1) := by decide +kernel
theorem dX4_isLess_41 : decode cX4_isLess 41 = .ok (.lcmp, 1) := by decide +kernel
theorem dX4_isLess_42 : decode cX4_isLess 42 = .ok (.ifCond .eq 7, 3) := by decide +kernel
theorem dX4_isLess_45 : decode cX4_isLess 45 = .ok (.iconst 1, 1) := by decide +kernel
theorem dX4_isLess_46 : decode cX4_isLess 46 = .ok (.goto 4, 3) := by decide +kernel
theorem dX4_isLess_49 : decode cX4_isLess 49 = .ok (.iconst 0, 1) := by decide +kernel
theorem dX4_isLess_50 : decode cX4_isLess 50 = .ok (.istore 17, 2) := by decide +kernel
theorem dX4_isLess_52 : decode cX4_isLess 52 = .ok (.iload 16, 2) := by decide +kernel
theorem dX4_isLess_54 : decode cX4_isLess 54 = .ok (.ifCond .eq 25, 3) := by decide +kernel
theorem dX4_isLess_57 : decode cX4_isLess 57 = .ok (.lload 10, 2) := by decide +kernel
theorem dX4_isLess_59 : decode cX4_isLess 59 = .ok (.lconst 0, 1) := by decide +kernel
theorem dX4_isLess_60 : decode cX4_isLess 60 = .ok (.lcmp, 1) := by decide +kernel
theorem dX4_isLess_61 : decode cX4_isLess 61 = .ok (.ifCond .ne 14, 3) := by decide +kernel
theorem dX4_isLess_64 : decode cX4_isLess 64 = .ok (.lload 14, 2) := by decide +kernel
theorem dX4_isLess_66 : decode cX4_isLess 66 = .ok (.lconst 0, 1) := by decide +kernel
theorem dX4_isLess_67 : decode cX4_isLess 67 = .ok (.lcmp, 1) := by decide +kernel
theorem dX4_isLess_68 : decode cX4_isLess 68 = .ok (.ifCond .eq 7, 3) := by decide +kernel
theorem dX4_isLess_71 : decode cX4_isLess 71 = .ok (.iconst 1, 1) := by decide +kernel
theorem dX4_isLess_72 : decode cX4_isLess 72 = .ok (.goto 9, 3) := by decide +kernel
theorem dX4_isLess_75 : decode cX4_isLess 75 = .ok (.iconst 0, 1) := by decide +kernel
theorem dX4_isLess_76 : decode cX4_isLess 76 = .ok (.goto 5, 3) := by decide +kernel
theorem dX4_isLess_79 : decode cX4_isLess 79 = .ok (.iload 17, 2) := by decide +kernel
theorem dX4_isLess_81 : decode cX4_isLess 81 = .ok (.ireturn, 1) := by decide +kernel
theorem dX4_isLess_82 : decode cX4_isLess 82 = .ok (.lload 8, 2) := by decide +kernel
theorem dX4_isLess_84 : decode cX4_isLess 84 = .ok (.lload 10, 2) := by decide +kernel
theorem dX4_isLess_86 : decode cX4_isLess 86 = .ok (.ldiv, 1) := by decide +kernel
theorem dX4_isLess_87 : decode cX4_isLess 87 = .ok (.lload 12, 2) := by decide +kernel
theorem dX4_isLess_89 : decode cX4_isLess 89 = .ok (.lload 14, 2) := by decide +kernel
theorem dX4_isLess_91 : decode cX4_isLess 91 = .ok (.ldiv, 1) := by decide +kernel
theorem dX4_isLess_92 : decode cX4_isLess 92 = .ok (.lcmp, 1) := by decide +kernel
theorem dX4_isLess_93 : decode cX4_isLess 93 = .ok (.ifCond .eq 33, 3) := by decide +kernel
theorem dX4_isLess_96 : decode cX4_isLess 96 = .ok (.lload 8, 2) := by decide +kernel
theorem dX4_isLess_98 : decode cX4_isLess 98 = .ok (.lload 10, 2) := by decide +kernel
theorem dX4_isLess_100 : decode cX4_isLess 100 = .ok (.ldiv, 1) := by decide +kernel
theorem dX4_isLess_101 : decode cX4_isLess 101 = .ok (.lload 12, 2) := by decide +kernel
theorem dX4_isLess_103 : decode cX4_isLess 103 = .ok (.lload 14, 2) := by decide +kernel
theorem dX4_isLess_105 : decode cX4_isLess 105 = .ok (.ldiv, 1) := by decide +kernel
theorem dX4_isLess_106 : decode cX4_isLess 106 = .ok (.lcmp, 1) := by decide +kernel
theorem dX4_isLess_107 : decode cX4_isLess 107 = .ok (.ifCond .ge 7, 3) := by decide +kernel
theorem dX4_isLess_110 : decode cX4_isLess 110 = .ok (.iconst 1, 1) := by decide +kernel
theorem dX4_isLess_111 : decode cX4_isLess 111 = .ok (.goto 4, 3) := by decide +kernel
theorem dX4_isLess_114 : decode cX4_isLess 114 = .ok (.iconst 0, 1) := by decide +kernel
theorem dX4_isLess_115 : decode cX4_isLess 115 = .ok (.iload 16, 2) := by decide +kernel
theorem dX4_isLess_117 : decode cX4_isLess 117 = .ok (.if_icmp .eq 7, 3) := by decide +kernel
theorem dX4_isLess_120 : decode cX4_isLess 120 = .ok (.iconst 1, 1) := by decide +kernel
theorem dX4_isLess_121 : decode cX4_isLess 121 = .ok (.goto 4, 3) := by decide +kernel
theorem dX4_isLess_124 : decode cX4_isLess 124 = .ok (.iconst 0, 1) := by decide +kernel
theorem dX4_isLess_125 : decode cX4_isLess 125 = .ok (.ireturn, 1) := by decide +kernel
theorem dX4_isLess_126 : decode cX4_isLess 126 = .ok (.lload 8, 2) := by decide +kernel
theorem dX4_isLess_128 : decode cX4_isLess 128 = .ok (.lload 10, 2) := by decide +kernel
theorem dX4_isLess_130 : decode cX4_isLess 130 = .ok (.lrem, 1) := by decide +kernel
theorem dX4_isLess_131 : decode cX4_isLess 131 = .ok (.lstore 17, 2) := by decide +kernel
theorem dX4_isLess_133 : decode cX4_isLess 133 = .ok (.lload 12, 2) := by decide +kernel
theorem dX4_isLess_135 : decode cX4_isLess 135 = .ok (.lload 14, 2) := by decide +kernel
theorem dX4_isLess_137 : decode cX4_isLess 137 = .ok (.lrem, 1) := by decide +kernel
theorem dX4_isLess_138 : decode cX4_isLess 138 = .ok (.lstore 19, 2) := by decide +kernel
theorem dX4_isLess_140 : decode cX4_isLess 140 = .ok (.lload 10, 2) := by decide +kernel
theorem dX4_isLess_142 : decode cX4_isLess 142 = .ok (.lstore 8, 2) := by decide +kernel
theorem dX4_isLess_144 : decode cX4_isLess 144 = .ok (.lload 17, 2) := by decide +kernel
theorem dX4_isLess_146 : decode cX4_isLess 146 = .ok (.lstore 10, 2) := by decide +kernel
theorem dX4_isLess_148 : decode cX4_isLess 148 = .ok (.lload 14, 2) := by decide +kernel
theorem dX4_isLess_150 : decode cX4_isLess 150 = .ok (.lstore 12, 2) := by decide +kernel
theorem dX4_isLess_152 : decode cX4_isLess 152 = .ok (.lload 19, 2) := by decide +kernel
theorem dX4_isLess_154 : decode cX4_isLess 154 = .ok (.lstore 14, 2) := by decide +kernel
theorem dX4_isLess_156 : decode cX4_isLess 156 = .ok (.iload 16, 2) := by decide +kernel
theorem dX4_isLess_158 : decode cX4_isLess 158 = .ok (.ifCond .ne 7, 3) := by decide +kernel
theorem dX4_isLess_161 : decode cX4_isLess 161 = .ok (.iconst 1, 1) := by decide +kernel
theorem dX4_isLess_162 : decode cX4_isLess 162 = .ok (.goto 4, 3) := by decide +kernel
theorem dX4_isLess_165 : decode cX4_isLess 165 = .ok (.iconst 0, 1) := by decide +kernel
theorem dX4_isLess_166 : decode cX4_isLess 166 = .ok (.istore 16, 2) := by decide +kernel
theorem dX4_isLess_168 : decode cX4_isLess 168 = .ok (.goto (-151), 3) := by decide +kernel
set_option maxRecDepth 20000 in
theorem ggX4_weigh_X4_isLess : GoodIn wsX4_weigh wsX4_isLess := goodIn_r _ [6] (by decide +kernel) (by decide +kernel)
set_option maxRecDepth 20000 in
theorem gX4_weigh_X4_isLess : GoodIn wsX4_weigh (va_wsS RX4 122 yX4_isLess wsX4_isLess) := goodIn_app (goodIn_of _ (by decide +kernel)) ggX4_weigh_X4_isLess
theorem dX4_weigh_0 : decode cX4_weigh 0 = .ok (.aload_n 0, 1) := by decide +kernel
theorem dX4_weigh_1 : decode cX4_weigh 1 = .ok (.getfield 115, 3) := by decide +kernel
theorem dX4_weigh_4 : decode cX4_weigh 4 = .ok (.lconst 0, 1) := by decide +kernel
theorem dX4_weigh_5 : decode cX4_weigh 5 = .ok (.lcmp, 1) := by decide +kernel
theorem dX4_weigh_6 : decode cX4_weigh 6 = .ok (.ifCond .eq 20, 3) := by decide +kernel
theorem dX4_weigh_9 : decode cX4_weigh 9 = .ok (.lload_n 1, 1) := by decide +kernel
theorem dX4_weigh_10 : decode cX4_weigh 10 = .ok (.lload_n 3, 1) := by decide +kernel
theorem dX4_weigh_11 : decode cX4_weigh 11 = .ok (.aload_n 0, 1) := by decide +kernel
theorem dX4_weigh_12 : decode cX4_weigh 12 = .ok (.getfield 119, 3) := by decide +kernel
theorem dX4_weigh_15 : decode cX4_weigh 15 = .ok (.aload_n 0, 1) := by decide +kernel
theorem dX4_weigh_16 : decode cX4_weigh 16 = .ok (.getfield 115, 3) := by decide +kernel
theorem dX4_weigh_19 : decode cX4_weigh 19 = .ok (.invokestatic 122, 3) := by decide +kernel
theorem dX4_weigh_22 : decode cX4_weigh 22 = .ok (.ifCond .ne 4, 3) := by decide +kernel
theorem dX4_weigh_25 : decode cX4_weigh 25 = .ok (.return_, 1) := by decide +kernel
theorem dX4_weigh_26 : decode cX4_weigh 26 = .ok (.aload_n 0, 1) := by decide +kernel
theorem dX4_weigh_27 : decode cX4_weigh 27 = .ok (.lload_n 1, 1) := by decide +kernel
theorem dX4_weigh_28 : decode cX4_weigh 28 = .ok (.putfield 119, 3) := by decide +kernel
theorem dX4_weigh_31 : decode cX4_weigh 31 = .ok (.aload_n 0, 1) := by decide +kernel
theorem dX4_weigh_32 : decode cX4_weigh 32 = .ok (.lload_n 3, 1) := by decide +kernel
theorem dX4_weigh_33 : decode cX4_weigh 33 = .ok (.putfield 115, 3) := by decide +kernel
theorem dX4_weigh_36 : decode cX4_weigh 36 = .ok (.return_, 1) := by decide +kernel
set_option maxRecDepth 20000 in
theorem ggX4_weighSide_X4_weigh : GoodIn wsX4_weighSide wsX4_weigh := goodIn_r _ [7, 8, 9, 10, 11, 6, 12, 19, 20, 21, 22, 23, 24, 25, 26, 27, 28, 29, 30, 31, 32, 33] (by decide +kernel) (by decide +kernel)
set_option maxRecDepth 20000 in
theorem gX4_weighSide_X4_weigh : GoodIn wsX4_weighSide (wsV RX4 126 RX4 yX4_weigh wsX4_weigh) := goodIn_app (goodIn_of _ (by decide +kernel)) ggX4_weighSide_X4_weigh
set_option maxRecDepth 20000 in
theorem ggX4_weighSide_X4_cross : GoodIn wsX4_weighSide wsX4_cross := goodIn_r _ [15] (by decide +kernel) (by decide +kernel)
set_option maxRecDepth 20000 in
theorem gX4_weighSide_X4_cross : GoodIn wsX4_weighSide (va_wsS RX4 65 yX4_cross wsX4_cross) := goodIn_app (goodIn_of _ (by decide +kernel)) ggX4_weighSide_X4_cross
set_option maxRecDepth 20000 in
theorem ggX4_weighSide_X4_divisor : GoodIn wsX4_weighSide wsX4_divisor := goodIn_r _ [18] (by decide +kernel) (by decide +kernel)
set_option maxRecDepth 20000 in
theorem gX4_weighSide_X4_divisor : GoodIn wsX4_weighSide (va_wsS RX4 130 yX4_divisor wsX4_divisor) := goodIn_app (goodIn_of _ (by decide +kernel)) ggX4_weighSide_X4_divisor
theorem dX4_weighSide_0 : decode cX4_weighSide 0 = .ok (.aload_n 0, 1) := by decide +kernel
theorem dX4_weighSide_1 : decode cX4_weighSide 1 = .ok (.getfield 20, 3) := by decide +kernel
theorem dX4_weighSide_4 : decode cX4_weighSide 4 = .ok (.iload 6, 2) := by decide +kernel
theorem dX4_weighSide_6 : decode cX4_weighSide 6 = .ok (.laload, 1) := by decide +kernel
theorem dX4_weighSide_7 : decode cX4_weighSide 7 = .ok (.aload_n 0, 1) := by decide +kernel
theorem dX4_weighSide_8 : decode cX4_weighSide 8 = .ok (.getfield 20, 3) := by decide +kernel
theorem dX4_weighSide_11 : decode cX4_weighSide 11 = .ok (.iload 5, 2) := by decide +kernel
theorem dX4_weighSide_13 : decode cX4_weighSide 13 = .ok (.laload, 1) := by decide +kernel
theorem dX4_weighSide_14 : decode cX4_weighSide 14 = .ok (.lsub, 1) := by decide +kernel
theorem dX4_weighSide_15 : decode cX4_weighSide 15 = .ok (.lstore 7, 2) := by decide +kernel
theorem dX4_weighSide_17 : decode cX4_weighSide 17 = .ok (.aload_n 0, 1) := by decide +kernel
theorem dX4_weighSide_18 : decode cX4_weighSide 18 = .ok (.getfield 24, 3) := by decide +kernel
theorem dX4_weighSide_21 : decode cX4_weighSide 21 = .ok (.iload 6, 2) := by decide +kernel
theorem dX4_weighSide_23 : decode cX4_weighSide 23 = .ok (.laload, 1) := by decide +kernel
theorem dX4_weighSide_24 : decode cX4_weighSide 24 = .ok (.aload_n 0, 1) := by decide +kernel
theorem dX4_weighSide_25 : decode cX4_weighSide 25 = .ok (.getfield 24, 3) := by decide +kernel
theorem dX4_weighSide_28 : decode cX4_weighSide 28 = .ok (.iload 5, 2) := by decide +kernel
theorem dX4_weighSide_30 : decode cX4_weighSide 30 = .ok (.laload, 1) := by decide +kernel
theorem dX4_weighSide_31 : decode cX4_weighSide 31 = .ok (.lsub, 1) := by decide +kernel
theorem dX4_weighSide_32 : decode cX4_weighSide 32 = .ok (.lstore 9, 2) := by decide +kernel
theorem dX4_weighSide_34 : decode cX4_weighSide 34 = .ok (.lload_n 1, 1) := by decide +kernel
theorem dX4_weighSide_35 : decode cX4_weighSide 35 = .ok (.aload_n 0, 1) := by decide +kernel
theorem dX4_weighSide_36 : decode cX4_weighSide 36 = .ok (.getfield 20, 3) := by decide +kernel
theorem dX4_weighSide_39 : decode cX4_weighSide 39 = .ok (.iload 5, 2) := by decide +kernel
theorem dX4_weighSide_41 : decode cX4_weighSide 41 = .ok (.laload, 1) := by decide +kernel
theorem dX4_weighSide_42 : decode cX4_weighSide 42 = .ok (.lsub, 1) := by decide +kernel
theorem dX4_weighSide_43 : decode cX4_weighSide 43 = .ok (.lstore 11, 2) := by decide +kernel
theorem dX4_weighSide_45 : decode cX4_weighSide 45 = .ok (.lload_n 3, 1) := by decide +kernel
theorem dX4_weighSide_46 : decode cX4_weighSide 46 = .ok (.aload_n 0, 1) := by decide +kernel
theorem dX4_weighSide_47 : decode cX4_weighSide 47 = .ok (.getfield 24, 3) := by decide +kernel
theorem dX4_weighSide_50 : decode cX4_weighSide 50 = .ok (.iload 5, 2) := by decide +kernel
theorem dX4_weighSide_52 : decode cX4_weighSide 52 = .ok (.laload, 1) := by decide +kernel
theorem dX4_weighSide_53 : decode cX4_weighSide 53 = .ok (.lsub, 1) := by decide +kernel
theorem dX4_weighSide_54 : decode cX4_weighSide 54 = .ok (.lstore 13, 2) := by decide +kernel
theorem dX4_weighSide_56 : decode cX4_weighSide 56 = .ok (.lload 11, 2) := by decide +kernel
theorem dX4_weighSide_58 : decode cX4_weighSide 58 = .ok (.lload 7, 2) := by decide +kernel
theorem dX4_weighSide_60 : decode cX4_weighSide 60 = .ok (.lmul, 1) := by decide +kernel
theorem dX4_weighSide_61 : decode cX4_weighSide 61 = .ok (.lload 13, 2) := by decide +kernel
theorem dX4_weighSide_63 : decode cX4_weighSide 63 = .ok (.lload 9, 2) := by decide +kernel
theorem dX4_weighSide_65 : decode cX4_weighSide 65 = .ok (.lmul, 1) := by decide +kernel
theorem dX4_weighSide_66 : decode cX4_weighSide 66 = .ok (.ladd, 1) := by decide +kernel
theorem dX4_weighSide_67 : decode cX4_weighSide 67 = .ok (.lstore 15, 2) := by decide +kernel
theorem dX4_weighSide_69 : decode cX4_weighSide 69 = .ok (.lload 7, 2) := by decide +kernel
theorem dX4_weighSide_71 : decode cX4_weighSide 71 = .ok (.lload 7, 2) := by decide +kernel
theorem dX4_weighSide_73 : decode cX4_weighSide 73 = .ok (.lmul, 1) := by decide +kernel
theorem dX4_weighSide_74 : decode cX4_weighSide 74 = .ok (.lload 9, 2) := by decide +kernel
theorem dX4_weighSide_76 : decode cX4_weighSide 76 = .ok (.lload 9, 2) := by decide +kernel
theorem dX4_weighSide_78 : decode cX4_weighSide 78 = .ok (.lmul, 1) := by decide +kernel
theorem dX4_weighSide_79 : decode cX4_weighSide 79 = .ok (.ladd, 1) := by decide +kernel
theorem dX4_weighSide_80 : decode cX4_weighSide 80 = .ok (.lstore 17, 2) := by decide +kernel
theorem dX4_weighSide_82 : decode cX4_weighSide 82 = .ok (.lload 15, 2) := by decide +kernel
theorem dX4_weighSide_84 : decode cX4_weighSide 84 = .ok (.lconst 0, 1) := by decide +kernel
theorem dX4_weighSide_85 : decode cX4_weighSide 85 = .ok (.lcmp, 1) := by decide +kernel
theorem dX4_weighSide_86 : decode cX4_weighSide 86 = .ok (.ifCond .gt 22, 3) := by decide +kernel
theorem dX4_weighSide_89 : decode cX4_weighSide 89 = .ok (.aload_n 0, 1) := by decide +kernel
theorem dX4_weighSide_90 : decode cX4_weighSide 90 = .ok (.lload 11, 2) := by decide +kernel
theorem dX4_weighSide_92 : decode cX4_weighSide 92 = .ok (.lload 11, 2) := by decide +kernel
theorem dX4_weighSide_94 : decode cX4_weighSide 94 = .ok (.lmul, 1) := by decide +kernel
theorem dX4_weighSide_95 : decode cX4_weighSide 95 = .ok (.lload 13, 2) := by decide +kernel
theorem dX4_weighSide_97 : decode cX4_weighSide 97 = .ok (.lload 13, 2) := by decide +kernel
theorem dX4_weighSide_99 : decode cX4_weighSide 99 = .ok (.lmul, 1) := by decide +kernel
theorem dX4_weighSide_100 : decode cX4_weighSide 100 = .ok (.ladd, 1) := by decide +kernel
theorem dX4_weighSide_101 : decode cX4_weighSide 101 = .ok (.lconst 1, 1) := by decide +kernel
theorem dX4_weighSide_102 : decode cX4_weighSide 102 = .ok (.invokevirtual 126, 3) := by decide +kernel
theorem dX4_weighSide_105 : decode cX4_weighSide 105 = .ok (.goto 100, 3) := by decide +kernel
theorem dX4_weighSide_108 : decode cX4_weighSide 108 = .ok (.lload 15, 2) := by decide +kernel
theorem dX4_weighSide_110 : decode cX4_weighSide 110 = .ok (.lload 17, 2) := by decide +kernel
theorem dX4_weighSide_112 : decode cX4_weighSide 112 = .ok (.lcmp, 1) := by decide +kernel
theorem dX4_weighSide_113 : decode cX4_weighSide 113 = .ok (.ifCond .lt 50, 3) := by decide +kernel
theorem dX4_weighSide_116 : decode cX4_weighSide 116 = .ok (.aload_n 0, 1) := by decide +kernel
theorem dX4_weighSide_117 : decode cX4_weighSide 117 = .ok (.lload_n 1, 1) := by decide +kernel
theorem dX4_weighSide_118 : decode cX4_weighSide 118 = .ok (.aload_n 0, 1) := by decide +kernel
theorem dX4_weighSide_119 : decode cX4_weighSide 119 = .ok (.getfield 20, 3) := by decide +kernel
theorem dX4_weighSide_122 : decode cX4_weighSide 122 = .ok (.iload 6, 2) := by decide +kernel
theorem dX4_weighSide_124 : decode cX4_weighSide 124 = .ok (.laload, 1) := by decide +kernel
theorem dX4_weighSide_125 : decode cX4_weighSide 125 = .ok (.lsub, 1) := by decide +kernel
theorem dX4_weighSide_126 : decode cX4_weighSide 126 = .ok (.lload_n 1, 1) := by decide +kernel
theorem dX4_weighSide_127 : decode cX4_weighSide 127 = .ok (.aload_n 0, 1) := by decide +kernel
theorem dX4_weighSide_128 : decode cX4_weighSide 128 = .ok (.getfield 20, 3) := by decide +kernel
theorem dX4_weighSide_131 : decode cX4_weighSide 131 = .ok (.iload 6, 2) := by decide +kernel
theorem dX4_weighSide_133 : decode cX4_weighSide 133 = .ok (.laload, 1) := by decide +kernel
theorem dX4_weighSide_134 : decode cX4_weighSide 134 = .ok (.lsub, 1) := by decide +kernel
theorem dX4_weighSide_135 : decode cX4_weighSide 135 = .ok (.lmul, 1) := by decide +kernel
theorem dX4_weighSide_136 : decode cX4_weighSide 136 = .ok (.lload_n 3, 1) := by decide +kernel
theorem dX4_weighSide_137 : decode cX4_weighSide 137 = .ok (.aload_n 0, 1) := by decide +kernel
theorem dX4_weighSide_138 : decode cX4_weighSide 138 = .ok (.getfield 24, 3) := by decide +kernel
theorem dX4_weighSide_141 : decode cX4_weighSide 141 = .ok (.iload 6, 2) := by decide +kernel
theorem dX4_weighSide_143 : decode cX4_weighSide 143 = .ok (.laload, 1) := by decide +kernel
theorem dX4_weighSide_144 : decode cX4_weighSide 144 = .ok (.lsub, 1) := by decide +kernel
theorem dX4_weighSide_145 : decode cX4_weighSide 145 = .ok (.lload_n 3, 1) := by decide +kernel
theorem dX4_weighSide_146 : decode cX4_weighSide 146 = .ok (.aload_n 0, 1) := by decide +kernel
theorem dX4_weighSide_147 : decode cX4_weighSide 147 = .ok (.getfield 24, 3) := by decide +kernel
theorem dX4_weighSide_150 : decode cX4_weighSide 150 = .ok (.iload 6, 2) := by decide +kernel
theorem dX4_weighSide_152 : decode cX4_weighSide 152 = .ok (.laload, 1) := by decide +kernel
theorem dX4_weighSide_153 : decode cX4_weighSide 153 = .ok (.lsub, 1) := by decide +kernel
theorem dX4_weighSide_154 : decode cX4_weighSide 154 = .ok (.lmul, 1) := by decide +kernel
theorem dX4_weighSide_155 : decode cX4_weighSide 155 = .ok (.ladd, 1) := by decide +kernel
theorem dX4_weighSide_156 : decode cX4_weighSide 156 = .ok (.lconst 1, 1) := by decide +kernel
theorem dX4_weighSide_157 : decode cX4_weighSide 157 = .ok (.invokevirtual 126, 3) := by decide +kernel
theorem dX4_weighSide_160 : decode cX4_weighSide 160 = .ok (.goto 45, 3) := by decide +kernel
theorem dX4_weighSide_163 : decode cX4_weighSide 163 = .ok (.lload 7, 2) := by decide +kernel
theorem dX4_weighSide_165 : decode cX4_weighSide 165 = .ok (.lload 9, 2) := by decide +kernel
theorem dX4_weighSide_167 : decode cX4_weighSide 167 = .ok (.lload 11, 2) := by decide +kernel
theorem dX4_weighSide_169 : decode cX4_weighSide 169 = .ok (.lload 13, 2) := by decide +kernel
theorem dX4_weighSide_171 : decode cX4_weighSide 171 = .ok (.invokestatic 65, 3) := by decide +kernel
theorem dX4_weighSide_174 : decode cX4_weighSide 174 = .ok (.lstore 19, 2) := by decide +kernel
theorem dX4_weighSide_176 : decode cX4_weighSide 176 = .ok (.lload 19, 2) := by decide +kernel
theorem dX4_weighSide_178 : decode cX4_weighSide 178 = .ok (.lload 19, 2) := by decide +kernel
theorem dX4_weighSide_180 : decode cX4_weighSide 180 = .ok (.lmul, 1) := by decide +kernel
theorem dX4_weighSide_181 : decode cX4_weighSide 181 = .ok (.lload 17, 2) := by decide +kernel
theorem dX4_weighSide_183 : decode cX4_weighSide 183 = .ok (.invokestatic 130, 3) := by decide +kernel
theorem dX4_weighSide_186 : decode cX4_weighSide 186 = .ok (.lstore 21, 2) := by decide +kernel
theorem dX4_weighSide_188 : decode cX4_weighSide 188 = .ok (.aload_n 0, 1) := by decide +kernel
theorem dX4_weighSide_189 : decode cX4_weighSide 189 = .ok (.lload 19, 2) := by decide +kernel
theorem dX4_weighSide_191 : decode cX4_weighSide 191 = .ok (.lload 19, 2) := by decide +kernel
theorem dX4_weighSide_193 : decode cX4_weighSide 193 = .ok (.lmul, 1) := by decide +kernel
theorem dX4_weighSide_194 : decode cX4_weighSide 194 = .ok (.lload 21, 2) := by decide +kernel
theorem dX4_weighSide_196 : decode cX4_weighSide 196 = .ok (.ldiv, 1) := by decide +kernel
theorem dX4_weighSide_197 : decode cX4_weighSide 197 = .ok (.lload 17, 2) := by decide +kernel
theorem dX4_weighSide_199 : decode cX4_weighSide 199 = .ok (.lload 21, 2) := by decide +kernel
theorem dX4_weighSide_201 : decode cX4_weighSide 201 = .ok (.ldiv, 1) := by decide +kernel
theorem dX4_weighSide_202 : decode cX4_weighSide 202 = .ok (.invokevirtual 126, 3) := by decide +kernel
theorem dX4_weighSide_205 : decode cX4_weighSide 205 = .ok (.return_, 1) := by decide +kernel
set_option maxRecDepth 20000 in
theorem ggX4_weighCorners_X4_sides : GoodIn wsX4_weighCorners wsX4_sides := goodIn_r _ [8, 9, 1, 37, 38, 39, 40, 41, 42, 43, 44, 45, 46, 47, 48, 49, 50, 51] (by decide +kernel) (by decide +kernel)
set_option maxRecDepth 20000 in
theorem gX4_weighCorners_X4_sides : GoodIn wsX4_weighCorners (wsV RX4 96 RX4 yX4_sides wsX4_sides) := goodIn_app (goodIn_of _ (by decide +kernel)) ggX4_weighCorners_X4_sides
set_option maxRecDepth 20000 in
theorem ggX4_weighCorners_X4_from : GoodIn wsX4_weighCorners wsX4_from := goodIn_r _ [13] (by decide +kernel) (by decide +kernel)
set_option maxRecDepth 20000 in
theorem gX4_weighCorners_X4_from : GoodIn wsX4_weighCorners (wsV RX4 81 RX4 yX4_from wsX4_from) := goodIn_app (goodIn_of _ (by decide +kernel)) ggX4_weighCorners_X4_from
set_option maxRecDepth 20000 in
theorem ggX4_weighCorners_X4_to : GoodIn wsX4_weighCorners wsX4_to := goodIn_r _ [17, 9, 1, 37, 38, 39, 40, 41, 42, 43, 44, 45, 46, 47, 48, 49, 50, 51] (by decide +kernel) (by decide +kernel)
set_option maxRecDepth 20000 in
theorem gX4_weighCorners_X4_to : GoodIn wsX4_weighCorners (wsV RX4 85 RX4 yX4_to wsX4_to) := goodIn_app (goodIn_of _ (by decide +kernel)) ggX4_weighCorners_X4_to
set_option maxRecDepth 20000 in
theorem ggX4_weighCorners_X4_weighSide : GoodIn wsX4_weighCorners wsX4_weighSide := goodIn_r _ [21, 2, 3, 22, 23, 24, 7, 25, 26, 27, 28, 29, 30, 31, 32, 33, 34, 35, 36, 37, 38, 39, 40, 41, 42, 43, 44, 45, 46, 47, 48, 49, 50, 51] (by decide +kernel) (by decide +kernel)
set_option maxRecDepth 20000 in
theorem gX4_weighCorners_X4_weighSide : GoodIn wsX4_weighCorners (wsV RX4 134 RX4 yX4_weighSide wsX4_weighSide) := goodIn_app (goodIn_of _ (by decide +kernel)) ggX4_weighCorners_X4_weighSide
theorem dX4_weighCorners_0 : decode cX4_weighCorners 0 = .ok (.iconst 0, 1) := by decide +kernel
theorem dX4_weighCorners_1 : decode cX4_weighCorners 1 = .ok (.istore_n 3, 1) := by decide +kernel
theorem dX4_weighCorners_2 : decode cX4_weighCorners 2 = .ok (.iload_n 3, 1) := by decide +kernel
theorem dX4_weighCorners_3 : decode cX4_weighCorners 3 = .ok (.aload_n 0, 1) := by decide +kernel
theorem dX4_weighCorners_4 : decode cX4_weighCorners 4 = .ok (.getfield 17, 3) := by decide +kernel
theorem dX4_weighCorners_7 : decode cX4_weighCorners 7 = .ok (.iload_n 1, 1) := by decide +kernel
theorem dX4_weighCorners_8 : decode cX4_weighCorners 8 = .ok (.iaload, 1) := by decide +kernel
theorem dX4_weighCorners_9 : decode cX4_weighCorners 9 = .ok (.if_icmp .ge 68, 3) := by decide +kernel
theorem dX4_weighCorners_12 : decode cX4_weighCorners 12 = .ok (.iconst 0, 1) := by decide +kernel
theorem dX4_weighCorners_13 : decode cX4_weighCorners 13 = .ok (.istore 4, 2) := by decide +kernel
theorem dX4_weighCorners_15 : decode cX4_weighCorners 15 = .ok (.iload 4, 2) := by decide +kernel
theorem dX4_weighCorners_17 : decode cX4_weighCorners 17 = .ok (.aload_n 0, 1) := by decide +kernel
theorem dX4_weighCorners_18 : decode cX4_weighCorners 18 = .ok (.iload_n 2, 1) := by decide +kernel
theorem dX4_weighCorners_19 : decode cX4_weighCorners 19 = .ok (.invokevirtual 96, 3) := by decide +kernel
theorem dX4_weighCorners_22 : decode cX4_weighCorners 22 = .ok (.if_icmp .ge 49, 3) := by decide +kernel
theorem dX4_weighCorners_25 : decode cX4_weighCorners 25 = .ok (.aload_n 0, 1) := by decide +kernel
theorem dX4_weighCorners_26 : decode cX4_weighCorners 26 = .ok (.aload_n 0, 1) := by decide +kernel
theorem dX4_weighCorners_27 : decode cX4_weighCorners 27 = .ok (.getfield 20, 3) := by decide +kernel
theorem dX4_weighCorners_30 : decode cX4_weighCorners 30 = .ok (.aload_n 0, 1) := by decide +kernel
theorem dX4_weighCorners_31 : decode cX4_weighCorners 31 = .ok (.iload_n 1, 1) := by decide +kernel
theorem dX4_weighCorners_32 : decode cX4_weighCorners 32 = .ok (.iload_n 3, 1) := by decide +kernel
theorem dX4_weighCorners_33 : decode cX4_weighCorners 33 = .ok (.invokevirtual 81, 3) := by decide +kernel
theorem dX4_weighCorners_36 : decode cX4_weighCorners 36 = .ok (.laload, 1) := by decide +kernel
theorem dX4_weighCorners_37 : decode cX4_weighCorners 37 = .ok (.aload_n 0, 1) := by decide +kernel
theorem dX4_weighCorners_38 : decode cX4_weighCorners 38 = .ok (.getfield 24, 3) := by decide +kernel
theorem dX4_weighCorners_41 : decode cX4_weighCorners 41 = .ok (.aload_n 0, 1) := by decide +kernel
theorem dX4_weighCorners_42 : decode cX4_weighCorners 42 = .ok (.iload_n 1, 1) := by decide +kernel
theorem dX4_weighCorners_43 : decode cX4_weighCorners 43 = .ok (.iload_n 3, 1) := by decide +kernel
theorem dX4_weighCorners_44 : decode cX4_weighCorners 44 = .ok (.invokevirtual 81, 3) := by decide +kernel
theorem dX4_weighCorners_47 : decode cX4_weighCorners 47 = .ok (.laload, 1) := by decide +kernel
theorem dX4_weighCorners_48 : decode cX4_weighCorners 48 = .ok (.aload_n 0, 1) := by decide +kernel
theorem dX4_weighCorners_49 : decode cX4_weighCorners 49 = .ok (.iload_n 2, 1) := by decide +kernel
theorem dX4_weighCorners_50 : decode cX4_weighCorners 50 = .ok (.iload 4, 2) := by decide +kernel
theorem dX4_weighCorners_52 : decode cX4_weighCorners 52 = .ok (.invokevirtual 81, 3) := by decide +kernel
theorem dX4_weighCorners_55 : decode cX4_weighCorners 55 = .ok (.aload_n 0, 1) := by decide +kernel
theorem dX4_weighCorners_56 : decode cX4_weighCorners 56 = .ok (.iload_n 2, 1) := by decide +kernel
theorem dX4_weighCorners_57 : decode cX4_weighCorners 57 = .ok (.iload 4, 2) := by decide +kernel
theorem dX4_weighCorners_59 : decode cX4_weighCorners 59 = .ok (.invokevirtual 85, 3) := by decide +kernel
theorem dX4_weighCorners_62 : decode cX4_weighCorners 62 = .ok (.invokevirtual 134, 3) := by decide +kernel
theorem dX4_weighCorners_65 : decode cX4_weighCorners 65 = .ok (.iinc 4 1, 3) := by decide +kernel
theorem dX4_weighCorners_68 : decode cX4_weighCorners 68 = .ok (.goto (-53), 3) := by decide +kernel
theorem dX4_weighCorners_71 : decode cX4_weighCorners 71 = .ok (.iinc 3 1, 3) := by decide +kernel
theorem dX4_weighCorners_74 : decode cX4_weighCorners 74 = .ok (.goto (-72), 3) := by decide +kernel
theorem dX4_weighCorners_77 : decode cX4_weighCorners 77 = .ok (.return_, 1) := by decide +kernel
set_option maxRecDepth 20000 in
theorem ggX4_least_X4_have : GoodIn wsX4_least wsX4_have := goodIn_r _ [7, 8, 9, 10, 11, 12, 13, 6, 14, 15, 16, 17, 18, 19, 20, 21, 22, 23, 24, 25, 26, 27, 28, 29, 30, 31, 32, 33, 34, 35, 36, 37, 38, 39, 40, 41, 42, 43, 62, 63, 64, 65, 66, 67, 68, 69, 70, 71, 72, 73, 74, 75, 76] (by decide +kernel) (by decide +kernel)
set_option maxRecDepth 20000 in
theorem gX4_least_X4_have : GoodIn wsX4_least (wsV RX4 112 RX4 yX4_have wsX4_have) := goodIn_app (goodIn_of _ (by decide +kernel)) ggX4_least_X4_have
set_option maxRecDepth 20000 in
theorem ggX4_least_X4_weighCorners : GoodIn wsX4_least wsX4_weighCorners := goodIn_r _ [47, 15, 9, 10, 11, 12, 13, 6, 14, 8, 16, 17, 18, 19, 20, 21, 22, 23, 48, 49, 50, 51, 52, 53, 54, 55, 2, 1, 56, 57, 58, 34, 35, 36, 59, 60, 61, 62, 63, 64, 65, 66, 67, 68, 69, 70, 71, 72, 73, 74, 75, 76] (by decide +kernel) (by decide +kernel)
set_option maxRecDepth 20000 in
theorem gX4_least_X4_weighCorners : GoodIn wsX4_least (wsV RX4 138 RX4 yX4_weighCorners wsX4_weighCorners) := goodIn_app (goodIn_of _ (by decide +kernel)) ggX4_least_X4_weighCorners
theorem dX4_least_0 : decode cX4_least 0 = .ok (.aload_n 0, 1) := by decide +kernel
theorem dX4_least_1 : decode cX4_least 1 = .ok (.lconst 0, 1) := by decide +kernel
theorem dX4_least_2 : decode cX4_least 2 = .ok (.putfield 119, 3) := by decide +kernel
theorem dX4_least_5 : decode cX4_least 5 = .ok (.aload_n 0, 1) := by decide +kernel
theorem dX4_least_6 : decode cX4_least 6 = .ok (.lconst 1, 1) := by decide +kernel
theorem dX4_least_7 : decode cX4_least 7 = .ok (.putfield 115, 3) := by decide +kernel
theorem dX4_least_10 : decode cX4_least 10 = .ok (.aload_n 0, 1) := by decide +kernel
theorem dX4_least_11 : decode cX4_least 11 = .ok (.iload_n 1, 1) := by decide +kernel
theorem dX4_least_12 : decode cX4_least 12 = .ok (.iload_n 2, 1) := by decide +kernel
theorem dX4_least_13 : decode cX4_least 13 = .ok (.invokevirtual 112, 3) := by decide +kernel
theorem dX4_least_16 : decode cX4_least 16 = .ok (.ifCond .eq 4, 3) := by decide +kernel
theorem dX4_least_19 : decode cX4_least 19 = .ok (.return_, 1) := by decide +kernel
theorem dX4_least_20 : decode cX4_least 20 = .ok (.aload_n 0, 1) := by decide +kernel
theorem dX4_least_21 : decode cX4_least 21 = .ok (.lconst 0, 1) := by decide +kernel
theorem dX4_least_22 : decode cX4_least 22 = .ok (.putfield 115, 3) := by decide +kernel
theorem dX4_least_25 : decode cX4_least 25 = .ok (.aload_n 0, 1) := by decide +kernel
theorem dX4_least_26 : decode cX4_least 26 = .ok (.iload_n 1, 1) := by decide +kernel
theorem dX4_least_27 : decode cX4_least 27 = .ok (.iload_n 2, 1) := by decide +kernel
theorem dX4_least_28 : decode cX4_least 28 = .ok (.invokevirtual 138, 3) := by decide +kernel
theorem dX4_least_31 : decode cX4_least 31 = .ok (.aload_n 0, 1) := by decide +kernel
theorem dX4_least_32 : decode cX4_least 32 = .ok (.iload_n 2, 1) := by decide +kernel
theorem dX4_least_33 : decode cX4_least 33 = .ok (.iload_n 1, 1) := by decide +kernel
theorem dX4_least_34 : decode cX4_least 34 = .ok (.invokevirtual 138, 3) := by decide +kernel
theorem dX4_least_37 : decode cX4_least 37 = .ok (.return_, 1) := by decide +kernel
set_option maxRecDepth 20000 in
theorem ggX4_square_X4_isRight : GoodIn wsX4_square wsX4_isRight := goodIn_r _ [9, 10, 11, 12, 8, 13, 14, 15, 16, 17, 18, 19, 1, 20, 21, 22, 23, 24, 25, 26, 27, 28, 29, 30, 31, 32, 33, 34, 35, 36, 37, 38, 39, 40, 41, 42, 43, 44, 45, 46, 47, 48, 49, 50, 51, 52, 53, 54, 55, 56, 57, 58, 89, 90, 91, 92, 93, 94, 95, 96, 97, 98, 99, 100, 101, 102, 103] (by decide +kernel) (by decide +kernel)
set_option maxRecDepth 20000 in
theorem gX4_square_X4_isRight : GoodIn wsX4_square (wsV RX4 105 RX4 yX4_isRight wsX4_isRight) := goodIn_app (goodIn_of _ (by decide +kernel)) ggX4_square_X4_isRight
set_option maxRecDepth 20000 in
theorem ggX4_square_X4_least : GoodIn wsX4_square wsX4_least := goodIn_r _ [62, 3, 4, 63, 64, 65, 8, 66, 15, 29, 30, 21, 22, 23, 24, 20, 31, 32, 33, 34, 35, 36, 37, 38, 46, 47, 48, 49, 50, 51, 52, 53, 54, 55, 43, 44, 45, 56, 57, 58, 67, 68, 69, 70, 71, 72, 73, 74, 75, 76, 77, 78, 79, 80, 81, 82, 83, 84, 85, 86, 87, 88, 89, 90, 91, 92, 93, 94, 95, 96, 97, 98, 99, 100, 101, 102, 103] (by decide +kernel) (by decide +kernel)
set_option maxRecDepth 20000 in
theorem gX4_square_X4_least : GoodIn wsX4_square (wsV RX4 144 RX4 yX4_least wsX4_least) := goodIn_app (goodIn_of _ (by decide +kernel)) ggX4_square_X4_least
theorem dX4_square_0 : decode cX4_square 0 = .ok (.aload_n 0, 1) := by decide +kernel
theorem dX4_square_1 : decode cX4_square 1 = .ok (.iconst 0, 1) := by decide +kernel
theorem dX4_square_2 : decode cX4_square 2 = .ok (.putfield 1, 3) := by decide +kernel
theorem dX4_square_5 : decode cX4_square 5 = .ok (.aload_n 0, 1) := by decide +kernel
theorem dX4_square_6 : decode cX4_square 6 = .ok (.iload_n 1, 1) := by decide +kernel
theorem dX4_square_7 : decode cX4_square 7 = .ok (.invokevirtual 105, 3) := by decide +kernel
theorem dX4_square_10 : decode cX4_square 10 = .ok (.ifCond .eq 11, 3) := by decide +kernel
theorem dX4_square_13 : decode cX4_square 13 = .ok (.aload_n 0, 1) := by decide +kernel
theorem dX4_square_14 : decode cX4_square 14 = .ok (.iload_n 2, 1) := by decide +kernel
theorem dX4_square_15 : decode cX4_square 15 = .ok (.invokevirtual 105, 3) := by decide +kernel
theorem dX4_square_18 : decode cX4_square 18 = .ok (.ifCond .ne 7, 3) := by decide +kernel
theorem dX4_square_21 : decode cX4_square 21 = .ok (.ldc2_w 142, 3) := by decide +kernel
theorem dX4_square_24 : decode cX4_square 24 = .ok (.lreturn, 1) := by decide +kernel
theorem dX4_square_25 : decode cX4_square 25 = .ok (.aload_n 0, 1) := by decide +kernel
theorem dX4_square_26 : decode cX4_square 26 = .ok (.iload_n 1, 1) := by decide +kernel
theorem dX4_square_27 : decode cX4_square 27 = .ok (.iload_n 2, 1) := by decide +kernel
theorem dX4_square_28 : decode cX4_square 28 = .ok (.invokevirtual 144, 3) := by decide +kernel
theorem dX4_square_31 : decode cX4_square 31 = .ok (.iload_n 3, 1) := by decide +kernel
theorem dX4_square_32 : decode cX4_square 32 = .ok (.ifCond .ne 10, 3) := by decide +kernel
theorem dX4_square_35 : decode cX4_square 35 = .ok (.aload_n 0, 1) := by decide +kernel
theorem dX4_square_36 : decode cX4_square 36 = .ok (.getfield 119, 3) := by decide +kernel
theorem dX4_square_39 : decode cX4_square 39 = .ok (.goto 7, 3) := by decide +kernel
theorem dX4_square_42 : decode cX4_square 42 = .ok (.aload_n 0, 1) := by decide +kernel
theorem dX4_square_43 : decode cX4_square 43 = .ok (.getfield 115, 3) := by decide +kernel
theorem dX4_square_46 : decode cX4_square 46 = .ok (.lreturn, 1) := by decide +kernel
set_option maxRecDepth 20000 in
theorem ggX4_toPlace_X4_stands : GoodIn wsX4_toPlace wsX4_stands := goodIn_r _ [8, 9, 10, 11, 12, 13, 14, 7, 15, 16, 17, 18, 19, 3, 20, 21, 22, 23, 24, 25, 26, 27, 28, 29, 30, 31, 50, 51, 52, 53, 54, 55, 56, 57, 58, 59, 60, 61, 62, 63, 64] (by decide +kernel) (by decide +kernel)
set_option maxRecDepth 20000 in
theorem gX4_toPlace_X4_stands : GoodIn wsX4_toPlace (wsV RX4 108 RX4 yX4_stands wsX4_stands) := goodIn_app (goodIn_of _ (by decide +kernel)) ggX4_toPlace_X4_stands
set_option maxRecDepth 20000 in
theorem ggX4_toPlace_X4_sides : GoodIn wsX4_toPlace wsX4_sides := goodIn_r _ [35, 3, 9, 50, 51, 52, 53, 54, 55, 56, 57, 58, 59, 60, 61, 62, 63, 64] (by decide +kernel) (by decide +kernel)
set_option maxRecDepth 20000 in
theorem gX4_toPlace_X4_sides : GoodIn wsX4_toPlace (wsV RX4 96 RX4 yX4_sides wsX4_sides) := goodIn_app (goodIn_of _ (by decide +kernel)) ggX4_toPlace_X4_sides
set_option maxRecDepth 20000 in
theorem ggX4_toPlace_X4_from : GoodIn wsX4_toPlace wsX4_from := goodIn_r _ [15] (by decide +kernel) (by decide +kernel)
set_option maxRecDepth 20000 in
theorem gX4_toPlace_X4_from : GoodIn wsX4_toPlace (wsV RX4 81 RX4 yX4_from wsX4_from) := goodIn_app (goodIn_of _ (by decide +kernel)) ggX4_toPlace_X4_from
set_option maxRecDepth 20000 in
theorem ggX4_toPlace_X4_to : GoodIn wsX4_toPlace wsX4_to := goodIn_r _ [19, 3, 9, 50, 51, 52, 53, 54, 55, 56, 57, 58, 59, 60, 61, 62, 63, 64] (by decide +kernel) (by decide +kernel)
set_option maxRecDepth 20000 in
theorem gX4_toPlace_X4_to : GoodIn wsX4_toPlace (wsV RX4 85 RX4 yX4_to wsX4_to) := goodIn_app (goodIn_of _ (by decide +kernel)) ggX4_toPlace_X4_to
set_option maxRecDepth 20000 in
theorem ggX4_toPlace_X4_weighSide : GoodIn wsX4_toPlace wsX4_weighSide := goodIn_r _ [39, 10, 11, 40, 41, 42, 7, 43, 2, 1, 44, 45, 46, 26, 27, 28, 47, 48, 49, 50, 51, 52, 53, 54, 55, 56, 57, 58, 59, 60, 61, 62, 63, 64] (by decide +kernel) (by decide +kernel)
set_option maxRecDepth 20000 in
theorem gX4_toPlace_X4_weighSide : GoodIn wsX4_toPlace (wsV RX4 134 RX4 yX4_weighSide wsX4_weighSide) := goodIn_app (goodIn_of _ (by decide +kernel)) ggX4_toPlace_X4_weighSide
theorem dX4_toPlace_0 : decode cX4_toPlace 0 = .ok (.aload_n 0, 1) := by decide +kernel
theorem dX4_toPlace_1 : decode cX4_toPlace 1 = .ok (.lconst 0, 1) := by decide +kernel
theorem dX4_toPlace_2 : decode cX4_toPlace 2 = .ok (.putfield 119, 3) := by decide +kernel
theorem dX4_toPlace_5 : decode cX4_toPlace 5 = .ok (.aload_n 0, 1) := by decide +kernel
theorem dX4_toPlace_6 : decode cX4_toPlace 6 = .ok (.lconst 1, 1) := by decide +kernel
theorem dX4_toPlace_7 : decode cX4_toPlace 7 = .ok (.putfield 115, 3) := by decide +kernel
theorem dX4_toPlace_10 : decode cX4_toPlace 10 = .ok (.aload_n 0, 1) := by decide +kernel
theorem dX4_toPlace_11 : decode cX4_toPlace 11 = .ok (.getfield 13, 3) := by decide +kernel
theorem dX4_toPlace_14 : decode cX4_toPlace 14 = .ok (.iload_n 3, 1) := by decide +kernel
theorem dX4_toPlace_15 : decode cX4_toPlace 15 = .ok (.iaload, 1) := by decide +kernel
theorem dX4_toPlace_16 : decode cX4_toPlace 16 = .ok (.iconst 3, 1) := by decide +kernel
theorem dX4_toPlace_17 : decode cX4_toPlace 17 = .ok (.if_icmp .ne 16, 3) := by decide +kernel
theorem dX4_toPlace_20 : decode cX4_toPlace 20 = .ok (.aload_n 0, 1) := by decide +kernel
theorem dX4_toPlace_21 : decode cX4_toPlace 21 = .ok (.iload_n 1, 1) := by decide +kernel
theorem dX4_toPlace_22 : decode cX4_toPlace 22 = .ok (.i2l, 1) := by decide +kernel
theorem dX4_toPlace_23 : decode cX4_toPlace 23 = .ok (.iload_n 2, 1) := by decide +kernel
theorem dX4_toPlace_24 : decode cX4_toPlace 24 = .ok (.i2l, 1) := by decide +kernel
theorem dX4_toPlace_25 : decode cX4_toPlace 25 = .ok (.iload_n 3, 1) := by decide +kernel
theorem dX4_toPlace_26 : decode cX4_toPlace 26 = .ok (.invokevirtual 108, 3) := by decide +kernel
theorem dX4_toPlace_29 : decode cX4_toPlace 29 = .ok (.ifCond .le 4, 3) := by decide +kernel
theorem dX4_toPlace_32 : decode cX4_toPlace 32 = .ok (.return_, 1) := by decide +kernel
theorem dX4_toPlace_33 : decode cX4_toPlace 33 = .ok (.aload_n 0, 1) := by decide +kernel
theorem dX4_toPlace_34 : decode cX4_toPlace 34 = .ok (.lconst 0, 1) := by decide +kernel
theorem dX4_toPlace_35 : decode cX4_toPlace 35 = .ok (.putfield 115, 3) := by decide +kernel
theorem dX4_toPlace_38 : decode cX4_toPlace 38 = .ok (.iconst 0, 1) := by decide +kernel
theorem dX4_toPlace_39 : decode cX4_toPlace 39 = .ok (.istore 4, 2) := by decide +kernel
theorem dX4_toPlace_41 : decode cX4_toPlace 41 = .ok (.iload 4, 2) := by decide +kernel
theorem dX4_toPlace_43 : decode cX4_toPlace 43 = .ok (.aload_n 0, 1) := by decide +kernel
theorem dX4_toPlace_44 : decode cX4_toPlace 44 = .ok (.iload_n 3, 1) := by decide +kernel
theorem dX4_toPlace_45 : decode cX4_toPlace 45 = .ok (.invokevirtual 96, 3) := by decide +kernel
theorem dX4_toPlace_48 : decode cX4_toPlace 48 = .ok (.if_icmp .ge 31, 3) := by decide +kernel
theorem dX4_toPlace_51 : decode cX4_toPlace 51 = .ok (.aload_n 0, 1) := by decide +kernel
theorem dX4_toPlace_52 : decode cX4_toPlace 52 = .ok (.iload_n 1, 1) := by decide +kernel
theorem dX4_toPlace_53 : decode cX4_toPlace 53 = .ok (.i2l, 1) := by decide +kernel
theorem dX4_toPlace_54 : decode cX4_toPlace 54 = .ok (.iload_n 2, 1) := by decide +kernel
theorem dX4_toPlace_55 : decode cX4_toPlace 55 = .ok (.i2l, 1) := by decide +kernel
theorem dX4_toPlace_56 : decode cX4_toPlace 56 = .ok (.aload_n 0, 1) := by decide +kernel
theorem dX4_toPlace_57 : decode cX4_toPlace 57 = .ok (.iload_n 3, 1) := by decide +kernel
theorem dX4_toPlace_58 : decode cX4_toPlace 58 = .ok (.iload 4, 2) := by decide +kernel
theorem dX4_toPlace_60 : decode cX4_toPlace 60 = .ok (.invokevirtual 81, 3) := by decide +kernel
theorem dX4_toPlace_63 : decode cX4_toPlace 63 = .ok (.aload_n 0, 1) := by decide +kernel
theorem dX4_toPlace_64 : decode cX4_toPlace 64 = .ok (.iload_n 3, 1) := by decide +kernel
theorem dX4_toPlace_65 : decode cX4_toPlace 65 = .ok (.iload 4, 2) := by decide +kernel
theorem dX4_toPlace_67 : decode cX4_toPlace 67 = .ok (.invokevirtual 85, 3) := by decide +kernel
theorem dX4_toPlace_70 : decode cX4_toPlace 70 = .ok (.invokevirtual 134, 3) := by decide +kernel
theorem dX4_toPlace_73 : decode cX4_toPlace 73 = .ok (.iinc 4 1, 3) := by decide +kernel
theorem dX4_toPlace_76 : decode cX4_toPlace 76 = .ok (.goto (-35), 3) := by decide +kernel
theorem dX4_toPlace_79 : decode cX4_toPlace 79 = .ok (.return_, 1) := by decide +kernel
set_option maxRecDepth 20000 in
theorem ggX4_near_X4_isPlace : GoodIn wsX4_near wsX4_isPlace := goodIn_r _ [11] (by decide +kernel) (by decide +kernel)
set_option maxRecDepth 20000 in
theorem gX4_near_X4_isPlace : GoodIn wsX4_near (va_wsS RX4 46 yX4_isPlace wsX4_isPlace) := goodIn_app (goodIn_of _ (by decide +kernel)) ggX4_near_X4_isPlace
set_option maxRecDepth 20000 in
theorem ggX4_near_X4_isRight : GoodIn wsX4_near wsX4_isRight := goodIn_r _ [15, 16, 17, 18, 10, 19, 2, 20, 21, 22, 23, 24, 1, 25, 26, 27, 28, 29, 30, 31, 32, 33, 34, 35, 36, 37, 38, 39, 40, 41, 42, 43, 44, 45, 46, 47, 48, 49, 50, 51, 52, 53, 54, 55, 56, 57, 58, 59, 60, 61, 62, 63, 86, 87, 88, 89, 90, 91, 92, 93, 94, 95, 96, 97, 98, 99, 100] (by decide +kernel) (by decide +kernel)
set_option maxRecDepth 20000 in
theorem gX4_near_X4_isRight : GoodIn wsX4_near (wsV RX4 105 RX4 yX4_isRight wsX4_isRight) := goodIn_app (goodIn_of _ (by decide +kernel)) ggX4_near_X4_isRight
set_option maxRecDepth 20000 in
theorem ggX4_near_X4_toPlace : GoodIn wsX4_near wsX4_toPlace := goodIn_r _ [67, 5, 7, 20, 68, 69, 70, 10, 71, 25, 34, 35, 36, 37, 38, 39, 40, 41, 42, 43, 55, 56, 57, 58, 59, 60, 48, 49, 50, 61, 62, 63, 26, 27, 28, 29, 72, 73, 74, 75, 76, 77, 78, 79, 80, 81, 82, 83, 84, 85, 86, 87, 88, 89, 90, 91, 92, 93, 94, 95, 96, 97, 98, 99, 100] (by decide +kernel) (by decide +kernel)
set_option maxRecDepth 20000 in
theorem gX4_near_X4_toPlace : GoodIn wsX4_near (wsV RX4 147 RX4 yX4_toPlace wsX4_toPlace) := goodIn_app (goodIn_of _ (by decide +kernel)) ggX4_near_X4_toPlace
set_option maxRecDepth 20000 in
theorem ggX4_near_X4_isLess : GoodIn wsX4_near wsX4_isLess := goodIn_r _ [82] (by decide +kernel) (by decide +kernel)
set_option maxRecDepth 20000 in
theorem gX4_near_X4_isLess : GoodIn wsX4_near (va_wsS RX4 122 yX4_isLess wsX4_isLess) := goodIn_app (goodIn_of _ (by decide +kernel)) ggX4_near_X4_isLess
theorem dX4_near_0 : decode cX4_near 0 = .ok (.aload_n 0, 1) := by decide +kernel
theorem dX4_near_1 : decode cX4_near 1 = .ok (.iconst 0, 1) := by decide +kernel
theorem dX4_near_2 : decode cX4_near 2 = .ok (.putfield 1, 3) := by decide +kernel
theorem dX4_near_5 : decode cX4_near 5 = .ok (.iload_n 1, 1) := by decide +kernel
theorem dX4_near_6 : decode cX4_near 6 = .ok (.iload_n 2, 1) := by decide +kernel
theorem dX4_near_7 : decode cX4_near 7 = .ok (.invokestatic 46, 3) := by decide +kernel
theorem dX4_near_10 : decode cX4_near 10 = .ok (.ifCond .eq 7, 3) := by decide +kernel
theorem dX4_near_13 : decode cX4_near 13 = .ok (.iload_n 3, 1) := by decide +kernel
theorem dX4_near_14 : decode cX4_near 14 = .ok (.ifCond .ge 5, 3) := by decide +kernel
theorem dX4_near_17 : decode cX4_near 17 = .ok (.iconst (-1), 1) := by decide +kernel
theorem dX4_near_18 : decode cX4_near 18 = .ok (.ireturn, 1) := by decide +kernel
theorem dX4_near_19 : decode cX4_near 19 = .ok (.iconst 0, 1) := by decide +kernel
theorem dX4_near_20 : decode cX4_near 20 = .ok (.istore 4, 2) := by decide +kernel
theorem dX4_near_22 : decode cX4_near 22 = .ok (.iload 4, 2) := by decide +kernel
theorem dX4_near_24 : decode cX4_near 24 = .ok (.aload_n 0, 1) := by decide +kernel
theorem dX4_near_25 : decode cX4_near 25 = .ok (.getfield 40, 3) := by decide +kernel
theorem dX4_near_28 : decode cX4_near 28 = .ok (.if_icmp .ge 73, 3) := by decide +kernel
theorem dX4_near_31 : decode cX4_near 31 = .ok (.aload_n 0, 1) := by decide +kernel
theorem dX4_near_32 : decode cX4_near 32 = .ok (.getfield 36, 3) := by decide +kernel
theorem dX4_near_35 : decode cX4_near 35 = .ok (.iload 4, 2) := by decide +kernel
theorem dX4_near_37 : decode cX4_near 37 = .ok (.aload_n 0, 1) := by decide +kernel
theorem dX4_near_38 : decode cX4_near 38 = .ok (.iload 4, 2) := by decide +kernel
theorem dX4_near_40 : decode cX4_near 40 = .ok (.invokevirtual 105, 3) := by decide +kernel
theorem dX4_near_43 : decode cX4_near 43 = .ok (.ifCond .ne 7, 3) := by decide +kernel
theorem dX4_near_46 : decode cX4_near 46 = .ok (.iconst 1, 1) := by decide +kernel
theorem dX4_near_47 : decode cX4_near 47 = .ok (.goto 4, 3) := by decide +kernel
theorem dX4_near_50 : decode cX4_near 50 = .ok (.iconst 0, 1) := by decide +kernel
theorem dX4_near_51 : decode cX4_near 51 = .ok (.bastore, 1) := by decide +kernel
theorem dX4_near_52 : decode cX4_near 52 = .ok (.aload_n 0, 1) := by decide +kernel
theorem dX4_near_53 : decode cX4_near 53 = .ok (.getfield 36, 3) := by decide +kernel
theorem dX4_near_56 : decode cX4_near 56 = .ok (.iload 4, 2) := by decide +kernel
theorem dX4_near_58 : decode cX4_near 58 = .ok (.baload, 1) := by decide +kernel
theorem dX4_near_59 : decode cX4_near 59 = .ok (.ifCond .eq 6, 3) := by decide +kernel
theorem dX4_near_62 : decode cX4_near 62 = .ok (.goto 33, 3) := by decide +kernel
theorem dX4_near_65 : decode cX4_near 65 = .ok (.aload_n 0, 1) := by decide +kernel
theorem dX4_near_66 : decode cX4_near 66 = .ok (.iload_n 1, 1) := by decide +kernel
theorem dX4_near_67 : decode cX4_near 67 = .ok (.iload_n 2, 1) := by decide +kernel
theorem dX4_near_68 : decode cX4_near 68 = .ok (.iload 4, 2) := by decide +kernel
theorem dX4_near_70 : decode cX4_near 70 = .ok (.invokevirtual 147, 3) := by decide +kernel
theorem dX4_near_73 : decode cX4_near 73 = .ok (.aload_n 0, 1) := by decide +kernel
theorem dX4_near_74 : decode cX4_near 74 = .ok (.getfield 30, 3) := by decide +kernel
theorem dX4_near_77 : decode cX4_near 77 = .ok (.iload 4, 2) := by decide +kernel
theorem dX4_near_79 : decode cX4_near 79 = .ok (.aload_n 0, 1) := by decide +kernel
theorem dX4_near_80 : decode cX4_near 80 = .ok (.getfield 119, 3) := by decide +kernel
theorem dX4_near_83 : decode cX4_near 83 = .ok (.lastore, 1) := by decide +kernel
theorem dX4_near_84 : decode cX4_near 84 = .ok (.aload_n 0, 1) := by decide +kernel
theorem dX4_near_85 : decode cX4_near 85 = .ok (.getfield 33, 3) := by decide +kernel
theorem dX4_near_88 : decode cX4_near 88 = .ok (.iload 4, 2) := by decide +kernel
theorem dX4_near_90 : decode cX4_near 90 = .ok (.aload_n 0, 1) := by decide +kernel
theorem dX4_near_91 : decode cX4_near 91 = .ok (.getfield 115, 3) := by decide +kernel
theorem dX4_near_94 : decode cX4_near 94 = .ok (.lastore, 1) := by decide +kernel
theorem dX4_near_95 : decode cX4_near 95 = .ok (.iinc 4 1, 3) := by decide +kernel
theorem dX4_near_98 : decode cX4_near 98 = .ok (.goto (-76), 3) := by decide +kernel
theorem dX4_near_101 : decode cX4_near 101 = .ok (.iconst (-1), 1) := by decide +kernel
theorem dX4_near_102 : decode cX4_near 102 = .ok (.istore 4, 2) := by decide +kernel
theorem dX4_near_104 : decode cX4_near 104 = .ok (.iconst 0, 1) := by decide +kernel
theorem dX4_near_105 : decode cX4_near 105 = .ok (.istore 5, 2) := by decide +kernel
theorem dX4_near_107 : decode cX4_near 107 = .ok (.iload 5, 2) := by decide +kernel
theorem dX4_near_109 : decode cX4_near 109 = .ok (.iload_n 3, 1) := by decide +kernel
theorem dX4_near_110 : decode cX4_near 110 = .ok (.if_icmp .gt 98, 3) := by decide +kernel
theorem dX4_near_113 : decode cX4_near 113 = .ok (.iconst (-1), 1) := by decide +kernel
theorem dX4_near_114 : decode cX4_near 114 = .ok (.istore 4, 2) := by decide +kernel
theorem dX4_near_116 : decode cX4_near 116 = .ok (.iconst 0, 1) := by decide +kernel
theorem dX4_near_117 : decode cX4_near 117 = .ok (.istore 6, 2) := by decide +kernel
theorem dX4_near_119 : decode cX4_near 119 = .ok (.iload 6, 2) := by decide +kernel
theorem dX4_near_121 : decode cX4_near 121 = .ok (.aload_n 0, 1) := by decide +kernel
theorem dX4_near_122 : decode cX4_near 122 = .ok (.getfield 40, 3) := by decide +kernel
theorem dX4_near_125 : decode cX4_near 125 = .ok (.if_icmp .ge 62, 3) := by decide +kernel
theorem dX4_near_128 : decode cX4_near 128 = .ok (.aload_n 0, 1) := by decide +kernel
theorem dX4_near_129 : decode cX4_near 129 = .ok (.getfield 36, 3) := by decide +kernel
theorem dX4_near_132 : decode cX4_near 132 = .ok (.iload 6, 2) := by decide +kernel
theorem dX4_near_134 : decode cX4_near 134 = .ok (.baload, 1) := by decide +kernel
theorem dX4_near_135 : decode cX4_near 135 = .ok (.ifCond .ne 46, 3) := by decide +kernel
theorem dX4_near_138 : decode cX4_near 138 = .ok (.iload 4, 2) := by decide +kernel
theorem dX4_near_140 : decode cX4_near 140 = .ok (.ifCond .lt 37, 3) := by decide +kernel
theorem dX4_near_143 : decode cX4_near 143 = .ok (.aload_n 0, 1) := by decide +kernel
theorem dX4_near_144 : decode cX4_near 144 = .ok (.getfield 30, 3) := by decide +kernel
theorem dX4_near_147 : decode cX4_near 147 = .ok (.iload 6, 2) := by decide +kernel
theorem dX4_near_149 : decode cX4_near 149 = .ok (.laload, 1) := by decide +kernel
theorem dX4_near_150 : decode cX4_near 150 = .ok (.aload_n 0, 1) := by decide +kernel
theorem dX4_near_151 : decode cX4_near 151 = .ok (.getfield 33, 3) := by decide +kernel
theorem dX4_near_154 : decode cX4_near 154 = .ok (.iload 6, 2) := by decide +kernel
theorem dX4_near_156 : decode cX4_near 156 = .ok (.laload, 1) := by decide +kernel
theorem dX4_near_157 : decode cX4_near 157 = .ok (.aload_n 0, 1) := by decide +kernel
theorem dX4_near_158 : decode cX4_near 158 = .ok (.getfield 30, 3) := by decide +kernel
theorem dX4_near_161 : decode cX4_near 161 = .ok (.iload 4, 2) := by decide +kernel
theorem dX4_near_163 : decode cX4_near 163 = .ok (.laload, 1) := by decide +kernel
theorem dX4_near_164 : decode cX4_near 164 = .ok (.aload_n 0, 1) := by decide +kernel
theorem dX4_near_165 : decode cX4_near 165 = .ok (.getfield 33, 3) := by decide +kernel
theorem dX4_near_168 : decode cX4_near 168 = .ok (.iload 4, 2) := by decide +kernel
theorem dX4_near_170 : decode cX4_near 170 = .ok (.laload, 1) := by decide +kernel
theorem dX4_near_171 : decode cX4_near 171 = .ok (.invokestatic 122, 3) := by decide +kernel
theorem dX4_near_174 : decode cX4_near 174 = .ok (.ifCond .eq 7, 3) := by decide +kernel
theorem dX4_near_177 : decode cX4_near 177 = .ok (.iload 6, 2) := by decide +kernel
theorem dX4_near_179 : decode cX4_near 179 = .ok (.istore 4, 2) := by decide +kernel
theorem dX4_near_181 : decode cX4_near 181 = .ok (.iinc 6 1, 3) := by decide +kernel
theorem dX4_near_184 : decode cX4_near 184 = .ok (.goto (-65), 3) := by decide +kernel
theorem dX4_near_187 : decode cX4_near 187 = .ok (.iload 4, 2) := by decide +kernel
theorem dX4_near_189 : decode cX4_near 189 = .ok (.ifCond .ge 5, 3) := by decide +kernel
theorem dX4_near_192 : decode cX4_near 192 = .ok (.iconst (-1), 1) := by decide +kernel
theorem dX4_near_193 : decode cX4_near 193 = .ok (.ireturn, 1) := by decide +kernel
theorem dX4_near_194 : decode cX4_near 194 = .ok (.aload_n 0, 1) := by decide +kernel
theorem dX4_near_195 : decode cX4_near 195 = .ok (.getfield 36, 3) := by decide +kernel
theorem dX4_near_198 : decode cX4_near 198 = .ok (.iload 4, 2) := by decide +kernel
theorem dX4_near_200 : decode cX4_near 200 = .ok (.iconst 1, 1) := by decide +kernel
theorem dX4_near_201 : decode cX4_near 201 = .ok (.bastore, 1) := by decide +kernel
theorem dX4_near_202 : decode cX4_near 202 = .ok (.iinc 5 1, 3) := by decide +kernel
theorem dX4_near_205 : decode cX4_near 205 = .ok (.goto (-98), 3) := by decide +kernel
theorem dX4_near_208 : decode cX4_near 208 = .ok (.iload 4, 2) := by decide +kernel
theorem dX4_near_210 : decode cX4_near 210 = .ok (.ireturn, 1) := by decide +kernel
set_option maxRecDepth 20000 in
theorem ggX4_area_X4_isRight : GoodIn wsX4_area wsX4_isRight := goodIn_r _ [10, 11, 12, 13, 9, 14, 15, 2, 16, 17, 18, 19, 1, 3, 20, 21, 22, 23, 24, 25, 26, 27, 4, 5, 28, 29, 30, 31, 32, 33, 34, 35, 36, 37, 38, 39, 40, 41, 42, 43, 44, 45, 46, 47, 48, 49, 50, 51, 52, 53, 54, 55, 56, 57, 58, 59, 60, 61, 62, 63, 64, 65, 66, 67, 68, 69, 70] (by decide +kernel) (by decide +kernel)
set_option maxRecDepth 20000 in
theorem gX4_area_X4_isRight : GoodIn wsX4_area (wsV RX4 105 RX4 yX4_isRight wsX4_isRight) := goodIn_app (goodIn_of _ (by decide +kernel)) ggX4_area_X4_isRight
set_option maxRecDepth 20000 in
theorem ggX4_area_X4_from : GoodIn wsX4_area wsX4_from := goodIn_r _ [31] (by decide +kernel) (by decide +kernel)
set_option maxRecDepth 20000 in
theorem gX4_area_X4_from : GoodIn wsX4_area (wsV RX4 81 RX4 yX4_from wsX4_from) := goodIn_app (goodIn_of _ (by decide +kernel)) ggX4_area_X4_from
set_option maxRecDepth 20000 in
theorem ggX4_area_X4_to : GoodIn wsX4_area wsX4_to := goodIn_r _ [35, 2, 3, 56, 57, 58, 59, 60, 61, 62, 63, 64, 65, 66, 67, 68, 69, 70] (by decide +kernel) (by decide +kernel)
set_option maxRecDepth 20000 in
theorem gX4_area_X4_to : GoodIn wsX4_area (wsV RX4 85 RX4 yX4_to wsX4_to) := goodIn_app (goodIn_of _ (by decide +kernel)) ggX4_area_X4_to
set_option maxRecDepth 20000 in
theorem ggX4_area_X4_cross : GoodIn wsX4_area wsX4_cross := goodIn_r _ [42] (by decide +kernel) (by decide +kernel)
set_option maxRecDepth 20000 in
theorem gX4_area_X4_cross : GoodIn wsX4_area (va_wsS RX4 65 yX4_cross wsX4_cross) := goodIn_app (goodIn_of _ (by decide +kernel)) ggX4_area_X4_cross
theorem dX4_area_0 : decode cX4_area 0 = .ok (.aload_n 0, 1) := by decide +kernel
theorem dX4_area_1 : decode cX4_area 1 = .ok (.iconst 0, 1) := by decide +kernel
theorem dX4_area_2 : decode cX4_area 2 = .ok (.putfield 1, 3) := by decide +kernel
theorem dX4_area_5 : decode cX4_area 5 = .ok (.aload_n 0, 1) := by decide +kernel
theorem dX4_area_6 : decode cX4_area 6 = .ok (.iload_n 1, 1) := by decide +kernel
theorem dX4_area_7 : decode cX4_area 7 = .ok (.invokevirtual 105, 3) := by decide +kernel
theorem dX4_area_10 : decode cX4_area 10 = .ok (.ifCond .eq 13, 3) := by decide +kernel
theorem dX4_area_13 : decode cX4_area 13 = .ok (.aload_n 0, 1) := by decide +kernel
theorem dX4_area_14 : decode cX4_area 14 = .ok (.getfield 13, 3) := by decide +kernel
theorem dX4_area_17 : decode cX4_area 17 = .ok (.iload_n 1, 1) := by decide +kernel
theorem dX4_area_18 : decode cX4_area 18 = .ok (.iaload, 1) := by decide +kernel
theorem dX4_area_19 : decode cX4_area 19 = .ok (.iconst 3, 1) := by decide +kernel
theorem dX4_area_20 : decode cX4_area 20 = .ok (.if_icmp .eq 5, 3) := by decide +kernel
theorem dX4_area_23 : decode cX4_area 23 = .ok (.lconst 0, 1) := by decide +kernel
theorem dX4_area_24 : decode cX4_area 24 = .ok (.lreturn, 1) := by decide +kernel
theorem dX4_area_25 : decode cX4_area 25 = .ok (.lconst 0, 1) := by decide +kernel
theorem dX4_area_26 : decode cX4_area 26 = .ok (.lstore_n 2, 1) := by decide +kernel
theorem dX4_area_27 : decode cX4_area 27 = .ok (.iconst 0, 1) := by decide +kernel
theorem dX4_area_28 : decode cX4_area 28 = .ok (.istore 4, 2) := by decide +kernel
theorem dX4_area_30 : decode cX4_area 30 = .ok (.iload 4, 2) := by decide +kernel
theorem dX4_area_32 : decode cX4_area 32 = .ok (.aload_n 0, 1) := by decide +kernel
theorem dX4_area_33 : decode cX4_area 33 = .ok (.getfield 17, 3) := by decide +kernel
theorem dX4_area_36 : decode cX4_area 36 = .ok (.iload_n 1, 1) := by decide +kernel
theorem dX4_area_37 : decode cX4_area 37 = .ok (.iaload, 1) := by decide +kernel
theorem dX4_area_38 : decode cX4_area 38 = .ok (.if_icmp .ge 63, 3) := by decide +kernel
theorem dX4_area_41 : decode cX4_area 41 = .ok (.lload_n 2, 1) := by decide +kernel
theorem dX4_area_42 : decode cX4_area 42 = .ok (.aload_n 0, 1) := by decide +kernel
theorem dX4_area_43 : decode cX4_area 43 = .ok (.getfield 20, 3) := by decide +kernel
theorem dX4_area_46 : decode cX4_area 46 = .ok (.aload_n 0, 1) := by decide +kernel
theorem dX4_area_47 : decode cX4_area 47 = .ok (.iload_n 1, 1) := by decide +kernel
theorem dX4_area_48 : decode cX4_area 48 = .ok (.iload 4, 2) := by decide +kernel
theorem dX4_area_50 : decode cX4_area 50 = .ok (.invokevirtual 81, 3) := by decide +kernel
theorem dX4_area_53 : decode cX4_area 53 = .ok (.laload, 1) := by decide +kernel
theorem dX4_area_54 : decode cX4_area 54 = .ok (.aload_n 0, 1) := by decide +kernel
theorem dX4_area_55 : decode cX4_area 55 = .ok (.getfield 24, 3) := by decide +kernel
theorem dX4_area_58 : decode cX4_area 58 = .ok (.aload_n 0, 1) := by decide +kernel
theorem dX4_area_59 : decode cX4_area 59 = .ok (.iload_n 1, 1) := by decide +kernel
theorem dX4_area_60 : decode cX4_area 60 = .ok (.iload 4, 2) := by decide +kernel
theorem dX4_area_62 : decode cX4_area 62 = .ok (.invokevirtual 81, 3) := by decide +kernel
theorem dX4_area_65 : decode cX4_area 65 = .ok (.laload, 1) := by decide +kernel
theorem dX4_area_66 : decode cX4_area 66 = .ok (.aload_n 0, 1) := by decide +kernel
theorem dX4_area_67 : decode cX4_area 67 = .ok (.getfield 20, 3) := by decide +kernel
theorem dX4_area_70 : decode cX4_area 70 = .ok (.aload_n 0, 1) := by decide +kernel
theorem dX4_area_71 : decode cX4_area 71 = .ok (.iload_n 1, 1) := by decide +kernel
theorem dX4_area_72 : decode cX4_area 72 = .ok (.iload 4, 2) := by decide +kernel
theorem dX4_area_74 : decode cX4_area 74 = .ok (.invokevirtual 85, 3) := by decide +kernel
theorem dX4_area_77 : decode cX4_area 77 = .ok (.laload, 1) := by decide +kernel
theorem dX4_area_78 : decode cX4_area 78 = .ok (.aload_n 0, 1) := by decide +kernel
theorem dX4_area_79 : decode cX4_area 79 = .ok (.getfield 24, 3) := by decide +kernel
theorem dX4_area_82 : decode cX4_area 82 = .ok (.aload_n 0, 1) := by decide +kernel
theorem dX4_area_83 : decode cX4_area 83 = .ok (.iload_n 1, 1) := by decide +kernel
theorem dX4_area_84 : decode cX4_area 84 = .ok (.iload 4, 2) := by decide +kernel
theorem dX4_area_86 : decode cX4_area 86 = .ok (.invokevirtual 85, 3) := by decide +kernel
theorem dX4_area_89 : decode cX4_area 89 = .ok (.laload, 1) := by decide +kernel
theorem dX4_area_90 : decode cX4_area 90 = .ok (.invokestatic 65, 3) := by decide +kernel
theorem dX4_area_93 : decode cX4_area 93 = .ok (.ladd, 1) := by decide +kernel
theorem dX4_area_94 : decode cX4_area 94 = .ok (.lstore_n 2, 1) := by decide +kernel
theorem dX4_area_95 : decode cX4_area 95 = .ok (.iinc 4 1, 3) := by decide +kernel
theorem dX4_area_98 : decode cX4_area 98 = .ok (.goto (-68), 3) := by decide +kernel
theorem dX4_area_101 : decode cX4_area 101 = .ok (.lload_n 2, 1) := by decide +kernel
theorem dX4_area_102 : decode cX4_area 102 = .ok (.lreturn, 1) := by decide +kernel
set_option maxRecDepth 20000 in
theorem ggX4_isIn_X4_from : GoodIn wsX4_isIn wsX4_from := goodIn_r _ [8] (by decide +kernel) (by decide +kernel)
set_option maxRecDepth 20000 in
theorem gX4_isIn_X4_from : GoodIn wsX4_isIn (wsV RX4 81 RX4 yX4_from wsX4_from) := goodIn_app (goodIn_of _ (by decide +kernel)) ggX4_isIn_X4_from
theorem dX4_isIn_0 : decode cX4_isIn 0 = .ok (.iconst 1, 1) := by decide +kernel
theorem dX4_isIn_1 : decode cX4_isIn 1 = .ok (.istore 6, 2) := by decide +kernel
theorem dX4_isIn_3 : decode cX4_isIn 3 = .ok (.iconst 1, 1) := by decide +kernel
theorem dX4_isIn_4 : decode cX4_isIn 4 = .ok (.istore 7, 2) := by decide +kernel
theorem dX4_isIn_6 : decode cX4_isIn 6 = .ok (.iconst 1, 1) := by decide +kernel
theorem dX4_isIn_7 : decode cX4_isIn 7 = .ok (.istore 8, 2) := by decide +kernel
theorem dX4_isIn_9 : decode cX4_isIn 9 = .ok (.iconst 1, 1) := by decide +kernel
theorem dX4_isIn_10 : decode cX4_isIn 10 = .ok (.istore 9, 2) := by decide +kernel
theorem dX4_isIn_12 : decode cX4_isIn 12 = .ok (.iconst 0, 1) := by decide +kernel
theorem dX4_isIn_13 : decode cX4_isIn 13 = .ok (.istore 10, 2) := by decide +kernel
theorem dX4_isIn_15 : decode cX4_isIn 15 = .ok (.iload 10, 2) := by decide +kernel
theorem dX4_isIn_17 : decode cX4_isIn 17 = .ok (.aload_n 0, 1) := by decide +kernel
theorem dX4_isIn_18 : decode cX4_isIn 18 = .ok (.getfield 17, 3) := by decide +kernel
theorem dX4_isIn_21 : decode cX4_isIn 21 = .ok (.iload_n 1, 1) := by decide +kernel
theorem dX4_isIn_22 : decode cX4_isIn 22 = .ok (.iaload, 1) := by decide +kernel
theorem dX4_isIn_23 : decode cX4_isIn 23 = .ok (.if_icmp .ge 120, 3) := by decide +kernel
theorem dX4_isIn_26 : decode cX4_isIn 26 = .ok (.aload_n 0, 1) := by decide +kernel
theorem dX4_isIn_27 : decode cX4_isIn 27 = .ok (.iload_n 1, 1) := by decide +kernel
theorem dX4_isIn_28 : decode cX4_isIn 28 = .ok (.iload 10, 2) := by decide +kernel
theorem dX4_isIn_30 : decode cX4_isIn 30 = .ok (.invokevirtual 81, 3) := by decide +kernel
theorem dX4_isIn_33 : decode cX4_isIn 33 = .ok (.istore 11, 2) := by decide +kernel
theorem dX4_isIn_35 : decode cX4_isIn 35 = .ok (.iload 6, 2) := by decide +kernel
theorem dX4_isIn_37 : decode cX4_isIn 37 = .ok (.ifCond .eq 20, 3) := by decide +kernel
theorem dX4_isIn_40 : decode cX4_isIn 40 = .ok (.aload_n 0, 1) := by decide +kernel
theorem dX4_isIn_41 : decode cX4_isIn 41 = .ok (.getfield 20, 3) := by decide +kernel
theorem dX4_isIn_44 : decode cX4_isIn 44 = .ok (.iload 11, 2) := by decide +kernel
theorem dX4_isIn_46 : decode cX4_isIn 46 = .ok (.laload, 1) := by decide +kernel
theorem dX4_isIn_47 : decode cX4_isIn 47 = .ok (.iload_n 2, 1) := by decide +kernel
theorem dX4_isIn_48 : decode cX4_isIn 48 = .ok (.i2l, 1) := by decide +kernel
theorem dX4_isIn_49 : decode cX4_isIn 49 = .ok (.lcmp, 1) := by decide +kernel
theorem dX4_isIn_50 : decode cX4_isIn 50 = .ok (.ifCond .ge 7, 3) := by decide +kernel
theorem dX4_isIn_53 : decode cX4_isIn 53 = .ok (.iconst 1, 1) := by decide +kernel
theorem dX4_isIn_54 : decode cX4_isIn 54 = .ok (.goto 4, 3) := by decide +kernel
theorem dX4_isIn_57 : decode cX4_isIn 57 = .ok (.iconst 0, 1) := by decide +kernel
theorem dX4_isIn_58 : decode cX4_isIn 58 = .ok (.istore 6, 2) := by decide +kernel
theorem dX4_isIn_60 : decode cX4_isIn 60 = .ok (.iload 7, 2) := by decide +kernel
theorem dX4_isIn_62 : decode cX4_isIn 62 = .ok (.ifCond .eq 21, 3) := by decide +kernel
theorem dX4_isIn_65 : decode cX4_isIn 65 = .ok (.aload_n 0, 1) := by decide +kernel
theorem dX4_isIn_66 : decode cX4_isIn 66 = .ok (.getfield 20, 3) := by decide +kernel
theorem dX4_isIn_69 : decode cX4_isIn 69 = .ok (.iload 11, 2) := by decide +kernel
theorem dX4_isIn_71 : decode cX4_isIn 71 = .ok (.laload, 1) := by decide +kernel
theorem dX4_isIn_72 : decode cX4_isIn 72 = .ok (.iload 4, 2) := by decide +kernel
theorem dX4_isIn_74 : decode cX4_isIn 74 = .ok (.i2l, 1) := by decide +kernel
theorem dX4_isIn_75 : decode cX4_isIn 75 = .ok (.lcmp, 1) := by decide +kernel
theorem dX4_isIn_76 : decode cX4_isIn 76 = .ok (.ifCond .le 7, 3) := by decide +kernel
theorem dX4_isIn_79 : decode cX4_isIn 79 = .ok (.iconst 1, 1) := by decide +kernel
theorem dX4_isIn_80 : decode cX4_isIn 80 = .ok (.goto 4, 3) := by decide +kernel
theorem dX4_isIn_83 : decode cX4_isIn 83 = .ok (.iconst 0, 1) := by decide +kernel
theorem dX4_isIn_84 : decode cX4_isIn 84 = .ok (.istore 7, 2) := by decide +kernel
theorem dX4_isIn_86 : decode cX4_isIn 86 = .ok (.iload 8, 2) := by decide +kernel
theorem dX4_isIn_88 : decode cX4_isIn 88 = .ok (.ifCond .eq 20, 3) := by decide +kernel
theorem dX4_isIn_91 : decode cX4_isIn 91 = .ok (.aload_n 0, 1) := by decide +kernel
theorem dX4_isIn_92 : decode cX4_isIn 92 = .ok (.getfield 24, 3) := by decide +kernel
theorem dX4_isIn_95 : decode cX4_isIn 95 = .ok (.iload 11, 2) := by decide +kernel
theorem dX4_isIn_97 : decode cX4_isIn 97 = .ok (.laload, 1) := by decide +kernel
theorem dX4_isIn_98 : decode cX4_isIn 98 = .ok (.iload_n 3, 1) := by decide +kernel
theorem dX4_isIn_99 : decode cX4_isIn 99 = .ok (.i2l, 1) := by decide +kernel
theorem dX4_isIn_100 : decode cX4_isIn 100 = .ok (.lcmp, 1) := by decide +kernel
theorem dX4_isIn_101 : decode cX4_isIn 101 = .ok (.ifCond .ge 7, 3) := by decide +kernel
theorem dX4_isIn_104 : decode cX4_isIn 104 = .ok (.iconst 1, 1) := by decide +kernel
theorem dX4_isIn_105 : decode cX4_isIn 105 = .ok (.goto 4, 3) := by decide +kernel
theorem dX4_isIn_108 : decode cX4_isIn 108 = .ok (.iconst 0, 1) := by decide +kernel
theorem dX4_isIn_109 : decode cX4_isIn 109 = .ok (.istore 8, 2) := by decide +kernel
theorem dX4_isIn_111 : decode cX4_isIn 111 = .ok (.iload 9, 2) := by decide +kernel
theorem dX4_isIn_113 : decode cX4_isIn 113 = .ok (.ifCond .eq 21, 3) := by decide +kernel
theorem dX4_isIn_116 : decode cX4_isIn 116 = .ok (.aload_n 0, 1) := by decide +kernel
theorem dX4_isIn_117 : decode cX4_isIn 117 = .ok (.getfield 24, 3) := by decide +kernel
theorem dX4_isIn_120 : decode cX4_isIn 120 = .ok (.iload 11, 2) := by decide +kernel
theorem dX4_isIn_122 : decode cX4_isIn 122 = .ok (.laload, 1) := by decide +kernel
theorem dX4_isIn_123 : decode cX4_isIn 123 = .ok (.iload 5, 2) := by decide +kernel
theorem dX4_isIn_125 : decode cX4_isIn 125 = .ok (.i2l, 1) := by decide +kernel
theorem dX4_isIn_126 : decode cX4_isIn 126 = .ok (.lcmp, 1) := by decide +kernel
theorem dX4_isIn_127 : decode cX4_isIn 127 = .ok (.ifCond .le 7, 3) := by decide +kernel
theorem dX4_isIn_130 : decode cX4_isIn 130 = .ok (.iconst 1, 1) := by decide +kernel
theorem dX4_isIn_131 : decode cX4_isIn 131 = .ok (.goto 4, 3) := by decide +kernel
theorem dX4_isIn_134 : decode cX4_isIn 134 = .ok (.iconst 0, 1) := by decide +kernel
theorem dX4_isIn_135 : decode cX4_isIn 135 = .ok (.istore 9, 2) := by decide +kernel
theorem dX4_isIn_137 : decode cX4_isIn 137 = .ok (.iinc 10 1, 3) := by decide +kernel
theorem dX4_isIn_140 : decode cX4_isIn 140 = .ok (.goto (-125), 3) := by decide +kernel
theorem dX4_isIn_143 : decode cX4_isIn 143 = .ok (.iload 6, 2) := by decide +kernel
theorem dX4_isIn_145 : decode cX4_isIn 145 = .ok (.ifCond .ne 22, 3) := by decide +kernel
theorem dX4_isIn_148 : decode cX4_isIn 148 = .ok (.iload 7, 2) := by decide +kernel
theorem dX4_isIn_150 : decode cX4_isIn 150 = .ok (.ifCond .ne 17, 3) := by decide +kernel
theorem dX4_isIn_153 : decode cX4_isIn 153 = .ok (.iload 8, 2) := by decide +kernel
theorem dX4_isIn_155 : decode cX4_isIn 155 = .ok (.ifCond .ne 12, 3) := by decide +kernel
theorem dX4_isIn_158 : decode cX4_isIn 158 = .ok (.iload 9, 2) := by decide +kernel
theorem dX4_isIn_160 : decode cX4_isIn 160 = .ok (.ifCond .ne 7, 3) := by decide +kernel
theorem dX4_isIn_163 : decode cX4_isIn 163 = .ok (.iconst 1, 1) := by decide +kernel
theorem dX4_isIn_164 : decode cX4_isIn 164 = .ok (.goto 4, 3) := by decide +kernel
theorem dX4_isIn_167 : decode cX4_isIn 167 = .ok (.iconst 0, 1) := by decide +kernel
theorem dX4_isIn_168 : decode cX4_isIn 168 = .ok (.ireturn, 1) := by decide +kernel
set_option maxRecDepth 20000 in
theorem ggX4_boxed_X4_isRight : GoodIn wsX4_boxed wsX4_isRight := goodIn_r _ [9, 10, 11, 12, 8, 13, 3, 14, 15, 16, 17, 18, 1, 19, 20, 21, 22, 23, 24, 25, 26, 27, 28, 29, 30, 31, 32, 33, 34, 35, 36, 37, 38, 39, 40, 41, 42, 43, 44, 45, 46, 47, 48, 49, 50, 51, 52, 53, 54, 55, 56, 57, 62, 63, 64, 65, 66, 67, 68, 69, 70, 71, 72, 73, 74, 75, 76] (by decide +kernel) (by decide +kernel)
set_option maxRecDepth 20000 in
theorem gX4_boxed_X4_isRight : GoodIn wsX4_boxed (wsV RX4 105 RX4 yX4_isRight wsX4_isRight) := goodIn_app (goodIn_of _ (by decide +kernel)) ggX4_boxed_X4_isRight
set_option maxRecDepth 20000 in
theorem ggX4_boxed_X4_isIn : GoodIn wsX4_boxed wsX4_isIn := goodIn_r _ [61, 19, 28, 29, 30, 31, 32, 8, 33, 62, 63, 64, 65, 66, 67, 68, 69, 70, 71, 72, 73, 74, 75, 76] (by decide +kernel) (by decide +kernel)
set_option maxRecDepth 20000 in
theorem gX4_boxed_X4_isIn : GoodIn wsX4_boxed (wsV RX4 153 RX4 yX4_isIn wsX4_isIn) := goodIn_app (goodIn_of _ (by decide +kernel)) ggX4_boxed_X4_isIn
theorem dX4_boxed_0 : decode cX4_boxed 0 = .ok (.aload_n 0, 1) := by decide +kernel
theorem dX4_boxed_1 : decode cX4_boxed 1 = .ok (.iconst 0, 1) := by decide +kernel
theorem dX4_boxed_2 : decode cX4_boxed 2 = .ok (.putfield 1, 3) := by decide +kernel
theorem dX4_boxed_5 : decode cX4_boxed 5 = .ok (.aload_n 0, 1) := by decide +kernel
theorem dX4_boxed_6 : decode cX4_boxed 6 = .ok (.iconst 0, 1) := by decide +kernel
theorem dX4_boxed_7 : decode cX4_boxed 7 = .ok (.putfield 150, 3) := by decide +kernel
theorem dX4_boxed_10 : decode cX4_boxed 10 = .ok (.iconst 0, 1) := by decide +kernel
theorem dX4_boxed_11 : decode cX4_boxed 11 = .ok (.istore 5, 2) := by decide +kernel
theorem dX4_boxed_13 : decode cX4_boxed 13 = .ok (.iload 5, 2) := by decide +kernel
theorem dX4_boxed_15 : decode cX4_boxed 15 = .ok (.aload_n 0, 1) := by decide +kernel
theorem dX4_boxed_16 : decode cX4_boxed 16 = .ok (.getfield 40, 3) := by decide +kernel
theorem dX4_boxed_19 : decode cX4_boxed 19 = .ok (.if_icmp .ge 67, 3) := by decide +kernel
theorem dX4_boxed_22 : decode cX4_boxed 22 = .ok (.iload_n 1, 1) := by decide +kernel
theorem dX4_boxed_23 : decode cX4_boxed 23 = .ok (.iload_n 3, 1) := by decide +kernel
theorem dX4_boxed_24 : decode cX4_boxed 24 = .ok (.if_icmp .gt 62, 3) := by decide +kernel
theorem dX4_boxed_27 : decode cX4_boxed 27 = .ok (.iload_n 2, 1) := by decide +kernel
theorem dX4_boxed_28 : decode cX4_boxed 28 = .ok (.iload 4, 2) := by decide +kernel
theorem dX4_boxed_30 : decode cX4_boxed 30 = .ok (.if_icmp .gt 56, 3) := by decide +kernel
theorem dX4_boxed_33 : decode cX4_boxed 33 = .ok (.aload_n 0, 1) := by decide +kernel
theorem dX4_boxed_34 : decode cX4_boxed 34 = .ok (.iload 5, 2) := by decide +kernel
theorem dX4_boxed_36 : decode cX4_boxed 36 = .ok (.invokevirtual 105, 3) := by decide +kernel
theorem dX4_boxed_39 : decode cX4_boxed 39 = .ok (.ifCond .eq 41, 3) := by decide +kernel
theorem dX4_boxed_42 : decode cX4_boxed 42 = .ok (.aload_n 0, 1) := by decide +kernel
theorem dX4_boxed_43 : decode cX4_boxed 43 = .ok (.iload 5, 2) := by decide +kernel
theorem dX4_boxed_45 : decode cX4_boxed 45 = .ok (.iload_n 1, 1) := by decide +kernel
theorem dX4_boxed_46 : decode cX4_boxed 46 = .ok (.iload_n 2, 1) := by decide +kernel
theorem dX4_boxed_47 : decode cX4_boxed 47 = .ok (.iload_n 3, 1) := by decide +kernel
theorem dX4_boxed_48 : decode cX4_boxed 48 = .ok (.iload 4, 2) := by decide +kernel
theorem dX4_boxed_50 : decode cX4_boxed 50 = .ok (.invokevirtual 153, 3) := by decide +kernel
theorem dX4_boxed_53 : decode cX4_boxed 53 = .ok (.ifCond .ne 6, 3) := by decide +kernel
theorem dX4_boxed_56 : decode cX4_boxed 56 = .ok (.goto 24, 3) := by decide +kernel
theorem dX4_boxed_59 : decode cX4_boxed 59 = .ok (.aload_n 0, 1) := by decide +kernel
theorem dX4_boxed_60 : decode cX4_boxed 60 = .ok (.getfield 27, 3) := by decide +kernel
theorem dX4_boxed_63 : decode cX4_boxed 63 = .ok (.aload_n 0, 1) := by decide +kernel
theorem dX4_boxed_64 : decode cX4_boxed 64 = .ok (.getfield 150, 3) := by decide +kernel
theorem dX4_boxed_67 : decode cX4_boxed 67 = .ok (.iload 5, 2) := by decide +kernel
theorem dX4_boxed_69 : decode cX4_boxed 69 = .ok (.iastore, 1) := by decide +kernel
theorem dX4_boxed_70 : decode cX4_boxed 70 = .ok (.aload_n 0, 1) := by decide +kernel
theorem dX4_boxed_71 : decode cX4_boxed 71 = .ok (.dup, 1) := by decide +kernel
theorem dX4_boxed_72 : decode cX4_boxed 72 = .ok (.getfield 150, 3) := by decide +kernel
theorem dX4_boxed_75 : decode cX4_boxed 75 = .ok (.iconst 1, 1) := by decide +kernel
theorem dX4_boxed_76 : decode cX4_boxed 76 = .ok (.iadd, 1) := by decide +kernel
theorem dX4_boxed_77 : decode cX4_boxed 77 = .ok (.putfield 150, 3) := by decide +kernel
theorem dX4_boxed_80 : decode cX4_boxed 80 = .ok (.iinc 5 1, 3) := by decide +kernel
theorem dX4_boxed_83 : decode cX4_boxed 83 = .ok (.goto (-70), 3) := by decide +kernel
theorem dX4_boxed_86 : decode cX4_boxed 86 = .ok (.aload_n 0, 1) := by decide +kernel
theorem dX4_boxed_87 : decode cX4_boxed 87 = .ok (.getfield 150, 3) := by decide +kernel
theorem dX4_boxed_90 : decode cX4_boxed 90 = .ok (.ireturn, 1) := by decide +kernel
theorem dX4_found_0 : decode cX4_found 0 = .ok (.aload_n 0, 1) := by decide +kernel
theorem dX4_found_1 : decode cX4_found 1 = .ok (.iload_n 1, 1) := by decide +kernel
theorem dX4_found_2 : decode cX4_found 2 = .ok (.ifCond .lt 15, 3) := by decide +kernel
theorem dX4_found_5 : decode cX4_found 5 = .ok (.iload_n 1, 1) := by decide +kernel
theorem dX4_found_6 : decode cX4_found 6 = .ok (.aload_n 0, 1) := by decide +kernel
theorem dX4_found_7 : decode cX4_found 7 = .ok (.getfield 150, 3) := by decide +kernel
theorem dX4_found_10 : decode cX4_found 10 = .ok (.if_icmp .ge 7, 3) := by decide +kernel
theorem dX4_found_13 : decode cX4_found 13 = .ok (.iconst 0, 1) := by decide +kernel
theorem dX4_found_14 : decode cX4_found 14 = .ok (.goto 4, 3) := by decide +kernel
theorem dX4_found_17 : decode cX4_found 17 = .ok (.iconst 1, 1) := by decide +kernel
theorem dX4_found_18 : decode cX4_found 18 = .ok (.putfield 1, 3) := by decide +kernel
theorem dX4_found_21 : decode cX4_found 21 = .ok (.aload_n 0, 1) := by decide +kernel
theorem dX4_found_22 : decode cX4_found 22 = .ok (.getfield 1, 3) := by decide +kernel
theorem dX4_found_25 : decode cX4_found 25 = .ok (.ifCond .ne 12, 3) := by decide +kernel
theorem dX4_found_28 : decode cX4_found 28 = .ok (.aload_n 0, 1) := by decide +kernel
theorem dX4_found_29 : decode cX4_found 29 = .ok (.getfield 27, 3) := by decide +kernel
theorem dX4_found_32 : decode cX4_found 32 = .ok (.iload_n 1, 1) := by decide +kernel
theorem dX4_found_33 : decode cX4_found 33 = .ok (.iaload, 1) := by decide +kernel
theorem dX4_found_34 : decode cX4_found 34 = .ok (.goto 4, 3) := by decide +kernel
theorem dX4_found_37 : decode cX4_found 37 = .ok (.iconst 0, 1) := by decide +kernel
theorem dX4_found_38 : decode cX4_found 38 = .ok (.ireturn, 1) := by decide +kernel
theorem dJx00060_init_da8c8_0 : decode cJx00060_init_da8c8 0 = .ok (.aload_n 0, 1) := by decide +kernel
theorem dJx00060_init_da8c8_1 : decode cJx00060_init_da8c8 1 = .ok (.invokespecial 1, 3) := by decide +kernel
theorem dJx00060_init_da8c8_4 : decode cJx00060_init_da8c8 4 = .ok (.return_, 1) := by decide +kernel
theorem dJ9_max_7cf53_0 : decode cJ9_max_7cf53 0 = .ok (.iload_n 0, 1) := by decide +kernel
theorem dJ9_max_7cf53_1 : decode cJ9_max_7cf53 1 = .ok (.iload_n 1, 1) := by decide +kernel
theorem dJ9_max_7cf53_2 : decode cJ9_max_7cf53 2 = .ok (.if_icmp .lt 7, 3) := by decide +kernel
theorem dJ9_max_7cf53_5 : decode cJ9_max_7cf53 5 = .ok (.iload_n 0, 1) := by decide +kernel
theorem dJ9_max_7cf53_6 : decode cJ9_max_7cf53 6 = .ok (.goto 4, 3) := by decide +kernel
theorem dJ9_max_7cf53_9 : decode cJ9_max_7cf53 9 = .ok (.iload_n 1, 1) := by decide +kernel
theorem dJ9_max_7cf53_10 : decode cJ9_max_7cf53 10 = .ok (.ireturn, 1) := by decide +kernel
theorem dJ9_min_7cf53_0 : decode cJ9_min_7cf53 0 = .ok (.iload_n 0, 1) := by decide +kernel
theorem dJ9_min_7cf53_1 : decode cJ9_min_7cf53 1 = .ok (.iload_n 1, 1) := by decide +kernel
theorem dJ9_min_7cf53_2 : decode cJ9_min_7cf53 2 = .ok (.if_icmp .gt 7, 3) := by decide +kernel
theorem dJ9_min_7cf53_5 : decode cJ9_min_7cf53 5 = .ok (.iload_n 0, 1) := by decide +kernel
theorem dJ9_min_7cf53_6 : decode cJ9_min_7cf53 6 = .ok (.goto 4, 3) := by decide +kernel
theorem dJ9_min_7cf53_9 : decode cJ9_min_7cf53 9 = .ok (.iload_n 1, 1) := by decide +kernel
theorem dJ9_min_7cf53_10 : decode cJ9_min_7cf53 10 = .ok (.ireturn, 1) := by decide +kernel
set_option maxRecDepth 20000 in
theorem ggL_found_X3_found : GoodIn wsL_found wsX3_found := goodIn_r _ [5, 6, 7, 8, 9, 10, 11, 12, 13, 14, 15, 16, 17, 18, 19, 20, 21, 22, 23, 24, 25, 26] (by decide +kernel) (by decide +kernel)
set_option maxRecDepth 20000 in
theorem gL_found_X3_found : GoodIn wsL_found (wsV RL 7 RX3 yX3_found wsX3_found) := goodIn_app (goodIn_of _ (by decide +kernel)) ggL_found_X3_found
end
section
-- the state of the system in words of our own: a shape (kind, size, verdict, length of its rows, xs, ys, lowX, lowY, highX, highY), a fraction, the model's object
abbrev sh_T : Type := Nat × Int32 × Int32 × Nat × (Nat → Int32) × (Nat → Int32) × Int32 × Int32 × Int32 × Int32
abbrev sh_k (S : sh_T) : Nat := S.1
abbrev sh_z (S : sh_T) : Int32 := S.2.1
abbrev sh_v (S : sh_T) : Int32 := S.2.2.1
abbrev sh_n (S : sh_T) : Nat := S.2.2.2.1
abbrev sh_x (S : sh_T) : Nat → Int32 := S.2.2.2.2.1
abbrev sh_y (S : sh_T) : Nat → Int32 := S.2.2.2.2.2.1
abbrev sh_a (S : sh_T) : Int32 := S.2.2.2.2.2.2.1
abbrev sh_b (S : sh_T) : Int32 := S.2.2.2.2.2.2.2.1
abbrev sh_c (S : sh_T) : Int32 := S.2.2.2.2.2.2.2.2.1
abbrev sh_d (S : sh_T) : Int32 := S.2.2.2.2.2.2.2.2.2
abbrev sh_w (cI : ClassId) (ad : Nat → Nat) (h0 hx hy : Nat) (S : sh_T) : va_W := [(h0, .inr (2, [.ref (ad (sh_k S)), .int (sh_z S), .int (sh_v S), .ref hx, .ref hy, .int (sh_a S), .int (sh_b S), .int (sh_c S), .int (sh_d S)])), (hx, .inl (cI, sh_n S, .inl (sh_x S))), (hy, .inl (cI, sh_n S, .inl (sh_y S)))]
abbrev fr_T : Type := Int64 × Int64
abbrev fr_w (f0 : Nat) (Q : fr_T) : va_W := [(f0, .inr (1, [.long Q.1, .long Q.2]))]
abbrev fr_u (Q : fr_T) : Int64 := Q.1
abbrev fr_l (Q : fr_T) : Int64 := Q.2
abbrev fs_u (Q : fr_T) (v : Int64) : fr_T := (v, fr_l Q)
abbrev fs_l (Q : fr_T) (v : Int64) : fr_T := (fr_u Q, v)
abbrev ss_k (S : sh_T) (v : Nat) : sh_T := (v, sh_z S, sh_v S, sh_n S, sh_x S, sh_y S, sh_a S, sh_b S, sh_c S, sh_d S)
abbrev ss_z (S : sh_T) (v : Int32) : sh_T := (sh_k S, v, sh_v S, sh_n S, sh_x S, sh_y S, sh_a S, sh_b S, sh_c S, sh_d S)
abbrev ss_v (S : sh_T) (v : Int32) : sh_T := (sh_k S, sh_z S, v, sh_n S, sh_x S, sh_y S, sh_a S, sh_b S, sh_c S, sh_d S)
abbrev ss_n (S : sh_T) (v : Nat) : sh_T := (sh_k S, sh_z S, sh_v S, v, sh_x S, sh_y S, sh_a S, sh_b S, sh_c S, sh_d S)
abbrev ss_x (S : sh_T) (v : Nat → Int32) : sh_T := (sh_k S, sh_z S, sh_v S, sh_n S, v, sh_y S, sh_a S, sh_b S, sh_c S, sh_d S)
abbrev ss_y (S : sh_T) (v : Nat → Int32) : sh_T := (sh_k S, sh_z S, sh_v S, sh_n S, sh_x S, v, sh_a S, sh_b S, sh_c S, sh_d S)
abbrev ss_a (S : sh_T) (v : Int32) : sh_T := (sh_k S, sh_z S, sh_v S, sh_n S, sh_x S, sh_y S, v, sh_b S, sh_c S, sh_d S)
abbrev ss_b (S : sh_T) (v : Int32) : sh_T := (sh_k S, sh_z S, sh_v S, sh_n S, sh_x S, sh_y S, sh_a S, v, sh_c S, sh_d S)
abbrev ss_c (S : sh_T) (v : Int32) : sh_T := (sh_k S, sh_z S, sh_v S, sh_n S, sh_x S, sh_y S, sh_a S, sh_b S, v, sh_d S)
abbrev ss_d (S : sh_T) (v : Int32) : sh_T := (sh_k S, sh_z S, sh_v S, sh_n S, sh_x S, sh_y S, sh_a S, sh_b S, sh_c S, v)
abbrev mo_T : Type := (Nat → Int32) × (Nat → Int32) × (Nat → Int64) × (Nat → Int64) × Int32 × Int32 × Int32 × (Nat → Int32) × Int32 × Int64 × Int64 × Int32 × (Nat → Int64) × (Nat → Int64) × (Nat → Int32)
abbrev mo_k (M : mo_T) : Nat → Int32 := M.1
abbrev mo_c (M : mo_T) : Nat → Int32 := M.2.1
abbrev mo_x (M : mo_T) : Nat → Int64 := M.2.2.1
abbrev mo_y (M : mo_T) : Nat → Int64 := M.2.2.2.1
abbrev mo_n (M : mo_T) : Int32 := M.2.2.2.2.1
abbrev mo_o (M : mo_T) : Int32 := M.2.2.2.2.2.1
abbrev mo_g (M : mo_T) : Int32 := M.2.2.2.2.2.2.1
abbrev mo_f (M : mo_T) : Nat → Int32 := M.2.2.2.2.2.2.2.1
abbrev mo_m (M : mo_T) : Int32 := M.2.2.2.2.2.2.2.2.1
abbrev mo_u (M : mo_T) : Int64 := M.2.2.2.2.2.2.2.2.2.1
abbrev mo_l (M : mo_T) : Int64 := M.2.2.2.2.2.2.2.2.2.2.1
abbrev mo_t (M : mo_T) : Int32 := M.2.2.2.2.2.2.2.2.2.2.2.1
abbrev mo_p (M : mo_T) : Nat → Int64 := M.2.2.2.2.2.2.2.2.2.2.2.2.1
abbrev mo_q (M : mo_T) : Nat → Int64 := M.2.2.2.2.2.2.2.2.2.2.2.2.2.1
abbrev mo_b (M : mo_T) : Nat → Int32 := M.2.2.2.2.2.2.2.2.2.2.2.2.2.2
abbrev mo_w (cI cJ cZ : ClassId) (m0 mk mc mx my mf mp mq mb : Nat) (M : mo_T) : va_W := [(m0, .inr (4, [.ref mk, .ref mc, .ref mx, .ref my, .int (mo_n M), .int (mo_o M), .int (mo_g M), .ref mf, .int (mo_m M), .long (mo_u M), .long (mo_l M), .int (mo_t M), .ref mp, .ref mq, .ref mb])), (mk, .inl (cI, 60, .inl (mo_k M))), (mc, .inl (cI, 60, .inl (mo_c M))), (mx, .inl (cJ, 1500, .inr (.inl (mo_x M)))), (my, .inl (cJ, 1500, .inr (.inl (mo_y M)))), (mf, .inl (cI, 60, .inl (mo_f M))), (mp, .inl (cJ, 60, .inr (.inl (mo_p M)))), (mq, .inl (cJ, 60, .inr (.inl (mo_q M)))), (mb, .inl (cZ, 60, .inl (mo_b M)))]
abbrev ms_k (M : mo_T) (v : Nat → Int32) : mo_T := (v, mo_c M, mo_x M, mo_y M, mo_n M, mo_o M, mo_g M, mo_f M, mo_m M, mo_u M, mo_l M, mo_t M, mo_p M, mo_q M, mo_b M)
abbrev ms_c (M : mo_T) (v : Nat → Int32) : mo_T := (mo_k M, v, mo_x M, mo_y M, mo_n M, mo_o M, mo_g M, mo_f M, mo_m M, mo_u M, mo_l M, mo_t M, mo_p M, mo_q M, mo_b M)
abbrev ms_x (M : mo_T) (v : Nat → Int64) : mo_T := (mo_k M, mo_c M, v, mo_y M, mo_n M, mo_o M, mo_g M, mo_f M, mo_m M, mo_u M, mo_l M, mo_t M, mo_p M, mo_q M, mo_b M)
abbrev ms_y (M : mo_T) (v : Nat → Int64) : mo_T := (mo_k M, mo_c M, mo_x M, v, mo_n M, mo_o M, mo_g M, mo_f M, mo_m M, mo_u M, mo_l M, mo_t M, mo_p M, mo_q M, mo_b M)
abbrev ms_n (M : mo_T) (v : Int32) : mo_T := (mo_k M, mo_c M, mo_x M, mo_y M, v, mo_o M, mo_g M, mo_f M, mo_m M, mo_u M, mo_l M, mo_t M, mo_p M, mo_q M, mo_b M)
abbrev ms_o (M : mo_T) (v : Int32) : mo_T := (mo_k M, mo_c M, mo_x M, mo_y M, mo_n M, v, mo_g M, mo_f M, mo_m M, mo_u M, mo_l M, mo_t M, mo_p M, mo_q M, mo_b M)
abbrev ms_g (M : mo_T) (v : Int32) : mo_T := (mo_k M, mo_c M, mo_x M, mo_y M, mo_n M, mo_o M, v, mo_f M, mo_m M, mo_u M, mo_l M, mo_t M, mo_p M, mo_q M, mo_b M)
abbrev ms_f (M : mo_T) (v : Nat → Int32) : mo_T := (mo_k M, mo_c M, mo_x M, mo_y M, mo_n M, mo_o M, mo_g M, v, mo_m M, mo_u M, mo_l M, mo_t M, mo_p M, mo_q M, mo_b M)
abbrev ms_m (M : mo_T) (v : Int32) : mo_T := (mo_k M, mo_c M, mo_x M, mo_y M, mo_n M, mo_o M, mo_g M, mo_f M, v, mo_u M, mo_l M, mo_t M, mo_p M, mo_q M, mo_b M)
abbrev ms_u (M : mo_T) (v : Int64) : mo_T := (mo_k M, mo_c M, mo_x M, mo_y M, mo_n M, mo_o M, mo_g M, mo_f M, mo_m M, v, mo_l M, mo_t M, mo_p M, mo_q M, mo_b M)
abbrev ms_l (M : mo_T) (v : Int64) : mo_T := (mo_k M, mo_c M, mo_x M, mo_y M, mo_n M, mo_o M, mo_g M, mo_f M, mo_m M, mo_u M, v, mo_t M, mo_p M, mo_q M, mo_b M)
abbrev ms_t (M : mo_T) (v : Int32) : mo_T := (mo_k M, mo_c M, mo_x M, mo_y M, mo_n M, mo_o M, mo_g M, mo_f M, mo_m M, mo_u M, mo_l M, v, mo_p M, mo_q M, mo_b M)
abbrev ms_p (M : mo_T) (v : Nat → Int64) : mo_T := (mo_k M, mo_c M, mo_x M, mo_y M, mo_n M, mo_o M, mo_g M, mo_f M, mo_m M, mo_u M, mo_l M, mo_t M, v, mo_q M, mo_b M)
abbrev ms_q (M : mo_T) (v : Nat → Int64) : mo_T := (mo_k M, mo_c M, mo_x M, mo_y M, mo_n M, mo_o M, mo_g M, mo_f M, mo_m M, mo_u M, mo_l M, mo_t M, mo_p M, v, mo_b M)
abbrev ms_b (M : mo_T) (v : Nat → Int32) : mo_T := (mo_k M, mo_c M, mo_x M, mo_y M, mo_n M, mo_o M, mo_g M, mo_f M, mo_m M, mo_u M, mo_l M, mo_t M, mo_p M, mo_q M, v)
abbrev en_l (k : Nat) : Int32 := ([1, 2, 3] : List Int32).getD k 0
abbrev en_m (k : Nat) : Int32 := ([1, 24, 24] : List Int32).getD k 0
-- pure words of the walks
def rd_i (n : Nat) (f : Nat → Int32) (i : Int32) : Option Int32 := if i < 0 ∨ n ≤ i.toNatClampNeg then none else some (f i.toNatClampNeg)
def rd_l (n : Nat) (f : Nat → Int64) (i : Int32) : Option Int64 := if i < 0 ∨ n ≤ i.toNatClampNeg then none else some (f i.toNatClampNeg)
def wr_in (n : Nat) (i : Int32) : Option Unit := if i < 0 ∨ n ≤ i.toNatClampNeg then none else some ()
def nz_i (y : Int32) : Option Unit := if y = 0 then none else some ()
def nz_l (y : Int64) : Option Unit := if y = 0 then none else some ()
def bz_i (v : Int32) : Option Unit := if v = 0 ∨ v = 1 then some () else none
abbrev ma_i (x y : Int32) : Int32 := if x < y then y else x
abbrev mi_i (x y : Int32) : Int32 := if y < x then y else x
theorem rd_i_in {n : Nat} {f : Nat → Int32} {i v : Int32} (h : rd_i n f i = some v) : vp_in i n ∧ f i.toNatClampNeg = v := by
  unfold rd_i at h
  split at h
  · cases h
  · rename_i hc
    exact ⟨hc, Option.some.inj h⟩
theorem rd_l_in {n : Nat} {f : Nat → Int64} {i : Int32} {v : Int64} (h : rd_l n f i = some v) : vp_in i n ∧ f i.toNatClampNeg = v := by
  unfold rd_l at h
  split at h
  · cases h
  · rename_i hc
    exact ⟨hc, Option.some.inj h⟩
theorem wr_ok {n : Nat} {i : Int32} {u : Unit} (h : wr_in n i = some u) : vp_in i n := by
  unfold wr_in at h
  split at h
  · cases h
  · rename_i hc
    exact hc
theorem nz_i_ne {y : Int32} {u : Unit} (h : nz_i y = some u) : ¬ y = 0 := by
  unfold nz_i at h
  split at h
  · cases h
  · rename_i hc
    exact hc
theorem nz_l_ne {y : Int64} {u : Unit} (h : nz_l y = some u) : ¬ y = 0 := by
  unfold nz_l at h
  split at h
  · cases h
  · rename_i hc
    exact hc
theorem bz_nar {v : Int32} {u : Unit} (h : bz_i v = some u) : narrow .boolean (.int v) = .int v := by
  unfold bz_i at h
  split at h
  · rename_i hc
    rcases hc with rfl | rfl <;> rfl
  · cases h
theorem op_bd {α β : Type} {o : Option α} {k : α → Option β} {r : β} (h : o.bind k = some r) : ∃ v, o = some v ∧ k v = some r := by
  cases o with
  | none => cases h
  | some v => exact ⟨v, rfl, h⟩
theorem it_t {α : Type} {c : Prop} [Decidable c] {a b r : α} (h : c) (e : (if c then a else b) = r) : a = r := by
  rw [if_pos h] at e
  exact e
theorem it_f {α : Type} {c : Prop} [Decidable c] {a b r : α} (h : ¬ c) (e : (if c then a else b) = r) : b = r := by
  rw [if_neg h] at e
  exact e
-- what the tables say, and the three kinds
abbrev gl_K (D : va_G) (cI cJ cZ cS : ClassId) (U : State) : Prop := va_K D vwCl [(cI, .int), (cJ, .long), (cZ, .boolean), (cS, .object "PlacePoints$Shape")] U
abbrev gl_E (ad : Nat → Nat) (A : Nat → Prop) (U : State) (H : Heap) : Prop := va_En "PlacePoints$Kind" "LPlacePoints$Kind;" ["POINT", "LINE", "POLYGON"] [("PlacePoints$Kind", "least", "I", [1, 2, 3]), ("PlacePoints$Kind", "most", "I", [1, 24, 24])] ad A U H
/-- the start of a method that only reads -/
def gl_P (D : va_G) (cI cJ cZ cS : ClassId) (ad : Nat → Nat) (av : List Value) (B : Heap → Prop) : Array Value → State → Prop := va_Pc av (fun U => gl_K D cI cJ cZ cS U ∧ gl_E ad (fun _ => False) U U.heap ∧ B U.heap)
theorem gl_blind {D : va_G} {cI cJ cZ cS : ClassId} {ad : Nat → Nat} {av : List Value} {B : Heap → Prop} : FrameBlind (gl_P D cI cJ cZ cS ad av B) := by
  intro a U g mk q
  obtain ⟨q0, qK, qE, qB⟩ := q
  exact ⟨q0, va_K.moved (u := U) (U := U.calling g mk a) (Vm.Alike.refl U.vm) qK, va_En.moved (u := U) (U := U.calling g mk a) (Vm.Alike.refl U.vm) qE, qB⟩
theorem gl_ok {D : va_G} {cI cJ cZ cS : ClassId} {ad : Nat → Nat} {av : List Value} {B : Heap → Prop} {s : State} {H : Heap} (hK : gl_K D cI cJ cZ cS s) (hE : gl_E ad (fun _ => False) s H) (hB : B H) : ∀ U : State, U.heap = H → s.WarmedH U.vm → gl_P D cI cJ cZ cS ad av B av.toArray U := fun U hU hW => ⟨rfl, va_K.moved hW.alike hK, by rw [hU]; exact va_En.moved hW.alike hE, by rw [hU]; exact hB⟩
theorem gl_Ek {ad : Nat → Nat} {A : Nat → Prop} {s : State} {H : Heap} {locs : List Loc} (hE : gl_E ad A s s.heap) (hS : va_S A s.heap H locs) : gl_E ad (fun _ => False) s H := va_En.narrow (va_En.kept hE hS.2.1) (fun _ h => h.elim)
/-- the start of a method that writes the cells w, and reads the cells ro beside them -/
def gm_P (D : va_G) (cI cJ cZ cS : ClassId) (ad : Nat → Nat) (sz : Nat) (w ro : va_W) (av : List Value) : Array Value → State → Prop := va_Pc av (fun U => U.heap.size = sz ∧ gl_K D cI cJ cZ cS U ∧ gl_E ad (va_A w sz) U U.heap ∧ va_P D vwCl w U.heap ∧ va_D (fun _ => True) w ∧ va_P D vwCl ro U.heap ∧ ∀ (k : Nat) (q : Nat × va_E), ro[k]? = some q → ∀ (j : Nat) (e : va_E), ¬ w[j]? = some (q.1, e))
theorem gm_blind {D : va_G} {cI cJ cZ cS : ClassId} {ad : Nat → Nat} {sz : Nat} {w ro : va_W} {av : List Value} : FrameBlind (gm_P D cI cJ cZ cS ad sz w ro av) := by
  intro a U g mk q
  obtain ⟨q0, qs, qK, qE, qr⟩ := q
  exact ⟨q0, qs, va_K.moved (u := U) (U := U.calling g mk a) (Vm.Alike.refl U.vm) qK, va_En.moved (u := U) (U := U.calling g mk a) (Vm.Alike.refl U.vm) qE, qr⟩
theorem gx_rn0 {D : va_G} {w ro : va_W} {s : State} (hR : va_P D vwCl ro s.heap) (h : ∀ (k : Nat) (q : Nat × va_E), ro[k]? = some q → ∀ (j : Nat) (e : va_E), ¬ w[j]? = some (q.1, e)) : ∀ (k : Nat) (q : Nat × va_E), ro[k]? = some q → ¬ va_A w s.heap.size q.1 := by
  intro k q hq ha
  rcases ha with ⟨j, e, hj⟩ | hge
  · exact h k q hq j e hj
  · have := (hR k q hq).lt
    omega
theorem gx_ro {D : va_G} {ro : va_W} {A : Nat → Prop} {s : State} {H : Heap} {locs : List Loc} (hR : va_P D vwCl ro s.heap) (hRn : ∀ (k : Nat) (q : Nat × va_E), ro[k]? = some q → ¬ A q.1) (hS : va_S A s.heap H locs) : va_P D vwCl ro H := hR.kept (fun k q hk => hS.2.1 q.1 (hR k q hk).lt (hRn k q hk))
theorem gx_rn {A : Nat → Prop} {w ro ro' : va_W} (hRn : ∀ (k : Nat) (q : Nat × va_E), ro[k]? = some q → ¬ A q.1) (hD : va_D A w) (is : List Nat) (hs : is.map (fun i => ro[i]?) = ro'.map some) : ∀ (k : Nat) (q : Nat × va_E), ro'[k]? = some q → ∀ (j : Nat) (e : va_E), ¬ w[j]? = some (q.1, e) := by
  intro k q hk j e hj
  have h1 : (ro'.map some)[k]? = some (some q) := by rw [List.getElem?_map, hk]; rfl
  rw [← hs, List.getElem?_map] at h1
  cases hi : is[k]? with
  | none => rw [hi] at h1; cases h1
  | some i =>
    rw [hi] at h1
    exact hRn i q (Option.some.inj h1) (hD.2 j (q.1, e) hj)
theorem va_nil0 {D : va_G} {H : Heap} : va_P D vwCl [] H := fun k q h => by cases h
theorem gx_nil {w : va_W} : ∀ (k : Nat) (q : Nat × va_E), ([] : va_W)[k]? = some q → ∀ (j : Nat) (e : va_E), ¬ w[j]? = some (q.1, e) := fun k q h => by cases h
theorem gm_ok {D : va_G} {cI cJ cZ cS : ClassId} {ad : Nat → Nat} {w ro : va_W} {av : List Value} {s : State} {H : Heap} {A : Nat → Prop} {locs : List Loc} (hK : gl_K D cI cJ cZ cS s) (hE : gl_E ad A s s.heap) (hS : va_S A s.heap H locs) (hF : ∀ q, va_A w H.size q → A q) (hP : va_P D vwCl w H) (hD : va_D A w) (hR : va_P D vwCl ro H) (hRn : ∀ (k : Nat) (q : Nat × va_E), ro[k]? = some q → ∀ (j : Nat) (e : va_E), ¬ w[j]? = some (q.1, e)) : ∀ U : State, U.heap = H → s.WarmedH U.vm → gm_P D cI cJ cZ cS ad H.size w ro av av.toArray U := fun U hU hW => ⟨rfl, by rw [hU], va_K.moved hW.alike hK, by rw [hU]; exact va_En.moved hW.alike (va_En.narrow (va_En.kept hE hS.2.1) hF), by rw [hU]; exact hP, hD.weaken (fun _ _ _ _ => trivial), by rw [hU]; exact hR, hRn⟩
section GX
variable {p : Program} {l : Launch} {e : Env} {R : Room} {s : State} {m : MethodId} {args : Array Value} {below : List Frame} {meth : Method} {c : Code} {H : Heap} {locs : List Loc} {cells slots : Nat} {Q : State → Prop}
variable {cc : ByteArray} {pc : Nat} {ls : Array Slot} {rest st0 : List Value} {D : va_G} {cl : List vw_C} {A : Nat → Prop} {a : Nat} {tys : List (ClassId × FieldType)} {ws : va_W} {H0 : Heap}
theorem gx_ni {x y : Int32} (h : x = y) (k : W p l e R s m args below meth c H locs cells slots Q (F0 m pc ls (.int y :: rest))) : W p l e R s m args below meth c H locs cells slots Q (F0 m pc ls (.int x :: rest)) := by subst h; exact k
theorem gx_nj {x y : Int64} (h : x = y) (k : W p l e R s m args below meth c H locs cells slots Q (F0 m pc ls (.long y :: rest))) : W p l e R s m args below meth c H locs cells slots Q (F0 m pc ls (.long x :: rest)) := by subst h; exact k
theorem gx_iald (hexec : p.tables.exec = Jvm.exec) (hb : c.code = cc) (hK : va_K D cl tys s) (hP : va_P D cl ws H) (q0 t0 : Nat) {cA : ClassId} {n : Nat} {f : Nat → Int32} (ha : ws[q0]? = some (a, .inl (cA, n, .inl f))) (ht : tys[t0]? = some (cA, .int)) {i v : Int32} (hv : rd_i n f i = some v) (hdg : decode cc pc = .ok (.iaload, 1))
    (kk : W p l e R s m args below meth c H locs cells slots Q (F0 m (pc + 1) ls (.int v :: rest))) : W p l e R s m args below meth c H locs cells slots Q (F0 m pc ls (.int i :: .ref a :: rest)) := by
  obtain ⟨hi, rfl⟩ := rd_i_in hv
  exact va_iald hexec hb hK hP q0 t0 ha ht hi hdg kk
theorem gx_zald (hexec : p.tables.exec = Jvm.exec) (hb : c.code = cc) (hK : va_K D cl tys s) (hP : va_P D cl ws H) (q0 t0 : Nat) {cA : ClassId} {n : Nat} {f : Nat → Int32} (ha : ws[q0]? = some (a, .inl (cA, n, .inl f))) (ht : tys[t0]? = some (cA, .boolean)) {i v : Int32} (hv : rd_i n f i = some v) (hdg : decode cc pc = .ok (.baload, 1))
    (kk : W p l e R s m args below meth c H locs cells slots Q (F0 m (pc + 1) ls (.int v :: rest))) : W p l e R s m args below meth c H locs cells slots Q (F0 m pc ls (.int i :: .ref a :: rest)) := by
  obtain ⟨hi, rfl⟩ := rd_i_in hv
  exact va_zald hexec hb hK hP q0 t0 ha ht hi hdg kk
theorem gx_lald (hexec : p.tables.exec = Jvm.exec) (hb : c.code = cc) (hK : va_K D cl tys s) (hP : va_P D cl ws H) (q0 t0 : Nat) {cA : ClassId} {n : Nat} {f : Nat → Int64} (ha : ws[q0]? = some (a, .inl (cA, n, .inr (.inl f)))) (ht : tys[t0]? = some (cA, .long)) {i : Int32} {v : Int64} (hv : rd_l n f i = some v) (hdg : decode cc pc = .ok (.laload, 1))
    (kk : W p l e R s m args below meth c H locs cells slots Q (F0 m (pc + 1) ls (.long v :: rest))) : W p l e R s m args below meth c H locs cells slots Q (F0 m pc ls (.int i :: .ref a :: rest)) := by
  obtain ⟨hi, rfl⟩ := rd_l_in hv
  exact va_lald hexec hb hK hP q0 t0 ha ht hi hdg kk
theorem gx_cSi {v : Int32} {aa : Array Value} (hr : CallRun p l e R s m args below meth c H locs cells slots 0 0 (F0 m pc ls st0) rest (vp_Si (fun x => x = v) aa) (fun _ => False)) (kk : W p l e R s m args below meth c H locs cells slots Q (F0 m (pc + 3) ls (.int v :: rest))) : W p l e R s m args below meth c H locs cells slots Q (F0 m pc ls st0) := vp_callSi hr (fun r h => by subst h; exact kk)
theorem gx_cSl {v : Int64} {aa : Array Value} (hr : CallRun p l e R s m args below meth c H locs cells slots 0 0 (F0 m pc ls st0) rest (vp_Sl (fun x => x = v) aa) (fun _ => False)) (kk : W p l e R s m args below meth c H locs cells slots Q (F0 m (pc + 3) ls (.long v :: rest))) : W p l e R s m args below meth c H locs cells slots Q (F0 m pc ls st0) := vp_callSl hr (fun r h => by subst h; exact kk)
theorem gx_en {ad : Nat → Nat} {H9 : Heap} (hE : gl_E ad A s H9) {i j : Nat} (hi : i < 3) (hj : j < 3) : (some (ad i) = some (ad j)) ↔ i = j := ⟨fun h => hE.2 i j hi hj (Option.some.inj h), fun h => by rw [h]⟩
theorem gx_acmp_eq {ad : Nat → Nat} {H9 : Heap} {i j : Nat} {off : Int} {tgt : Nat} (hE : gl_E ad A s H9) (hi : i < 3) (hj : j < 3) (hexec : p.tables.exec = Jvm.exec) (hb : c.code = cc) (hdg : decode cc pc = .ok (.if_acmp .eq off, 3)) (ht : (pc : Int) + off = (tgt : Int))
    (kt : i = j → W p l e R s m args below meth c H locs cells slots Q (F0 m tgt ls rest)) (kf : ¬ i = j → W p l e R s m args below meth c H locs cells slots Q (F0 m (pc + 3) ls rest)) : W p l e R s m args below meth c H locs cells slots Q (F0 m pc ls (.ref (ad j) :: .ref (ad i) :: rest)) :=
  lv_acmp_eq (rx := some (ad i)) (ry := some (ad j)) hexec hb hdg ht (fun h => kt ((gx_en hE hi hj).mp h)) (fun h => kf (fun q => h ((gx_en hE hi hj).mpr q)))
theorem gx_acmp_ne {ad : Nat → Nat} {H9 : Heap} {i j : Nat} {off : Int} {tgt : Nat} (hE : gl_E ad A s H9) (hi : i < 3) (hj : j < 3) (hexec : p.tables.exec = Jvm.exec) (hb : c.code = cc) (hdg : decode cc pc = .ok (.if_acmp .ne off, 3)) (ht : (pc : Int) + off = (tgt : Int))
    (kt : ¬ i = j → W p l e R s m args below meth c H locs cells slots Q (F0 m tgt ls rest)) (kf : i = j → W p l e R s m args below meth c H locs cells slots Q (F0 m (pc + 3) ls rest)) : W p l e R s m args below meth c H locs cells slots Q (F0 m pc ls (.ref (ad j) :: .ref (ad i) :: rest)) :=
  lv_acmp_ne (rx := some (ad i)) (ry := some (ad j)) hexec hb hdg ht (fun h => kt (fun q => h ((gx_en hE hi hj).mpr q))) (fun h => kf ((gx_en hE hi hj).mp h))
theorem gx_cMi {S : Type} {v : Int32 × S} {aa : Array Value} {A0 A1 : Nat → Prop} {free : Addr → Prop} {mc ms : Nat} {wf : S → va_W} (hr : va_Run p l e R s m args below meth c H locs cells slots mc ms (F0 m pc ls st0) rest (va_Qi (fun x u => x = v.1 ∧ u = v.2) (fun u t => va_P D vwCl (wf u) t.heap ∧ va_D A1 (wf u)) A1 aa) A1) (hS : va_S A0 H0 H locs) (hA : ∀ q, A1 q → A0 q)
    (kk : ∀ (H1 : Heap) (locs1 : List Loc), va_P D vwCl (wf v.2) H1 → va_D A0 (wf v.2) → va_S A0 H0 H1 locs1 → W p l e R s m args below meth c H1 locs1 (cells + mc) (slots + ms) Q (F0 m (pc + 3) ls (.int v.1 :: rest))) : W p l e R s m args below meth c H locs cells slots Q (F0 m pc ls st0) :=
  va_calli hr hS (fun q _ h => hA q h) hA (fun r u t H1 locs1 ht hvm hw hB hz1 hk1 hS1 => by
    obtain ⟨rfl, rfl⟩ := hw
    rw [ht] at hB
    exact kk H1 locs1 hB.1 (hB.2.weaken (fun _ _ _ h => hA _ h)) hS1)
theorem gx_cMl {S : Type} {v : Int64 × S} {aa : Array Value} {A0 A1 : Nat → Prop} {mc ms : Nat} {wf : S → va_W} (hr : va_Run p l e R s m args below meth c H locs cells slots mc ms (F0 m pc ls st0) rest (va_Ql (fun x u => x = v.1 ∧ u = v.2) (fun u t => va_P D vwCl (wf u) t.heap ∧ va_D A1 (wf u)) A1 aa) A1) (hS : va_S A0 H0 H locs) (hA : ∀ q, A1 q → A0 q)
    (kk : ∀ (H1 : Heap) (locs1 : List Loc), va_P D vwCl (wf v.2) H1 → va_D A0 (wf v.2) → va_S A0 H0 H1 locs1 → W p l e R s m args below meth c H1 locs1 (cells + mc) (slots + ms) Q (F0 m (pc + 3) ls (.long v.1 :: rest))) : W p l e R s m args below meth c H locs cells slots Q (F0 m pc ls st0) :=
  va_calll hr hS (fun q _ h => hA q h) hA (fun r u t H1 locs1 ht hvm hw hB hz1 hk1 hS1 => by
    obtain ⟨rfl, rfl⟩ := hw
    rw [ht] at hB
    exact kk H1 locs1 hB.1 (hB.2.weaken (fun _ _ _ h => hA _ h)) hS1)
theorem gx_cMv {S : Type} {v : S} {aa : Array Value} {A0 A1 : Nat → Prop} {mc ms : Nat} {wf : S → va_W} (hr : va_Run p l e R s m args below meth c H locs cells slots mc ms (F0 m pc ls st0) rest (va_Qv (fun u => u = v) (fun u t => va_P D vwCl (wf u) t.heap ∧ va_D A1 (wf u)) A1 aa) A1) (hS : va_S A0 H0 H locs) (hA : ∀ q, A1 q → A0 q)
    (kk : ∀ (H1 : Heap) (locs1 : List Loc), va_P D vwCl (wf v) H1 → va_D A0 (wf v) → va_S A0 H0 H1 locs1 → W p l e R s m args below meth c H1 locs1 (cells + mc) (slots + ms) Q (F0 m (pc + 3) ls rest)) : W p l e R s m args below meth c H locs cells slots Q (F0 m pc ls st0) :=
  va_callv hr hS (fun q _ h => hA q h) hA (fun u t H1 locs1 ht hvm hw hB hz1 hk1 hS1 => by
    obtain rfl := hw
    rw [ht] at hB
    exact kk H1 locs1 hB.1 (hB.2.weaken (fun _ _ _ h => hA _ h)) hS1)
end GX
end
section
def s_X2_squareOf (F : Nat) (p1 : Int64) (p2 : Int64) : Option Int64 :=
  some ((p1 * p1) + (p2 * p2))
abbrev rm_X2_squareOf : Room := { frames := 0, cells := 0, slots := 0, locals := 0 }
set_option maxHeartbeats 4000000 in
set_option maxRecDepth 100000 in
theorem c_X2_squareOf (l : Launch) (D : va_G) (cI cJ cZ cS : ClassId) (ad : Nat → Nat) (p1 : Int64) (p2 : Int64) (F : Nat)  (r : Int64) (hs : s_X2_squareOf F p1 p2 = some r) : Met l yX2_squareOf wsX2_squareOf rm_X2_squareOf (gl_P D cI cJ cZ cS ad [.long p1, .long p2] (fun _ => True)) (vp_Sl (fun v => v = r)) 0 0 (fun _ => False) := by
  refine Met.ofW (cc := cX2_squareOf) (maxL := 4) (ret := (some .long)) (by decide) rfl ?_
  intro p e s m args below meth c s₁ B hml hv
  obtain ⟨rfl, hK, hE, hP⟩ := hv
  have hx := B.exec
  have hb := B.bytes
  have hr := B.returns
  have hts := atoms_spec (ws := wsX2_squareOf) B.pre
  have hown : s.vm.findClass RX2 = some m.cls := findClass_of_methodNamed B.named
  have hlocks := B.notSynchronized
  have hl := lv_entry ([.long p1, .long p2]) (n := 4) (Nat.le_of_ble_eq_true rfl)
  rw [lg_entry_eq]
  generalize (lg_sl ([.long p1, .long p2]) ++ List.replicate (4 - (lg_sl ([.long p1, .long p2])).length) Slot.unset).toArray = ls at hl ⊢
  have hl : lv_has ls 4 [(0, .long p1), (2, .long p2)] := hl
  rw [s_X2_squareOf] at hs
  refine lv_lload_n hx hb dX2_squareOf_0 rfl (lv_at hl 0 rfl) ?_
  refine lv_lload_n hx hb dX2_squareOf_1 rfl (lv_at hl 0 rfl) ?_
  refine lv_lmul hx hb dX2_squareOf_2 ?_
  refine lv_lload_n hx hb dX2_squareOf_3 rfl (lv_at hl 1 rfl) ?_
  refine lv_lload_n hx hb dX2_squareOf_4 rfl (lv_at hl 1 rfl) ?_
  refine lv_lmul hx hb dX2_squareOf_5 ?_
  refine lv_ladd hx hb dX2_squareOf_6 ?_
  obtain rfl := Option.some.inj hs
  exact W.lret hx hb hr (fun t ht hW => ⟨_, rfl, rfl, ht⟩) (fun _ h => by cases h) dX2_squareOf_7
def s_X2_overlap (F : Nat) (p1 : Int32) (p2 : Int32) (p3 : Int32) (p4 : Int32) : Option Int32 :=
  if (ma_i p1 p2) < (mi_i p3 p4) then
    some 0
  else
    if (ma_i p3 p4) < (mi_i p1 p2) then
      some 0
    else
      some 1
abbrev rm_X2_overlap : Room := { frames := 1, cells := 0, slots := 0, locals := 21 }
set_option maxHeartbeats 4000000 in
set_option maxRecDepth 100000 in
theorem c_X2_overlap (l : Launch) (D : va_G) (cI cJ cZ cS : ClassId) (ad : Nat → Nat) (p1 : Int32) (p2 : Int32) (p3 : Int32) (p4 : Int32) (F : Nat)  (r : Int32) (hs : s_X2_overlap F p1 p2 p3 p4 = some r) : Met l yX2_overlap wsX2_overlap rm_X2_overlap (gl_P D cI cJ cZ cS ad [.int p1, .int p2, .int p3, .int p4] (fun _ => True)) (vp_Si (fun v => v = r)) 0 0 (fun _ => False) := by
  refine Met.ofW (cc := cX2_overlap) (maxL := 4) (ret := (some .boolean)) (by decide) rfl ?_
  intro p e s m args below meth c s₁ B hml hv
  obtain ⟨rfl, hK, hE, hP⟩ := hv
  have hx := B.exec
  have hb := B.bytes
  have hr := B.returns
  have hts := atoms_spec (ws := wsX2_overlap) B.pre
  have hown : s.vm.findClass RX2 = some m.cls := findClass_of_methodNamed B.named
  have hlocks := B.notSynchronized
  have hl := lv_entry ([.int p1, .int p2, .int p3, .int p4]) (n := 4) (Nat.le_of_ble_eq_true rfl)
  rw [lg_entry_eq]
  generalize (lg_sl ([.int p1, .int p2, .int p3, .int p4]) ++ List.replicate (4 - (lg_sl ([.int p1, .int p2, .int p3, .int p4])).length) Slot.unset).toArray = ls at hl ⊢
  have hl : lv_has ls 4 [(0, .int p1), (1, .int p2), (2, .int p3), (3, .int p4)] := hl
  rw [s_X2_overlap] at hs
  refine lv_iload_n hx hb dX2_overlap_0 rfl (lv_at hl 0 rfl) ?_
  refine lv_iload_n hx hb dX2_overlap_1 rfl (lv_at hl 1 rfl) ?_
  refine va_mmax hx hb (hml.trans hl.1.symm) hown (hts (.methodLink RX2 52 Lib.Math.max.name) (by decide +kernel)) (hts (.static Lib.Math.max.name) (by decide +kernel)) (hts (.initialized "java/lang/Math") (by decide +kernel)) (hts (.code Lib.Math.max.name Lib.Math.max.code 2 (some .int)) (by decide +kernel)) (Nat.le_of_ble_eq_true rfl) (Nat.le_of_ble_eq_true rfl) (Nat.le_of_ble_eq_true rfl) (Nat.le_of_ble_eq_true rfl) dX2_overlap_2 ?_
  refine W.eq (g2 := F0 m 5 ls [.int (ma_i p1 p2)]) rfl ?_
  refine lv_iload_n hx hb dX2_overlap_5 rfl (lv_at hl 2 rfl) ?_
  refine lv_iload_n hx hb dX2_overlap_6 rfl (lv_at hl 3 rfl) ?_
  refine va_mmin hx hb (hml.trans hl.1.symm) hown (hts (.methodLink RX2 46 Lib.Math.min.name) (by decide +kernel)) (hts (.static Lib.Math.min.name) (by decide +kernel)) (hts (.initialized "java/lang/Math") (by decide +kernel)) (hts (.code Lib.Math.min.name Lib.Math.min.code 2 (some .int)) (by decide +kernel)) (Nat.le_of_ble_eq_true rfl) (Nat.le_of_ble_eq_true rfl) (Nat.le_of_ble_eq_true rfl) (Nat.le_of_ble_eq_true rfl) dX2_overlap_7 ?_
  refine W.eq (g2 := F0 m 10 ls [.int (mi_i p3 p4), .int (ma_i p1 p2)]) rfl ?_
  refine lv_icmp_lt (tgt := 30) hx hb dX2_overlap_10 (by decide) (fun c_10 => ?_) (fun c_10 => ?_)
  · replace hs := it_t c_10 hs
    refine lv_iconst (v := 0) hx hb dX2_overlap_30 (by decide) ?_
    obtain rfl := Option.some.inj hs
    exact W.zret hx hb hr rfl (fun t ht hW => ⟨_, rfl, rfl, ht⟩) (fun _ h => by cases h) dX2_overlap_31
  · replace hs := it_f c_10 hs
    refine lv_iload_n hx hb dX2_overlap_13 rfl (lv_at hl 2 rfl) ?_
    refine lv_iload_n hx hb dX2_overlap_14 rfl (lv_at hl 3 rfl) ?_
    refine va_mmax hx hb (hml.trans hl.1.symm) hown (hts (.methodLink RX2 52 Lib.Math.max.name) (by decide +kernel)) (hts (.static Lib.Math.max.name) (by decide +kernel)) (hts (.initialized "java/lang/Math") (by decide +kernel)) (hts (.code Lib.Math.max.name Lib.Math.max.code 2 (some .int)) (by decide +kernel)) (Nat.le_of_ble_eq_true rfl) (Nat.le_of_ble_eq_true rfl) (Nat.le_of_ble_eq_true rfl) (Nat.le_of_ble_eq_true rfl) dX2_overlap_15 ?_
    refine W.eq (g2 := F0 m 18 ls [.int (ma_i p3 p4)]) rfl ?_
    refine lv_iload_n hx hb dX2_overlap_18 rfl (lv_at hl 0 rfl) ?_
    refine lv_iload_n hx hb dX2_overlap_19 rfl (lv_at hl 1 rfl) ?_
    refine va_mmin hx hb (hml.trans hl.1.symm) hown (hts (.methodLink RX2 46 Lib.Math.min.name) (by decide +kernel)) (hts (.static Lib.Math.min.name) (by decide +kernel)) (hts (.initialized "java/lang/Math") (by decide +kernel)) (hts (.code Lib.Math.min.name Lib.Math.min.code 2 (some .int)) (by decide +kernel)) (Nat.le_of_ble_eq_true rfl) (Nat.le_of_ble_eq_true rfl) (Nat.le_of_ble_eq_true rfl) (Nat.le_of_ble_eq_true rfl) dX2_overlap_20 ?_
    refine W.eq (g2 := F0 m 23 ls [.int (mi_i p1 p2), .int (ma_i p3 p4)]) rfl ?_
    refine lv_icmp_lt (tgt := 30) hx hb dX2_overlap_23 (by decide) (fun c_23 => ?_) (fun c_23 => ?_)
    · replace hs := it_t c_23 hs
      refine lv_iconst (v := 0) hx hb dX2_overlap_30 (by decide) ?_
      obtain rfl := Option.some.inj hs
      exact W.zret hx hb hr rfl (fun t ht hW => ⟨_, rfl, rfl, ht⟩) (fun _ h => by cases h) dX2_overlap_31
    · replace hs := it_f c_23 hs
      refine lv_iconst (v := 1) hx hb dX2_overlap_26 (by decide) ?_
      refine lv_goto (tgt := 31) hx hb dX2_overlap_27 (by decide) ?_
      obtain rfl := Option.some.inj hs
      exact W.zret hx hb hr rfl (fun t ht hW => ⟨_, rfl, rfl, ht⟩) (fun _ h => by cases h) dX2_overlap_31
def s_X2_turn (F : Nat) (S : sh_T) (p1 : Int32) (p2 : Int32) (p3 : Int32) : Option Int64 :=
  (rd_i (sh_n S) (sh_x S) (p1 + 1)).bind fun v_7 =>
  (rd_i (sh_n S) (sh_x S) p1).bind fun v_13 =>
  (some (((v_7 - v_13)).toInt64)).bind fun e_16 =>
  (rd_i (sh_n S) (sh_y S) (p1 + 1)).bind fun v_25 =>
  (rd_i (sh_n S) (sh_y S) p1).bind fun v_31 =>
  (some (((v_25 - v_31)).toInt64)).bind fun e_34 =>
  (rd_i (sh_n S) (sh_y S) p1).bind fun v_44 =>
  (rd_i (sh_n S) (sh_x S) p1).bind fun v_56 =>
  some ((e_16 * ((p3 - v_44)).toInt64) - (e_34 * ((p2 - v_56)).toInt64))
abbrev rm_X2_turn : Room := { frames := 0, cells := 0, slots := 0, locals := 0 }
theorem in_X2_turn_X2 : ∀ w ∈ wsX20, w ∈ wsX2_turn := by decide +kernel
set_option maxHeartbeats 4000000 in
set_option maxRecDepth 100000 in
theorem c_X2_turn (l : Launch) (D : va_G) (cI cJ cZ cS : ClassId) (ad : Nat → Nat) (h0 sx sy : Nat) (S : sh_T) (p1 : Int32) (p2 : Int32) (p3 : Int32) (F : Nat) (hkS : sh_k S < 3) (r : Int64) (hs : s_X2_turn F S p1 p2 p3 = some r) : Met l yX2_turn wsX2_turn rm_X2_turn (gl_P D cI cJ cZ cS ad [.ref h0, .int p1, .int p2, .int p3] (fun H => va_P D vwCl (sh_w cI ad h0 sx sy S) H)) (vp_Sl (fun v => v = r)) 0 0 (fun _ => False) := by
  refine Met.ofW (cc := cX2_turn) (maxL := 8) (ret := (some .long)) (by decide) rfl ?_
  intro p e s m args below meth c s₁ B hml hv
  obtain ⟨rfl, hK, hE, hP⟩ := hv
  have hx := B.exec
  have hb := B.bytes
  have hr := B.returns
  have hts := atoms_spec (ws := wsX2_turn) B.pre
  have hown : s.vm.findClass RX2 = some m.cls := findClass_of_methodNamed B.named
  have hlocks := B.notSynchronized
  have lk_39 := hts (.fieldLink RX2 39 "PlacePoints$Shape" "xs" "[I") (by decide +kernel)
  have lk_43 := hts (.fieldLink RX2 43 "PlacePoints$Shape" "ys" "[I") (by decide +kernel)
  have in_X2 := in_X2_turn_X2
  have hl := lv_entry ([.ref h0, .int p1, .int p2, .int p3]) (n := 8) (Nat.le_of_ble_eq_true rfl)
  rw [lg_entry_eq]
  generalize (lg_sl ([.ref h0, .int p1, .int p2, .int p3]) ++ List.replicate (8 - (lg_sl ([.ref h0, .int p1, .int p2, .int p3])).length) Slot.unset).toArray = ls at hl ⊢
  have hl : lv_has ls 8 [(0, .ref h0), (1, .int p1), (2, .int p2), (3, .int p3)] := hl
  rw [s_X2_turn] at hs
  refine lv_aload_n hx hb dX2_turn_0 rfl (lv_at hl 0 rfl) ?_
  refine va_get (D := D) (ci := 2) (v := .ref sx) (C := RX2) (T := TX2) (N := 9) hx hb hts in_X2 hown hK hP 0 rfl rfl 3 (by decide) lk_39 (fun _ h9 => h9) rfl dX2_turn_1 ?_
  refine lv_iload_n hx hb dX2_turn_4 rfl (lv_at hl 1 rfl) ?_
  refine lv_iconst (v := 1) hx hb dX2_turn_5 (by decide) ?_
  refine lv_iadd hx hb dX2_turn_6 ?_
  obtain ⟨v_7, hv_7, hs⟩ := op_bd hs
  refine gx_iald hx hb hK hP 1 0 rfl rfl hv_7 dX2_turn_7 ?_
  refine lv_aload_n hx hb dX2_turn_8 rfl (lv_at hl 0 rfl) ?_
  refine va_get (D := D) (ci := 2) (v := .ref sx) (C := RX2) (T := TX2) (N := 9) hx hb hts in_X2 hown hK hP 0 rfl rfl 3 (by decide) lk_39 (fun _ h9 => h9) rfl dX2_turn_9 ?_
  refine lv_iload_n hx hb dX2_turn_12 rfl (lv_at hl 1 rfl) ?_
  obtain ⟨v_13, hv_13, hs⟩ := op_bd hs
  refine gx_iald hx hb hK hP 1 0 rfl rfl hv_13 dX2_turn_13 ?_
  refine lv_isub hx hb dX2_turn_14 ?_
  refine lv_i2l hx hb dX2_turn_15 rfl ?_
  obtain ⟨e_16, hv_16, hs⟩ := op_bd hs
  refine gx_nj (Option.some.inj hv_16) ?_
  refine lv_lstore (lv' := [(4, .long e_16), (0, .ref h0), (1, .int p1), (2, .int p2), (3, .int p3)]) hx hb dX2_turn_16 hl (by decide) rfl (fun ls hl => ?_)
  refine lv_aload_n hx hb dX2_turn_18 rfl (lv_at hl 1 rfl) ?_
  refine va_get (D := D) (ci := 2) (v := .ref sy) (C := RX2) (T := TX2) (N := 9) hx hb hts in_X2 hown hK hP 0 rfl rfl 4 (by decide) lk_43 (fun _ h9 => h9) rfl dX2_turn_19 ?_
  refine lv_iload_n hx hb dX2_turn_22 rfl (lv_at hl 2 rfl) ?_
  refine lv_iconst (v := 1) hx hb dX2_turn_23 (by decide) ?_
  refine lv_iadd hx hb dX2_turn_24 ?_
  obtain ⟨v_25, hv_25, hs⟩ := op_bd hs
  refine gx_iald hx hb hK hP 2 0 rfl rfl hv_25 dX2_turn_25 ?_
  refine lv_aload_n hx hb dX2_turn_26 rfl (lv_at hl 1 rfl) ?_
  refine va_get (D := D) (ci := 2) (v := .ref sy) (C := RX2) (T := TX2) (N := 9) hx hb hts in_X2 hown hK hP 0 rfl rfl 4 (by decide) lk_43 (fun _ h9 => h9) rfl dX2_turn_27 ?_
  refine lv_iload_n hx hb dX2_turn_30 rfl (lv_at hl 2 rfl) ?_
  obtain ⟨v_31, hv_31, hs⟩ := op_bd hs
  refine gx_iald hx hb hK hP 2 0 rfl rfl hv_31 dX2_turn_31 ?_
  refine lv_isub hx hb dX2_turn_32 ?_
  refine lv_i2l hx hb dX2_turn_33 rfl ?_
  obtain ⟨e_34, hv_34, hs⟩ := op_bd hs
  refine gx_nj (Option.some.inj hv_34) ?_
  refine lv_lstore (lv' := [(6, .long e_34), (4, .long e_16), (0, .ref h0), (1, .int p1), (2, .int p2), (3, .int p3)]) hx hb dX2_turn_34 hl (by decide) rfl (fun ls hl => ?_)
  refine lv_lload hx hb dX2_turn_36 (lv_at hl 1 rfl) ?_
  refine lv_iload_n hx hb dX2_turn_38 rfl (lv_at hl 5 rfl) ?_
  refine lv_aload_n hx hb dX2_turn_39 rfl (lv_at hl 2 rfl) ?_
  refine va_get (D := D) (ci := 2) (v := .ref sy) (C := RX2) (T := TX2) (N := 9) hx hb hts in_X2 hown hK hP 0 rfl rfl 4 (by decide) lk_43 (fun _ h9 => h9) rfl dX2_turn_40 ?_
  refine lv_iload_n hx hb dX2_turn_43 rfl (lv_at hl 3 rfl) ?_
  obtain ⟨v_44, hv_44, hs⟩ := op_bd hs
  refine gx_iald hx hb hK hP 2 0 rfl rfl hv_44 dX2_turn_44 ?_
  refine lv_isub hx hb dX2_turn_45 ?_
  refine lv_i2l hx hb dX2_turn_46 rfl ?_
  refine lv_lmul hx hb dX2_turn_47 ?_
  refine lv_lload hx hb dX2_turn_48 (lv_at hl 0 rfl) ?_
  refine lv_iload_n hx hb dX2_turn_50 rfl (lv_at hl 4 rfl) ?_
  refine lv_aload_n hx hb dX2_turn_51 rfl (lv_at hl 2 rfl) ?_
  refine va_get (D := D) (ci := 2) (v := .ref sx) (C := RX2) (T := TX2) (N := 9) hx hb hts in_X2 hown hK hP 0 rfl rfl 3 (by decide) lk_39 (fun _ h9 => h9) rfl dX2_turn_52 ?_
  refine lv_iload_n hx hb dX2_turn_55 rfl (lv_at hl 3 rfl) ?_
  obtain ⟨v_56, hv_56, hs⟩ := op_bd hs
  refine gx_iald hx hb hK hP 1 0 rfl rfl hv_56 dX2_turn_56 ?_
  refine lv_isub hx hb dX2_turn_57 ?_
  refine lv_i2l hx hb dX2_turn_58 rfl ?_
  refine lv_lmul hx hb dX2_turn_59 ?_
  refine lv_lsub hx hb dX2_turn_60 ?_
  obtain rfl := Option.some.inj hs
  exact W.lret hx hb hr (fun t ht hW => ⟨_, rfl, rfl, ht⟩) (fun _ h => by cases h) dX2_turn_61
def s_X2_sideCount (F : Nat) (S : sh_T) : Option Int32 :=
  if (sh_k S) = 1 then
    some ((sh_z S) - 1)
  else
    some (sh_z S)
abbrev rm_X2_sideCount : Room := { frames := 0, cells := 0, slots := 0, locals := 0 }
theorem in_X2_sideCount_X2 : ∀ w ∈ wsX20, w ∈ wsX2_sideCount := by decide +kernel
set_option maxHeartbeats 4000000 in
set_option maxRecDepth 100000 in
theorem c_X2_sideCount (l : Launch) (D : va_G) (cI cJ cZ cS : ClassId) (ad : Nat → Nat) (h0 sx sy : Nat) (S : sh_T) (F : Nat) (hkS : sh_k S < 3) (r : Int32) (hs : s_X2_sideCount F S = some r) : Met l yX2_sideCount wsX2_sideCount rm_X2_sideCount (gl_P D cI cJ cZ cS ad [.ref h0] (fun H => va_P D vwCl (sh_w cI ad h0 sx sy S) H)) (vp_Si (fun v => v = r)) 0 0 (fun _ => False) := by
  refine Met.ofW (cc := cX2_sideCount) (maxL := 1) (ret := (some .int)) (by decide) rfl ?_
  intro p e s m args below meth c s₁ B hml hv
  obtain ⟨rfl, hK, hE, hP⟩ := hv
  have hx := B.exec
  have hb := B.bytes
  have hr := B.returns
  have hts := atoms_spec (ws := wsX2_sideCount) B.pre
  have hown : s.vm.findClass RX2 = some m.cls := findClass_of_methodNamed B.named
  have hlocks := B.notSynchronized
  have lk_9 := hts (.fieldLink RX2 9 "PlacePoints$Shape" "size" "I") (by decide +kernel)
  have lk_30 := hts (.fieldLink RX2 30 "PlacePoints$Shape" "kind" "LPlacePoints$Kind;") (by decide +kernel)
  have in_X2 := in_X2_sideCount_X2
  have hl := lv_entry ([.ref h0]) (n := 1) (Nat.le_of_ble_eq_true rfl)
  rw [lg_entry_eq]
  generalize (lg_sl ([.ref h0]) ++ List.replicate (1 - (lg_sl ([.ref h0])).length) Slot.unset).toArray = ls at hl ⊢
  have hl : lv_has ls 1 [(0, .ref h0)] := hl
  rw [s_X2_sideCount] at hs
  refine lv_aload_n hx hb dX2_sideCount_0 rfl (lv_at hl 0 rfl) ?_
  refine va_get (D := D) (ci := 2) (v := .ref (ad (sh_k S))) (C := RX2) (T := TX2) (N := 9) hx hb hts in_X2 hown hK hP 0 rfl rfl 0 (by decide) lk_30 (fun _ h9 => h9) rfl dX2_sideCount_1 ?_
  refine va_gets hx hb (hE.1 1 (by decide)).1 va_S.rf hown (hts (.fieldLink RX2 109 "PlacePoints$Kind" "LINE" "LPlacePoints$Kind;") (by decide +kernel)) (fun _ h9 => h9) dX2_sideCount_4 ?_
  refine W.eq (g2 := F0 m 7 ls [.ref (ad 1), .ref (ad (sh_k S))]) rfl ?_
  refine gx_acmp_ne (tgt := 19) hE (show (sh_k S) < 3 from hkS) (show 1 < 3 from (by decide)) hx hb dX2_sideCount_7 (by decide) (fun c_7 => ?_) (fun c_7 => ?_)
  · replace hs := it_f c_7 hs
    refine lv_aload_n hx hb dX2_sideCount_19 rfl (lv_at hl 0 rfl) ?_
    refine va_get (D := D) (ci := 2) (v := .int (sh_z S)) (C := RX2) (T := TX2) (N := 9) hx hb hts in_X2 hown hK hP 0 rfl rfl 1 (by decide) lk_9 (fun _ h9 => h9) rfl dX2_sideCount_20 ?_
    obtain rfl := Option.some.inj hs
    exact W.iret hx hb hr (fun t ht hW => ⟨_, rfl, rfl, ht⟩) (fun _ h => by cases h) dX2_sideCount_23
  · replace hs := it_t c_7 hs
    refine lv_aload_n hx hb dX2_sideCount_10 rfl (lv_at hl 0 rfl) ?_
    refine va_get (D := D) (ci := 2) (v := .int (sh_z S)) (C := RX2) (T := TX2) (N := 9) hx hb hts in_X2 hown hK hP 0 rfl rfl 1 (by decide) lk_9 (fun _ h9 => h9) rfl dX2_sideCount_11 ?_
    refine lv_iconst (v := 1) hx hb dX2_sideCount_14 (by decide) ?_
    refine lv_isub hx hb dX2_sideCount_15 ?_
    refine lv_goto (tgt := 23) hx hb dX2_sideCount_16 (by decide) ?_
    obtain rfl := Option.some.inj hs
    exact W.iret hx hb hr (fun t ht hW => ⟨_, rfl, rfl, ht⟩) (fun _ h => by cases h) dX2_sideCount_23
def s_X0_isAbove (F : Nat) (p1 : Int64) (p2 : Int64) (p3 : Int64) (p4 : Int64) : Option Int32 :=
  if (lg_cmp p2 0) ≤ 0 then
    some 0
  else
    if 0 < (lg_cmp p4 0) then
      (nz_l p2).bind fun _ =>
      (some ((p1 / p2))).bind fun e_18 =>
      (nz_l p4).bind fun _ =>
      (some ((p3 / p4))).bind fun e_25 =>
      if (lg_cmp e_18 e_25) = 0 then
        (nz_l p2).bind fun _ =>
        (nz_l p4).bind fun _ =>
        if (lg_cmp ((p1 - p1 / p2 * p2) * p4) ((p3 - p3 / p4 * p4) * p2)) ≤ 0 then
          some 0
        else
          some 1
      else
        if (lg_cmp e_18 e_25) ≤ 0 then
          some 0
        else
          some 1
    else
      some 0
abbrev rm_X0_isAbove : Room := { frames := 0, cells := 0, slots := 0, locals := 0 }
set_option maxHeartbeats 4000000 in
set_option maxRecDepth 100000 in
theorem c_X0_isAbove (l : Launch) (D : va_G) (cI cJ cZ cS : ClassId) (ad : Nat → Nat) (p1 : Int64) (p2 : Int64) (p3 : Int64) (p4 : Int64) (F : Nat)  (r : Int32) (hs : s_X0_isAbove F p1 p2 p3 p4 = some r) : Met l yX0_isAbove wsX0_isAbove rm_X0_isAbove (gl_P D cI cJ cZ cS ad [.long p1, .long p2, .long p3, .long p4] (fun _ => True)) (vp_Si (fun v => v = r)) 0 0 (fun _ => False) := by
  refine Met.ofW (cc := cX0_isAbove) (maxL := 12) (ret := (some .boolean)) (by decide) rfl ?_
  intro p e s m args below meth c s₁ B hml hv
  obtain ⟨rfl, hK, hE, hP⟩ := hv
  have hx := B.exec
  have hb := B.bytes
  have hr := B.returns
  have hts := atoms_spec (ws := wsX0_isAbove) B.pre
  have hown : s.vm.findClass RX0 = some m.cls := findClass_of_methodNamed B.named
  have hlocks := B.notSynchronized
  have hl := lv_entry ([.long p1, .long p2, .long p3, .long p4]) (n := 12) (Nat.le_of_ble_eq_true rfl)
  rw [lg_entry_eq]
  generalize (lg_sl ([.long p1, .long p2, .long p3, .long p4]) ++ List.replicate (12 - (lg_sl ([.long p1, .long p2, .long p3, .long p4])).length) Slot.unset).toArray = ls at hl ⊢
  have hl : lv_has ls 12 [(0, .long p1), (2, .long p2), (4, .long p3), (6, .long p4)] := hl
  rw [s_X0_isAbove] at hs
  refine lv_lload_n hx hb dX0_isAbove_0 rfl (lv_at hl 1 rfl) ?_
  refine lv_lconst (v := 0) hx hb dX0_isAbove_1 (by decide) ?_
  refine W.lcmp hx hb dX0_isAbove_2 ?_
  refine lv_if_le (tgt := 13) hx hb dX0_isAbove_3 (by decide) (fun c_3 => ?_) (fun c_3 => ?_)
  · replace hs := it_t c_3 hs
    refine lv_iconst (v := 0) hx hb dX0_isAbove_13 (by decide) ?_
    obtain rfl := Option.some.inj hs
    exact W.zret hx hb hr rfl (fun t ht hW => ⟨_, rfl, rfl, ht⟩) (fun _ h => by cases h) dX0_isAbove_14
  · replace hs := it_f c_3 hs
    refine lv_lload hx hb dX0_isAbove_6 (lv_at hl 3 rfl) ?_
    refine lv_lconst (v := 0) hx hb dX0_isAbove_8 (by decide) ?_
    refine W.lcmp hx hb dX0_isAbove_9 ?_
    refine lv_if_gt (tgt := 15) hx hb dX0_isAbove_10 (by decide) (fun c_10 => ?_) (fun c_10 => ?_)
    · replace hs := it_t c_10 hs
      refine lv_lload_n hx hb dX0_isAbove_15 rfl (lv_at hl 0 rfl) ?_
      refine lv_lload_n hx hb dX0_isAbove_16 rfl (lv_at hl 1 rfl) ?_
      obtain ⟨_, hz_17, hs⟩ := op_bd hs
      refine lv_ldiv hx hb dX0_isAbove_17 (nz_l_ne hz_17) ?_
      obtain ⟨e_18, hv_18, hs⟩ := op_bd hs
      refine gx_nj (Option.some.inj hv_18) ?_
      refine lv_lstore (lv' := [(8, .long e_18), (0, .long p1), (2, .long p2), (4, .long p3), (6, .long p4)]) hx hb dX0_isAbove_18 hl (by decide) rfl (fun ls hl => ?_)
      refine lv_lload hx hb dX0_isAbove_20 (lv_at hl 3 rfl) ?_
      refine lv_lload hx hb dX0_isAbove_22 (lv_at hl 4 rfl) ?_
      obtain ⟨_, hz_24, hs⟩ := op_bd hs
      refine lv_ldiv hx hb dX0_isAbove_24 (nz_l_ne hz_24) ?_
      obtain ⟨e_25, hv_25, hs⟩ := op_bd hs
      refine gx_nj (Option.some.inj hv_25) ?_
      refine lv_lstore (lv' := [(10, .long e_25), (8, .long e_18), (0, .long p1), (2, .long p2), (4, .long p3), (6, .long p4)]) hx hb dX0_isAbove_25 hl (by decide) rfl (fun ls hl => ?_)
      refine lv_lload hx hb dX0_isAbove_27 (lv_at hl 1 rfl) ?_
      refine lv_lload hx hb dX0_isAbove_29 (lv_at hl 0 rfl) ?_
      refine W.lcmp hx hb dX0_isAbove_31 ?_
      refine lv_if_eq (tgt := 49) hx hb dX0_isAbove_32 (by decide) (fun c_32 => ?_) (fun c_32 => ?_)
      · replace hs := it_t c_32 hs
        refine lv_lload_n hx hb dX0_isAbove_49 rfl (lv_at hl 2 rfl) ?_
        refine lv_lload_n hx hb dX0_isAbove_50 rfl (lv_at hl 3 rfl) ?_
        obtain ⟨_, hz_51, hs⟩ := op_bd hs
        refine lv_lrem hx hb dX0_isAbove_51 (nz_l_ne hz_51) ?_
        refine lv_lload hx hb dX0_isAbove_52 (lv_at hl 5 rfl) ?_
        refine lv_lmul hx hb dX0_isAbove_54 ?_
        refine lv_lload hx hb dX0_isAbove_55 (lv_at hl 4 rfl) ?_
        refine lv_lload hx hb dX0_isAbove_57 (lv_at hl 5 rfl) ?_
        obtain ⟨_, hz_59, hs⟩ := op_bd hs
        refine lv_lrem hx hb dX0_isAbove_59 (nz_l_ne hz_59) ?_
        refine lv_lload_n hx hb dX0_isAbove_60 rfl (lv_at hl 3 rfl) ?_
        refine lv_lmul hx hb dX0_isAbove_61 ?_
        refine W.lcmp hx hb dX0_isAbove_62 ?_
        refine lv_if_le (tgt := 70) hx hb dX0_isAbove_63 (by decide) (fun c_63 => ?_) (fun c_63 => ?_)
        · replace hs := it_t c_63 hs
          refine lv_iconst (v := 0) hx hb dX0_isAbove_70 (by decide) ?_
          obtain rfl := Option.some.inj hs
          exact W.zret hx hb hr rfl (fun t ht hW => ⟨_, rfl, rfl, ht⟩) (fun _ h => by cases h) dX0_isAbove_71
        · replace hs := it_f c_63 hs
          refine lv_iconst (v := 1) hx hb dX0_isAbove_66 (by decide) ?_
          refine lv_goto (tgt := 71) hx hb dX0_isAbove_67 (by decide) ?_
          obtain rfl := Option.some.inj hs
          exact W.zret hx hb hr rfl (fun t ht hW => ⟨_, rfl, rfl, ht⟩) (fun _ h => by cases h) dX0_isAbove_71
      · replace hs := it_f c_32 hs
        refine lv_lload hx hb dX0_isAbove_35 (lv_at hl 1 rfl) ?_
        refine lv_lload hx hb dX0_isAbove_37 (lv_at hl 0 rfl) ?_
        refine W.lcmp hx hb dX0_isAbove_39 ?_
        refine lv_if_le (tgt := 47) hx hb dX0_isAbove_40 (by decide) (fun c_40 => ?_) (fun c_40 => ?_)
        · replace hs := it_t c_40 hs
          refine lv_iconst (v := 0) hx hb dX0_isAbove_47 (by decide) ?_
          obtain rfl := Option.some.inj hs
          exact W.zret hx hb hr rfl (fun t ht hW => ⟨_, rfl, rfl, ht⟩) (fun _ h => by cases h) dX0_isAbove_48
        · replace hs := it_f c_40 hs
          refine lv_iconst (v := 1) hx hb dX0_isAbove_43 (by decide) ?_
          refine lv_goto (tgt := 48) hx hb dX0_isAbove_44 (by decide) ?_
          obtain rfl := Option.some.inj hs
          exact W.zret hx hb hr rfl (fun t ht hW => ⟨_, rfl, rfl, ht⟩) (fun _ h => by cases h) dX0_isAbove_48
    · replace hs := it_f c_10 hs
      refine lv_iconst (v := 0) hx hb dX0_isAbove_13 (by decide) ?_
      obtain rfl := Option.some.inj hs
      exact W.zret hx hb hr rfl (fun t ht hW => ⟨_, rfl, rfl, ht⟩) (fun _ h => by cases h) dX0_isAbove_14
def s_X0_greatestDivisor_3 (F : Nat) (p1 : Int64) (p2 : Int64) : Nat → Int64 → Int64 → Int32 → Option Int64
  | 0, _, _, _ => none
  | n + 1, x0, x2, x4 =>
    if 200 ≤ x4 then
      some x0
    else
      if (lg_cmp x2 0) = 0 then
        some x0
      else
        (nz_l x2).bind fun _ =>
        (some ((x0 - x0 / x2 * x2))).bind fun e_20 =>
        (some (x4 + 1)).bind fun e_27 =>
        s_X0_greatestDivisor_3 F p1 p2 n x2 e_20 e_27
def s_X0_greatestDivisor (F : Nat) (p1 : Int64) (p2 : Int64) : Option Int64 :=
  s_X0_greatestDivisor_3 F p1 p2 F p1 p2 0
abbrev rm_X0_greatestDivisor : Room := { frames := 0, cells := 0, slots := 0, locals := 0 }
set_option maxHeartbeats 4000000 in
set_option maxRecDepth 100000 in
theorem c_X0_greatestDivisor (l : Launch) (D : va_G) (cI cJ cZ cS : ClassId) (ad : Nat → Nat) (p1 : Int64) (p2 : Int64) (F : Nat)  (r : Int64) (hs : s_X0_greatestDivisor F p1 p2 = some r) : Met l yX0_greatestDivisor wsX0_greatestDivisor rm_X0_greatestDivisor (gl_P D cI cJ cZ cS ad [.long p1, .long p2] (fun _ => True)) (vp_Sl (fun v => v = r)) 0 0 (fun _ => False) := by
  refine Met.ofW (cc := cX0_greatestDivisor) (maxL := 7) (ret := (some .long)) (by decide) rfl ?_
  intro p e s m args below meth c s₁ B hml hv
  obtain ⟨rfl, hK, hE, hP⟩ := hv
  have hx := B.exec
  have hb := B.bytes
  have hr := B.returns
  have hts := atoms_spec (ws := wsX0_greatestDivisor) B.pre
  have hown : s.vm.findClass RX0 = some m.cls := findClass_of_methodNamed B.named
  have hlocks := B.notSynchronized
  have J_3 : ∀ (n_3 : Nat) (x0 : Int64) (x2 : Int64) (x4 : Int32), s_X0_greatestDivisor_3 F p1 p2 n_3 x0 x2 x4 = some r → ∀ ls : Array Slot, lv_has ls 7 [(0, .long x0), (2, .long x2), (4, .int x4)] → W p l e (headSpec wsX0_greatestDivisor rm_X0_greatestDivisor).room s m ([.long p1, .long p2] : List Value).toArray below meth c s.heap [] 0 0 (MQ below (vp_Sl (fun v => v = r)) ([.long p1, .long p2] : List Value).toArray s 0 0 (fun _ => False)) (F0 m 3 ls []) := by
    intro n_3
    induction n_3 with
    | zero =>
      intro x0 x2 x4 hs
      cases hs
    | succ n_3 ih_3 =>
      intro x0 x2 x4 hs ls hl
      rw [s_X0_greatestDivisor_3] at hs
      refine lv_iload hx hb dX0_greatestDivisor_3 (lv_at hl 2 rfl) ?_
      refine lv_sipush (v := 200) hx hb dX0_greatestDivisor_5 (by decide) ?_
      refine lv_icmp_ge (tgt := 33) hx hb dX0_greatestDivisor_8 (by decide) (fun c_8 => ?_) (fun c_8 => ?_)
      · replace hs := it_t c_8 hs
        refine lv_lload_n hx hb dX0_greatestDivisor_33 rfl (lv_at hl 0 rfl) ?_
        obtain rfl := Option.some.inj hs
        exact W.lret hx hb hr (fun t ht hW => ⟨_, rfl, rfl, ht⟩) (fun _ h => by cases h) dX0_greatestDivisor_34
      · replace hs := it_f c_8 hs
        refine lv_lload_n hx hb dX0_greatestDivisor_11 rfl (lv_at hl 1 rfl) ?_
        refine lv_lconst (v := 0) hx hb dX0_greatestDivisor_12 (by decide) ?_
        refine W.lcmp hx hb dX0_greatestDivisor_13 ?_
        refine lv_if_eq (tgt := 33) hx hb dX0_greatestDivisor_14 (by decide) (fun c_14 => ?_) (fun c_14 => ?_)
        · replace hs := it_t c_14 hs
          refine lv_lload_n hx hb dX0_greatestDivisor_33 rfl (lv_at hl 0 rfl) ?_
          obtain rfl := Option.some.inj hs
          exact W.lret hx hb hr (fun t ht hW => ⟨_, rfl, rfl, ht⟩) (fun _ h => by cases h) dX0_greatestDivisor_34
        · replace hs := it_f c_14 hs
          refine lv_lload_n hx hb dX0_greatestDivisor_17 rfl (lv_at hl 0 rfl) ?_
          refine lv_lload_n hx hb dX0_greatestDivisor_18 rfl (lv_at hl 1 rfl) ?_
          obtain ⟨_, hz_19, hs⟩ := op_bd hs
          refine lv_lrem hx hb dX0_greatestDivisor_19 (nz_l_ne hz_19) ?_
          obtain ⟨e_20, hv_20, hs⟩ := op_bd hs
          refine gx_nj (Option.some.inj hv_20) ?_
          refine lv_lstore (lv' := [(5, .long e_20), (0, .long x0), (2, .long x2), (4, .int x4)]) hx hb dX0_greatestDivisor_20 hl (by decide) rfl (fun ls hl => ?_)
          refine lv_lload_n hx hb dX0_greatestDivisor_22 rfl (lv_at hl 2 rfl) ?_
          refine lv_lstore_n (lv' := [(0, .long x2), (5, .long e_20), (2, .long x2), (4, .int x4)]) hx hb dX0_greatestDivisor_23 rfl hl (by decide) rfl (fun ls hl => ?_)
          refine lv_lload hx hb dX0_greatestDivisor_24 (lv_at hl 1 rfl) ?_
          refine lv_lstore_n (lv' := [(2, .long e_20), (0, .long x2), (5, .long e_20), (4, .int x4)]) hx hb dX0_greatestDivisor_26 rfl hl (by decide) rfl (fun ls hl => ?_)
          obtain ⟨e_27, hv_27, hs⟩ := op_bd hs
          refine lv_iinc (v := e_27) (lv' := [(4, .int e_27), (2, .long e_20), (0, .long x2), (5, .long e_20)]) hx hb dX0_greatestDivisor_27 hl (k := 3) rfl (Option.some.inj hv_27) (by decide) rfl (fun ls hl => ?_)
          refine lv_goto (tgt := 3) hx hb dX0_greatestDivisor_30 (by decide) ?_
          exact ih_3 x2 e_20 e_27 hs _ (lv_sub hl [2, 1, 0] rfl)
  have hl := lv_entry ([.long p1, .long p2]) (n := 7) (Nat.le_of_ble_eq_true rfl)
  rw [lg_entry_eq]
  generalize (lg_sl ([.long p1, .long p2]) ++ List.replicate (7 - (lg_sl ([.long p1, .long p2])).length) Slot.unset).toArray = ls at hl ⊢
  have hl : lv_has ls 7 [(0, .long p1), (2, .long p2)] := hl
  rw [s_X0_greatestDivisor] at hs
  refine lv_iconst (v := 0) hx hb dX0_greatestDivisor_0 (by decide) ?_
  refine lv_istore (lv' := [(4, .int 0), (0, .long p1), (2, .long p2)]) hx hb dX0_greatestDivisor_1 hl (by decide) rfl (fun ls hl => ?_)
  exact J_3 F p1 p2 0 hs _ (lv_sub hl [1, 2, 0] rfl)
def s_X3_isPlace (F : Nat) (p1 : Int32) (p2 : Int32) : Option Int32 :=
  if p1 < (-10000) then
    some 0
  else
    if 10000 < p1 then
      some 0
    else
      if p2 < (-10000) then
        some 0
      else
        if 10000 < p2 then
          some 0
        else
          some 1
abbrev rm_X3_isPlace : Room := { frames := 0, cells := 0, slots := 0, locals := 0 }
set_option maxHeartbeats 4000000 in
set_option maxRecDepth 100000 in
theorem c_X3_isPlace (l : Launch) (D : va_G) (cI cJ cZ cS : ClassId) (ad : Nat → Nat) (p1 : Int32) (p2 : Int32) (F : Nat)  (r : Int32) (hs : s_X3_isPlace F p1 p2 = some r) : Met l yX3_isPlace wsX3_isPlace rm_X3_isPlace (gl_P D cI cJ cZ cS ad [.int p1, .int p2] (fun _ => True)) (vp_Si (fun v => v = r)) 0 0 (fun _ => False) := by
  refine Met.ofW (cc := cX3_isPlace) (maxL := 2) (ret := (some .boolean)) (by decide) rfl ?_
  intro p e s m args below meth c s₁ B hml hv
  obtain ⟨rfl, hK, hE, hP⟩ := hv
  have hx := B.exec
  have hb := B.bytes
  have hr := B.returns
  have hts := atoms_spec (ws := wsX3_isPlace) B.pre
  have hown : s.vm.findClass RX3 = some m.cls := findClass_of_methodNamed B.named
  have hlocks := B.notSynchronized
  have hl := lv_entry ([.int p1, .int p2]) (n := 2) (Nat.le_of_ble_eq_true rfl)
  rw [lg_entry_eq]
  generalize (lg_sl ([.int p1, .int p2]) ++ List.replicate (2 - (lg_sl ([.int p1, .int p2])).length) Slot.unset).toArray = ls at hl ⊢
  have hl : lv_has ls 2 [(0, .int p1), (1, .int p2)] := hl
  rw [s_X3_isPlace] at hs
  refine lv_iload_n hx hb dX3_isPlace_0 rfl (lv_at hl 0 rfl) ?_
  refine lv_sipush (v := -10000) hx hb dX3_isPlace_1 (by decide) ?_
  refine lv_icmp_lt (tgt := 32) hx hb dX3_isPlace_4 (by decide) (fun c_4 => ?_) (fun c_4 => ?_)
  · replace hs := it_t c_4 hs
    refine lv_iconst (v := 0) hx hb dX3_isPlace_32 (by decide) ?_
    obtain rfl := Option.some.inj hs
    exact W.zret hx hb hr rfl (fun t ht hW => ⟨_, rfl, rfl, ht⟩) (fun _ h => by cases h) dX3_isPlace_33
  · replace hs := it_f c_4 hs
    refine lv_iload_n hx hb dX3_isPlace_7 rfl (lv_at hl 0 rfl) ?_
    refine lv_sipush (v := 10000) hx hb dX3_isPlace_8 (by decide) ?_
    refine lv_icmp_gt (tgt := 32) hx hb dX3_isPlace_11 (by decide) (fun c_11 => ?_) (fun c_11 => ?_)
    · replace hs := it_t c_11 hs
      refine lv_iconst (v := 0) hx hb dX3_isPlace_32 (by decide) ?_
      obtain rfl := Option.some.inj hs
      exact W.zret hx hb hr rfl (fun t ht hW => ⟨_, rfl, rfl, ht⟩) (fun _ h => by cases h) dX3_isPlace_33
    · replace hs := it_f c_11 hs
      refine lv_iload_n hx hb dX3_isPlace_14 rfl (lv_at hl 1 rfl) ?_
      refine lv_sipush (v := -10000) hx hb dX3_isPlace_15 (by decide) ?_
      refine lv_icmp_lt (tgt := 32) hx hb dX3_isPlace_18 (by decide) (fun c_18 => ?_) (fun c_18 => ?_)
      · replace hs := it_t c_18 hs
        refine lv_iconst (v := 0) hx hb dX3_isPlace_32 (by decide) ?_
        obtain rfl := Option.some.inj hs
        exact W.zret hx hb hr rfl (fun t ht hW => ⟨_, rfl, rfl, ht⟩) (fun _ h => by cases h) dX3_isPlace_33
      · replace hs := it_f c_18 hs
        refine lv_iload_n hx hb dX3_isPlace_21 rfl (lv_at hl 1 rfl) ?_
        refine lv_sipush (v := 10000) hx hb dX3_isPlace_22 (by decide) ?_
        refine lv_icmp_gt (tgt := 32) hx hb dX3_isPlace_25 (by decide) (fun c_25 => ?_) (fun c_25 => ?_)
        · replace hs := it_t c_25 hs
          refine lv_iconst (v := 0) hx hb dX3_isPlace_32 (by decide) ?_
          obtain rfl := Option.some.inj hs
          exact W.zret hx hb hr rfl (fun t ht hW => ⟨_, rfl, rfl, ht⟩) (fun _ h => by cases h) dX3_isPlace_33
        · replace hs := it_f c_25 hs
          refine lv_iconst (v := 1) hx hb dX3_isPlace_28 (by decide) ?_
          refine lv_goto (tgt := 33) hx hb dX3_isPlace_29 (by decide) ?_
          obtain rfl := Option.some.inj hs
          exact W.zret hx hb hr rfl (fun t ht hW => ⟨_, rfl, rfl, ht⟩) (fun _ h => by cases h) dX3_isPlace_33
end
section
def s_X2_boxMeets (F : Nat) (S : sh_T) (p1 : Int32) (p2 : Int32) (p3 : Int32) (p4 : Int32) : Option Int32 :=
  if p3 < (sh_a S) then
    some 0
  else
    if (sh_c S) < p1 then
      some 0
    else
      if p4 < (sh_b S) then
        some 0
      else
        if (sh_d S) < p2 then
          some 0
        else
          some 1
abbrev rm_X2_boxMeets : Room := { frames := 0, cells := 0, slots := 0, locals := 0 }
theorem in_X2_boxMeets_X2 : ∀ w ∈ wsX20, w ∈ wsX2_boxMeets := by decide +kernel
set_option maxHeartbeats 4000000 in
set_option maxRecDepth 100000 in
theorem c_X2_boxMeets (l : Launch) (D : va_G) (cI cJ cZ cS : ClassId) (ad : Nat → Nat) (h0 sx sy : Nat) (S : sh_T) (p1 : Int32) (p2 : Int32) (p3 : Int32) (p4 : Int32) (F : Nat) (hkS : sh_k S < 3) (r : Int32) (hs : s_X2_boxMeets F S p1 p2 p3 p4 = some r) : Met l yX2_boxMeets wsX2_boxMeets rm_X2_boxMeets (gl_P D cI cJ cZ cS ad [.ref h0, .int p1, .int p2, .int p3, .int p4] (fun H => va_P D vwCl (sh_w cI ad h0 sx sy S) H)) (vp_Si (fun v => v = r)) 0 0 (fun _ => False) := by
  refine Met.ofW (cc := cX2_boxMeets) (maxL := 5) (ret := (some .boolean)) (by decide) rfl ?_
  intro p e s m args below meth c s₁ B hml hv
  obtain ⟨rfl, hK, hE, hP⟩ := hv
  have hx := B.exec
  have hb := B.bytes
  have hr := B.returns
  have hts := atoms_spec (ws := wsX2_boxMeets) B.pre
  have hown : s.vm.findClass RX2 = some m.cls := findClass_of_methodNamed B.named
  have hlocks := B.notSynchronized
  have lk_18 := hts (.fieldLink RX2 18 "PlacePoints$Shape" "lowX" "I") (by decide +kernel)
  have lk_21 := hts (.fieldLink RX2 21 "PlacePoints$Shape" "lowY" "I") (by decide +kernel)
  have lk_24 := hts (.fieldLink RX2 24 "PlacePoints$Shape" "highX" "I") (by decide +kernel)
  have lk_27 := hts (.fieldLink RX2 27 "PlacePoints$Shape" "highY" "I") (by decide +kernel)
  have in_X2 := in_X2_boxMeets_X2
  have hl := lv_entry ([.ref h0, .int p1, .int p2, .int p3, .int p4]) (n := 5) (Nat.le_of_ble_eq_true rfl)
  rw [lg_entry_eq]
  generalize (lg_sl ([.ref h0, .int p1, .int p2, .int p3, .int p4]) ++ List.replicate (5 - (lg_sl ([.ref h0, .int p1, .int p2, .int p3, .int p4])).length) Slot.unset).toArray = ls at hl ⊢
  have hl : lv_has ls 5 [(0, .ref h0), (1, .int p1), (2, .int p2), (3, .int p3), (4, .int p4)] := hl
  rw [s_X2_boxMeets] at hs
  refine lv_aload_n hx hb dX2_boxMeets_0 rfl (lv_at hl 0 rfl) ?_
  refine va_get (D := D) (ci := 2) (v := .int (sh_a S)) (C := RX2) (T := TX2) (N := 9) hx hb hts in_X2 hown hK hP 0 rfl rfl 5 (by decide) lk_18 (fun _ h9 => h9) rfl dX2_boxMeets_1 ?_
  refine lv_iload_n hx hb dX2_boxMeets_4 rfl (lv_at hl 3 rfl) ?_
  refine lv_icmp_gt (tgt := 37) hx hb dX2_boxMeets_5 (by decide) (fun c_5 => ?_) (fun c_5 => ?_)
  · replace hs := it_t c_5 hs
    refine lv_iconst (v := 0) hx hb dX2_boxMeets_37 (by decide) ?_
    obtain rfl := Option.some.inj hs
    exact W.zret hx hb hr rfl (fun t ht hW => ⟨_, rfl, rfl, ht⟩) (fun _ h => by cases h) dX2_boxMeets_38
  · replace hs := it_f c_5 hs
    refine lv_aload_n hx hb dX2_boxMeets_8 rfl (lv_at hl 0 rfl) ?_
    refine va_get (D := D) (ci := 2) (v := .int (sh_c S)) (C := RX2) (T := TX2) (N := 9) hx hb hts in_X2 hown hK hP 0 rfl rfl 7 (by decide) lk_24 (fun _ h9 => h9) rfl dX2_boxMeets_9 ?_
    refine lv_iload_n hx hb dX2_boxMeets_12 rfl (lv_at hl 1 rfl) ?_
    refine lv_icmp_lt (tgt := 37) hx hb dX2_boxMeets_13 (by decide) (fun c_13 => ?_) (fun c_13 => ?_)
    · replace hs := it_t c_13 hs
      refine lv_iconst (v := 0) hx hb dX2_boxMeets_37 (by decide) ?_
      obtain rfl := Option.some.inj hs
      exact W.zret hx hb hr rfl (fun t ht hW => ⟨_, rfl, rfl, ht⟩) (fun _ h => by cases h) dX2_boxMeets_38
    · replace hs := it_f c_13 hs
      refine lv_aload_n hx hb dX2_boxMeets_16 rfl (lv_at hl 0 rfl) ?_
      refine va_get (D := D) (ci := 2) (v := .int (sh_b S)) (C := RX2) (T := TX2) (N := 9) hx hb hts in_X2 hown hK hP 0 rfl rfl 6 (by decide) lk_21 (fun _ h9 => h9) rfl dX2_boxMeets_17 ?_
      refine lv_iload hx hb dX2_boxMeets_20 (lv_at hl 4 rfl) ?_
      refine lv_icmp_gt (tgt := 37) hx hb dX2_boxMeets_22 (by decide) (fun c_22 => ?_) (fun c_22 => ?_)
      · replace hs := it_t c_22 hs
        refine lv_iconst (v := 0) hx hb dX2_boxMeets_37 (by decide) ?_
        obtain rfl := Option.some.inj hs
        exact W.zret hx hb hr rfl (fun t ht hW => ⟨_, rfl, rfl, ht⟩) (fun _ h => by cases h) dX2_boxMeets_38
      · replace hs := it_f c_22 hs
        refine lv_aload_n hx hb dX2_boxMeets_25 rfl (lv_at hl 0 rfl) ?_
        refine va_get (D := D) (ci := 2) (v := .int (sh_d S)) (C := RX2) (T := TX2) (N := 9) hx hb hts in_X2 hown hK hP 0 rfl rfl 8 (by decide) lk_27 (fun _ h9 => h9) rfl dX2_boxMeets_26 ?_
        refine lv_iload_n hx hb dX2_boxMeets_29 rfl (lv_at hl 2 rfl) ?_
        refine lv_icmp_lt (tgt := 37) hx hb dX2_boxMeets_30 (by decide) (fun c_30 => ?_) (fun c_30 => ?_)
        · replace hs := it_t c_30 hs
          refine lv_iconst (v := 0) hx hb dX2_boxMeets_37 (by decide) ?_
          obtain rfl := Option.some.inj hs
          exact W.zret hx hb hr rfl (fun t ht hW => ⟨_, rfl, rfl, ht⟩) (fun _ h => by cases h) dX2_boxMeets_38
        · replace hs := it_f c_30 hs
          refine lv_iconst (v := 1) hx hb dX2_boxMeets_33 (by decide) ?_
          refine lv_goto (tgt := 38) hx hb dX2_boxMeets_34 (by decide) ?_
          obtain rfl := Option.some.inj hs
          exact W.zret hx hb hr rfl (fun t ht hW => ⟨_, rfl, rfl, ht⟩) (fun _ h => by cases h) dX2_boxMeets_38
def s_X2_twiceEnclosed_4 (F : Nat) (S : sh_T) : Nat → Int64 → Int32 → Option Int64
  | 0, _, _ => none
  | n + 1, x1, x3 =>
    if (sh_z S) ≤ x3 then
      some x1
    else
      (rd_i (sh_n S) (sh_x S) x3).bind fun v_18 =>
      (rd_i (sh_n S) (sh_y S) (x3 + 1)).bind fun v_27 =>
      (rd_i (sh_n S) (sh_x S) (x3 + 1)).bind fun v_37 =>
      (rd_i (sh_n S) (sh_y S) x3).bind fun v_44 =>
      (some ((x1 + ((v_18.toInt64 * v_27.toInt64) - (v_37.toInt64 * v_44.toInt64))))).bind fun e_49 =>
      (some (x3 + 1)).bind fun e_50 =>
      s_X2_twiceEnclosed_4 F S n e_49 e_50
def s_X2_twiceEnclosed (F : Nat) (S : sh_T) : Option Int64 :=
  s_X2_twiceEnclosed_4 F S F 0 0
abbrev rm_X2_twiceEnclosed : Room := { frames := 0, cells := 0, slots := 0, locals := 0 }
theorem in_X2_twiceEnclosed_X2 : ∀ w ∈ wsX20, w ∈ wsX2_twiceEnclosed := by decide +kernel
set_option maxHeartbeats 4000000 in
set_option maxRecDepth 100000 in
theorem c_X2_twiceEnclosed (l : Launch) (D : va_G) (cI cJ cZ cS : ClassId) (ad : Nat → Nat) (h0 sx sy : Nat) (S : sh_T) (F : Nat) (hkS : sh_k S < 3) (r : Int64) (hs : s_X2_twiceEnclosed F S = some r) : Met l yX2_twiceEnclosed wsX2_twiceEnclosed rm_X2_twiceEnclosed (gl_P D cI cJ cZ cS ad [.ref h0] (fun H => va_P D vwCl (sh_w cI ad h0 sx sy S) H)) (vp_Sl (fun v => v = r)) 0 0 (fun _ => False) := by
  refine Met.ofW (cc := cX2_twiceEnclosed) (maxL := 4) (ret := (some .long)) (by decide) rfl ?_
  intro p e s m args below meth c s₁ B hml hv
  obtain ⟨rfl, hK, hE, hP⟩ := hv
  have hx := B.exec
  have hb := B.bytes
  have hr := B.returns
  have hts := atoms_spec (ws := wsX2_twiceEnclosed) B.pre
  have hown : s.vm.findClass RX2 = some m.cls := findClass_of_methodNamed B.named
  have hlocks := B.notSynchronized
  have lk_9 := hts (.fieldLink RX2 9 "PlacePoints$Shape" "size" "I") (by decide +kernel)
  have lk_39 := hts (.fieldLink RX2 39 "PlacePoints$Shape" "xs" "[I") (by decide +kernel)
  have lk_43 := hts (.fieldLink RX2 43 "PlacePoints$Shape" "ys" "[I") (by decide +kernel)
  have in_X2 := in_X2_twiceEnclosed_X2
  have J_4 : ∀ (n_4 : Nat) (x1 : Int64) (x3 : Int32), s_X2_twiceEnclosed_4 F S n_4 x1 x3 = some r → ∀ ls : Array Slot, lv_has ls 4 [(0, .ref h0), (1, .long x1), (3, .int x3)] → W p l e (headSpec wsX2_twiceEnclosed rm_X2_twiceEnclosed).room s m ([.ref h0] : List Value).toArray below meth c s.heap [] 0 0 (MQ below (vp_Sl (fun v => v = r)) ([.ref h0] : List Value).toArray s 0 0 (fun _ => False)) (F0 m 4 ls []) := by
    intro n_4
    induction n_4 with
    | zero =>
      intro x1 x3 hs
      cases hs
    | succ n_4 ih_4 =>
      intro x1 x3 hs ls hl
      rw [s_X2_twiceEnclosed_4] at hs
      refine lv_iload_n hx hb dX2_twiceEnclosed_4 rfl (lv_at hl 2 rfl) ?_
      refine lv_aload_n hx hb dX2_twiceEnclosed_5 rfl (lv_at hl 0 rfl) ?_
      refine va_get (D := D) (ci := 2) (v := .int (sh_z S)) (C := RX2) (T := TX2) (N := 9) hx hb hts in_X2 hown hK hP 0 rfl rfl 1 (by decide) lk_9 (fun _ h9 => h9) rfl dX2_twiceEnclosed_6 ?_
      refine lv_icmp_ge (tgt := 56) hx hb dX2_twiceEnclosed_9 (by decide) (fun c_9 => ?_) (fun c_9 => ?_)
      · replace hs := it_t c_9 hs
        refine lv_lload_n hx hb dX2_twiceEnclosed_56 rfl (lv_at hl 1 rfl) ?_
        obtain rfl := Option.some.inj hs
        exact W.lret hx hb hr (fun t ht hW => ⟨_, rfl, rfl, ht⟩) (fun _ h => by cases h) dX2_twiceEnclosed_57
      · replace hs := it_f c_9 hs
        refine lv_lload_n hx hb dX2_twiceEnclosed_12 rfl (lv_at hl 1 rfl) ?_
        refine lv_aload_n hx hb dX2_twiceEnclosed_13 rfl (lv_at hl 0 rfl) ?_
        refine va_get (D := D) (ci := 2) (v := .ref sx) (C := RX2) (T := TX2) (N := 9) hx hb hts in_X2 hown hK hP 0 rfl rfl 3 (by decide) lk_39 (fun _ h9 => h9) rfl dX2_twiceEnclosed_14 ?_
        refine lv_iload_n hx hb dX2_twiceEnclosed_17 rfl (lv_at hl 2 rfl) ?_
        obtain ⟨v_18, hv_18, hs⟩ := op_bd hs
        refine gx_iald hx hb hK hP 1 0 rfl rfl hv_18 dX2_twiceEnclosed_18 ?_
        refine lv_i2l hx hb dX2_twiceEnclosed_19 rfl ?_
        refine lv_aload_n hx hb dX2_twiceEnclosed_20 rfl (lv_at hl 0 rfl) ?_
        refine va_get (D := D) (ci := 2) (v := .ref sy) (C := RX2) (T := TX2) (N := 9) hx hb hts in_X2 hown hK hP 0 rfl rfl 4 (by decide) lk_43 (fun _ h9 => h9) rfl dX2_twiceEnclosed_21 ?_
        refine lv_iload_n hx hb dX2_twiceEnclosed_24 rfl (lv_at hl 2 rfl) ?_
        refine lv_iconst (v := 1) hx hb dX2_twiceEnclosed_25 (by decide) ?_
        refine lv_iadd hx hb dX2_twiceEnclosed_26 ?_
        obtain ⟨v_27, hv_27, hs⟩ := op_bd hs
        refine gx_iald hx hb hK hP 2 0 rfl rfl hv_27 dX2_twiceEnclosed_27 ?_
        refine lv_i2l hx hb dX2_twiceEnclosed_28 rfl ?_
        refine lv_lmul hx hb dX2_twiceEnclosed_29 ?_
        refine lv_aload_n hx hb dX2_twiceEnclosed_30 rfl (lv_at hl 0 rfl) ?_
        refine va_get (D := D) (ci := 2) (v := .ref sx) (C := RX2) (T := TX2) (N := 9) hx hb hts in_X2 hown hK hP 0 rfl rfl 3 (by decide) lk_39 (fun _ h9 => h9) rfl dX2_twiceEnclosed_31 ?_
        refine lv_iload_n hx hb dX2_twiceEnclosed_34 rfl (lv_at hl 2 rfl) ?_
        refine lv_iconst (v := 1) hx hb dX2_twiceEnclosed_35 (by decide) ?_
        refine lv_iadd hx hb dX2_twiceEnclosed_36 ?_
        obtain ⟨v_37, hv_37, hs⟩ := op_bd hs
        refine gx_iald hx hb hK hP 1 0 rfl rfl hv_37 dX2_twiceEnclosed_37 ?_
        refine lv_i2l hx hb dX2_twiceEnclosed_38 rfl ?_
        refine lv_aload_n hx hb dX2_twiceEnclosed_39 rfl (lv_at hl 0 rfl) ?_
        refine va_get (D := D) (ci := 2) (v := .ref sy) (C := RX2) (T := TX2) (N := 9) hx hb hts in_X2 hown hK hP 0 rfl rfl 4 (by decide) lk_43 (fun _ h9 => h9) rfl dX2_twiceEnclosed_40 ?_
        refine lv_iload_n hx hb dX2_twiceEnclosed_43 rfl (lv_at hl 2 rfl) ?_
        obtain ⟨v_44, hv_44, hs⟩ := op_bd hs
        refine gx_iald hx hb hK hP 2 0 rfl rfl hv_44 dX2_twiceEnclosed_44 ?_
        refine lv_i2l hx hb dX2_twiceEnclosed_45 rfl ?_
        refine lv_lmul hx hb dX2_twiceEnclosed_46 ?_
        refine lv_lsub hx hb dX2_twiceEnclosed_47 ?_
        refine lv_ladd hx hb dX2_twiceEnclosed_48 ?_
        obtain ⟨e_49, hv_49, hs⟩ := op_bd hs
        refine gx_nj (Option.some.inj hv_49) ?_
        refine lv_lstore_n (lv' := [(1, .long e_49), (0, .ref h0), (3, .int x3)]) hx hb dX2_twiceEnclosed_49 rfl hl (by decide) rfl (fun ls hl => ?_)
        obtain ⟨e_50, hv_50, hs⟩ := op_bd hs
        refine lv_iinc (v := e_50) (lv' := [(3, .int e_50), (1, .long e_49), (0, .ref h0)]) hx hb dX2_twiceEnclosed_50 hl (k := 2) rfl (Option.some.inj hv_50) (by decide) rfl (fun ls hl => ?_)
        refine lv_goto (tgt := 4) hx hb dX2_twiceEnclosed_53 (by decide) ?_
        exact ih_4 e_49 e_50 hs _ (lv_sub hl [2, 1, 0] rfl)
  have hl := lv_entry ([.ref h0]) (n := 4) (Nat.le_of_ble_eq_true rfl)
  rw [lg_entry_eq]
  generalize (lg_sl ([.ref h0]) ++ List.replicate (4 - (lg_sl ([.ref h0])).length) Slot.unset).toArray = ls at hl ⊢
  have hl : lv_has ls 4 [(0, .ref h0)] := hl
  rw [s_X2_twiceEnclosed] at hs
  refine lv_lconst (v := 0) hx hb dX2_twiceEnclosed_0 (by decide) ?_
  refine lv_lstore_n (lv' := [(1, .long 0), (0, .ref h0)]) hx hb dX2_twiceEnclosed_1 rfl hl (by decide) rfl (fun ls hl => ?_)
  refine lv_iconst (v := 0) hx hb dX2_twiceEnclosed_2 (by decide) ?_
  refine lv_istore_n (lv' := [(3, .int 0), (1, .long 0), (0, .ref h0)]) hx hb dX2_twiceEnclosed_3 rfl hl (by decide) rfl (fun ls hl => ?_)
  exact J_4 F 0 0 hs _ (lv_sub hl [2, 1, 0] rfl)
def s_X2_foldsBack (F : Nat) (S : sh_T) (p1 : Int32) (p2 : Int32) : Option Int32 :=
  (rd_i (sh_n S) (sh_x S) p1).bind fun v_5 =>
  (rd_i (sh_n S) (sh_x S) p2).bind fun v_11 =>
  (some (((v_5 - v_11)).toInt64)).bind fun e_14 =>
  (rd_i (sh_n S) (sh_y S) p1).bind fun v_20 =>
  (rd_i (sh_n S) (sh_y S) p2).bind fun v_26 =>
  (some (((v_20 - v_26)).toInt64)).bind fun e_29 =>
  (rd_i (sh_n S) (sh_x S) (p2 + 1)).bind fun v_38 =>
  (rd_i (sh_n S) (sh_x S) p2).bind fun v_44 =>
  (some (((v_38 - v_44)).toInt64)).bind fun e_47 =>
  (rd_i (sh_n S) (sh_y S) (p2 + 1)).bind fun v_56 =>
  (rd_i (sh_n S) (sh_y S) p2).bind fun v_62 =>
  (some (((v_56 - v_62)).toInt64)).bind fun e_65 =>
  if (lg_cmp (e_14 * e_65) (e_29 * e_47)) = 0 then
    if (lg_cmp ((e_14 * e_47) + (e_29 * e_65)) 0) ≤ 0 then
      some 0
    else
      some 1
  else
    some 0
abbrev rm_X2_foldsBack : Room := { frames := 0, cells := 0, slots := 0, locals := 0 }
theorem in_X2_foldsBack_X2 : ∀ w ∈ wsX20, w ∈ wsX2_foldsBack := by decide +kernel
set_option maxHeartbeats 4000000 in
set_option maxRecDepth 100000 in
theorem c_X2_foldsBack (l : Launch) (D : va_G) (cI cJ cZ cS : ClassId) (ad : Nat → Nat) (h0 sx sy : Nat) (S : sh_T) (p1 : Int32) (p2 : Int32) (F : Nat) (hkS : sh_k S < 3) (r : Int32) (hs : s_X2_foldsBack F S p1 p2 = some r) : Met l yX2_foldsBack wsX2_foldsBack rm_X2_foldsBack (gl_P D cI cJ cZ cS ad [.ref h0, .int p1, .int p2] (fun H => va_P D vwCl (sh_w cI ad h0 sx sy S) H)) (vp_Si (fun v => v = r)) 0 0 (fun _ => False) := by
  refine Met.ofW (cc := cX2_foldsBack) (maxL := 11) (ret := (some .boolean)) (by decide) rfl ?_
  intro p e s m args below meth c s₁ B hml hv
  obtain ⟨rfl, hK, hE, hP⟩ := hv
  have hx := B.exec
  have hb := B.bytes
  have hr := B.returns
  have hts := atoms_spec (ws := wsX2_foldsBack) B.pre
  have hown : s.vm.findClass RX2 = some m.cls := findClass_of_methodNamed B.named
  have hlocks := B.notSynchronized
  have lk_39 := hts (.fieldLink RX2 39 "PlacePoints$Shape" "xs" "[I") (by decide +kernel)
  have lk_43 := hts (.fieldLink RX2 43 "PlacePoints$Shape" "ys" "[I") (by decide +kernel)
  have in_X2 := in_X2_foldsBack_X2
  have hl := lv_entry ([.ref h0, .int p1, .int p2]) (n := 11) (Nat.le_of_ble_eq_true rfl)
  rw [lg_entry_eq]
  generalize (lg_sl ([.ref h0, .int p1, .int p2]) ++ List.replicate (11 - (lg_sl ([.ref h0, .int p1, .int p2])).length) Slot.unset).toArray = ls at hl ⊢
  have hl : lv_has ls 11 [(0, .ref h0), (1, .int p1), (2, .int p2)] := hl
  rw [s_X2_foldsBack] at hs
  refine lv_aload_n hx hb dX2_foldsBack_0 rfl (lv_at hl 0 rfl) ?_
  refine va_get (D := D) (ci := 2) (v := .ref sx) (C := RX2) (T := TX2) (N := 9) hx hb hts in_X2 hown hK hP 0 rfl rfl 3 (by decide) lk_39 (fun _ h9 => h9) rfl dX2_foldsBack_1 ?_
  refine lv_iload_n hx hb dX2_foldsBack_4 rfl (lv_at hl 1 rfl) ?_
  obtain ⟨v_5, hv_5, hs⟩ := op_bd hs
  refine gx_iald hx hb hK hP 1 0 rfl rfl hv_5 dX2_foldsBack_5 ?_
  refine lv_aload_n hx hb dX2_foldsBack_6 rfl (lv_at hl 0 rfl) ?_
  refine va_get (D := D) (ci := 2) (v := .ref sx) (C := RX2) (T := TX2) (N := 9) hx hb hts in_X2 hown hK hP 0 rfl rfl 3 (by decide) lk_39 (fun _ h9 => h9) rfl dX2_foldsBack_7 ?_
  refine lv_iload_n hx hb dX2_foldsBack_10 rfl (lv_at hl 2 rfl) ?_
  obtain ⟨v_11, hv_11, hs⟩ := op_bd hs
  refine gx_iald hx hb hK hP 1 0 rfl rfl hv_11 dX2_foldsBack_11 ?_
  refine lv_isub hx hb dX2_foldsBack_12 ?_
  refine lv_i2l hx hb dX2_foldsBack_13 rfl ?_
  obtain ⟨e_14, hv_14, hs⟩ := op_bd hs
  refine gx_nj (Option.some.inj hv_14) ?_
  refine lv_lstore_n (lv' := [(3, .long e_14), (0, .ref h0), (1, .int p1), (2, .int p2)]) hx hb dX2_foldsBack_14 rfl hl (by decide) rfl (fun ls hl => ?_)
  refine lv_aload_n hx hb dX2_foldsBack_15 rfl (lv_at hl 1 rfl) ?_
  refine va_get (D := D) (ci := 2) (v := .ref sy) (C := RX2) (T := TX2) (N := 9) hx hb hts in_X2 hown hK hP 0 rfl rfl 4 (by decide) lk_43 (fun _ h9 => h9) rfl dX2_foldsBack_16 ?_
  refine lv_iload_n hx hb dX2_foldsBack_19 rfl (lv_at hl 2 rfl) ?_
  obtain ⟨v_20, hv_20, hs⟩ := op_bd hs
  refine gx_iald hx hb hK hP 2 0 rfl rfl hv_20 dX2_foldsBack_20 ?_
  refine lv_aload_n hx hb dX2_foldsBack_21 rfl (lv_at hl 1 rfl) ?_
  refine va_get (D := D) (ci := 2) (v := .ref sy) (C := RX2) (T := TX2) (N := 9) hx hb hts in_X2 hown hK hP 0 rfl rfl 4 (by decide) lk_43 (fun _ h9 => h9) rfl dX2_foldsBack_22 ?_
  refine lv_iload_n hx hb dX2_foldsBack_25 rfl (lv_at hl 3 rfl) ?_
  obtain ⟨v_26, hv_26, hs⟩ := op_bd hs
  refine gx_iald hx hb hK hP 2 0 rfl rfl hv_26 dX2_foldsBack_26 ?_
  refine lv_isub hx hb dX2_foldsBack_27 ?_
  refine lv_i2l hx hb dX2_foldsBack_28 rfl ?_
  obtain ⟨e_29, hv_29, hs⟩ := op_bd hs
  refine gx_nj (Option.some.inj hv_29) ?_
  refine lv_lstore (lv' := [(5, .long e_29), (3, .long e_14), (0, .ref h0), (1, .int p1), (2, .int p2)]) hx hb dX2_foldsBack_29 hl (by decide) rfl (fun ls hl => ?_)
  refine lv_aload_n hx hb dX2_foldsBack_31 rfl (lv_at hl 2 rfl) ?_
  refine va_get (D := D) (ci := 2) (v := .ref sx) (C := RX2) (T := TX2) (N := 9) hx hb hts in_X2 hown hK hP 0 rfl rfl 3 (by decide) lk_39 (fun _ h9 => h9) rfl dX2_foldsBack_32 ?_
  refine lv_iload_n hx hb dX2_foldsBack_35 rfl (lv_at hl 4 rfl) ?_
  refine lv_iconst (v := 1) hx hb dX2_foldsBack_36 (by decide) ?_
  refine lv_iadd hx hb dX2_foldsBack_37 ?_
  obtain ⟨v_38, hv_38, hs⟩ := op_bd hs
  refine gx_iald hx hb hK hP 1 0 rfl rfl hv_38 dX2_foldsBack_38 ?_
  refine lv_aload_n hx hb dX2_foldsBack_39 rfl (lv_at hl 2 rfl) ?_
  refine va_get (D := D) (ci := 2) (v := .ref sx) (C := RX2) (T := TX2) (N := 9) hx hb hts in_X2 hown hK hP 0 rfl rfl 3 (by decide) lk_39 (fun _ h9 => h9) rfl dX2_foldsBack_40 ?_
  refine lv_iload_n hx hb dX2_foldsBack_43 rfl (lv_at hl 4 rfl) ?_
  obtain ⟨v_44, hv_44, hs⟩ := op_bd hs
  refine gx_iald hx hb hK hP 1 0 rfl rfl hv_44 dX2_foldsBack_44 ?_
  refine lv_isub hx hb dX2_foldsBack_45 ?_
  refine lv_i2l hx hb dX2_foldsBack_46 rfl ?_
  obtain ⟨e_47, hv_47, hs⟩ := op_bd hs
  refine gx_nj (Option.some.inj hv_47) ?_
  refine lv_lstore (lv' := [(7, .long e_47), (5, .long e_29), (3, .long e_14), (0, .ref h0), (1, .int p1), (2, .int p2)]) hx hb dX2_foldsBack_47 hl (by decide) rfl (fun ls hl => ?_)
  refine lv_aload_n hx hb dX2_foldsBack_49 rfl (lv_at hl 3 rfl) ?_
  refine va_get (D := D) (ci := 2) (v := .ref sy) (C := RX2) (T := TX2) (N := 9) hx hb hts in_X2 hown hK hP 0 rfl rfl 4 (by decide) lk_43 (fun _ h9 => h9) rfl dX2_foldsBack_50 ?_
  refine lv_iload_n hx hb dX2_foldsBack_53 rfl (lv_at hl 5 rfl) ?_
  refine lv_iconst (v := 1) hx hb dX2_foldsBack_54 (by decide) ?_
  refine lv_iadd hx hb dX2_foldsBack_55 ?_
  obtain ⟨v_56, hv_56, hs⟩ := op_bd hs
  refine gx_iald hx hb hK hP 2 0 rfl rfl hv_56 dX2_foldsBack_56 ?_
  refine lv_aload_n hx hb dX2_foldsBack_57 rfl (lv_at hl 3 rfl) ?_
  refine va_get (D := D) (ci := 2) (v := .ref sy) (C := RX2) (T := TX2) (N := 9) hx hb hts in_X2 hown hK hP 0 rfl rfl 4 (by decide) lk_43 (fun _ h9 => h9) rfl dX2_foldsBack_58 ?_
  refine lv_iload_n hx hb dX2_foldsBack_61 rfl (lv_at hl 5 rfl) ?_
  obtain ⟨v_62, hv_62, hs⟩ := op_bd hs
  refine gx_iald hx hb hK hP 2 0 rfl rfl hv_62 dX2_foldsBack_62 ?_
  refine lv_isub hx hb dX2_foldsBack_63 ?_
  refine lv_i2l hx hb dX2_foldsBack_64 rfl ?_
  obtain ⟨e_65, hv_65, hs⟩ := op_bd hs
  refine gx_nj (Option.some.inj hv_65) ?_
  refine lv_lstore (lv' := [(9, .long e_65), (7, .long e_47), (5, .long e_29), (3, .long e_14), (0, .ref h0), (1, .int p1), (2, .int p2)]) hx hb dX2_foldsBack_65 hl (by decide) rfl (fun ls hl => ?_)
  refine lv_lload_n hx hb dX2_foldsBack_67 rfl (lv_at hl 3 rfl) ?_
  refine lv_lload hx hb dX2_foldsBack_68 (lv_at hl 0 rfl) ?_
  refine lv_lmul hx hb dX2_foldsBack_70 ?_
  refine lv_lload hx hb dX2_foldsBack_71 (lv_at hl 2 rfl) ?_
  refine lv_lload hx hb dX2_foldsBack_73 (lv_at hl 1 rfl) ?_
  refine lv_lmul hx hb dX2_foldsBack_75 ?_
  refine W.lcmp hx hb dX2_foldsBack_76 ?_
  refine lv_if_ne (tgt := 99) hx hb dX2_foldsBack_77 (by decide) (fun c_77 => ?_) (fun c_77 => ?_)
  · replace hs := it_f c_77 hs
    refine lv_iconst (v := 0) hx hb dX2_foldsBack_99 (by decide) ?_
    obtain rfl := Option.some.inj hs
    exact W.zret hx hb hr rfl (fun t ht hW => ⟨_, rfl, rfl, ht⟩) (fun _ h => by cases h) dX2_foldsBack_100
  · replace hs := it_t c_77 hs
    refine lv_lload_n hx hb dX2_foldsBack_80 rfl (lv_at hl 3 rfl) ?_
    refine lv_lload hx hb dX2_foldsBack_81 (lv_at hl 1 rfl) ?_
    refine lv_lmul hx hb dX2_foldsBack_83 ?_
    refine lv_lload hx hb dX2_foldsBack_84 (lv_at hl 2 rfl) ?_
    refine lv_lload hx hb dX2_foldsBack_86 (lv_at hl 0 rfl) ?_
    refine lv_lmul hx hb dX2_foldsBack_88 ?_
    refine lv_ladd hx hb dX2_foldsBack_89 ?_
    refine lv_lconst (v := 0) hx hb dX2_foldsBack_90 (by decide) ?_
    refine W.lcmp hx hb dX2_foldsBack_91 ?_
    refine lv_if_le (tgt := 99) hx hb dX2_foldsBack_92 (by decide) (fun c_92 => ?_) (fun c_92 => ?_)
    · replace hs := it_t c_92 hs
      refine lv_iconst (v := 0) hx hb dX2_foldsBack_99 (by decide) ?_
      obtain rfl := Option.some.inj hs
      exact W.zret hx hb hr rfl (fun t ht hW => ⟨_, rfl, rfl, ht⟩) (fun _ h => by cases h) dX2_foldsBack_100
    · replace hs := it_f c_92 hs
      refine lv_iconst (v := 1) hx hb dX2_foldsBack_95 (by decide) ?_
      refine lv_goto (tgt := 100) hx hb dX2_foldsBack_96 (by decide) ?_
      obtain rfl := Option.some.inj hs
      exact W.zret hx hb hr rfl (fun t ht hW => ⟨_, rfl, rfl, ht⟩) (fun _ h => by cases h) dX2_foldsBack_100
def s_X2_sideTouches (F : Nat) (S : sh_T) (p1 : Int32) (T : sh_T) (p3 : Int32) : Option Int32 :=
  (rd_i (sh_n S) (sh_x S) p1).bind fun v_17 =>
  (rd_i (sh_n S) (sh_x S) (p1 + 1)).bind fun v_25 =>
  (rd_i (sh_n T) (sh_x T) p3).bind fun v_29 =>
  (rd_i (sh_n T) (sh_x T) (p3 + 1)).bind fun v_35 =>
  (s_X2_overlap F v_17 v_25 v_29 v_35).bind fun v_36 =>
  if v_36 = 0 then
    some 0
  else
    (rd_i (sh_n S) (sh_y S) p1).bind fun v_47 =>
    (rd_i (sh_n S) (sh_y S) (p1 + 1)).bind fun v_55 =>
    (rd_i (sh_n T) (sh_y T) p3).bind fun v_59 =>
    (rd_i (sh_n T) (sh_y T) (p3 + 1)).bind fun v_65 =>
    (s_X2_overlap F v_47 v_55 v_59 v_65).bind fun v_66 =>
    if v_66 = 0 then
      some 0
    else
      (rd_i (sh_n T) (sh_x T) p3).bind fun v_77 =>
      (rd_i (sh_n T) (sh_y T) p3).bind fun v_81 =>
      (s_X2_turn F S p1 v_77 v_81).bind fun v_82 =>
      (rd_i (sh_n T) (sh_x T) (p3 + 1)).bind fun v_92 =>
      (rd_i (sh_n T) (sh_y T) (p3 + 1)).bind fun v_98 =>
      (s_X2_turn F S p1 v_92 v_98).bind fun v_99 =>
      if 0 < (lg_cmp (v_82 * v_99) 0) then
        some 0
      else
        (rd_i (sh_n S) (sh_x S) p1).bind fun v_115 =>
        (rd_i (sh_n S) (sh_y S) p1).bind fun v_121 =>
        (s_X2_turn F T p3 v_115 v_121).bind fun v_122 =>
        (rd_i (sh_n S) (sh_x S) (p1 + 1)).bind fun v_134 =>
        (rd_i (sh_n S) (sh_y S) (p1 + 1)).bind fun v_142 =>
        (s_X2_turn F T p3 v_134 v_142).bind fun v_143 =>
        if 0 < (lg_cmp (v_122 * v_143) 0) then
          some 0
        else
          some 1
abbrev rm_X2_sideTouches : Room := { frames := 2, cells := 0, slots := 0, locals := 44 }
theorem in_X2_sideTouches_X2 : ∀ w ∈ wsX20, w ∈ wsX2_sideTouches := by decide +kernel
set_option maxHeartbeats 4000000 in
set_option maxRecDepth 100000 in
theorem c_X2_sideTouches (l : Launch) (D : va_G) (cI cJ cZ cS : ClassId) (ad : Nat → Nat) (h0 sx sy k0 kx ky : Nat) (S : sh_T) (p1 : Int32) (T : sh_T) (p3 : Int32) (F : Nat) (hkS : sh_k S < 3) (hkT : sh_k T < 3) (r : Int32) (hs : s_X2_sideTouches F S p1 T p3 = some r) : Met l yX2_sideTouches wsX2_sideTouches rm_X2_sideTouches (gl_P D cI cJ cZ cS ad [.ref h0, .int p1, .ref k0, .int p3] (fun H => va_P D vwCl (sh_w cI ad h0 sx sy S ++ sh_w cI ad k0 kx ky T) H)) (vp_Si (fun v => v = r)) 0 0 (fun _ => False) := by
  refine Met.ofW (cc := cX2_sideTouches) (maxL := 6) (ret := (some .boolean)) (by decide) rfl ?_
  intro p e s m args below meth c s₁ B hml hv
  obtain ⟨rfl, hK, hE, hP⟩ := hv
  have hx := B.exec
  have hb := B.bytes
  have hr := B.returns
  have hts := atoms_spec (ws := wsX2_sideTouches) B.pre
  have hown : s.vm.findClass RX2 = some m.cls := findClass_of_methodNamed B.named
  have hlocks := B.notSynchronized
  have lk_39 := hts (.fieldLink RX2 39 "PlacePoints$Shape" "xs" "[I") (by decide +kernel)
  have lk_43 := hts (.fieldLink RX2 43 "PlacePoints$Shape" "ys" "[I") (by decide +kernel)
  have in_X2 := in_X2_sideTouches_X2
  have hl := lv_entry ([.ref h0, .int p1, .ref k0, .int p3]) (n := 6) (Nat.le_of_ble_eq_true rfl)
  rw [lg_entry_eq]
  generalize (lg_sl ([.ref h0, .int p1, .ref k0, .int p3]) ++ List.replicate (6 - (lg_sl ([.ref h0, .int p1, .ref k0, .int p3])).length) Slot.unset).toArray = ls at hl ⊢
  have hl : lv_has ls 6 [(0, .ref h0), (1, .int p1), (2, .ref k0), (3, .int p3)] := hl
  rw [s_X2_sideTouches] at hs
  refine lv_aload_n hx hb dX2_sideTouches_0 rfl (lv_at hl 2 rfl) ?_
  refine va_get (D := D) (ci := 2) (v := .ref kx) (C := RX2) (T := TX2) (N := 9) hx hb hts in_X2 hown hK hP 3 rfl rfl 3 (by decide) lk_39 (fun _ h9 => h9) rfl dX2_sideTouches_1 ?_
  refine lv_astore (lv' := [(4, .ref kx), (0, .ref h0), (1, .int p1), (2, .ref k0), (3, .int p3)]) hx hb dX2_sideTouches_4 hl (by decide) rfl (fun ls hl => ?_)
  refine lv_aload_n hx hb dX2_sideTouches_6 rfl (lv_at hl 3 rfl) ?_
  refine va_get (D := D) (ci := 2) (v := .ref ky) (C := RX2) (T := TX2) (N := 9) hx hb hts in_X2 hown hK hP 3 rfl rfl 4 (by decide) lk_43 (fun _ h9 => h9) rfl dX2_sideTouches_7 ?_
  refine lv_astore (lv' := [(5, .ref ky), (4, .ref kx), (0, .ref h0), (1, .int p1), (2, .ref k0), (3, .int p3)]) hx hb dX2_sideTouches_10 hl (by decide) rfl (fun ls hl => ?_)
  refine lv_aload_n hx hb dX2_sideTouches_12 rfl (lv_at hl 2 rfl) ?_
  refine va_get (D := D) (ci := 2) (v := .ref sx) (C := RX2) (T := TX2) (N := 9) hx hb hts in_X2 hown hK hP 0 rfl rfl 3 (by decide) lk_39 (fun _ h9 => h9) rfl dX2_sideTouches_13 ?_
  refine lv_iload_n hx hb dX2_sideTouches_16 rfl (lv_at hl 3 rfl) ?_
  obtain ⟨v_17, hv_17, hs⟩ := op_bd hs
  refine gx_iald hx hb hK hP 1 0 rfl rfl hv_17 dX2_sideTouches_17 ?_
  refine lv_aload_n hx hb dX2_sideTouches_18 rfl (lv_at hl 2 rfl) ?_
  refine va_get (D := D) (ci := 2) (v := .ref sx) (C := RX2) (T := TX2) (N := 9) hx hb hts in_X2 hown hK hP 0 rfl rfl 3 (by decide) lk_39 (fun _ h9 => h9) rfl dX2_sideTouches_19 ?_
  refine lv_iload_n hx hb dX2_sideTouches_22 rfl (lv_at hl 3 rfl) ?_
  refine lv_iconst (v := 1) hx hb dX2_sideTouches_23 (by decide) ?_
  refine lv_iadd hx hb dX2_sideTouches_24 ?_
  obtain ⟨v_25, hv_25, hs⟩ := op_bd hs
  refine gx_iald hx hb hK hP 1 0 rfl rfl hv_25 dX2_sideTouches_25 ?_
  refine lv_aload hx hb dX2_sideTouches_26 (lv_at hl 1 rfl) ?_
  refine lv_iload_n hx hb dX2_sideTouches_28 rfl (lv_at hl 5 rfl) ?_
  obtain ⟨v_29, hv_29, hs⟩ := op_bd hs
  refine gx_iald hx hb hK hP 4 0 rfl rfl hv_29 dX2_sideTouches_29 ?_
  refine lv_aload hx hb dX2_sideTouches_30 (lv_at hl 1 rfl) ?_
  refine lv_iload_n hx hb dX2_sideTouches_32 rfl (lv_at hl 5 rfl) ?_
  refine lv_iconst (v := 1) hx hb dX2_sideTouches_33 (by decide) ?_
  refine lv_iadd hx hb dX2_sideTouches_34 ?_
  obtain ⟨v_35, hv_35, hs⟩ := op_bd hs
  refine gx_iald hx hb hK hP 4 0 rfl rfl hv_35 dX2_sideTouches_35 ?_
  obtain ⟨v_36, hc_36, hs⟩ := op_bd hs
  refine gx_cSi (va_Run.run (va_runS (As := [.int v_17, .int v_25, .int v_29, .int v_35]) (rest := []) ⟨hx, hb, hml, hown, hts⟩ (c_X2_overlap l D cI cJ cZ cS ad v_17 v_25 v_29 v_35 F  v_36 hc_36) (va_cwS 4 hts gX2_sideTouches_X2_overlap rfl rfl rfl (by decide +kernel) ⟨Nat.le_of_ble_eq_true rfl, Nat.le_of_ble_eq_true rfl⟩) ⟨gl_blind, gl_ok hK hE trivial⟩ rfl rfl hl.1 rfl (lv_room (Nat.le_of_ble_eq_true rfl)) dX2_sideTouches_36 ⟨Nat.le_of_ble_eq_true rfl, Nat.le_of_ble_eq_true rfl⟩)) ?_
  refine lv_if_eq (tgt := 156) hx hb dX2_sideTouches_39 (by decide) (fun c_39 => ?_) (fun c_39 => ?_)
  · replace hs := it_t c_39 hs
    refine lv_iconst (v := 0) hx hb dX2_sideTouches_156 (by decide) ?_
    obtain rfl := Option.some.inj hs
    exact W.zret hx hb hr rfl (fun t ht hW => ⟨_, rfl, rfl, ht⟩) (fun _ h => by cases h) dX2_sideTouches_157
  · replace hs := it_f c_39 hs
    refine lv_aload_n hx hb dX2_sideTouches_42 rfl (lv_at hl 2 rfl) ?_
    refine va_get (D := D) (ci := 2) (v := .ref sy) (C := RX2) (T := TX2) (N := 9) hx hb hts in_X2 hown hK hP 0 rfl rfl 4 (by decide) lk_43 (fun _ h9 => h9) rfl dX2_sideTouches_43 ?_
    refine lv_iload_n hx hb dX2_sideTouches_46 rfl (lv_at hl 3 rfl) ?_
    obtain ⟨v_47, hv_47, hs⟩ := op_bd hs
    refine gx_iald hx hb hK hP 2 0 rfl rfl hv_47 dX2_sideTouches_47 ?_
    refine lv_aload_n hx hb dX2_sideTouches_48 rfl (lv_at hl 2 rfl) ?_
    refine va_get (D := D) (ci := 2) (v := .ref sy) (C := RX2) (T := TX2) (N := 9) hx hb hts in_X2 hown hK hP 0 rfl rfl 4 (by decide) lk_43 (fun _ h9 => h9) rfl dX2_sideTouches_49 ?_
    refine lv_iload_n hx hb dX2_sideTouches_52 rfl (lv_at hl 3 rfl) ?_
    refine lv_iconst (v := 1) hx hb dX2_sideTouches_53 (by decide) ?_
    refine lv_iadd hx hb dX2_sideTouches_54 ?_
    obtain ⟨v_55, hv_55, hs⟩ := op_bd hs
    refine gx_iald hx hb hK hP 2 0 rfl rfl hv_55 dX2_sideTouches_55 ?_
    refine lv_aload hx hb dX2_sideTouches_56 (lv_at hl 0 rfl) ?_
    refine lv_iload_n hx hb dX2_sideTouches_58 rfl (lv_at hl 5 rfl) ?_
    obtain ⟨v_59, hv_59, hs⟩ := op_bd hs
    refine gx_iald hx hb hK hP 5 0 rfl rfl hv_59 dX2_sideTouches_59 ?_
    refine lv_aload hx hb dX2_sideTouches_60 (lv_at hl 0 rfl) ?_
    refine lv_iload_n hx hb dX2_sideTouches_62 rfl (lv_at hl 5 rfl) ?_
    refine lv_iconst (v := 1) hx hb dX2_sideTouches_63 (by decide) ?_
    refine lv_iadd hx hb dX2_sideTouches_64 ?_
    obtain ⟨v_65, hv_65, hs⟩ := op_bd hs
    refine gx_iald hx hb hK hP 5 0 rfl rfl hv_65 dX2_sideTouches_65 ?_
    obtain ⟨v_66, hc_66, hs⟩ := op_bd hs
    refine gx_cSi (va_Run.run (va_runS (As := [.int v_47, .int v_55, .int v_59, .int v_65]) (rest := []) ⟨hx, hb, hml, hown, hts⟩ (c_X2_overlap l D cI cJ cZ cS ad v_47 v_55 v_59 v_65 F  v_66 hc_66) (va_cwS 4 hts gX2_sideTouches_X2_overlap rfl rfl rfl (by decide +kernel) ⟨Nat.le_of_ble_eq_true rfl, Nat.le_of_ble_eq_true rfl⟩) ⟨gl_blind, gl_ok hK hE trivial⟩ rfl rfl hl.1 rfl (lv_room (Nat.le_of_ble_eq_true rfl)) dX2_sideTouches_66 ⟨Nat.le_of_ble_eq_true rfl, Nat.le_of_ble_eq_true rfl⟩)) ?_
    refine lv_if_eq (tgt := 156) hx hb dX2_sideTouches_69 (by decide) (fun c_69 => ?_) (fun c_69 => ?_)
    · replace hs := it_t c_69 hs
      refine lv_iconst (v := 0) hx hb dX2_sideTouches_156 (by decide) ?_
      obtain rfl := Option.some.inj hs
      exact W.zret hx hb hr rfl (fun t ht hW => ⟨_, rfl, rfl, ht⟩) (fun _ h => by cases h) dX2_sideTouches_157
    · replace hs := it_f c_69 hs
      refine lv_aload_n hx hb dX2_sideTouches_72 rfl (lv_at hl 2 rfl) ?_
      refine lv_iload_n hx hb dX2_sideTouches_73 rfl (lv_at hl 3 rfl) ?_
      refine lv_aload hx hb dX2_sideTouches_74 (lv_at hl 1 rfl) ?_
      refine lv_iload_n hx hb dX2_sideTouches_76 rfl (lv_at hl 5 rfl) ?_
      obtain ⟨v_77, hv_77, hs⟩ := op_bd hs
      refine gx_iald hx hb hK hP 4 0 rfl rfl hv_77 dX2_sideTouches_77 ?_
      refine lv_aload hx hb dX2_sideTouches_78 (lv_at hl 0 rfl) ?_
      refine lv_iload_n hx hb dX2_sideTouches_80 rfl (lv_at hl 5 rfl) ?_
      obtain ⟨v_81, hv_81, hs⟩ := op_bd hs
      refine gx_iald hx hb hK hP 5 0 rfl rfl hv_81 dX2_sideTouches_81 ?_
      obtain ⟨v_82, hc_82, hs⟩ := op_bd hs
      refine gx_cSl (va_Run.run (va_runV (As := [.int p1, .int v_77, .int v_81]) (rest := []) ⟨hx, hb, hml, hown, hts⟩ (c_X2_turn l D cI cJ cZ cS ad h0 sx sy S p1 v_77 v_81 F hkS v_82 hc_82) (cwV 3 hts gX2_sideTouches_X2_turn rfl rfl rfl (by decide +kernel) ⟨Nat.le_of_ble_eq_true rfl, Nat.le_of_ble_eq_true rfl⟩) ⟨gl_blind, va_recv hK hP (ci := 2) (q0 := 0) rfl rfl, gl_ok hK hE (hP.sub [0, 1, 2] rfl)⟩ rfl rfl hl.1 rfl (lv_room (Nat.le_of_ble_eq_true rfl)) dX2_sideTouches_82 ⟨Nat.le_of_ble_eq_true rfl, Nat.le_of_ble_eq_true rfl⟩)) ?_
      refine lv_aload_n hx hb dX2_sideTouches_85 rfl (lv_at hl 2 rfl) ?_
      refine lv_iload_n hx hb dX2_sideTouches_86 rfl (lv_at hl 3 rfl) ?_
      refine lv_aload hx hb dX2_sideTouches_87 (lv_at hl 1 rfl) ?_
      refine lv_iload_n hx hb dX2_sideTouches_89 rfl (lv_at hl 5 rfl) ?_
      refine lv_iconst (v := 1) hx hb dX2_sideTouches_90 (by decide) ?_
      refine lv_iadd hx hb dX2_sideTouches_91 ?_
      obtain ⟨v_92, hv_92, hs⟩ := op_bd hs
      refine gx_iald hx hb hK hP 4 0 rfl rfl hv_92 dX2_sideTouches_92 ?_
      refine lv_aload hx hb dX2_sideTouches_93 (lv_at hl 0 rfl) ?_
      refine lv_iload_n hx hb dX2_sideTouches_95 rfl (lv_at hl 5 rfl) ?_
      refine lv_iconst (v := 1) hx hb dX2_sideTouches_96 (by decide) ?_
      refine lv_iadd hx hb dX2_sideTouches_97 ?_
      obtain ⟨v_98, hv_98, hs⟩ := op_bd hs
      refine gx_iald hx hb hK hP 5 0 rfl rfl hv_98 dX2_sideTouches_98 ?_
      obtain ⟨v_99, hc_99, hs⟩ := op_bd hs
      refine gx_cSl (va_Run.run (va_runV (As := [.int p1, .int v_92, .int v_98]) (rest := [.long v_82]) ⟨hx, hb, hml, hown, hts⟩ (c_X2_turn l D cI cJ cZ cS ad h0 sx sy S p1 v_92 v_98 F hkS v_99 hc_99) (cwV 3 hts gX2_sideTouches_X2_turn rfl rfl rfl (by decide +kernel) ⟨Nat.le_of_ble_eq_true rfl, Nat.le_of_ble_eq_true rfl⟩) ⟨gl_blind, va_recv hK hP (ci := 2) (q0 := 0) rfl rfl, gl_ok hK hE (hP.sub [0, 1, 2] rfl)⟩ rfl rfl hl.1 rfl (lv_room (Nat.le_of_ble_eq_true rfl)) dX2_sideTouches_99 ⟨Nat.le_of_ble_eq_true rfl, Nat.le_of_ble_eq_true rfl⟩)) ?_
      refine lv_lmul hx hb dX2_sideTouches_102 ?_
      refine lv_lconst (v := 0) hx hb dX2_sideTouches_103 (by decide) ?_
      refine W.lcmp hx hb dX2_sideTouches_104 ?_
      refine lv_if_gt (tgt := 156) hx hb dX2_sideTouches_105 (by decide) (fun c_105 => ?_) (fun c_105 => ?_)
      · replace hs := it_t c_105 hs
        refine lv_iconst (v := 0) hx hb dX2_sideTouches_156 (by decide) ?_
        obtain rfl := Option.some.inj hs
        exact W.zret hx hb hr rfl (fun t ht hW => ⟨_, rfl, rfl, ht⟩) (fun _ h => by cases h) dX2_sideTouches_157
      · replace hs := it_f c_105 hs
        refine lv_aload_n hx hb dX2_sideTouches_108 rfl (lv_at hl 4 rfl) ?_
        refine lv_iload_n hx hb dX2_sideTouches_109 rfl (lv_at hl 5 rfl) ?_
        refine lv_aload_n hx hb dX2_sideTouches_110 rfl (lv_at hl 2 rfl) ?_
        refine va_get (D := D) (ci := 2) (v := .ref sx) (C := RX2) (T := TX2) (N := 9) hx hb hts in_X2 hown hK hP 0 rfl rfl 3 (by decide) lk_39 (fun _ h9 => h9) rfl dX2_sideTouches_111 ?_
        refine lv_iload_n hx hb dX2_sideTouches_114 rfl (lv_at hl 3 rfl) ?_
        obtain ⟨v_115, hv_115, hs⟩ := op_bd hs
        refine gx_iald hx hb hK hP 1 0 rfl rfl hv_115 dX2_sideTouches_115 ?_
        refine lv_aload_n hx hb dX2_sideTouches_116 rfl (lv_at hl 2 rfl) ?_
        refine va_get (D := D) (ci := 2) (v := .ref sy) (C := RX2) (T := TX2) (N := 9) hx hb hts in_X2 hown hK hP 0 rfl rfl 4 (by decide) lk_43 (fun _ h9 => h9) rfl dX2_sideTouches_117 ?_
        refine lv_iload_n hx hb dX2_sideTouches_120 rfl (lv_at hl 3 rfl) ?_
        obtain ⟨v_121, hv_121, hs⟩ := op_bd hs
        refine gx_iald hx hb hK hP 2 0 rfl rfl hv_121 dX2_sideTouches_121 ?_
        obtain ⟨v_122, hc_122, hs⟩ := op_bd hs
        refine gx_cSl (va_Run.run (va_runV (As := [.int p3, .int v_115, .int v_121]) (rest := []) ⟨hx, hb, hml, hown, hts⟩ (c_X2_turn l D cI cJ cZ cS ad k0 kx ky T p3 v_115 v_121 F hkT v_122 hc_122) (cwV 3 hts gX2_sideTouches_X2_turn rfl rfl rfl (by decide +kernel) ⟨Nat.le_of_ble_eq_true rfl, Nat.le_of_ble_eq_true rfl⟩) ⟨gl_blind, va_recv hK hP (ci := 2) (q0 := 3) rfl rfl, gl_ok hK hE (hP.sub [3, 4, 5] rfl)⟩ rfl rfl hl.1 rfl (lv_room (Nat.le_of_ble_eq_true rfl)) dX2_sideTouches_122 ⟨Nat.le_of_ble_eq_true rfl, Nat.le_of_ble_eq_true rfl⟩)) ?_
        refine lv_aload_n hx hb dX2_sideTouches_125 rfl (lv_at hl 4 rfl) ?_
        refine lv_iload_n hx hb dX2_sideTouches_126 rfl (lv_at hl 5 rfl) ?_
        refine lv_aload_n hx hb dX2_sideTouches_127 rfl (lv_at hl 2 rfl) ?_
        refine va_get (D := D) (ci := 2) (v := .ref sx) (C := RX2) (T := TX2) (N := 9) hx hb hts in_X2 hown hK hP 0 rfl rfl 3 (by decide) lk_39 (fun _ h9 => h9) rfl dX2_sideTouches_128 ?_
        refine lv_iload_n hx hb dX2_sideTouches_131 rfl (lv_at hl 3 rfl) ?_
        refine lv_iconst (v := 1) hx hb dX2_sideTouches_132 (by decide) ?_
        refine lv_iadd hx hb dX2_sideTouches_133 ?_
        obtain ⟨v_134, hv_134, hs⟩ := op_bd hs
        refine gx_iald hx hb hK hP 1 0 rfl rfl hv_134 dX2_sideTouches_134 ?_
        refine lv_aload_n hx hb dX2_sideTouches_135 rfl (lv_at hl 2 rfl) ?_
        refine va_get (D := D) (ci := 2) (v := .ref sy) (C := RX2) (T := TX2) (N := 9) hx hb hts in_X2 hown hK hP 0 rfl rfl 4 (by decide) lk_43 (fun _ h9 => h9) rfl dX2_sideTouches_136 ?_
        refine lv_iload_n hx hb dX2_sideTouches_139 rfl (lv_at hl 3 rfl) ?_
        refine lv_iconst (v := 1) hx hb dX2_sideTouches_140 (by decide) ?_
        refine lv_iadd hx hb dX2_sideTouches_141 ?_
        obtain ⟨v_142, hv_142, hs⟩ := op_bd hs
        refine gx_iald hx hb hK hP 2 0 rfl rfl hv_142 dX2_sideTouches_142 ?_
        obtain ⟨v_143, hc_143, hs⟩ := op_bd hs
        refine gx_cSl (va_Run.run (va_runV (As := [.int p3, .int v_134, .int v_142]) (rest := [.long v_122]) ⟨hx, hb, hml, hown, hts⟩ (c_X2_turn l D cI cJ cZ cS ad k0 kx ky T p3 v_134 v_142 F hkT v_143 hc_143) (cwV 3 hts gX2_sideTouches_X2_turn rfl rfl rfl (by decide +kernel) ⟨Nat.le_of_ble_eq_true rfl, Nat.le_of_ble_eq_true rfl⟩) ⟨gl_blind, va_recv hK hP (ci := 2) (q0 := 3) rfl rfl, gl_ok hK hE (hP.sub [3, 4, 5] rfl)⟩ rfl rfl hl.1 rfl (lv_room (Nat.le_of_ble_eq_true rfl)) dX2_sideTouches_143 ⟨Nat.le_of_ble_eq_true rfl, Nat.le_of_ble_eq_true rfl⟩)) ?_
        refine lv_lmul hx hb dX2_sideTouches_146 ?_
        refine lv_lconst (v := 0) hx hb dX2_sideTouches_147 (by decide) ?_
        refine W.lcmp hx hb dX2_sideTouches_148 ?_
        refine lv_if_gt (tgt := 156) hx hb dX2_sideTouches_149 (by decide) (fun c_149 => ?_) (fun c_149 => ?_)
        · replace hs := it_t c_149 hs
          refine lv_iconst (v := 0) hx hb dX2_sideTouches_156 (by decide) ?_
          obtain rfl := Option.some.inj hs
          exact W.zret hx hb hr rfl (fun t ht hW => ⟨_, rfl, rfl, ht⟩) (fun _ h => by cases h) dX2_sideTouches_157
        · replace hs := it_f c_149 hs
          refine lv_iconst (v := 1) hx hb dX2_sideTouches_152 (by decide) ?_
          refine lv_goto (tgt := 157) hx hb dX2_sideTouches_153 (by decide) ?_
          obtain rfl := Option.some.inj hs
          exact W.zret hx hb hr rfl (fun t ht hW => ⟨_, rfl, rfl, ht⟩) (fun _ h => by cases h) dX2_sideTouches_157
def s_X2_clash_35 (F : Nat) (S : sh_T) (p1 : Int32) (p2 : Int32) : Option Int32 :=
  (s_X2_sideTouches F S p1 S p2).bind fun v_39 =>
  (bz_i v_39).bind fun _ =>
  some v_39
def s_X2_clash (F : Nat) (S : sh_T) (p1 : Int32) (p2 : Int32) : Option Int32 :=
  if p2 = (p1 + 1) then
    (s_X2_foldsBack F S p1 p2).bind fun v_10 =>
    (bz_i v_10).bind fun _ =>
    some v_10
  else
    if p1 = 0 then
      if p2 = ((sh_z S) - 1) then
        (s_X2_foldsBack F S p2 p1).bind fun v_31 =>
        (bz_i v_31).bind fun _ =>
        some v_31
      else
        s_X2_clash_35 F S p1 p2 
    else
      s_X2_clash_35 F S p1 p2 
abbrev rm_X2_clash : Room := { frames := 3, cells := 0, slots := 0, locals := 69 }
theorem in_X2_clash_X2 : ∀ w ∈ wsX20, w ∈ wsX2_clash := by decide +kernel
set_option maxHeartbeats 4000000 in
set_option maxRecDepth 100000 in
theorem c_X2_clash (l : Launch) (D : va_G) (cI cJ cZ cS : ClassId) (ad : Nat → Nat) (h0 sx sy : Nat) (S : sh_T) (p1 : Int32) (p2 : Int32) (F : Nat) (hkS : sh_k S < 3) (r : Int32) (hs : s_X2_clash F S p1 p2 = some r) : Met l yX2_clash wsX2_clash rm_X2_clash (gl_P D cI cJ cZ cS ad [.ref h0, .int p1, .int p2] (fun H => va_P D vwCl (sh_w cI ad h0 sx sy S) H)) (vp_Si (fun v => v = r)) 0 0 (fun _ => False) := by
  refine Met.ofW (cc := cX2_clash) (maxL := 3) (ret := (some .boolean)) (by decide) rfl ?_
  intro p e s m args below meth c s₁ B hml hv
  obtain ⟨rfl, hK, hE, hP⟩ := hv
  have hx := B.exec
  have hb := B.bytes
  have hr := B.returns
  have hts := atoms_spec (ws := wsX2_clash) B.pre
  have hown : s.vm.findClass RX2 = some m.cls := findClass_of_methodNamed B.named
  have hlocks := B.notSynchronized
  have lk_9 := hts (.fieldLink RX2 9 "PlacePoints$Shape" "size" "I") (by decide +kernel)
  have in_X2 := in_X2_clash_X2
  have J_35 : s_X2_clash_35 F S p1 p2 = some r → ∀ ls : Array Slot, lv_has ls 3 [(0, .ref h0), (1, .int p1), (2, .int p2)] → W p l e (headSpec wsX2_clash rm_X2_clash).room s m ([.ref h0, .int p1, .int p2] : List Value).toArray below meth c s.heap [] 0 0 (MQ below (vp_Si (fun v => v = r)) ([.ref h0, .int p1, .int p2] : List Value).toArray s 0 0 (fun _ => False)) (F0 m 35 ls []) := by
    intro  hs ls hl
    rw [s_X2_clash_35] at hs
    refine lv_aload_n hx hb dX2_clash_35 rfl (lv_at hl 0 rfl) ?_
    refine lv_iload_n hx hb dX2_clash_36 rfl (lv_at hl 1 rfl) ?_
    refine lv_aload_n hx hb dX2_clash_37 rfl (lv_at hl 0 rfl) ?_
    refine lv_iload_n hx hb dX2_clash_38 rfl (lv_at hl 2 rfl) ?_
    obtain ⟨v_39, hc_39, hs⟩ := op_bd hs
    refine gx_cSi (va_Run.run (va_runV (As := [.int p1, .ref h0, .int p2]) (rest := []) ⟨hx, hb, hml, hown, hts⟩ (c_X2_sideTouches l D cI cJ cZ cS ad h0 sx sy h0 sx sy S p1 S p2 F hkS hkS v_39 hc_39) (cwV 3 hts gX2_clash_X2_sideTouches rfl rfl rfl (by decide +kernel) ⟨Nat.le_of_ble_eq_true rfl, Nat.le_of_ble_eq_true rfl⟩) ⟨gl_blind, va_recv hK hP (ci := 2) (q0 := 0) rfl rfl, gl_ok hK hE (hP.sub [0, 1, 2, 0, 1, 2] rfl)⟩ rfl rfl hl.1 rfl (lv_room (Nat.le_of_ble_eq_true rfl)) dX2_clash_39 ⟨Nat.le_of_ble_eq_true rfl, Nat.le_of_ble_eq_true rfl⟩)) ?_
    obtain ⟨_, hz_42, hs⟩ := op_bd hs
    obtain rfl := Option.some.inj hs
    exact W.zret hx hb hr (bz_nar hz_42) (fun t ht hW => ⟨_, rfl, rfl, ht⟩) (fun _ h => by cases h) dX2_clash_42
  have hl := lv_entry ([.ref h0, .int p1, .int p2]) (n := 3) (Nat.le_of_ble_eq_true rfl)
  rw [lg_entry_eq]
  generalize (lg_sl ([.ref h0, .int p1, .int p2]) ++ List.replicate (3 - (lg_sl ([.ref h0, .int p1, .int p2])).length) Slot.unset).toArray = ls at hl ⊢
  have hl : lv_has ls 3 [(0, .ref h0), (1, .int p1), (2, .int p2)] := hl
  rw [s_X2_clash] at hs
  refine lv_iload_n hx hb dX2_clash_0 rfl (lv_at hl 2 rfl) ?_
  refine lv_iload_n hx hb dX2_clash_1 rfl (lv_at hl 1 rfl) ?_
  refine lv_iconst (v := 1) hx hb dX2_clash_2 (by decide) ?_
  refine lv_iadd hx hb dX2_clash_3 ?_
  refine lv_icmp_ne (tgt := 14) hx hb dX2_clash_4 (by decide) (fun c_4 => ?_) (fun c_4 => ?_)
  · replace hs := it_f c_4 hs
    refine lv_iload_n hx hb dX2_clash_14 rfl (lv_at hl 1 rfl) ?_
    refine lv_if_ne (tgt := 35) hx hb dX2_clash_15 (by decide) (fun c_15 => ?_) (fun c_15 => ?_)
    · replace hs := it_f c_15 hs
      exact J_35  hs _ (lv_sub hl [0, 1, 2] rfl)
    · replace hs := it_t c_15 hs
      refine lv_iload_n hx hb dX2_clash_18 rfl (lv_at hl 2 rfl) ?_
      refine lv_aload_n hx hb dX2_clash_19 rfl (lv_at hl 0 rfl) ?_
      refine va_get (D := D) (ci := 2) (v := .int (sh_z S)) (C := RX2) (T := TX2) (N := 9) hx hb hts in_X2 hown hK hP 0 rfl rfl 1 (by decide) lk_9 (fun _ h9 => h9) rfl dX2_clash_20 ?_
      refine lv_iconst (v := 1) hx hb dX2_clash_23 (by decide) ?_
      refine lv_isub hx hb dX2_clash_24 ?_
      refine lv_icmp_ne (tgt := 35) hx hb dX2_clash_25 (by decide) (fun c_25 => ?_) (fun c_25 => ?_)
      · replace hs := it_f c_25 hs
        exact J_35  hs _ (lv_sub hl [0, 1, 2] rfl)
      · replace hs := it_t c_25 hs
        refine lv_aload_n hx hb dX2_clash_28 rfl (lv_at hl 0 rfl) ?_
        refine lv_iload_n hx hb dX2_clash_29 rfl (lv_at hl 2 rfl) ?_
        refine lv_iload_n hx hb dX2_clash_30 rfl (lv_at hl 1 rfl) ?_
        obtain ⟨v_31, hc_31, hs⟩ := op_bd hs
        refine gx_cSi (va_Run.run (va_runV (As := [.int p2, .int p1]) (rest := []) ⟨hx, hb, hml, hown, hts⟩ (c_X2_foldsBack l D cI cJ cZ cS ad h0 sx sy S p2 p1 F hkS v_31 hc_31) (cwV 2 hts gX2_clash_X2_foldsBack rfl rfl rfl (by decide +kernel) ⟨Nat.le_of_ble_eq_true rfl, Nat.le_of_ble_eq_true rfl⟩) ⟨gl_blind, va_recv hK hP (ci := 2) (q0 := 0) rfl rfl, gl_ok hK hE (hP.sub [0, 1, 2] rfl)⟩ rfl rfl hl.1 rfl (lv_room (Nat.le_of_ble_eq_true rfl)) dX2_clash_31 ⟨Nat.le_of_ble_eq_true rfl, Nat.le_of_ble_eq_true rfl⟩)) ?_
        obtain ⟨_, hz_34, hs⟩ := op_bd hs
        obtain rfl := Option.some.inj hs
        exact W.zret hx hb hr (bz_nar hz_34) (fun t ht hW => ⟨_, rfl, rfl, ht⟩) (fun _ h => by cases h) dX2_clash_34
  · replace hs := it_t c_4 hs
    refine lv_aload_n hx hb dX2_clash_7 rfl (lv_at hl 0 rfl) ?_
    refine lv_iload_n hx hb dX2_clash_8 rfl (lv_at hl 1 rfl) ?_
    refine lv_iload_n hx hb dX2_clash_9 rfl (lv_at hl 2 rfl) ?_
    obtain ⟨v_10, hc_10, hs⟩ := op_bd hs
    refine gx_cSi (va_Run.run (va_runV (As := [.int p1, .int p2]) (rest := []) ⟨hx, hb, hml, hown, hts⟩ (c_X2_foldsBack l D cI cJ cZ cS ad h0 sx sy S p1 p2 F hkS v_10 hc_10) (cwV 2 hts gX2_clash_X2_foldsBack rfl rfl rfl (by decide +kernel) ⟨Nat.le_of_ble_eq_true rfl, Nat.le_of_ble_eq_true rfl⟩) ⟨gl_blind, va_recv hK hP (ci := 2) (q0 := 0) rfl rfl, gl_ok hK hE (hP.sub [0, 1, 2] rfl)⟩ rfl rfl hl.1 rfl (lv_room (Nat.le_of_ble_eq_true rfl)) dX2_clash_10 ⟨Nat.le_of_ble_eq_true rfl, Nat.le_of_ble_eq_true rfl⟩)) ?_
    obtain ⟨_, hz_13, hs⟩ := op_bd hs
    obtain rfl := Option.some.inj hs
    exact W.zret hx hb hr (bz_nar hz_13) (fun t ht hW => ⟨_, rfl, rfl, ht⟩) (fun _ h => by cases h) dX2_clash_13
end
section
def s_X2_whereIs_167 (F : Nat) (S : sh_T) (p1 : Int32) (p2 : Int32) (kc_5 : Int32 → Int32 → Option Int32) (x3 : Int32) (x4 : Int32) : Option Int32 :=
  if x3 = 0 then
    (some (x4 + 1)).bind fun e_177 =>
    kc_5 1 e_177
  else
    (some (x4 + 1)).bind fun e_177 =>
    kc_5 0 e_177
def s_X2_whereIs_155 (F : Nat) (S : sh_T) (p1 : Int32) (p2 : Int32) (kc_5 : Int32 → Int32 → Option Int32) (x3 : Int32) (x4 : Int32) (x5 : Int64) (x8 : Int32) : Option Int32 :=
  if x8 = 0 then
    (some (x4 + 1)).bind fun e_177 =>
    kc_5 x3 e_177
  else
    if 0 ≤ (lg_cmp x5 0) then
      (some (x4 + 1)).bind fun e_177 =>
      kc_5 x3 e_177
    else
      s_X2_whereIs_167 F S p1 p2 kc_5 x3 x4
def s_X2_whereIs_141 (F : Nat) (S : sh_T) (p1 : Int32) (p2 : Int32) (kc_5 : Int32 → Int32 → Option Int32) (x3 : Int32) (x4 : Int32) (x5 : Int64) (x7 : Int32) (t0 : Int32) : Option Int32 :=
  if x7 = 0 then
    s_X2_whereIs_155 F S p1 p2 kc_5 x3 x4 x5 t0
  else
    if 0 < (lg_cmp x5 0) then
      s_X2_whereIs_167 F S p1 p2 kc_5 x3 x4
    else
      s_X2_whereIs_155 F S p1 p2 kc_5 x3 x4 x5 t0
def s_X2_whereIs_110 (F : Nat) (S : sh_T) (p1 : Int32) (p2 : Int32) (kc_5 : Int32 → Int32 → Option Int32) (x3 : Int32) (x4 : Int32) (x5 : Int64) (t0 : Int32) : Option Int32 :=
  (rd_i (sh_n S) (sh_y S) (x4 + 1)).bind fun v_120 =>
  if p2 < v_120 then
    s_X2_whereIs_141 F S p1 p2 kc_5 x3 x4 x5 t0 0
  else
    (rd_i (sh_n S) (sh_y S) x4).bind fun v_132 =>
    if v_132 ≤ p2 then
      s_X2_whereIs_141 F S p1 p2 kc_5 x3 x4 x5 t0 0
    else
      s_X2_whereIs_141 F S p1 p2 kc_5 x3 x4 x5 t0 1
def s_X2_whereIs_81 (F : Nat) (S : sh_T) (p1 : Int32) (p2 : Int32) (kc_5 : Int32 → Int32 → Option Int32) (x3 : Int32) (x4 : Int32) (x5 : Int64) : Option Int32 :=
  (rd_i (sh_n S) (sh_y S) x4).bind fun v_87 =>
  if p2 < v_87 then
    s_X2_whereIs_110 F S p1 p2 kc_5 x3 x4 x5 0
  else
    (rd_i (sh_n S) (sh_y S) (x4 + 1)).bind fun v_101 =>
    if v_101 ≤ p2 then
      s_X2_whereIs_110 F S p1 p2 kc_5 x3 x4 x5 0
    else
      s_X2_whereIs_110 F S p1 p2 kc_5 x3 x4 x5 1
def s_X2_whereIs_5 (F : Nat) (S : sh_T) (p1 : Int32) (p2 : Int32) : Nat → Int32 → Int32 → Option Int32
  | 0, _, _ => none
  | n + 1, x3, x4 =>
    if (sh_z S) ≤ x4 then
      if x3 = 0 then
        some 0
      else
        some 1
    else
      (s_X2_turn F S x4 p1 p2).bind fun v_19 =>
      if (lg_cmp v_19 0) = 0 then
        (rd_i (sh_n S) (sh_x S) x4).bind fun v_37 =>
        (rd_i (sh_n S) (sh_x S) (x4 + 1)).bind fun v_46 =>
        (s_X2_overlap F v_37 v_46 p1 p1).bind fun v_49 =>
        if v_49 = 0 then
          s_X2_whereIs_81 F S p1 p2 (fun y0 y1 => s_X2_whereIs_5 F S p1 p2 n y0 y1) x3 x4 v_19
        else
          (rd_i (sh_n S) (sh_y S) x4).bind fun v_61 =>
          (rd_i (sh_n S) (sh_y S) (x4 + 1)).bind fun v_70 =>
          (s_X2_overlap F v_61 v_70 p2 p2).bind fun v_73 =>
          if v_73 = 0 then
            s_X2_whereIs_81 F S p1 p2 (fun y0 y1 => s_X2_whereIs_5 F S p1 p2 n y0 y1) x3 x4 v_19
          else
            some 2
      else
        s_X2_whereIs_81 F S p1 p2 (fun y0 y1 => s_X2_whereIs_5 F S p1 p2 n y0 y1) x3 x4 v_19
def s_X2_whereIs (F : Nat) (S : sh_T) (p1 : Int32) (p2 : Int32) : Option Int32 :=
  s_X2_whereIs_5 F S p1 p2 F 0 0
abbrev rm_X2_whereIs : Room := { frames := 2, cells := 0, slots := 0, locals := 44 }
theorem in_X2_whereIs_X2 : ∀ w ∈ wsX20, w ∈ wsX2_whereIs := by decide +kernel
set_option maxHeartbeats 4000000 in
set_option maxRecDepth 100000 in
theorem c_X2_whereIs (l : Launch) (D : va_G) (cI cJ cZ cS : ClassId) (ad : Nat → Nat) (h0 sx sy : Nat) (S : sh_T) (p1 : Int32) (p2 : Int32) (F : Nat) (hkS : sh_k S < 3) (r : Int32) (hs : s_X2_whereIs F S p1 p2 = some r) : Met l yX2_whereIs wsX2_whereIs rm_X2_whereIs (gl_P D cI cJ cZ cS ad [.ref h0, .int p1, .int p2] (fun H => va_P D vwCl (sh_w cI ad h0 sx sy S) H)) (vp_Si (fun v => v = r)) 0 0 (fun _ => False) := by
  refine Met.ofW (cc := cX2_whereIs) (maxL := 9) (ret := (some .int)) (by decide) rfl ?_
  intro p e s m args below meth c s₁ B hml hv
  obtain ⟨rfl, hK, hE, hP⟩ := hv
  have hx := B.exec
  have hb := B.bytes
  have hr := B.returns
  have hts := atoms_spec (ws := wsX2_whereIs) B.pre
  have hown : s.vm.findClass RX2 = some m.cls := findClass_of_methodNamed B.named
  have hlocks := B.notSynchronized
  have lk_9 := hts (.fieldLink RX2 9 "PlacePoints$Shape" "size" "I") (by decide +kernel)
  have lk_39 := hts (.fieldLink RX2 39 "PlacePoints$Shape" "xs" "[I") (by decide +kernel)
  have lk_43 := hts (.fieldLink RX2 43 "PlacePoints$Shape" "ys" "[I") (by decide +kernel)
  have in_X2 := in_X2_whereIs_X2
  have J_5 : ∀ (n_5 : Nat) (x3 : Int32) (x4 : Int32), s_X2_whereIs_5 F S p1 p2 n_5 x3 x4 = some r → ∀ ls : Array Slot, lv_has ls 9 [(0, .ref h0), (1, .int p1), (2, .int p2), (3, .int x3), (4, .int x4)] → W p l e (headSpec wsX2_whereIs rm_X2_whereIs).room s m ([.ref h0, .int p1, .int p2] : List Value).toArray below meth c s.heap [] 0 0 (MQ below (vp_Si (fun v => v = r)) ([.ref h0, .int p1, .int p2] : List Value).toArray s 0 0 (fun _ => False)) (F0 m 5 ls []) := by
    intro n_5
    induction n_5 with
    | zero =>
      intro x3 x4 hs
      cases hs
    | succ n_5 ih_5 =>
      have J_167 : ∀ (x3 : Int32) (x4 : Int32), s_X2_whereIs_167 F S p1 p2 (fun y0 y1 => s_X2_whereIs_5 F S p1 p2 n_5 y0 y1) x3 x4 = some r → ∀ ls : Array Slot, lv_has ls 9 [(0, .ref h0), (1, .int p1), (2, .int p2), (3, .int x3), (4, .int x4)] → W p l e (headSpec wsX2_whereIs rm_X2_whereIs).room s m ([.ref h0, .int p1, .int p2] : List Value).toArray below meth c s.heap [] 0 0 (MQ below (vp_Si (fun v => v = r)) ([.ref h0, .int p1, .int p2] : List Value).toArray s 0 0 (fun _ => False)) (F0 m 167 ls []) := by
        intro x3 x4 hs ls hl
        rw [s_X2_whereIs_167] at hs
        refine lv_iload_n hx hb dX2_whereIs_167 rfl (lv_at hl 3 rfl) ?_
        refine lv_if_ne (tgt := 175) hx hb dX2_whereIs_168 (by decide) (fun c_168 => ?_) (fun c_168 => ?_)
        · replace hs := it_f c_168 hs
          refine lv_iconst (v := 0) hx hb dX2_whereIs_175 (by decide) ?_
          refine lv_istore_n (lv' := [(3, .int 0), (0, .ref h0), (1, .int p1), (2, .int p2), (4, .int x4)]) hx hb dX2_whereIs_176 rfl hl (by decide) rfl (fun ls hl => ?_)
          obtain ⟨e_177, hv_177, hs⟩ := op_bd hs
          refine lv_iinc (v := e_177) (lv' := [(4, .int e_177), (3, .int 0), (0, .ref h0), (1, .int p1), (2, .int p2)]) hx hb dX2_whereIs_177 hl (k := 4) rfl (Option.some.inj hv_177) (by decide) rfl (fun ls hl => ?_)
          refine lv_goto (tgt := 5) hx hb dX2_whereIs_180 (by decide) ?_
          exact ih_5 0 e_177 hs _ (lv_sub hl [2, 3, 4, 1, 0] rfl)
        · replace hs := it_t c_168 hs
          refine lv_iconst (v := 1) hx hb dX2_whereIs_171 (by decide) ?_
          refine lv_goto (tgt := 176) hx hb dX2_whereIs_172 (by decide) ?_
          refine lv_istore_n (lv' := [(3, .int 1), (0, .ref h0), (1, .int p1), (2, .int p2), (4, .int x4)]) hx hb dX2_whereIs_176 rfl hl (by decide) rfl (fun ls hl => ?_)
          obtain ⟨e_177, hv_177, hs⟩ := op_bd hs
          refine lv_iinc (v := e_177) (lv' := [(4, .int e_177), (3, .int 1), (0, .ref h0), (1, .int p1), (2, .int p2)]) hx hb dX2_whereIs_177 hl (k := 4) rfl (Option.some.inj hv_177) (by decide) rfl (fun ls hl => ?_)
          refine lv_goto (tgt := 5) hx hb dX2_whereIs_180 (by decide) ?_
          exact ih_5 1 e_177 hs _ (lv_sub hl [2, 3, 4, 1, 0] rfl)
      have J_155 : ∀ (x3 : Int32) (x4 : Int32) (x5 : Int64) (x8 : Int32), s_X2_whereIs_155 F S p1 p2 (fun y0 y1 => s_X2_whereIs_5 F S p1 p2 n_5 y0 y1) x3 x4 x5 x8 = some r → ∀ ls : Array Slot, lv_has ls 9 [(0, .ref h0), (1, .int p1), (2, .int p2), (3, .int x3), (4, .int x4), (5, .long x5), (8, .int x8)] → W p l e (headSpec wsX2_whereIs rm_X2_whereIs).room s m ([.ref h0, .int p1, .int p2] : List Value).toArray below meth c s.heap [] 0 0 (MQ below (vp_Si (fun v => v = r)) ([.ref h0, .int p1, .int p2] : List Value).toArray s 0 0 (fun _ => False)) (F0 m 155 ls []) := by
        intro x3 x4 x5 x8 hs ls hl
        rw [s_X2_whereIs_155] at hs
        refine lv_iload hx hb dX2_whereIs_155 (lv_at hl 6 rfl) ?_
        refine lv_if_eq (tgt := 177) hx hb dX2_whereIs_157 (by decide) (fun c_157 => ?_) (fun c_157 => ?_)
        · replace hs := it_t c_157 hs
          obtain ⟨e_177, hv_177, hs⟩ := op_bd hs
          refine lv_iinc (v := e_177) (lv' := [(4, .int e_177), (0, .ref h0), (1, .int p1), (2, .int p2), (3, .int x3), (5, .long x5), (8, .int x8)]) hx hb dX2_whereIs_177 hl (k := 4) rfl (Option.some.inj hv_177) (by decide) rfl (fun ls hl => ?_)
          refine lv_goto (tgt := 5) hx hb dX2_whereIs_180 (by decide) ?_
          exact ih_5 x3 e_177 hs _ (lv_sub hl [1, 2, 3, 4, 0] rfl)
        · replace hs := it_f c_157 hs
          refine lv_lload hx hb dX2_whereIs_160 (lv_at hl 5 rfl) ?_
          refine lv_lconst (v := 0) hx hb dX2_whereIs_162 (by decide) ?_
          refine W.lcmp hx hb dX2_whereIs_163 ?_
          refine lv_if_ge (tgt := 177) hx hb dX2_whereIs_164 (by decide) (fun c_164 => ?_) (fun c_164 => ?_)
          · replace hs := it_t c_164 hs
            obtain ⟨e_177, hv_177, hs⟩ := op_bd hs
            refine lv_iinc (v := e_177) (lv' := [(4, .int e_177), (0, .ref h0), (1, .int p1), (2, .int p2), (3, .int x3), (5, .long x5), (8, .int x8)]) hx hb dX2_whereIs_177 hl (k := 4) rfl (Option.some.inj hv_177) (by decide) rfl (fun ls hl => ?_)
            refine lv_goto (tgt := 5) hx hb dX2_whereIs_180 (by decide) ?_
            exact ih_5 x3 e_177 hs _ (lv_sub hl [1, 2, 3, 4, 0] rfl)
          · replace hs := it_f c_164 hs
            exact J_167 x3 x4 hs _ (lv_sub hl [0, 1, 2, 3, 4] rfl)
      have J_141 : ∀ (x3 : Int32) (x4 : Int32) (x5 : Int64) (x7 : Int32) (t0 : Int32), s_X2_whereIs_141 F S p1 p2 (fun y0 y1 => s_X2_whereIs_5 F S p1 p2 n_5 y0 y1) x3 x4 x5 x7 t0 = some r → ∀ ls : Array Slot, lv_has ls 9 [(0, .ref h0), (1, .int p1), (2, .int p2), (3, .int x3), (4, .int x4), (5, .long x5), (7, .int x7)] → W p l e (headSpec wsX2_whereIs rm_X2_whereIs).room s m ([.ref h0, .int p1, .int p2] : List Value).toArray below meth c s.heap [] 0 0 (MQ below (vp_Si (fun v => v = r)) ([.ref h0, .int p1, .int p2] : List Value).toArray s 0 0 (fun _ => False)) (F0 m 141 ls [.int t0]) := by
        intro x3 x4 x5 x7 t0 hs ls hl
        rw [s_X2_whereIs_141] at hs
        refine lv_istore (lv' := [(8, .int t0), (0, .ref h0), (1, .int p1), (2, .int p2), (3, .int x3), (4, .int x4), (5, .long x5), (7, .int x7)]) hx hb dX2_whereIs_141 hl (by decide) rfl (fun ls hl => ?_)
        refine lv_iload hx hb dX2_whereIs_143 (lv_at hl 7 rfl) ?_
        refine lv_if_eq (tgt := 155) hx hb dX2_whereIs_145 (by decide) (fun c_145 => ?_) (fun c_145 => ?_)
        · replace hs := it_t c_145 hs
          exact J_155 x3 x4 x5 t0 hs _ (lv_sub hl [1, 2, 3, 4, 5, 6, 0] rfl)
        · replace hs := it_f c_145 hs
          refine lv_lload hx hb dX2_whereIs_148 (lv_at hl 6 rfl) ?_
          refine lv_lconst (v := 0) hx hb dX2_whereIs_150 (by decide) ?_
          refine W.lcmp hx hb dX2_whereIs_151 ?_
          refine lv_if_gt (tgt := 167) hx hb dX2_whereIs_152 (by decide) (fun c_152 => ?_) (fun c_152 => ?_)
          · replace hs := it_t c_152 hs
            exact J_167 x3 x4 hs _ (lv_sub hl [1, 2, 3, 4, 5] rfl)
          · replace hs := it_f c_152 hs
            exact J_155 x3 x4 x5 t0 hs _ (lv_sub hl [1, 2, 3, 4, 5, 6, 0] rfl)
      have J_110 : ∀ (x3 : Int32) (x4 : Int32) (x5 : Int64) (t0 : Int32), s_X2_whereIs_110 F S p1 p2 (fun y0 y1 => s_X2_whereIs_5 F S p1 p2 n_5 y0 y1) x3 x4 x5 t0 = some r → ∀ ls : Array Slot, lv_has ls 9 [(0, .ref h0), (1, .int p1), (2, .int p2), (3, .int x3), (4, .int x4), (5, .long x5)] → W p l e (headSpec wsX2_whereIs rm_X2_whereIs).room s m ([.ref h0, .int p1, .int p2] : List Value).toArray below meth c s.heap [] 0 0 (MQ below (vp_Si (fun v => v = r)) ([.ref h0, .int p1, .int p2] : List Value).toArray s 0 0 (fun _ => False)) (F0 m 110 ls [.int t0]) := by
        intro x3 x4 x5 t0 hs ls hl
        rw [s_X2_whereIs_110] at hs
        refine lv_istore (lv' := [(7, .int t0), (0, .ref h0), (1, .int p1), (2, .int p2), (3, .int x3), (4, .int x4), (5, .long x5)]) hx hb dX2_whereIs_110 hl (by decide) rfl (fun ls hl => ?_)
        refine lv_aload_n hx hb dX2_whereIs_112 rfl (lv_at hl 1 rfl) ?_
        refine va_get (D := D) (ci := 2) (v := .ref sy) (C := RX2) (T := TX2) (N := 9) hx hb hts in_X2 hown hK hP 0 rfl rfl 4 (by decide) lk_43 (fun _ h9 => h9) rfl dX2_whereIs_113 ?_
        refine lv_iload hx hb dX2_whereIs_116 (lv_at hl 5 rfl) ?_
        refine lv_iconst (v := 1) hx hb dX2_whereIs_118 (by decide) ?_
        refine lv_iadd hx hb dX2_whereIs_119 ?_
        obtain ⟨v_120, hv_120, hs⟩ := op_bd hs
        refine gx_iald hx hb hK hP 2 0 rfl rfl hv_120 dX2_whereIs_120 ?_
        refine lv_iload_n hx hb dX2_whereIs_121 rfl (lv_at hl 3 rfl) ?_
        refine lv_icmp_gt (tgt := 140) hx hb dX2_whereIs_122 (by decide) (fun c_122 => ?_) (fun c_122 => ?_)
        · replace hs := it_t c_122 hs
          refine lv_iconst (v := 0) hx hb dX2_whereIs_140 (by decide) ?_
          exact J_141 x3 x4 x5 t0 0 hs _ (lv_sub hl [1, 2, 3, 4, 5, 6, 0] rfl)
        · replace hs := it_f c_122 hs
          refine lv_iload_n hx hb dX2_whereIs_125 rfl (lv_at hl 3 rfl) ?_
          refine lv_aload_n hx hb dX2_whereIs_126 rfl (lv_at hl 1 rfl) ?_
          refine va_get (D := D) (ci := 2) (v := .ref sy) (C := RX2) (T := TX2) (N := 9) hx hb hts in_X2 hown hK hP 0 rfl rfl 4 (by decide) lk_43 (fun _ h9 => h9) rfl dX2_whereIs_127 ?_
          refine lv_iload hx hb dX2_whereIs_130 (lv_at hl 5 rfl) ?_
          obtain ⟨v_132, hv_132, hs⟩ := op_bd hs
          refine gx_iald hx hb hK hP 2 0 rfl rfl hv_132 dX2_whereIs_132 ?_
          refine lv_icmp_ge (tgt := 140) hx hb dX2_whereIs_133 (by decide) (fun c_133 => ?_) (fun c_133 => ?_)
          · replace hs := it_t c_133 hs
            refine lv_iconst (v := 0) hx hb dX2_whereIs_140 (by decide) ?_
            exact J_141 x3 x4 x5 t0 0 hs _ (lv_sub hl [1, 2, 3, 4, 5, 6, 0] rfl)
          · replace hs := it_f c_133 hs
            refine lv_iconst (v := 1) hx hb dX2_whereIs_136 (by decide) ?_
            refine lv_goto (tgt := 141) hx hb dX2_whereIs_137 (by decide) ?_
            exact J_141 x3 x4 x5 t0 1 hs _ (lv_sub hl [1, 2, 3, 4, 5, 6, 0] rfl)
      have J_81 : ∀ (x3 : Int32) (x4 : Int32) (x5 : Int64), s_X2_whereIs_81 F S p1 p2 (fun y0 y1 => s_X2_whereIs_5 F S p1 p2 n_5 y0 y1) x3 x4 x5 = some r → ∀ ls : Array Slot, lv_has ls 9 [(0, .ref h0), (1, .int p1), (2, .int p2), (3, .int x3), (4, .int x4), (5, .long x5)] → W p l e (headSpec wsX2_whereIs rm_X2_whereIs).room s m ([.ref h0, .int p1, .int p2] : List Value).toArray below meth c s.heap [] 0 0 (MQ below (vp_Si (fun v => v = r)) ([.ref h0, .int p1, .int p2] : List Value).toArray s 0 0 (fun _ => False)) (F0 m 81 ls []) := by
        intro x3 x4 x5 hs ls hl
        rw [s_X2_whereIs_81] at hs
        refine lv_aload_n hx hb dX2_whereIs_81 rfl (lv_at hl 0 rfl) ?_
        refine va_get (D := D) (ci := 2) (v := .ref sy) (C := RX2) (T := TX2) (N := 9) hx hb hts in_X2 hown hK hP 0 rfl rfl 4 (by decide) lk_43 (fun _ h9 => h9) rfl dX2_whereIs_82 ?_
        refine lv_iload hx hb dX2_whereIs_85 (lv_at hl 4 rfl) ?_
        obtain ⟨v_87, hv_87, hs⟩ := op_bd hs
        refine gx_iald hx hb hK hP 2 0 rfl rfl hv_87 dX2_whereIs_87 ?_
        refine lv_iload_n hx hb dX2_whereIs_88 rfl (lv_at hl 2 rfl) ?_
        refine lv_icmp_gt (tgt := 109) hx hb dX2_whereIs_89 (by decide) (fun c_89 => ?_) (fun c_89 => ?_)
        · replace hs := it_t c_89 hs
          refine lv_iconst (v := 0) hx hb dX2_whereIs_109 (by decide) ?_
          exact J_110 x3 x4 x5 0 hs _ (lv_sub hl [0, 1, 2, 3, 4, 5] rfl)
        · replace hs := it_f c_89 hs
          refine lv_iload_n hx hb dX2_whereIs_92 rfl (lv_at hl 2 rfl) ?_
          refine lv_aload_n hx hb dX2_whereIs_93 rfl (lv_at hl 0 rfl) ?_
          refine va_get (D := D) (ci := 2) (v := .ref sy) (C := RX2) (T := TX2) (N := 9) hx hb hts in_X2 hown hK hP 0 rfl rfl 4 (by decide) lk_43 (fun _ h9 => h9) rfl dX2_whereIs_94 ?_
          refine lv_iload hx hb dX2_whereIs_97 (lv_at hl 4 rfl) ?_
          refine lv_iconst (v := 1) hx hb dX2_whereIs_99 (by decide) ?_
          refine lv_iadd hx hb dX2_whereIs_100 ?_
          obtain ⟨v_101, hv_101, hs⟩ := op_bd hs
          refine gx_iald hx hb hK hP 2 0 rfl rfl hv_101 dX2_whereIs_101 ?_
          refine lv_icmp_ge (tgt := 109) hx hb dX2_whereIs_102 (by decide) (fun c_102 => ?_) (fun c_102 => ?_)
          · replace hs := it_t c_102 hs
            refine lv_iconst (v := 0) hx hb dX2_whereIs_109 (by decide) ?_
            exact J_110 x3 x4 x5 0 hs _ (lv_sub hl [0, 1, 2, 3, 4, 5] rfl)
          · replace hs := it_f c_102 hs
            refine lv_iconst (v := 1) hx hb dX2_whereIs_105 (by decide) ?_
            refine lv_goto (tgt := 110) hx hb dX2_whereIs_106 (by decide) ?_
            exact J_110 x3 x4 x5 1 hs _ (lv_sub hl [0, 1, 2, 3, 4, 5] rfl)
      intro x3 x4 hs ls hl
      rw [s_X2_whereIs_5] at hs
      refine lv_iload hx hb dX2_whereIs_5 (lv_at hl 4 rfl) ?_
      refine lv_aload_n hx hb dX2_whereIs_7 rfl (lv_at hl 0 rfl) ?_
      refine va_get (D := D) (ci := 2) (v := .int (sh_z S)) (C := RX2) (T := TX2) (N := 9) hx hb hts in_X2 hown hK hP 0 rfl rfl 1 (by decide) lk_9 (fun _ h9 => h9) rfl dX2_whereIs_8 ?_
      refine lv_icmp_ge (tgt := 183) hx hb dX2_whereIs_11 (by decide) (fun c_11 => ?_) (fun c_11 => ?_)
      · replace hs := it_t c_11 hs
        refine lv_iload_n hx hb dX2_whereIs_183 rfl (lv_at hl 3 rfl) ?_
        refine lv_if_eq (tgt := 191) hx hb dX2_whereIs_184 (by decide) (fun c_184 => ?_) (fun c_184 => ?_)
        · replace hs := it_t c_184 hs
          refine lv_iconst (v := 0) hx hb dX2_whereIs_191 (by decide) ?_
          obtain rfl := Option.some.inj hs
          exact W.iret hx hb hr (fun t ht hW => ⟨_, rfl, rfl, ht⟩) (fun _ h => by cases h) dX2_whereIs_192
        · replace hs := it_f c_184 hs
          refine lv_iconst (v := 1) hx hb dX2_whereIs_187 (by decide) ?_
          refine lv_goto (tgt := 192) hx hb dX2_whereIs_188 (by decide) ?_
          obtain rfl := Option.some.inj hs
          exact W.iret hx hb hr (fun t ht hW => ⟨_, rfl, rfl, ht⟩) (fun _ h => by cases h) dX2_whereIs_192
      · replace hs := it_f c_11 hs
        refine lv_aload_n hx hb dX2_whereIs_14 rfl (lv_at hl 0 rfl) ?_
        refine lv_iload hx hb dX2_whereIs_15 (lv_at hl 4 rfl) ?_
        refine lv_iload_n hx hb dX2_whereIs_17 rfl (lv_at hl 1 rfl) ?_
        refine lv_iload_n hx hb dX2_whereIs_18 rfl (lv_at hl 2 rfl) ?_
        obtain ⟨v_19, hc_19, hs⟩ := op_bd hs
        refine gx_cSl (va_Run.run (va_runV (As := [.int x4, .int p1, .int p2]) (rest := []) ⟨hx, hb, hml, hown, hts⟩ (c_X2_turn l D cI cJ cZ cS ad h0 sx sy S x4 p1 p2 F hkS v_19 hc_19) (cwV 3 hts gX2_whereIs_X2_turn rfl rfl rfl (by decide +kernel) ⟨Nat.le_of_ble_eq_true rfl, Nat.le_of_ble_eq_true rfl⟩) ⟨gl_blind, va_recv hK hP (ci := 2) (q0 := 0) rfl rfl, gl_ok hK hE (hP.sub [0, 1, 2] rfl)⟩ rfl rfl hl.1 rfl (lv_room (Nat.le_of_ble_eq_true rfl)) dX2_whereIs_19 ⟨Nat.le_of_ble_eq_true rfl, Nat.le_of_ble_eq_true rfl⟩)) ?_
        refine lv_lstore (lv' := [(5, .long v_19), (0, .ref h0), (1, .int p1), (2, .int p2), (3, .int x3), (4, .int x4)]) hx hb dX2_whereIs_22 hl (by decide) rfl (fun ls hl => ?_)
        refine lv_lload hx hb dX2_whereIs_24 (lv_at hl 0 rfl) ?_
        refine lv_lconst (v := 0) hx hb dX2_whereIs_26 (by decide) ?_
        refine W.lcmp hx hb dX2_whereIs_27 ?_
        refine lv_if_ne (tgt := 81) hx hb dX2_whereIs_28 (by decide) (fun c_28 => ?_) (fun c_28 => ?_)
        · replace hs := it_f c_28 hs
          exact J_81 x3 x4 v_19 hs _ (lv_sub hl [1, 2, 3, 4, 5, 0] rfl)
        · replace hs := it_t c_28 hs
          refine lv_aload_n hx hb dX2_whereIs_31 rfl (lv_at hl 1 rfl) ?_
          refine va_get (D := D) (ci := 2) (v := .ref sx) (C := RX2) (T := TX2) (N := 9) hx hb hts in_X2 hown hK hP 0 rfl rfl 3 (by decide) lk_39 (fun _ h9 => h9) rfl dX2_whereIs_32 ?_
          refine lv_iload hx hb dX2_whereIs_35 (lv_at hl 5 rfl) ?_
          obtain ⟨v_37, hv_37, hs⟩ := op_bd hs
          refine gx_iald hx hb hK hP 1 0 rfl rfl hv_37 dX2_whereIs_37 ?_
          refine lv_aload_n hx hb dX2_whereIs_38 rfl (lv_at hl 1 rfl) ?_
          refine va_get (D := D) (ci := 2) (v := .ref sx) (C := RX2) (T := TX2) (N := 9) hx hb hts in_X2 hown hK hP 0 rfl rfl 3 (by decide) lk_39 (fun _ h9 => h9) rfl dX2_whereIs_39 ?_
          refine lv_iload hx hb dX2_whereIs_42 (lv_at hl 5 rfl) ?_
          refine lv_iconst (v := 1) hx hb dX2_whereIs_44 (by decide) ?_
          refine lv_iadd hx hb dX2_whereIs_45 ?_
          obtain ⟨v_46, hv_46, hs⟩ := op_bd hs
          refine gx_iald hx hb hK hP 1 0 rfl rfl hv_46 dX2_whereIs_46 ?_
          refine lv_iload_n hx hb dX2_whereIs_47 rfl (lv_at hl 2 rfl) ?_
          refine lv_iload_n hx hb dX2_whereIs_48 rfl (lv_at hl 2 rfl) ?_
          obtain ⟨v_49, hc_49, hs⟩ := op_bd hs
          refine gx_cSi (va_Run.run (va_runS (As := [.int v_37, .int v_46, .int p1, .int p1]) (rest := []) ⟨hx, hb, hml, hown, hts⟩ (c_X2_overlap l D cI cJ cZ cS ad v_37 v_46 p1 p1 F  v_49 hc_49) (va_cwS 4 hts gX2_whereIs_X2_overlap rfl rfl rfl (by decide +kernel) ⟨Nat.le_of_ble_eq_true rfl, Nat.le_of_ble_eq_true rfl⟩) ⟨gl_blind, gl_ok hK hE trivial⟩ rfl rfl hl.1 rfl (lv_room (Nat.le_of_ble_eq_true rfl)) dX2_whereIs_49 ⟨Nat.le_of_ble_eq_true rfl, Nat.le_of_ble_eq_true rfl⟩)) ?_
          refine lv_if_eq (tgt := 81) hx hb dX2_whereIs_52 (by decide) (fun c_52 => ?_) (fun c_52 => ?_)
          · replace hs := it_t c_52 hs
            exact J_81 x3 x4 v_19 hs _ (lv_sub hl [1, 2, 3, 4, 5, 0] rfl)
          · replace hs := it_f c_52 hs
            refine lv_aload_n hx hb dX2_whereIs_55 rfl (lv_at hl 1 rfl) ?_
            refine va_get (D := D) (ci := 2) (v := .ref sy) (C := RX2) (T := TX2) (N := 9) hx hb hts in_X2 hown hK hP 0 rfl rfl 4 (by decide) lk_43 (fun _ h9 => h9) rfl dX2_whereIs_56 ?_
            refine lv_iload hx hb dX2_whereIs_59 (lv_at hl 5 rfl) ?_
            obtain ⟨v_61, hv_61, hs⟩ := op_bd hs
            refine gx_iald hx hb hK hP 2 0 rfl rfl hv_61 dX2_whereIs_61 ?_
            refine lv_aload_n hx hb dX2_whereIs_62 rfl (lv_at hl 1 rfl) ?_
            refine va_get (D := D) (ci := 2) (v := .ref sy) (C := RX2) (T := TX2) (N := 9) hx hb hts in_X2 hown hK hP 0 rfl rfl 4 (by decide) lk_43 (fun _ h9 => h9) rfl dX2_whereIs_63 ?_
            refine lv_iload hx hb dX2_whereIs_66 (lv_at hl 5 rfl) ?_
            refine lv_iconst (v := 1) hx hb dX2_whereIs_68 (by decide) ?_
            refine lv_iadd hx hb dX2_whereIs_69 ?_
            obtain ⟨v_70, hv_70, hs⟩ := op_bd hs
            refine gx_iald hx hb hK hP 2 0 rfl rfl hv_70 dX2_whereIs_70 ?_
            refine lv_iload_n hx hb dX2_whereIs_71 rfl (lv_at hl 3 rfl) ?_
            refine lv_iload_n hx hb dX2_whereIs_72 rfl (lv_at hl 3 rfl) ?_
            obtain ⟨v_73, hc_73, hs⟩ := op_bd hs
            refine gx_cSi (va_Run.run (va_runS (As := [.int v_61, .int v_70, .int p2, .int p2]) (rest := []) ⟨hx, hb, hml, hown, hts⟩ (c_X2_overlap l D cI cJ cZ cS ad v_61 v_70 p2 p2 F  v_73 hc_73) (va_cwS 4 hts gX2_whereIs_X2_overlap rfl rfl rfl (by decide +kernel) ⟨Nat.le_of_ble_eq_true rfl, Nat.le_of_ble_eq_true rfl⟩) ⟨gl_blind, gl_ok hK hE trivial⟩ rfl rfl hl.1 rfl (lv_room (Nat.le_of_ble_eq_true rfl)) dX2_whereIs_73 ⟨Nat.le_of_ble_eq_true rfl, Nat.le_of_ble_eq_true rfl⟩)) ?_
            refine lv_if_eq (tgt := 81) hx hb dX2_whereIs_76 (by decide) (fun c_76 => ?_) (fun c_76 => ?_)
            · replace hs := it_t c_76 hs
              exact J_81 x3 x4 v_19 hs _ (lv_sub hl [1, 2, 3, 4, 5, 0] rfl)
            · replace hs := it_f c_76 hs
              refine lv_iconst (v := 2) hx hb dX2_whereIs_79 (by decide) ?_
              obtain rfl := Option.some.inj hs
              exact W.iret hx hb hr (fun t ht hW => ⟨_, rfl, rfl, ht⟩) (fun _ h => by cases h) dX2_whereIs_80
  have hl := lv_entry ([.ref h0, .int p1, .int p2]) (n := 9) (Nat.le_of_ble_eq_true rfl)
  rw [lg_entry_eq]
  generalize (lg_sl ([.ref h0, .int p1, .int p2]) ++ List.replicate (9 - (lg_sl ([.ref h0, .int p1, .int p2])).length) Slot.unset).toArray = ls at hl ⊢
  have hl : lv_has ls 9 [(0, .ref h0), (1, .int p1), (2, .int p2)] := hl
  rw [s_X2_whereIs] at hs
  refine lv_iconst (v := 0) hx hb dX2_whereIs_0 (by decide) ?_
  refine lv_istore_n (lv' := [(3, .int 0), (0, .ref h0), (1, .int p1), (2, .int p2)]) hx hb dX2_whereIs_1 rfl hl (by decide) rfl (fun ls hl => ?_)
  refine lv_iconst (v := 0) hx hb dX2_whereIs_2 (by decide) ?_
  refine lv_istore (lv' := [(4, .int 0), (3, .int 0), (0, .ref h0), (1, .int p1), (2, .int p2)]) hx hb dX2_whereIs_3 hl (by decide) rfl (fun ls hl => ?_)
  exact J_5 F 0 0 hs _ (lv_sub hl [2, 3, 4, 1, 0] rfl)
def s_X2_holds (F : Nat) (S : sh_T) (p1 : Int32) (p2 : Int32) : Option Int32 :=
  if (sh_k S) = 2 then
    (s_X2_whereIs F S p1 p2).bind fun v_13 =>
    if v_13 = 0 then
      some 0
    else
      some 1
  else
    some 0
abbrev rm_X2_holds : Room := { frames := 3, cells := 0, slots := 0, locals := 72 }
theorem in_X2_holds_X2 : ∀ w ∈ wsX20, w ∈ wsX2_holds := by decide +kernel
set_option maxHeartbeats 4000000 in
set_option maxRecDepth 100000 in
theorem c_X2_holds (l : Launch) (D : va_G) (cI cJ cZ cS : ClassId) (ad : Nat → Nat) (h0 sx sy : Nat) (S : sh_T) (p1 : Int32) (p2 : Int32) (F : Nat) (hkS : sh_k S < 3) (r : Int32) (hs : s_X2_holds F S p1 p2 = some r) : Met l yX2_holds wsX2_holds rm_X2_holds (gl_P D cI cJ cZ cS ad [.ref h0, .int p1, .int p2] (fun H => va_P D vwCl (sh_w cI ad h0 sx sy S) H)) (vp_Si (fun v => v = r)) 0 0 (fun _ => False) := by
  refine Met.ofW (cc := cX2_holds) (maxL := 3) (ret := (some .boolean)) (by decide) rfl ?_
  intro p e s m args below meth c s₁ B hml hv
  obtain ⟨rfl, hK, hE, hP⟩ := hv
  have hx := B.exec
  have hb := B.bytes
  have hr := B.returns
  have hts := atoms_spec (ws := wsX2_holds) B.pre
  have hown : s.vm.findClass RX2 = some m.cls := findClass_of_methodNamed B.named
  have hlocks := B.notSynchronized
  have lk_30 := hts (.fieldLink RX2 30 "PlacePoints$Shape" "kind" "LPlacePoints$Kind;") (by decide +kernel)
  have in_X2 := in_X2_holds_X2
  have hl := lv_entry ([.ref h0, .int p1, .int p2]) (n := 3) (Nat.le_of_ble_eq_true rfl)
  rw [lg_entry_eq]
  generalize (lg_sl ([.ref h0, .int p1, .int p2]) ++ List.replicate (3 - (lg_sl ([.ref h0, .int p1, .int p2])).length) Slot.unset).toArray = ls at hl ⊢
  have hl : lv_has ls 3 [(0, .ref h0), (1, .int p1), (2, .int p2)] := hl
  rw [s_X2_holds] at hs
  refine lv_aload_n hx hb dX2_holds_0 rfl (lv_at hl 0 rfl) ?_
  refine va_get (D := D) (ci := 2) (v := .ref (ad (sh_k S))) (C := RX2) (T := TX2) (N := 9) hx hb hts in_X2 hown hK hP 0 rfl rfl 0 (by decide) lk_30 (fun _ h9 => h9) rfl dX2_holds_1 ?_
  refine va_gets hx hb (hE.1 2 (by decide)).1 va_S.rf hown (hts (.fieldLink RX2 103 "PlacePoints$Kind" "POLYGON" "LPlacePoints$Kind;") (by decide +kernel)) (fun _ h9 => h9) dX2_holds_4 ?_
  refine W.eq (g2 := F0 m 7 ls [.ref (ad 2), .ref (ad (sh_k S))]) rfl ?_
  refine gx_acmp_ne (tgt := 23) hE (show (sh_k S) < 3 from hkS) (show 2 < 3 from (by decide)) hx hb dX2_holds_7 (by decide) (fun c_7 => ?_) (fun c_7 => ?_)
  · replace hs := it_f c_7 hs
    refine lv_iconst (v := 0) hx hb dX2_holds_23 (by decide) ?_
    obtain rfl := Option.some.inj hs
    exact W.zret hx hb hr rfl (fun t ht hW => ⟨_, rfl, rfl, ht⟩) (fun _ h => by cases h) dX2_holds_24
  · replace hs := it_t c_7 hs
    refine lv_aload_n hx hb dX2_holds_10 rfl (lv_at hl 0 rfl) ?_
    refine lv_iload_n hx hb dX2_holds_11 rfl (lv_at hl 1 rfl) ?_
    refine lv_iload_n hx hb dX2_holds_12 rfl (lv_at hl 2 rfl) ?_
    obtain ⟨v_13, hc_13, hs⟩ := op_bd hs
    refine gx_cSi (va_Run.run (va_runV (As := [.int p1, .int p2]) (rest := []) ⟨hx, hb, hml, hown, hts⟩ (c_X2_whereIs l D cI cJ cZ cS ad h0 sx sy S p1 p2 F hkS v_13 hc_13) (cwV 2 hts gX2_holds_X2_whereIs rfl rfl rfl (by decide +kernel) ⟨Nat.le_of_ble_eq_true rfl, Nat.le_of_ble_eq_true rfl⟩) ⟨gl_blind, va_recv hK hP (ci := 2) (q0 := 0) rfl rfl, gl_ok hK hE (hP.sub [0, 1, 2] rfl)⟩ rfl rfl hl.1 rfl (lv_room (Nat.le_of_ble_eq_true rfl)) dX2_holds_13 ⟨Nat.le_of_ble_eq_true rfl, Nat.le_of_ble_eq_true rfl⟩)) ?_
    refine lv_if_eq (tgt := 23) hx hb dX2_holds_16 (by decide) (fun c_16 => ?_) (fun c_16 => ?_)
    · replace hs := it_t c_16 hs
      refine lv_iconst (v := 0) hx hb dX2_holds_23 (by decide) ?_
      obtain rfl := Option.some.inj hs
      exact W.zret hx hb hr rfl (fun t ht hW => ⟨_, rfl, rfl, ht⟩) (fun _ h => by cases h) dX2_holds_24
    · replace hs := it_f c_16 hs
      refine lv_iconst (v := 1) hx hb dX2_holds_19 (by decide) ?_
      refine lv_goto (tgt := 24) hx hb dX2_holds_20 (by decide) ?_
      obtain rfl := Option.some.inj hs
      exact W.zret hx hb hr rfl (fun t ht hW => ⟨_, rfl, rfl, ht⟩) (fun _ h => by cases h) dX2_holds_24
def s_X2_touches_12 (F : Nat) (S : sh_T) (T : sh_T) (kc_2 : Int32 → Option Int32) : Nat → Int32 → Int32 → Option Int32
  | 0, _, _ => none
  | n + 1, x2, x3 =>
    (s_X2_sideCount F T).bind fun v_14 =>
    if v_14 ≤ x3 then
      (some (x2 + 1)).bind fun e_38 =>
      kc_2 e_38
    else
      (s_X2_sideTouches F S x2 T x3).bind fun v_24 =>
      if v_24 = 0 then
        (some (x3 + 1)).bind fun e_32 =>
        s_X2_touches_12 F S T kc_2 n x2 e_32
      else
        some 1
def s_X2_touches_2 (F : Nat) (S : sh_T) (T : sh_T) : Nat → Int32 → Option Int32
  | 0, _ => none
  | n + 1, x2 =>
    (s_X2_sideCount F S).bind fun v_4 =>
    if v_4 ≤ x2 then
      (rd_i (sh_n T) (sh_x T) 0).bind fun v_50 =>
      (rd_i (sh_n T) (sh_y T) 0).bind fun v_56 =>
      (s_X2_holds F S v_50 v_56).bind fun v_57 =>
      if v_57 = 0 then
        (rd_i (sh_n S) (sh_x S) 0).bind fun v_69 =>
        (rd_i (sh_n S) (sh_y S) 0).bind fun v_75 =>
        (s_X2_holds F T v_69 v_75).bind fun v_76 =>
        if v_76 = 0 then
          some 0
        else
          some 1
      else
        some 1
    else
      s_X2_touches_12 F S T (fun y0 => s_X2_touches_2 F S T n y0) F x2 0
def s_X2_touches (F : Nat) (S : sh_T) (T : sh_T) : Option Int32 :=
  s_X2_touches_2 F S T F 0
abbrev rm_X2_touches : Room := { frames := 4, cells := 0, slots := 0, locals := 94 }
theorem in_X2_touches_X2 : ∀ w ∈ wsX20, w ∈ wsX2_touches := by decide +kernel
set_option maxHeartbeats 4000000 in
set_option maxRecDepth 100000 in
theorem c_X2_touches (l : Launch) (D : va_G) (cI cJ cZ cS : ClassId) (ad : Nat → Nat) (h0 sx sy k0 kx ky : Nat) (S : sh_T) (T : sh_T) (F : Nat) (hkS : sh_k S < 3) (hkT : sh_k T < 3) (r : Int32) (hs : s_X2_touches F S T = some r) : Met l yX2_touches wsX2_touches rm_X2_touches (gl_P D cI cJ cZ cS ad [.ref h0, .ref k0] (fun H => va_P D vwCl (sh_w cI ad h0 sx sy S ++ sh_w cI ad k0 kx ky T) H)) (vp_Si (fun v => v = r)) 0 0 (fun _ => False) := by
  refine Met.ofW (cc := cX2_touches) (maxL := 4) (ret := (some .boolean)) (by decide) rfl ?_
  intro p e s m args below meth c s₁ B hml hv
  obtain ⟨rfl, hK, hE, hP⟩ := hv
  have hx := B.exec
  have hb := B.bytes
  have hr := B.returns
  have hts := atoms_spec (ws := wsX2_touches) B.pre
  have hown : s.vm.findClass RX2 = some m.cls := findClass_of_methodNamed B.named
  have hlocks := B.notSynchronized
  have lk_39 := hts (.fieldLink RX2 39 "PlacePoints$Shape" "xs" "[I") (by decide +kernel)
  have lk_43 := hts (.fieldLink RX2 43 "PlacePoints$Shape" "ys" "[I") (by decide +kernel)
  have in_X2 := in_X2_touches_X2
  have J_2 : ∀ (n_2 : Nat) (x2 : Int32), s_X2_touches_2 F S T n_2 x2 = some r → ∀ ls : Array Slot, lv_has ls 4 [(0, .ref h0), (1, .ref k0), (2, .int x2)] → W p l e (headSpec wsX2_touches rm_X2_touches).room s m ([.ref h0, .ref k0] : List Value).toArray below meth c s.heap [] 0 0 (MQ below (vp_Si (fun v => v = r)) ([.ref h0, .ref k0] : List Value).toArray s 0 0 (fun _ => False)) (F0 m 2 ls []) := by
    intro n_2
    induction n_2 with
    | zero =>
      intro x2 hs
      cases hs
    | succ n_2 ih_2 =>
      have J_12 : ∀ (n_12 : Nat) (x2 : Int32) (x3 : Int32), s_X2_touches_12 F S T (fun y0 => s_X2_touches_2 F S T n_2 y0) n_12 x2 x3 = some r → ∀ ls : Array Slot, lv_has ls 4 [(0, .ref h0), (1, .ref k0), (2, .int x2), (3, .int x3)] → W p l e (headSpec wsX2_touches rm_X2_touches).room s m ([.ref h0, .ref k0] : List Value).toArray below meth c s.heap [] 0 0 (MQ below (vp_Si (fun v => v = r)) ([.ref h0, .ref k0] : List Value).toArray s 0 0 (fun _ => False)) (F0 m 12 ls []) := by
        intro n_12
        induction n_12 with
        | zero =>
          intro x2 x3 hs
          cases hs
        | succ n_12 ih_12 =>
          intro x2 x3 hs ls hl
          rw [s_X2_touches_12] at hs
          refine lv_iload_n hx hb dX2_touches_12 rfl (lv_at hl 3 rfl) ?_
          refine lv_aload_n hx hb dX2_touches_13 rfl (lv_at hl 1 rfl) ?_
          obtain ⟨v_14, hc_14, hs⟩ := op_bd hs
          refine gx_cSi (va_Run.run (va_runV (As := []) (rest := [.int x3]) ⟨hx, hb, hml, hown, hts⟩ (c_X2_sideCount l D cI cJ cZ cS ad k0 kx ky T F hkT v_14 hc_14) (cwV 0 hts gX2_touches_X2_sideCount rfl rfl rfl (by decide +kernel) ⟨Nat.le_of_ble_eq_true rfl, Nat.le_of_ble_eq_true rfl⟩) ⟨gl_blind, va_recv hK hP (ci := 2) (q0 := 3) rfl rfl, gl_ok hK hE (hP.sub [3, 4, 5] rfl)⟩ rfl rfl hl.1 rfl (lv_room (Nat.le_of_ble_eq_true rfl)) dX2_touches_14 ⟨Nat.le_of_ble_eq_true rfl, Nat.le_of_ble_eq_true rfl⟩)) ?_
          refine lv_icmp_ge (tgt := 38) hx hb dX2_touches_17 (by decide) (fun c_17 => ?_) (fun c_17 => ?_)
          · replace hs := it_t c_17 hs
            obtain ⟨e_38, hv_38, hs⟩ := op_bd hs
            refine lv_iinc (v := e_38) (lv' := [(2, .int e_38), (0, .ref h0), (1, .ref k0), (3, .int x3)]) hx hb dX2_touches_38 hl (k := 2) rfl (Option.some.inj hv_38) (by decide) rfl (fun ls hl => ?_)
            refine lv_goto (tgt := 2) hx hb dX2_touches_41 (by decide) ?_
            exact ih_2 e_38 hs _ (lv_sub hl [1, 2, 0] rfl)
          · replace hs := it_f c_17 hs
            refine lv_aload_n hx hb dX2_touches_20 rfl (lv_at hl 0 rfl) ?_
            refine lv_iload_n hx hb dX2_touches_21 rfl (lv_at hl 2 rfl) ?_
            refine lv_aload_n hx hb dX2_touches_22 rfl (lv_at hl 1 rfl) ?_
            refine lv_iload_n hx hb dX2_touches_23 rfl (lv_at hl 3 rfl) ?_
            obtain ⟨v_24, hc_24, hs⟩ := op_bd hs
            refine gx_cSi (va_Run.run (va_runV (As := [.int x2, .ref k0, .int x3]) (rest := []) ⟨hx, hb, hml, hown, hts⟩ (c_X2_sideTouches l D cI cJ cZ cS ad h0 sx sy k0 kx ky S x2 T x3 F hkS hkT v_24 hc_24) (cwV 3 hts gX2_touches_X2_sideTouches rfl rfl rfl (by decide +kernel) ⟨Nat.le_of_ble_eq_true rfl, Nat.le_of_ble_eq_true rfl⟩) ⟨gl_blind, va_recv hK hP (ci := 2) (q0 := 0) rfl rfl, gl_ok hK hE (hP.sub [0, 1, 2, 3, 4, 5] rfl)⟩ rfl rfl hl.1 rfl (lv_room (Nat.le_of_ble_eq_true rfl)) dX2_touches_24 ⟨Nat.le_of_ble_eq_true rfl, Nat.le_of_ble_eq_true rfl⟩)) ?_
            refine lv_if_eq (tgt := 32) hx hb dX2_touches_27 (by decide) (fun c_27 => ?_) (fun c_27 => ?_)
            · replace hs := it_t c_27 hs
              obtain ⟨e_32, hv_32, hs⟩ := op_bd hs
              refine lv_iinc (v := e_32) (lv' := [(3, .int e_32), (0, .ref h0), (1, .ref k0), (2, .int x2)]) hx hb dX2_touches_32 hl (k := 3) rfl (Option.some.inj hv_32) (by decide) rfl (fun ls hl => ?_)
              refine lv_goto (tgt := 12) hx hb dX2_touches_35 (by decide) ?_
              exact ih_12 x2 e_32 hs _ (lv_sub hl [1, 2, 3, 0] rfl)
            · replace hs := it_f c_27 hs
              refine lv_iconst (v := 1) hx hb dX2_touches_30 (by decide) ?_
              obtain rfl := Option.some.inj hs
              exact W.zret hx hb hr rfl (fun t ht hW => ⟨_, rfl, rfl, ht⟩) (fun _ h => by cases h) dX2_touches_31
      intro x2 hs ls hl
      rw [s_X2_touches_2] at hs
      refine lv_iload_n hx hb dX2_touches_2 rfl (lv_at hl 2 rfl) ?_
      refine lv_aload_n hx hb dX2_touches_3 rfl (lv_at hl 0 rfl) ?_
      obtain ⟨v_4, hc_4, hs⟩ := op_bd hs
      refine gx_cSi (va_Run.run (va_runV (As := []) (rest := [.int x2]) ⟨hx, hb, hml, hown, hts⟩ (c_X2_sideCount l D cI cJ cZ cS ad h0 sx sy S F hkS v_4 hc_4) (cwV 0 hts gX2_touches_X2_sideCount rfl rfl rfl (by decide +kernel) ⟨Nat.le_of_ble_eq_true rfl, Nat.le_of_ble_eq_true rfl⟩) ⟨gl_blind, va_recv hK hP (ci := 2) (q0 := 0) rfl rfl, gl_ok hK hE (hP.sub [0, 1, 2] rfl)⟩ rfl rfl hl.1 rfl (lv_room (Nat.le_of_ble_eq_true rfl)) dX2_touches_4 ⟨Nat.le_of_ble_eq_true rfl, Nat.le_of_ble_eq_true rfl⟩)) ?_
      refine lv_icmp_ge (tgt := 44) hx hb dX2_touches_7 (by decide) (fun c_7 => ?_) (fun c_7 => ?_)
      · replace hs := it_t c_7 hs
        refine lv_aload_n hx hb dX2_touches_44 rfl (lv_at hl 0 rfl) ?_
        refine lv_aload_n hx hb dX2_touches_45 rfl (lv_at hl 1 rfl) ?_
        refine va_get (D := D) (ci := 2) (v := .ref kx) (C := RX2) (T := TX2) (N := 9) hx hb hts in_X2 hown hK hP 3 rfl rfl 3 (by decide) lk_39 (fun _ h9 => h9) rfl dX2_touches_46 ?_
        refine lv_iconst (v := 0) hx hb dX2_touches_49 (by decide) ?_
        obtain ⟨v_50, hv_50, hs⟩ := op_bd hs
        refine gx_iald hx hb hK hP 4 0 rfl rfl hv_50 dX2_touches_50 ?_
        refine lv_aload_n hx hb dX2_touches_51 rfl (lv_at hl 1 rfl) ?_
        refine va_get (D := D) (ci := 2) (v := .ref ky) (C := RX2) (T := TX2) (N := 9) hx hb hts in_X2 hown hK hP 3 rfl rfl 4 (by decide) lk_43 (fun _ h9 => h9) rfl dX2_touches_52 ?_
        refine lv_iconst (v := 0) hx hb dX2_touches_55 (by decide) ?_
        obtain ⟨v_56, hv_56, hs⟩ := op_bd hs
        refine gx_iald hx hb hK hP 5 0 rfl rfl hv_56 dX2_touches_56 ?_
        obtain ⟨v_57, hc_57, hs⟩ := op_bd hs
        refine gx_cSi (va_Run.run (va_runV (As := [.int v_50, .int v_56]) (rest := []) ⟨hx, hb, hml, hown, hts⟩ (c_X2_holds l D cI cJ cZ cS ad h0 sx sy S v_50 v_56 F hkS v_57 hc_57) (cwV 2 hts gX2_touches_X2_holds rfl rfl rfl (by decide +kernel) ⟨Nat.le_of_ble_eq_true rfl, Nat.le_of_ble_eq_true rfl⟩) ⟨gl_blind, va_recv hK hP (ci := 2) (q0 := 0) rfl rfl, gl_ok hK hE (hP.sub [0, 1, 2] rfl)⟩ rfl rfl hl.1 rfl (lv_room (Nat.le_of_ble_eq_true rfl)) dX2_touches_57 ⟨Nat.le_of_ble_eq_true rfl, Nat.le_of_ble_eq_true rfl⟩)) ?_
        refine lv_if_ne (tgt := 82) hx hb dX2_touches_60 (by decide) (fun c_60 => ?_) (fun c_60 => ?_)
        · replace hs := it_f c_60 hs
          refine lv_iconst (v := 1) hx hb dX2_touches_82 (by decide) ?_
          refine lv_goto (tgt := 87) hx hb dX2_touches_83 (by decide) ?_
          obtain rfl := Option.some.inj hs
          exact W.zret hx hb hr rfl (fun t ht hW => ⟨_, rfl, rfl, ht⟩) (fun _ h => by cases h) dX2_touches_87
        · replace hs := it_t c_60 hs
          refine lv_aload_n hx hb dX2_touches_63 rfl (lv_at hl 1 rfl) ?_
          refine lv_aload_n hx hb dX2_touches_64 rfl (lv_at hl 0 rfl) ?_
          refine va_get (D := D) (ci := 2) (v := .ref sx) (C := RX2) (T := TX2) (N := 9) hx hb hts in_X2 hown hK hP 0 rfl rfl 3 (by decide) lk_39 (fun _ h9 => h9) rfl dX2_touches_65 ?_
          refine lv_iconst (v := 0) hx hb dX2_touches_68 (by decide) ?_
          obtain ⟨v_69, hv_69, hs⟩ := op_bd hs
          refine gx_iald hx hb hK hP 1 0 rfl rfl hv_69 dX2_touches_69 ?_
          refine lv_aload_n hx hb dX2_touches_70 rfl (lv_at hl 0 rfl) ?_
          refine va_get (D := D) (ci := 2) (v := .ref sy) (C := RX2) (T := TX2) (N := 9) hx hb hts in_X2 hown hK hP 0 rfl rfl 4 (by decide) lk_43 (fun _ h9 => h9) rfl dX2_touches_71 ?_
          refine lv_iconst (v := 0) hx hb dX2_touches_74 (by decide) ?_
          obtain ⟨v_75, hv_75, hs⟩ := op_bd hs
          refine gx_iald hx hb hK hP 2 0 rfl rfl hv_75 dX2_touches_75 ?_
          obtain ⟨v_76, hc_76, hs⟩ := op_bd hs
          refine gx_cSi (va_Run.run (va_runV (As := [.int v_69, .int v_75]) (rest := []) ⟨hx, hb, hml, hown, hts⟩ (c_X2_holds l D cI cJ cZ cS ad k0 kx ky T v_69 v_75 F hkT v_76 hc_76) (cwV 2 hts gX2_touches_X2_holds rfl rfl rfl (by decide +kernel) ⟨Nat.le_of_ble_eq_true rfl, Nat.le_of_ble_eq_true rfl⟩) ⟨gl_blind, va_recv hK hP (ci := 2) (q0 := 3) rfl rfl, gl_ok hK hE (hP.sub [3, 4, 5] rfl)⟩ rfl rfl hl.1 rfl (lv_room (Nat.le_of_ble_eq_true rfl)) dX2_touches_76 ⟨Nat.le_of_ble_eq_true rfl, Nat.le_of_ble_eq_true rfl⟩)) ?_
          refine lv_if_eq (tgt := 86) hx hb dX2_touches_79 (by decide) (fun c_79 => ?_) (fun c_79 => ?_)
          · replace hs := it_t c_79 hs
            refine lv_iconst (v := 0) hx hb dX2_touches_86 (by decide) ?_
            obtain rfl := Option.some.inj hs
            exact W.zret hx hb hr rfl (fun t ht hW => ⟨_, rfl, rfl, ht⟩) (fun _ h => by cases h) dX2_touches_87
          · replace hs := it_f c_79 hs
            refine lv_iconst (v := 1) hx hb dX2_touches_82 (by decide) ?_
            refine lv_goto (tgt := 87) hx hb dX2_touches_83 (by decide) ?_
            obtain rfl := Option.some.inj hs
            exact W.zret hx hb hr rfl (fun t ht hW => ⟨_, rfl, rfl, ht⟩) (fun _ h => by cases h) dX2_touches_87
      · replace hs := it_f c_7 hs
        refine lv_iconst (v := 0) hx hb dX2_touches_10 (by decide) ?_
        refine lv_istore_n (lv' := [(3, .int 0), (0, .ref h0), (1, .ref k0), (2, .int x2)]) hx hb dX2_touches_11 rfl hl (by decide) rfl (fun ls hl => ?_)
        exact J_12 F x2 0 hs _ (lv_sub hl [1, 2, 3, 0] rfl)
  have hl := lv_entry ([.ref h0, .ref k0]) (n := 4) (Nat.le_of_ble_eq_true rfl)
  rw [lg_entry_eq]
  generalize (lg_sl ([.ref h0, .ref k0]) ++ List.replicate (4 - (lg_sl ([.ref h0, .ref k0])).length) Slot.unset).toArray = ls at hl ⊢
  have hl : lv_has ls 4 [(0, .ref h0), (1, .ref k0)] := hl
  rw [s_X2_touches] at hs
  refine lv_iconst (v := 0) hx hb dX2_touches_0 (by decide) ?_
  refine lv_istore_n (lv' := [(2, .int 0), (0, .ref h0), (1, .ref k0)]) hx hb dX2_touches_1 rfl hl (by decide) rfl (fun ls hl => ?_)
  exact J_2 F 0 hs _ (lv_sub hl [1, 2, 0] rfl)
def s_X2_isWrongSide_52 (F : Nat) (S : sh_T) (p1 : Int32) : Nat → Int32 → Option Int32
  | 0, _ => none
  | n + 1, x2 =>
    if (sh_z S) ≤ x2 then
      some 0
    else
      (s_X2_clash F S p1 x2).bind fun v_63 =>
      if v_63 = 0 then
        (some (x2 + 1)).bind fun e_71 =>
        s_X2_isWrongSide_52 F S p1 n e_71
      else
        some 1
def s_X2_isWrongSide_36 (F : Nat) (S : sh_T) (p1 : Int32) : Option Int32 :=
  if (sh_k S) = 2 then
    (some ((p1 + 1))).bind fun e_51 =>
    s_X2_isWrongSide_52 F S p1 F e_51
  else
    some 0
def s_X2_isWrongSide (F : Nat) (S : sh_T) (p1 : Int32) : Option Int32 :=
  (rd_i (sh_n S) (sh_x S) p1).bind fun v_5 =>
  (rd_i (sh_n S) (sh_x S) (p1 + 1)).bind fun v_13 =>
  if v_5 = v_13 then
    (rd_i (sh_n S) (sh_y S) p1).bind fun v_22 =>
    (rd_i (sh_n S) (sh_y S) (p1 + 1)).bind fun v_30 =>
    if v_22 = v_30 then
      some 1
    else
      s_X2_isWrongSide_36 F S p1 
  else
    s_X2_isWrongSide_36 F S p1 
abbrev rm_X2_isWrongSide : Room := { frames := 4, cells := 0, slots := 0, locals := 91 }
theorem in_X2_isWrongSide_X2 : ∀ w ∈ wsX20, w ∈ wsX2_isWrongSide := by decide +kernel
set_option maxHeartbeats 4000000 in
set_option maxRecDepth 100000 in
theorem c_X2_isWrongSide (l : Launch) (D : va_G) (cI cJ cZ cS : ClassId) (ad : Nat → Nat) (h0 sx sy : Nat) (S : sh_T) (p1 : Int32) (F : Nat) (hkS : sh_k S < 3) (r : Int32) (hs : s_X2_isWrongSide F S p1 = some r) : Met l yX2_isWrongSide wsX2_isWrongSide rm_X2_isWrongSide (gl_P D cI cJ cZ cS ad [.ref h0, .int p1] (fun H => va_P D vwCl (sh_w cI ad h0 sx sy S) H)) (vp_Si (fun v => v = r)) 0 0 (fun _ => False) := by
  refine Met.ofW (cc := cX2_isWrongSide) (maxL := 3) (ret := (some .boolean)) (by decide) rfl ?_
  intro p e s m args below meth c s₁ B hml hv
  obtain ⟨rfl, hK, hE, hP⟩ := hv
  have hx := B.exec
  have hb := B.bytes
  have hr := B.returns
  have hts := atoms_spec (ws := wsX2_isWrongSide) B.pre
  have hown : s.vm.findClass RX2 = some m.cls := findClass_of_methodNamed B.named
  have hlocks := B.notSynchronized
  have lk_9 := hts (.fieldLink RX2 9 "PlacePoints$Shape" "size" "I") (by decide +kernel)
  have lk_30 := hts (.fieldLink RX2 30 "PlacePoints$Shape" "kind" "LPlacePoints$Kind;") (by decide +kernel)
  have lk_39 := hts (.fieldLink RX2 39 "PlacePoints$Shape" "xs" "[I") (by decide +kernel)
  have lk_43 := hts (.fieldLink RX2 43 "PlacePoints$Shape" "ys" "[I") (by decide +kernel)
  have in_X2 := in_X2_isWrongSide_X2
  have J_52 : ∀ (n_52 : Nat) (x2 : Int32), s_X2_isWrongSide_52 F S p1 n_52 x2 = some r → ∀ ls : Array Slot, lv_has ls 3 [(0, .ref h0), (1, .int p1), (2, .int x2)] → W p l e (headSpec wsX2_isWrongSide rm_X2_isWrongSide).room s m ([.ref h0, .int p1] : List Value).toArray below meth c s.heap [] 0 0 (MQ below (vp_Si (fun v => v = r)) ([.ref h0, .int p1] : List Value).toArray s 0 0 (fun _ => False)) (F0 m 52 ls []) := by
    intro n_52
    induction n_52 with
    | zero =>
      intro x2 hs
      cases hs
    | succ n_52 ih_52 =>
      intro x2 hs ls hl
      rw [s_X2_isWrongSide_52] at hs
      refine lv_iload_n hx hb dX2_isWrongSide_52 rfl (lv_at hl 2 rfl) ?_
      refine lv_aload_n hx hb dX2_isWrongSide_53 rfl (lv_at hl 0 rfl) ?_
      refine va_get (D := D) (ci := 2) (v := .int (sh_z S)) (C := RX2) (T := TX2) (N := 9) hx hb hts in_X2 hown hK hP 0 rfl rfl 1 (by decide) lk_9 (fun _ h9 => h9) rfl dX2_isWrongSide_54 ?_
      refine lv_icmp_ge (tgt := 77) hx hb dX2_isWrongSide_57 (by decide) (fun c_57 => ?_) (fun c_57 => ?_)
      · replace hs := it_t c_57 hs
        refine lv_iconst (v := 0) hx hb dX2_isWrongSide_77 (by decide) ?_
        obtain rfl := Option.some.inj hs
        exact W.zret hx hb hr rfl (fun t ht hW => ⟨_, rfl, rfl, ht⟩) (fun _ h => by cases h) dX2_isWrongSide_78
      · replace hs := it_f c_57 hs
        refine lv_aload_n hx hb dX2_isWrongSide_60 rfl (lv_at hl 0 rfl) ?_
        refine lv_iload_n hx hb dX2_isWrongSide_61 rfl (lv_at hl 1 rfl) ?_
        refine lv_iload_n hx hb dX2_isWrongSide_62 rfl (lv_at hl 2 rfl) ?_
        obtain ⟨v_63, hc_63, hs⟩ := op_bd hs
        refine gx_cSi (va_Run.run (va_runV (As := [.int p1, .int x2]) (rest := []) ⟨hx, hb, hml, hown, hts⟩ (c_X2_clash l D cI cJ cZ cS ad h0 sx sy S p1 x2 F hkS v_63 hc_63) (cwV 2 hts gX2_isWrongSide_X2_clash rfl rfl rfl (by decide +kernel) ⟨Nat.le_of_ble_eq_true rfl, Nat.le_of_ble_eq_true rfl⟩) ⟨gl_blind, va_recv hK hP (ci := 2) (q0 := 0) rfl rfl, gl_ok hK hE (hP.sub [0, 1, 2] rfl)⟩ rfl rfl hl.1 rfl (lv_room (Nat.le_of_ble_eq_true rfl)) dX2_isWrongSide_63 ⟨Nat.le_of_ble_eq_true rfl, Nat.le_of_ble_eq_true rfl⟩)) ?_
        refine lv_if_eq (tgt := 71) hx hb dX2_isWrongSide_66 (by decide) (fun c_66 => ?_) (fun c_66 => ?_)
        · replace hs := it_t c_66 hs
          obtain ⟨e_71, hv_71, hs⟩ := op_bd hs
          refine lv_iinc (v := e_71) (lv' := [(2, .int e_71), (0, .ref h0), (1, .int p1)]) hx hb dX2_isWrongSide_71 hl (k := 2) rfl (Option.some.inj hv_71) (by decide) rfl (fun ls hl => ?_)
          refine lv_goto (tgt := 52) hx hb dX2_isWrongSide_74 (by decide) ?_
          exact ih_52 e_71 hs _ (lv_sub hl [1, 2, 0] rfl)
        · replace hs := it_f c_66 hs
          refine lv_iconst (v := 1) hx hb dX2_isWrongSide_69 (by decide) ?_
          obtain rfl := Option.some.inj hs
          exact W.zret hx hb hr rfl (fun t ht hW => ⟨_, rfl, rfl, ht⟩) (fun _ h => by cases h) dX2_isWrongSide_70
  have J_36 : s_X2_isWrongSide_36 F S p1 = some r → ∀ ls : Array Slot, lv_has ls 3 [(0, .ref h0), (1, .int p1)] → W p l e (headSpec wsX2_isWrongSide rm_X2_isWrongSide).room s m ([.ref h0, .int p1] : List Value).toArray below meth c s.heap [] 0 0 (MQ below (vp_Si (fun v => v = r)) ([.ref h0, .int p1] : List Value).toArray s 0 0 (fun _ => False)) (F0 m 36 ls []) := by
    intro  hs ls hl
    rw [s_X2_isWrongSide_36] at hs
    refine lv_aload_n hx hb dX2_isWrongSide_36 rfl (lv_at hl 0 rfl) ?_
    refine va_get (D := D) (ci := 2) (v := .ref (ad (sh_k S))) (C := RX2) (T := TX2) (N := 9) hx hb hts in_X2 hown hK hP 0 rfl rfl 0 (by decide) lk_30 (fun _ h9 => h9) rfl dX2_isWrongSide_37 ?_
    refine va_gets hx hb (hE.1 2 (by decide)).1 va_S.rf hown (hts (.fieldLink RX2 103 "PlacePoints$Kind" "POLYGON" "LPlacePoints$Kind;") (by decide +kernel)) (fun _ h9 => h9) dX2_isWrongSide_40 ?_
    refine W.eq (g2 := F0 m 43 ls [.ref (ad 2), .ref (ad (sh_k S))]) rfl ?_
    refine gx_acmp_eq (tgt := 48) hE (show (sh_k S) < 3 from hkS) (show 2 < 3 from (by decide)) hx hb dX2_isWrongSide_43 (by decide) (fun c_43 => ?_) (fun c_43 => ?_)
    · replace hs := it_t c_43 hs
      refine lv_iload_n hx hb dX2_isWrongSide_48 rfl (lv_at hl 1 rfl) ?_
      refine lv_iconst (v := 1) hx hb dX2_isWrongSide_49 (by decide) ?_
      refine lv_iadd hx hb dX2_isWrongSide_50 ?_
      obtain ⟨e_51, hv_51, hs⟩ := op_bd hs
      refine gx_ni (Option.some.inj hv_51) ?_
      refine lv_istore_n (lv' := [(2, .int e_51), (0, .ref h0), (1, .int p1)]) hx hb dX2_isWrongSide_51 rfl hl (by decide) rfl (fun ls hl => ?_)
      exact J_52 F e_51 hs _ (lv_sub hl [1, 2, 0] rfl)
    · replace hs := it_f c_43 hs
      refine lv_iconst (v := 0) hx hb dX2_isWrongSide_46 (by decide) ?_
      obtain rfl := Option.some.inj hs
      exact W.zret hx hb hr rfl (fun t ht hW => ⟨_, rfl, rfl, ht⟩) (fun _ h => by cases h) dX2_isWrongSide_47
  have hl := lv_entry ([.ref h0, .int p1]) (n := 3) (Nat.le_of_ble_eq_true rfl)
  rw [lg_entry_eq]
  generalize (lg_sl ([.ref h0, .int p1]) ++ List.replicate (3 - (lg_sl ([.ref h0, .int p1])).length) Slot.unset).toArray = ls at hl ⊢
  have hl : lv_has ls 3 [(0, .ref h0), (1, .int p1)] := hl
  rw [s_X2_isWrongSide] at hs
  refine lv_aload_n hx hb dX2_isWrongSide_0 rfl (lv_at hl 0 rfl) ?_
  refine va_get (D := D) (ci := 2) (v := .ref sx) (C := RX2) (T := TX2) (N := 9) hx hb hts in_X2 hown hK hP 0 rfl rfl 3 (by decide) lk_39 (fun _ h9 => h9) rfl dX2_isWrongSide_1 ?_
  refine lv_iload_n hx hb dX2_isWrongSide_4 rfl (lv_at hl 1 rfl) ?_
  obtain ⟨v_5, hv_5, hs⟩ := op_bd hs
  refine gx_iald hx hb hK hP 1 0 rfl rfl hv_5 dX2_isWrongSide_5 ?_
  refine lv_aload_n hx hb dX2_isWrongSide_6 rfl (lv_at hl 0 rfl) ?_
  refine va_get (D := D) (ci := 2) (v := .ref sx) (C := RX2) (T := TX2) (N := 9) hx hb hts in_X2 hown hK hP 0 rfl rfl 3 (by decide) lk_39 (fun _ h9 => h9) rfl dX2_isWrongSide_7 ?_
  refine lv_iload_n hx hb dX2_isWrongSide_10 rfl (lv_at hl 1 rfl) ?_
  refine lv_iconst (v := 1) hx hb dX2_isWrongSide_11 (by decide) ?_
  refine lv_iadd hx hb dX2_isWrongSide_12 ?_
  obtain ⟨v_13, hv_13, hs⟩ := op_bd hs
  refine gx_iald hx hb hK hP 1 0 rfl rfl hv_13 dX2_isWrongSide_13 ?_
  refine lv_icmp_ne (tgt := 36) hx hb dX2_isWrongSide_14 (by decide) (fun c_14 => ?_) (fun c_14 => ?_)
  · replace hs := it_f c_14 hs
    exact J_36  hs _ (lv_sub hl [0, 1] rfl)
  · replace hs := it_t c_14 hs
    refine lv_aload_n hx hb dX2_isWrongSide_17 rfl (lv_at hl 0 rfl) ?_
    refine va_get (D := D) (ci := 2) (v := .ref sy) (C := RX2) (T := TX2) (N := 9) hx hb hts in_X2 hown hK hP 0 rfl rfl 4 (by decide) lk_43 (fun _ h9 => h9) rfl dX2_isWrongSide_18 ?_
    refine lv_iload_n hx hb dX2_isWrongSide_21 rfl (lv_at hl 1 rfl) ?_
    obtain ⟨v_22, hv_22, hs⟩ := op_bd hs
    refine gx_iald hx hb hK hP 2 0 rfl rfl hv_22 dX2_isWrongSide_22 ?_
    refine lv_aload_n hx hb dX2_isWrongSide_23 rfl (lv_at hl 0 rfl) ?_
    refine va_get (D := D) (ci := 2) (v := .ref sy) (C := RX2) (T := TX2) (N := 9) hx hb hts in_X2 hown hK hP 0 rfl rfl 4 (by decide) lk_43 (fun _ h9 => h9) rfl dX2_isWrongSide_24 ?_
    refine lv_iload_n hx hb dX2_isWrongSide_27 rfl (lv_at hl 1 rfl) ?_
    refine lv_iconst (v := 1) hx hb dX2_isWrongSide_28 (by decide) ?_
    refine lv_iadd hx hb dX2_isWrongSide_29 ?_
    obtain ⟨v_30, hv_30, hs⟩ := op_bd hs
    refine gx_iald hx hb hK hP 2 0 rfl rfl hv_30 dX2_isWrongSide_30 ?_
    refine lv_icmp_ne (tgt := 36) hx hb dX2_isWrongSide_31 (by decide) (fun c_31 => ?_) (fun c_31 => ?_)
    · replace hs := it_f c_31 hs
      exact J_36  hs _ (lv_sub hl [0, 1] rfl)
    · replace hs := it_t c_31 hs
      refine lv_iconst (v := 1) hx hb dX2_isWrongSide_34 (by decide) ?_
      obtain rfl := Option.some.inj hs
      exact W.zret hx hb hr rfl (fun t ht hW => ⟨_, rfl, rfl, ht⟩) (fun _ h => by cases h) dX2_isWrongSide_35
def s_X2_judge_30 (F : Nat) (S : sh_T) : Nat → Int32 → Option Int32
  | 0, _ => none
  | n + 1, x1 =>
    (s_X2_sideCount F S).bind fun v_32 =>
    if v_32 ≤ x1 then
      some 1
    else
      (s_X2_isWrongSide F S x1).bind fun v_40 =>
      if v_40 = 0 then
        (some (x1 + 1)).bind fun e_51 =>
        s_X2_judge_30 F S n e_51
      else
        some ((-10) - x1)
def s_X2_judge (F : Nat) (S : sh_T) : Option Int32 :=
  if (en_l (sh_k S)) ≤ (sh_z S) then
    if (sh_k S) = 0 then
      some 1
    else
      s_X2_judge_30 F S F 0
  else
    some 0
abbrev rm_X2_judge : Room := { frames := 5, cells := 0, slots := 0, locals := 113 }
theorem in_X2_judge_X2 : ∀ w ∈ wsX20, w ∈ wsX2_judge := by decide +kernel
set_option maxHeartbeats 4000000 in
set_option maxRecDepth 100000 in
theorem c_X2_judge (l : Launch) (D : va_G) (cI cJ cZ cS : ClassId) (ad : Nat → Nat) (h0 sx sy : Nat) (S : sh_T) (F : Nat) (hkS : sh_k S < 3) (r : Int32) (hs : s_X2_judge F S = some r) : Met l yX2_judge wsX2_judge rm_X2_judge (gl_P D cI cJ cZ cS ad [.ref h0] (fun H => va_P D vwCl (sh_w cI ad h0 sx sy S) H)) (vp_Si (fun v => v = r)) 0 0 (fun _ => False) := by
  refine Met.ofW (cc := cX2_judge) (maxL := 2) (ret := (some .int)) (by decide) rfl ?_
  intro p e s m args below meth c s₁ B hml hv
  obtain ⟨rfl, hK, hE, hP⟩ := hv
  have hx := B.exec
  have hb := B.bytes
  have hr := B.returns
  have hts := atoms_spec (ws := wsX2_judge) B.pre
  have hown : s.vm.findClass RX2 = some m.cls := findClass_of_methodNamed B.named
  have hlocks := B.notSynchronized
  have lk_9 := hts (.fieldLink RX2 9 "PlacePoints$Shape" "size" "I") (by decide +kernel)
  have lk_30 := hts (.fieldLink RX2 30 "PlacePoints$Shape" "kind" "LPlacePoints$Kind;") (by decide +kernel)
  have in_X2 := in_X2_judge_X2
  have J_30 : ∀ (n_30 : Nat) (x1 : Int32), s_X2_judge_30 F S n_30 x1 = some r → ∀ ls : Array Slot, lv_has ls 2 [(0, .ref h0), (1, .int x1)] → W p l e (headSpec wsX2_judge rm_X2_judge).room s m ([.ref h0] : List Value).toArray below meth c s.heap [] 0 0 (MQ below (vp_Si (fun v => v = r)) ([.ref h0] : List Value).toArray s 0 0 (fun _ => False)) (F0 m 30 ls []) := by
    intro n_30
    induction n_30 with
    | zero =>
      intro x1 hs
      cases hs
    | succ n_30 ih_30 =>
      intro x1 hs ls hl
      rw [s_X2_judge_30] at hs
      refine lv_iload_n hx hb dX2_judge_30 rfl (lv_at hl 1 rfl) ?_
      refine lv_aload_n hx hb dX2_judge_31 rfl (lv_at hl 0 rfl) ?_
      obtain ⟨v_32, hc_32, hs⟩ := op_bd hs
      refine gx_cSi (va_Run.run (va_runV (As := []) (rest := [.int x1]) ⟨hx, hb, hml, hown, hts⟩ (c_X2_sideCount l D cI cJ cZ cS ad h0 sx sy S F hkS v_32 hc_32) (cwV 0 hts gX2_judge_X2_sideCount rfl rfl rfl (by decide +kernel) ⟨Nat.le_of_ble_eq_true rfl, Nat.le_of_ble_eq_true rfl⟩) ⟨gl_blind, va_recv hK hP (ci := 2) (q0 := 0) rfl rfl, gl_ok hK hE (hP.sub [0, 1, 2] rfl)⟩ rfl rfl hl.1 rfl (lv_room (Nat.le_of_ble_eq_true rfl)) dX2_judge_32 ⟨Nat.le_of_ble_eq_true rfl, Nat.le_of_ble_eq_true rfl⟩)) ?_
      refine lv_icmp_ge (tgt := 57) hx hb dX2_judge_35 (by decide) (fun c_35 => ?_) (fun c_35 => ?_)
      · replace hs := it_t c_35 hs
        refine lv_iconst (v := 1) hx hb dX2_judge_57 (by decide) ?_
        obtain rfl := Option.some.inj hs
        exact W.iret hx hb hr (fun t ht hW => ⟨_, rfl, rfl, ht⟩) (fun _ h => by cases h) dX2_judge_58
      · replace hs := it_f c_35 hs
        refine lv_aload_n hx hb dX2_judge_38 rfl (lv_at hl 0 rfl) ?_
        refine lv_iload_n hx hb dX2_judge_39 rfl (lv_at hl 1 rfl) ?_
        obtain ⟨v_40, hc_40, hs⟩ := op_bd hs
        refine gx_cSi (va_Run.run (va_runV (As := [.int x1]) (rest := []) ⟨hx, hb, hml, hown, hts⟩ (c_X2_isWrongSide l D cI cJ cZ cS ad h0 sx sy S x1 F hkS v_40 hc_40) (cwV 1 hts gX2_judge_X2_isWrongSide rfl rfl rfl (by decide +kernel) ⟨Nat.le_of_ble_eq_true rfl, Nat.le_of_ble_eq_true rfl⟩) ⟨gl_blind, va_recv hK hP (ci := 2) (q0 := 0) rfl rfl, gl_ok hK hE (hP.sub [0, 1, 2] rfl)⟩ rfl rfl hl.1 rfl (lv_room (Nat.le_of_ble_eq_true rfl)) dX2_judge_40 ⟨Nat.le_of_ble_eq_true rfl, Nat.le_of_ble_eq_true rfl⟩)) ?_
        refine lv_if_eq (tgt := 51) hx hb dX2_judge_43 (by decide) (fun c_43 => ?_) (fun c_43 => ?_)
        · replace hs := it_t c_43 hs
          obtain ⟨e_51, hv_51, hs⟩ := op_bd hs
          refine lv_iinc (v := e_51) (lv' := [(1, .int e_51), (0, .ref h0)]) hx hb dX2_judge_51 hl (k := 1) rfl (Option.some.inj hv_51) (by decide) rfl (fun ls hl => ?_)
          refine lv_goto (tgt := 30) hx hb dX2_judge_54 (by decide) ?_
          exact ih_30 e_51 hs _ (lv_sub hl [1, 0] rfl)
        · replace hs := it_f c_43 hs
          refine lv_bipush (v := -10) hx hb dX2_judge_46 (by decide) ?_
          refine lv_iload_n hx hb dX2_judge_48 rfl (lv_at hl 1 rfl) ?_
          refine lv_isub hx hb dX2_judge_49 ?_
          obtain rfl := Option.some.inj hs
          exact W.iret hx hb hr (fun t ht hW => ⟨_, rfl, rfl, ht⟩) (fun _ h => by cases h) dX2_judge_50
  have hl := lv_entry ([.ref h0]) (n := 2) (Nat.le_of_ble_eq_true rfl)
  rw [lg_entry_eq]
  generalize (lg_sl ([.ref h0]) ++ List.replicate (2 - (lg_sl ([.ref h0])).length) Slot.unset).toArray = ls at hl ⊢
  have hl : lv_has ls 2 [(0, .ref h0)] := hl
  rw [s_X2_judge] at hs
  refine lv_aload_n hx hb dX2_judge_0 rfl (lv_at hl 0 rfl) ?_
  refine va_get (D := D) (ci := 2) (v := .int (sh_z S)) (C := RX2) (T := TX2) (N := 9) hx hb hts in_X2 hown hK hP 0 rfl rfl 1 (by decide) lk_9 (fun _ h9 => h9) rfl dX2_judge_1 ?_
  refine lv_aload_n hx hb dX2_judge_4 rfl (lv_at hl 0 rfl) ?_
  refine va_get (D := D) (ci := 2) (v := .ref (ad (sh_k S))) (C := RX2) (T := TX2) (N := 9) hx hb hts in_X2 hown hK hP 0 rfl rfl 0 (by decide) lk_30 (fun _ h9 => h9) rfl dX2_judge_5 ?_
  refine va_getE (q := ("PlacePoints$Kind", "least", "I", [1, 2, 3])) hx hb hE (show (sh_k S) < 3 from hkS) va_S.rf hown (by simp) (hts (.fieldLink RX2 112 "PlacePoints$Kind" "least" "I") (by decide +kernel)) (fun _ h9 => h9) dX2_judge_8 ?_
  refine W.eq (g2 := F0 m 11 ls [.int (en_l (sh_k S)), .int (sh_z S)]) rfl ?_
  refine lv_icmp_ge (tgt := 16) hx hb dX2_judge_11 (by decide) (fun c_11 => ?_) (fun c_11 => ?_)
  · replace hs := it_t c_11 hs
    refine lv_aload_n hx hb dX2_judge_16 rfl (lv_at hl 0 rfl) ?_
    refine va_get (D := D) (ci := 2) (v := .ref (ad (sh_k S))) (C := RX2) (T := TX2) (N := 9) hx hb hts in_X2 hown hK hP 0 rfl rfl 0 (by decide) lk_30 (fun _ h9 => h9) rfl dX2_judge_17 ?_
    refine va_gets hx hb (hE.1 0 (by decide)).1 va_S.rf hown (hts (.fieldLink RX2 115 "PlacePoints$Kind" "POINT" "LPlacePoints$Kind;") (by decide +kernel)) (fun _ h9 => h9) dX2_judge_20 ?_
    refine W.eq (g2 := F0 m 23 ls [.ref (ad 0), .ref (ad (sh_k S))]) rfl ?_
    refine gx_acmp_ne (tgt := 28) hE (show (sh_k S) < 3 from hkS) (show 0 < 3 from (by decide)) hx hb dX2_judge_23 (by decide) (fun c_23 => ?_) (fun c_23 => ?_)
    · replace hs := it_f c_23 hs
      refine lv_iconst (v := 0) hx hb dX2_judge_28 (by decide) ?_
      refine lv_istore_n (lv' := [(1, .int 0), (0, .ref h0)]) hx hb dX2_judge_29 rfl hl (by decide) rfl (fun ls hl => ?_)
      exact J_30 F 0 hs _ (lv_sub hl [1, 0] rfl)
    · replace hs := it_t c_23 hs
      refine lv_iconst (v := 1) hx hb dX2_judge_26 (by decide) ?_
      obtain rfl := Option.some.inj hs
      exact W.iret hx hb hr (fun t ht hW => ⟨_, rfl, rfl, ht⟩) (fun _ h => by cases h) dX2_judge_27
  · replace hs := it_f c_11 hs
    refine lv_iconst (v := 0) hx hb dX2_judge_14 (by decide) ?_
    obtain rfl := Option.some.inj hs
    exact W.iret hx hb hr (fun t ht hW => ⟨_, rfl, rfl, ht⟩) (fun _ h => by cases h) dX2_judge_15
end
section
def s_X4_isPlace (F : Nat) (p1 : Int32) (p2 : Int32) : Option Int32 :=
  if p1 < (-10000) then
    some 0
  else
    if 10000 < p1 then
      some 0
    else
      if p2 < (-10000) then
        some 0
      else
        if 10000 < p2 then
          some 0
        else
          some 1
abbrev rm_X4_isPlace : Room := { frames := 0, cells := 0, slots := 0, locals := 0 }
set_option maxHeartbeats 4000000 in
set_option maxRecDepth 100000 in
theorem c_X4_isPlace (l : Launch) (D : va_G) (cI cJ cZ cS : ClassId) (ad : Nat → Nat) (p1 : Int32) (p2 : Int32) (F : Nat)  (r : Int32) (hs : s_X4_isPlace F p1 p2 = some r) : Met l yX4_isPlace wsX4_isPlace rm_X4_isPlace (gl_P D cI cJ cZ cS ad [.int p1, .int p2] (fun _ => True)) (vp_Si (fun v => v = r)) 0 0 (fun _ => False) := by
  refine Met.ofW (cc := cX4_isPlace) (maxL := 2) (ret := (some .boolean)) (by decide) rfl ?_
  intro p e s m args below meth c s₁ B hml hv
  obtain ⟨rfl, hK, hE, hP⟩ := hv
  have hx := B.exec
  have hb := B.bytes
  have hr := B.returns
  have hts := atoms_spec (ws := wsX4_isPlace) B.pre
  have hown : s.vm.findClass RX4 = some m.cls := findClass_of_methodNamed B.named
  have hlocks := B.notSynchronized
  have hl := lv_entry ([.int p1, .int p2]) (n := 2) (Nat.le_of_ble_eq_true rfl)
  rw [lg_entry_eq]
  generalize (lg_sl ([.int p1, .int p2]) ++ List.replicate (2 - (lg_sl ([.int p1, .int p2])).length) Slot.unset).toArray = ls at hl ⊢
  have hl : lv_has ls 2 [(0, .int p1), (1, .int p2)] := hl
  rw [s_X4_isPlace] at hs
  refine lv_iload_n hx hb dX4_isPlace_0 rfl (lv_at hl 0 rfl) ?_
  refine lv_sipush (v := -10000) hx hb dX4_isPlace_1 (by decide) ?_
  refine lv_icmp_lt (tgt := 32) hx hb dX4_isPlace_4 (by decide) (fun c_4 => ?_) (fun c_4 => ?_)
  · replace hs := it_t c_4 hs
    refine lv_iconst (v := 0) hx hb dX4_isPlace_32 (by decide) ?_
    obtain rfl := Option.some.inj hs
    exact W.zret hx hb hr rfl (fun t ht hW => ⟨_, rfl, rfl, ht⟩) (fun _ h => by cases h) dX4_isPlace_33
  · replace hs := it_f c_4 hs
    refine lv_iload_n hx hb dX4_isPlace_7 rfl (lv_at hl 0 rfl) ?_
    refine lv_sipush (v := 10000) hx hb dX4_isPlace_8 (by decide) ?_
    refine lv_icmp_gt (tgt := 32) hx hb dX4_isPlace_11 (by decide) (fun c_11 => ?_) (fun c_11 => ?_)
    · replace hs := it_t c_11 hs
      refine lv_iconst (v := 0) hx hb dX4_isPlace_32 (by decide) ?_
      obtain rfl := Option.some.inj hs
      exact W.zret hx hb hr rfl (fun t ht hW => ⟨_, rfl, rfl, ht⟩) (fun _ h => by cases h) dX4_isPlace_33
    · replace hs := it_f c_11 hs
      refine lv_iload_n hx hb dX4_isPlace_14 rfl (lv_at hl 1 rfl) ?_
      refine lv_sipush (v := -10000) hx hb dX4_isPlace_15 (by decide) ?_
      refine lv_icmp_lt (tgt := 32) hx hb dX4_isPlace_18 (by decide) (fun c_18 => ?_) (fun c_18 => ?_)
      · replace hs := it_t c_18 hs
        refine lv_iconst (v := 0) hx hb dX4_isPlace_32 (by decide) ?_
        obtain rfl := Option.some.inj hs
        exact W.zret hx hb hr rfl (fun t ht hW => ⟨_, rfl, rfl, ht⟩) (fun _ h => by cases h) dX4_isPlace_33
      · replace hs := it_f c_18 hs
        refine lv_iload_n hx hb dX4_isPlace_21 rfl (lv_at hl 1 rfl) ?_
        refine lv_sipush (v := 10000) hx hb dX4_isPlace_22 (by decide) ?_
        refine lv_icmp_gt (tgt := 32) hx hb dX4_isPlace_25 (by decide) (fun c_25 => ?_) (fun c_25 => ?_)
        · replace hs := it_t c_25 hs
          refine lv_iconst (v := 0) hx hb dX4_isPlace_32 (by decide) ?_
          obtain rfl := Option.some.inj hs
          exact W.zret hx hb hr rfl (fun t ht hW => ⟨_, rfl, rfl, ht⟩) (fun _ h => by cases h) dX4_isPlace_33
        · replace hs := it_f c_25 hs
          refine lv_iconst (v := 1) hx hb dX4_isPlace_28 (by decide) ?_
          refine lv_goto (tgt := 33) hx hb dX4_isPlace_29 (by decide) ?_
          obtain rfl := Option.some.inj hs
          exact W.zret hx hb hr rfl (fun t ht hW => ⟨_, rfl, rfl, ht⟩) (fun _ h => by cases h) dX4_isPlace_33
def s_X4_cross (F : Nat) (p1 : Int64) (p2 : Int64) (p3 : Int64) (p4 : Int64) : Option Int64 :=
  some ((p1 * p4) - (p2 * p3))
abbrev rm_X4_cross : Room := { frames := 0, cells := 0, slots := 0, locals := 0 }
set_option maxHeartbeats 4000000 in
set_option maxRecDepth 100000 in
theorem c_X4_cross (l : Launch) (D : va_G) (cI cJ cZ cS : ClassId) (ad : Nat → Nat) (p1 : Int64) (p2 : Int64) (p3 : Int64) (p4 : Int64) (F : Nat)  (r : Int64) (hs : s_X4_cross F p1 p2 p3 p4 = some r) : Met l yX4_cross wsX4_cross rm_X4_cross (gl_P D cI cJ cZ cS ad [.long p1, .long p2, .long p3, .long p4] (fun _ => True)) (vp_Sl (fun v => v = r)) 0 0 (fun _ => False) := by
  refine Met.ofW (cc := cX4_cross) (maxL := 8) (ret := (some .long)) (by decide) rfl ?_
  intro p e s m args below meth c s₁ B hml hv
  obtain ⟨rfl, hK, hE, hP⟩ := hv
  have hx := B.exec
  have hb := B.bytes
  have hr := B.returns
  have hts := atoms_spec (ws := wsX4_cross) B.pre
  have hown : s.vm.findClass RX4 = some m.cls := findClass_of_methodNamed B.named
  have hlocks := B.notSynchronized
  have hl := lv_entry ([.long p1, .long p2, .long p3, .long p4]) (n := 8) (Nat.le_of_ble_eq_true rfl)
  rw [lg_entry_eq]
  generalize (lg_sl ([.long p1, .long p2, .long p3, .long p4]) ++ List.replicate (8 - (lg_sl ([.long p1, .long p2, .long p3, .long p4])).length) Slot.unset).toArray = ls at hl ⊢
  have hl : lv_has ls 8 [(0, .long p1), (2, .long p2), (4, .long p3), (6, .long p4)] := hl
  rw [s_X4_cross] at hs
  refine lv_lload_n hx hb dX4_cross_0 rfl (lv_at hl 0 rfl) ?_
  refine lv_lload hx hb dX4_cross_1 (lv_at hl 3 rfl) ?_
  refine lv_lmul hx hb dX4_cross_3 ?_
  refine lv_lload_n hx hb dX4_cross_4 rfl (lv_at hl 1 rfl) ?_
  refine lv_lload hx hb dX4_cross_5 (lv_at hl 2 rfl) ?_
  refine lv_lmul hx hb dX4_cross_7 ?_
  refine lv_lsub hx hb dX4_cross_8 ?_
  obtain rfl := Option.some.inj hs
  exact W.lret hx hb hr (fun t ht hW => ⟨_, rfl, rfl, ht⟩) (fun _ h => by cases h) dX4_cross_9
def s_X4_hand (F : Nat) (p1 : Int64) (p2 : Int64) (p3 : Int64) (p4 : Int64) (p5 : Int64) (p6 : Int64) : Option Int32 :=
  (s_X4_cross F (p3 - p1) (p4 - p2) (p5 - p1) (p6 - p2)).bind fun v_16 =>
  if 0 ≤ (lg_cmp v_16 0) then
    if (lg_cmp v_16 0) ≤ 0 then
      some 0
    else
      some 1
  else
    some (-1)
abbrev rm_X4_hand : Room := { frames := 1, cells := 0, slots := 0, locals := 27 }
set_option maxHeartbeats 4000000 in
set_option maxRecDepth 100000 in
theorem c_X4_hand (l : Launch) (D : va_G) (cI cJ cZ cS : ClassId) (ad : Nat → Nat) (p1 : Int64) (p2 : Int64) (p3 : Int64) (p4 : Int64) (p5 : Int64) (p6 : Int64) (F : Nat)  (r : Int32) (hs : s_X4_hand F p1 p2 p3 p4 p5 p6 = some r) : Met l yX4_hand wsX4_hand rm_X4_hand (gl_P D cI cJ cZ cS ad [.long p1, .long p2, .long p3, .long p4, .long p5, .long p6] (fun _ => True)) (vp_Si (fun v => v = r)) 0 0 (fun _ => False) := by
  refine Met.ofW (cc := cX4_hand) (maxL := 14) (ret := (some .int)) (by decide) rfl ?_
  intro p e s m args below meth c s₁ B hml hv
  obtain ⟨rfl, hK, hE, hP⟩ := hv
  have hx := B.exec
  have hb := B.bytes
  have hr := B.returns
  have hts := atoms_spec (ws := wsX4_hand) B.pre
  have hown : s.vm.findClass RX4 = some m.cls := findClass_of_methodNamed B.named
  have hlocks := B.notSynchronized
  have hl := lv_entry ([.long p1, .long p2, .long p3, .long p4, .long p5, .long p6]) (n := 14) (Nat.le_of_ble_eq_true rfl)
  rw [lg_entry_eq]
  generalize (lg_sl ([.long p1, .long p2, .long p3, .long p4, .long p5, .long p6]) ++ List.replicate (14 - (lg_sl ([.long p1, .long p2, .long p3, .long p4, .long p5, .long p6])).length) Slot.unset).toArray = ls at hl ⊢
  have hl : lv_has ls 14 [(0, .long p1), (2, .long p2), (4, .long p3), (6, .long p4), (8, .long p5), (10, .long p6)] := hl
  rw [s_X4_hand] at hs
  refine lv_lload hx hb dX4_hand_0 (lv_at hl 2 rfl) ?_
  refine lv_lload_n hx hb dX4_hand_2 rfl (lv_at hl 0 rfl) ?_
  refine lv_lsub hx hb dX4_hand_3 ?_
  refine lv_lload hx hb dX4_hand_4 (lv_at hl 3 rfl) ?_
  refine lv_lload_n hx hb dX4_hand_6 rfl (lv_at hl 1 rfl) ?_
  refine lv_lsub hx hb dX4_hand_7 ?_
  refine lv_lload hx hb dX4_hand_8 (lv_at hl 4 rfl) ?_
  refine lv_lload_n hx hb dX4_hand_10 rfl (lv_at hl 0 rfl) ?_
  refine lv_lsub hx hb dX4_hand_11 ?_
  refine lv_lload hx hb dX4_hand_12 (lv_at hl 5 rfl) ?_
  refine lv_lload_n hx hb dX4_hand_14 rfl (lv_at hl 1 rfl) ?_
  refine lv_lsub hx hb dX4_hand_15 ?_
  obtain ⟨v_16, hc_16, hs⟩ := op_bd hs
  refine gx_cSl (va_Run.run (va_runS (As := [.long (p3 - p1), .long (p4 - p2), .long (p5 - p1), .long (p6 - p2)]) (rest := []) ⟨hx, hb, hml, hown, hts⟩ (c_X4_cross l D cI cJ cZ cS ad (p3 - p1) (p4 - p2) (p5 - p1) (p6 - p2) F  v_16 hc_16) (va_cwS 4 hts gX4_hand_X4_cross rfl rfl rfl (by decide +kernel) ⟨Nat.le_of_ble_eq_true rfl, Nat.le_of_ble_eq_true rfl⟩) ⟨gl_blind, gl_ok hK hE trivial⟩ rfl rfl hl.1 rfl (lv_room (Nat.le_of_ble_eq_true rfl)) dX4_hand_16 ⟨Nat.le_of_ble_eq_true rfl, Nat.le_of_ble_eq_true rfl⟩)) ?_
  refine lv_lstore (lv' := [(12, .long v_16), (0, .long p1), (2, .long p2), (4, .long p3), (6, .long p4), (8, .long p5), (10, .long p6)]) hx hb dX4_hand_19 hl (by decide) rfl (fun ls hl => ?_)
  refine lv_lload hx hb dX4_hand_21 (lv_at hl 0 rfl) ?_
  refine lv_lconst (v := 0) hx hb dX4_hand_23 (by decide) ?_
  refine W.lcmp hx hb dX4_hand_24 ?_
  refine lv_if_ge (tgt := 32) hx hb dX4_hand_25 (by decide) (fun c_25 => ?_) (fun c_25 => ?_)
  · replace hs := it_t c_25 hs
    refine lv_lload hx hb dX4_hand_32 (lv_at hl 0 rfl) ?_
    refine lv_lconst (v := 0) hx hb dX4_hand_34 (by decide) ?_
    refine W.lcmp hx hb dX4_hand_35 ?_
    refine lv_if_le (tgt := 43) hx hb dX4_hand_36 (by decide) (fun c_36 => ?_) (fun c_36 => ?_)
    · replace hs := it_t c_36 hs
      refine lv_iconst (v := 0) hx hb dX4_hand_43 (by decide) ?_
      obtain rfl := Option.some.inj hs
      exact W.iret hx hb hr (fun t ht hW => ⟨_, rfl, rfl, ht⟩) (fun _ h => by cases h) dX4_hand_44
    · replace hs := it_f c_36 hs
      refine lv_iconst (v := 1) hx hb dX4_hand_39 (by decide) ?_
      refine lv_goto (tgt := 44) hx hb dX4_hand_40 (by decide) ?_
      obtain rfl := Option.some.inj hs
      exact W.iret hx hb hr (fun t ht hW => ⟨_, rfl, rfl, ht⟩) (fun _ h => by cases h) dX4_hand_44
  · replace hs := it_f c_25 hs
    refine lv_iconst (v := -1) hx hb dX4_hand_28 (by decide) ?_
    refine lv_goto (tgt := 44) hx hb dX4_hand_29 (by decide) ?_
    obtain rfl := Option.some.inj hs
    exact W.iret hx hb hr (fun t ht hW => ⟨_, rfl, rfl, ht⟩) (fun _ h => by cases h) dX4_hand_44
def s_X4_isBetween_14 (F : Nat) (p1 : Int64) (p2 : Int64) (p3 : Int64) : Option Int32 :=
  if 0 < (lg_cmp p2 p3) then
    some 0
  else
    if 0 < (lg_cmp p3 p1) then
      some 0
    else
      some 1
def s_X4_isBetween (F : Nat) (p1 : Int64) (p2 : Int64) (p3 : Int64) : Option Int32 :=
  if 0 < (lg_cmp p1 p3) then
    s_X4_isBetween_14 F p1 p2 p3 
  else
    if (lg_cmp p3 p2) ≤ 0 then
      some 1
    else
      s_X4_isBetween_14 F p1 p2 p3 
abbrev rm_X4_isBetween : Room := { frames := 0, cells := 0, slots := 0, locals := 0 }
set_option maxHeartbeats 4000000 in
set_option maxRecDepth 100000 in
theorem c_X4_isBetween (l : Launch) (D : va_G) (cI cJ cZ cS : ClassId) (ad : Nat → Nat) (p1 : Int64) (p2 : Int64) (p3 : Int64) (F : Nat)  (r : Int32) (hs : s_X4_isBetween F p1 p2 p3 = some r) : Met l yX4_isBetween wsX4_isBetween rm_X4_isBetween (gl_P D cI cJ cZ cS ad [.long p1, .long p2, .long p3] (fun _ => True)) (vp_Si (fun v => v = r)) 0 0 (fun _ => False) := by
  refine Met.ofW (cc := cX4_isBetween) (maxL := 6) (ret := (some .boolean)) (by decide) rfl ?_
  intro p e s m args below meth c s₁ B hml hv
  obtain ⟨rfl, hK, hE, hP⟩ := hv
  have hx := B.exec
  have hb := B.bytes
  have hr := B.returns
  have hts := atoms_spec (ws := wsX4_isBetween) B.pre
  have hown : s.vm.findClass RX4 = some m.cls := findClass_of_methodNamed B.named
  have hlocks := B.notSynchronized
  have J_14 : s_X4_isBetween_14 F p1 p2 p3 = some r → ∀ ls : Array Slot, lv_has ls 6 [(0, .long p1), (2, .long p2), (4, .long p3)] → W p l e (headSpec wsX4_isBetween rm_X4_isBetween).room s m ([.long p1, .long p2, .long p3] : List Value).toArray below meth c s.heap [] 0 0 (MQ below (vp_Si (fun v => v = r)) ([.long p1, .long p2, .long p3] : List Value).toArray s 0 0 (fun _ => False)) (F0 m 14 ls []) := by
    intro  hs ls hl
    rw [s_X4_isBetween_14] at hs
    refine lv_lload_n hx hb dX4_isBetween_14 rfl (lv_at hl 1 rfl) ?_
    refine lv_lload hx hb dX4_isBetween_15 (lv_at hl 2 rfl) ?_
    refine W.lcmp hx hb dX4_isBetween_17 ?_
    refine lv_if_gt (tgt := 32) hx hb dX4_isBetween_18 (by decide) (fun c_18 => ?_) (fun c_18 => ?_)
    · replace hs := it_t c_18 hs
      refine lv_iconst (v := 0) hx hb dX4_isBetween_32 (by decide) ?_
      obtain rfl := Option.some.inj hs
      exact W.zret hx hb hr rfl (fun t ht hW => ⟨_, rfl, rfl, ht⟩) (fun _ h => by cases h) dX4_isBetween_33
    · replace hs := it_f c_18 hs
      refine lv_lload hx hb dX4_isBetween_21 (lv_at hl 2 rfl) ?_
      refine lv_lload_n hx hb dX4_isBetween_23 rfl (lv_at hl 0 rfl) ?_
      refine W.lcmp hx hb dX4_isBetween_24 ?_
      refine lv_if_gt (tgt := 32) hx hb dX4_isBetween_25 (by decide) (fun c_25 => ?_) (fun c_25 => ?_)
      · replace hs := it_t c_25 hs
        refine lv_iconst (v := 0) hx hb dX4_isBetween_32 (by decide) ?_
        obtain rfl := Option.some.inj hs
        exact W.zret hx hb hr rfl (fun t ht hW => ⟨_, rfl, rfl, ht⟩) (fun _ h => by cases h) dX4_isBetween_33
      · replace hs := it_f c_25 hs
        refine lv_iconst (v := 1) hx hb dX4_isBetween_28 (by decide) ?_
        refine lv_goto (tgt := 33) hx hb dX4_isBetween_29 (by decide) ?_
        obtain rfl := Option.some.inj hs
        exact W.zret hx hb hr rfl (fun t ht hW => ⟨_, rfl, rfl, ht⟩) (fun _ h => by cases h) dX4_isBetween_33
  have hl := lv_entry ([.long p1, .long p2, .long p3]) (n := 6) (Nat.le_of_ble_eq_true rfl)
  rw [lg_entry_eq]
  generalize (lg_sl ([.long p1, .long p2, .long p3]) ++ List.replicate (6 - (lg_sl ([.long p1, .long p2, .long p3])).length) Slot.unset).toArray = ls at hl ⊢
  have hl : lv_has ls 6 [(0, .long p1), (2, .long p2), (4, .long p3)] := hl
  rw [s_X4_isBetween] at hs
  refine lv_lload_n hx hb dX4_isBetween_0 rfl (lv_at hl 0 rfl) ?_
  refine lv_lload hx hb dX4_isBetween_1 (lv_at hl 2 rfl) ?_
  refine W.lcmp hx hb dX4_isBetween_3 ?_
  refine lv_if_gt (tgt := 14) hx hb dX4_isBetween_4 (by decide) (fun c_4 => ?_) (fun c_4 => ?_)
  · replace hs := it_t c_4 hs
    exact J_14  hs _ (lv_sub hl [0, 1, 2] rfl)
  · replace hs := it_f c_4 hs
    refine lv_lload hx hb dX4_isBetween_7 (lv_at hl 2 rfl) ?_
    refine lv_lload_n hx hb dX4_isBetween_9 rfl (lv_at hl 1 rfl) ?_
    refine W.lcmp hx hb dX4_isBetween_10 ?_
    refine lv_if_le (tgt := 28) hx hb dX4_isBetween_11 (by decide) (fun c_11 => ?_) (fun c_11 => ?_)
    · replace hs := it_t c_11 hs
      refine lv_iconst (v := 1) hx hb dX4_isBetween_28 (by decide) ?_
      refine lv_goto (tgt := 33) hx hb dX4_isBetween_29 (by decide) ?_
      obtain rfl := Option.some.inj hs
      exact W.zret hx hb hr rfl (fun t ht hW => ⟨_, rfl, rfl, ht⟩) (fun _ h => by cases h) dX4_isBetween_33
    · replace hs := it_f c_11 hs
      exact J_14  hs _ (lv_sub hl [0, 1, 2] rfl)
def s_X4_isOn (F : Nat) (p1 : Int64) (p2 : Int64) (p3 : Int64) (p4 : Int64) (p5 : Int64) (p6 : Int64) : Option Int32 :=
  (s_X4_hand F p1 p2 p3 p4 p5 p6).bind fun v_10 =>
  if v_10 = 0 then
    (s_X4_isBetween F p1 p3 p5).bind fun v_21 =>
    if v_21 = 0 then
      some 0
    else
      (s_X4_isBetween F p2 p4 p6).bind fun v_32 =>
      if v_32 = 0 then
        some 0
      else
        some 1
  else
    some 0
abbrev rm_X4_isOn : Room := { frames := 2, cells := 0, slots := 0, locals := 60 }
set_option maxHeartbeats 4000000 in
set_option maxRecDepth 100000 in
theorem c_X4_isOn (l : Launch) (D : va_G) (cI cJ cZ cS : ClassId) (ad : Nat → Nat) (p1 : Int64) (p2 : Int64) (p3 : Int64) (p4 : Int64) (p5 : Int64) (p6 : Int64) (F : Nat)  (r : Int32) (hs : s_X4_isOn F p1 p2 p3 p4 p5 p6 = some r) : Met l yX4_isOn wsX4_isOn rm_X4_isOn (gl_P D cI cJ cZ cS ad [.long p1, .long p2, .long p3, .long p4, .long p5, .long p6] (fun _ => True)) (vp_Si (fun v => v = r)) 0 0 (fun _ => False) := by
  refine Met.ofW (cc := cX4_isOn) (maxL := 12) (ret := (some .boolean)) (by decide) rfl ?_
  intro p e s m args below meth c s₁ B hml hv
  obtain ⟨rfl, hK, hE, hP⟩ := hv
  have hx := B.exec
  have hb := B.bytes
  have hr := B.returns
  have hts := atoms_spec (ws := wsX4_isOn) B.pre
  have hown : s.vm.findClass RX4 = some m.cls := findClass_of_methodNamed B.named
  have hlocks := B.notSynchronized
  have hl := lv_entry ([.long p1, .long p2, .long p3, .long p4, .long p5, .long p6]) (n := 12) (Nat.le_of_ble_eq_true rfl)
  rw [lg_entry_eq]
  generalize (lg_sl ([.long p1, .long p2, .long p3, .long p4, .long p5, .long p6]) ++ List.replicate (12 - (lg_sl ([.long p1, .long p2, .long p3, .long p4, .long p5, .long p6])).length) Slot.unset).toArray = ls at hl ⊢
  have hl : lv_has ls 12 [(0, .long p1), (2, .long p2), (4, .long p3), (6, .long p4), (8, .long p5), (10, .long p6)] := hl
  rw [s_X4_isOn] at hs
  refine lv_lload_n hx hb dX4_isOn_0 rfl (lv_at hl 0 rfl) ?_
  refine lv_lload_n hx hb dX4_isOn_1 rfl (lv_at hl 1 rfl) ?_
  refine lv_lload hx hb dX4_isOn_2 (lv_at hl 2 rfl) ?_
  refine lv_lload hx hb dX4_isOn_4 (lv_at hl 3 rfl) ?_
  refine lv_lload hx hb dX4_isOn_6 (lv_at hl 4 rfl) ?_
  refine lv_lload hx hb dX4_isOn_8 (lv_at hl 5 rfl) ?_
  obtain ⟨v_10, hc_10, hs⟩ := op_bd hs
  refine gx_cSi (va_Run.run (va_runS (As := [.long p1, .long p2, .long p3, .long p4, .long p5, .long p6]) (rest := []) ⟨hx, hb, hml, hown, hts⟩ (c_X4_hand l D cI cJ cZ cS ad p1 p2 p3 p4 p5 p6 F  v_10 hc_10) (va_cwS 6 hts gX4_isOn_X4_hand rfl rfl rfl (by decide +kernel) ⟨Nat.le_of_ble_eq_true rfl, Nat.le_of_ble_eq_true rfl⟩) ⟨gl_blind, gl_ok hK hE trivial⟩ rfl rfl hl.1 rfl (lv_room (Nat.le_of_ble_eq_true rfl)) dX4_isOn_10 ⟨Nat.le_of_ble_eq_true rfl, Nat.le_of_ble_eq_true rfl⟩)) ?_
  refine lv_if_ne (tgt := 42) hx hb dX4_isOn_13 (by decide) (fun c_13 => ?_) (fun c_13 => ?_)
  · replace hs := it_f c_13 hs
    refine lv_iconst (v := 0) hx hb dX4_isOn_42 (by decide) ?_
    obtain rfl := Option.some.inj hs
    exact W.zret hx hb hr rfl (fun t ht hW => ⟨_, rfl, rfl, ht⟩) (fun _ h => by cases h) dX4_isOn_43
  · replace hs := it_t c_13 hs
    refine lv_lload_n hx hb dX4_isOn_16 rfl (lv_at hl 0 rfl) ?_
    refine lv_lload hx hb dX4_isOn_17 (lv_at hl 2 rfl) ?_
    refine lv_lload hx hb dX4_isOn_19 (lv_at hl 4 rfl) ?_
    obtain ⟨v_21, hc_21, hs⟩ := op_bd hs
    refine gx_cSi (va_Run.run (va_runS (As := [.long p1, .long p3, .long p5]) (rest := []) ⟨hx, hb, hml, hown, hts⟩ (c_X4_isBetween l D cI cJ cZ cS ad p1 p3 p5 F  v_21 hc_21) (va_cwS 3 hts gX4_isOn_X4_isBetween rfl rfl rfl (by decide +kernel) ⟨Nat.le_of_ble_eq_true rfl, Nat.le_of_ble_eq_true rfl⟩) ⟨gl_blind, gl_ok hK hE trivial⟩ rfl rfl hl.1 rfl (lv_room (Nat.le_of_ble_eq_true rfl)) dX4_isOn_21 ⟨Nat.le_of_ble_eq_true rfl, Nat.le_of_ble_eq_true rfl⟩)) ?_
    refine lv_if_eq (tgt := 42) hx hb dX4_isOn_24 (by decide) (fun c_24 => ?_) (fun c_24 => ?_)
    · replace hs := it_t c_24 hs
      refine lv_iconst (v := 0) hx hb dX4_isOn_42 (by decide) ?_
      obtain rfl := Option.some.inj hs
      exact W.zret hx hb hr rfl (fun t ht hW => ⟨_, rfl, rfl, ht⟩) (fun _ h => by cases h) dX4_isOn_43
    · replace hs := it_f c_24 hs
      refine lv_lload_n hx hb dX4_isOn_27 rfl (lv_at hl 1 rfl) ?_
      refine lv_lload hx hb dX4_isOn_28 (lv_at hl 3 rfl) ?_
      refine lv_lload hx hb dX4_isOn_30 (lv_at hl 5 rfl) ?_
      obtain ⟨v_32, hc_32, hs⟩ := op_bd hs
      refine gx_cSi (va_Run.run (va_runS (As := [.long p2, .long p4, .long p6]) (rest := []) ⟨hx, hb, hml, hown, hts⟩ (c_X4_isBetween l D cI cJ cZ cS ad p2 p4 p6 F  v_32 hc_32) (va_cwS 3 hts gX4_isOn_X4_isBetween rfl rfl rfl (by decide +kernel) ⟨Nat.le_of_ble_eq_true rfl, Nat.le_of_ble_eq_true rfl⟩) ⟨gl_blind, gl_ok hK hE trivial⟩ rfl rfl hl.1 rfl (lv_room (Nat.le_of_ble_eq_true rfl)) dX4_isOn_32 ⟨Nat.le_of_ble_eq_true rfl, Nat.le_of_ble_eq_true rfl⟩)) ?_
      refine lv_if_eq (tgt := 42) hx hb dX4_isOn_35 (by decide) (fun c_35 => ?_) (fun c_35 => ?_)
      · replace hs := it_t c_35 hs
        refine lv_iconst (v := 0) hx hb dX4_isOn_42 (by decide) ?_
        obtain rfl := Option.some.inj hs
        exact W.zret hx hb hr rfl (fun t ht hW => ⟨_, rfl, rfl, ht⟩) (fun _ h => by cases h) dX4_isOn_43
      · replace hs := it_f c_35 hs
        refine lv_iconst (v := 1) hx hb dX4_isOn_38 (by decide) ?_
        refine lv_goto (tgt := 43) hx hb dX4_isOn_39 (by decide) ?_
        obtain rfl := Option.some.inj hs
        exact W.zret hx hb hr rfl (fun t ht hW => ⟨_, rfl, rfl, ht⟩) (fun _ h => by cases h) dX4_isOn_43
def s_X4_sides (F : Nat) (M : mo_T) (p1 : Int32) : Option Int32 :=
  (rd_i 60 (mo_k M) p1).bind fun v_5 =>
  if v_5 = 2 then
    (rd_i 60 (mo_c M) p1).bind fun v_15 =>
    some (v_15 - 1)
  else
    (rd_i 60 (mo_c M) p1).bind fun v_26 =>
    some v_26
abbrev rm_X4_sides : Room := { frames := 0, cells := 0, slots := 0, locals := 0 }
theorem in_X4_sides_X4 : ∀ w ∈ wsX40, w ∈ wsX4_sides := by decide +kernel
set_option maxHeartbeats 4000000 in
set_option maxRecDepth 100000 in
theorem c_X4_sides (l : Launch) (D : va_G) (cI cJ cZ cS : ClassId) (ad : Nat → Nat) (m0 mk mc mx my mf mp mq mb : Nat) (M : mo_T) (p1 : Int32) (F : Nat)  (r : Int32) (hs : s_X4_sides F M p1 = some r) : Met l yX4_sides wsX4_sides rm_X4_sides (gl_P D cI cJ cZ cS ad [.ref m0, .int p1] (fun H => va_P D vwCl (mo_w cI cJ cZ m0 mk mc mx my mf mp mq mb M) H)) (vp_Si (fun v => v = r)) 0 0 (fun _ => False) := by
  refine Met.ofW (cc := cX4_sides) (maxL := 2) (ret := (some .int)) (by decide) rfl ?_
  intro p e s m args below meth c s₁ B hml hv
  obtain ⟨rfl, hK, hE, hP⟩ := hv
  have hx := B.exec
  have hb := B.bytes
  have hr := B.returns
  have hts := atoms_spec (ws := wsX4_sides) B.pre
  have hown : s.vm.findClass RX4 = some m.cls := findClass_of_methodNamed B.named
  have hlocks := B.notSynchronized
  have lk_13 := hts (.fieldLink RX4 13 "PlacePointsModel" "kinds" "[I") (by decide +kernel)
  have lk_17 := hts (.fieldLink RX4 17 "PlacePointsModel" "counts" "[I") (by decide +kernel)
  have in_X4 := in_X4_sides_X4
  have hl := lv_entry ([.ref m0, .int p1]) (n := 2) (Nat.le_of_ble_eq_true rfl)
  rw [lg_entry_eq]
  generalize (lg_sl ([.ref m0, .int p1]) ++ List.replicate (2 - (lg_sl ([.ref m0, .int p1])).length) Slot.unset).toArray = ls at hl ⊢
  have hl : lv_has ls 2 [(0, .ref m0), (1, .int p1)] := hl
  rw [s_X4_sides] at hs
  refine lv_aload_n hx hb dX4_sides_0 rfl (lv_at hl 0 rfl) ?_
  refine va_get (D := D) (ci := 4) (v := .ref mk) (C := RX4) (T := TX4) (N := 15) hx hb hts in_X4 hown hK hP 0 rfl rfl 0 (by decide) lk_13 (fun _ h9 => h9) rfl dX4_sides_1 ?_
  refine lv_iload_n hx hb dX4_sides_4 rfl (lv_at hl 1 rfl) ?_
  obtain ⟨v_5, hv_5, hs⟩ := op_bd hs
  refine gx_iald hx hb hK hP 1 0 rfl rfl hv_5 dX4_sides_5 ?_
  refine lv_iconst (v := 2) hx hb dX4_sides_6 (by decide) ?_
  refine lv_icmp_ne (tgt := 21) hx hb dX4_sides_7 (by decide) (fun c_7 => ?_) (fun c_7 => ?_)
  · replace hs := it_f c_7 hs
    refine lv_aload_n hx hb dX4_sides_21 rfl (lv_at hl 0 rfl) ?_
    refine va_get (D := D) (ci := 4) (v := .ref mc) (C := RX4) (T := TX4) (N := 15) hx hb hts in_X4 hown hK hP 0 rfl rfl 1 (by decide) lk_17 (fun _ h9 => h9) rfl dX4_sides_22 ?_
    refine lv_iload_n hx hb dX4_sides_25 rfl (lv_at hl 1 rfl) ?_
    obtain ⟨v_26, hv_26, hs⟩ := op_bd hs
    refine gx_iald hx hb hK hP 2 0 rfl rfl hv_26 dX4_sides_26 ?_
    obtain rfl := Option.some.inj hs
    exact W.iret hx hb hr (fun t ht hW => ⟨_, rfl, rfl, ht⟩) (fun _ h => by cases h) dX4_sides_27
  · replace hs := it_t c_7 hs
    refine lv_aload_n hx hb dX4_sides_10 rfl (lv_at hl 0 rfl) ?_
    refine va_get (D := D) (ci := 4) (v := .ref mc) (C := RX4) (T := TX4) (N := 15) hx hb hts in_X4 hown hK hP 0 rfl rfl 1 (by decide) lk_17 (fun _ h9 => h9) rfl dX4_sides_11 ?_
    refine lv_iload_n hx hb dX4_sides_14 rfl (lv_at hl 1 rfl) ?_
    obtain ⟨v_15, hv_15, hs⟩ := op_bd hs
    refine gx_iald hx hb hK hP 2 0 rfl rfl hv_15 dX4_sides_15 ?_
    refine lv_iconst (v := 1) hx hb dX4_sides_16 (by decide) ?_
    refine lv_isub hx hb dX4_sides_17 ?_
    refine lv_goto (tgt := 27) hx hb dX4_sides_18 (by decide) ?_
    obtain rfl := Option.some.inj hs
    exact W.iret hx hb hr (fun t ht hW => ⟨_, rfl, rfl, ht⟩) (fun _ h => by cases h) dX4_sides_27
def s_X4_from (F : Nat) (M : mo_T) (p1 : Int32) (p2 : Int32) : Option Int32 :=
  some ((24 * p1) + p2)
abbrev rm_X4_from : Room := { frames := 0, cells := 0, slots := 0, locals := 0 }
set_option maxHeartbeats 4000000 in
set_option maxRecDepth 100000 in
theorem c_X4_from (l : Launch) (D : va_G) (cI cJ cZ cS : ClassId) (ad : Nat → Nat) (m0 mk mc mx my mf mp mq mb : Nat) (M : mo_T) (p1 : Int32) (p2 : Int32) (F : Nat)  (r : Int32) (hs : s_X4_from F M p1 p2 = some r) : Met l yX4_from wsX4_from rm_X4_from (gl_P D cI cJ cZ cS ad [.ref m0, .int p1, .int p2] (fun H => va_P D vwCl (mo_w cI cJ cZ m0 mk mc mx my mf mp mq mb M) H)) (vp_Si (fun v => v = r)) 0 0 (fun _ => False) := by
  refine Met.ofW (cc := cX4_from) (maxL := 3) (ret := (some .int)) (by decide) rfl ?_
  intro p e s m args below meth c s₁ B hml hv
  obtain ⟨rfl, hK, hE, hP⟩ := hv
  have hx := B.exec
  have hb := B.bytes
  have hr := B.returns
  have hts := atoms_spec (ws := wsX4_from) B.pre
  have hown : s.vm.findClass RX4 = some m.cls := findClass_of_methodNamed B.named
  have hlocks := B.notSynchronized
  have hl := lv_entry ([.ref m0, .int p1, .int p2]) (n := 3) (Nat.le_of_ble_eq_true rfl)
  rw [lg_entry_eq]
  generalize (lg_sl ([.ref m0, .int p1, .int p2]) ++ List.replicate (3 - (lg_sl ([.ref m0, .int p1, .int p2])).length) Slot.unset).toArray = ls at hl ⊢
  have hl : lv_has ls 3 [(0, .ref m0), (1, .int p1), (2, .int p2)] := hl
  rw [s_X4_from] at hs
  refine lv_bipush (v := 24) hx hb dX4_from_0 (by decide) ?_
  refine lv_iload_n hx hb dX4_from_2 rfl (lv_at hl 1 rfl) ?_
  refine lv_imul hx hb dX4_from_3 ?_
  refine lv_iload_n hx hb dX4_from_4 rfl (lv_at hl 2 rfl) ?_
  refine lv_iadd hx hb dX4_from_5 ?_
  obtain rfl := Option.some.inj hs
  exact W.iret hx hb hr (fun t ht hW => ⟨_, rfl, rfl, ht⟩) (fun _ h => by cases h) dX4_from_6
def s_X4_to (F : Nat) (M : mo_T) (p1 : Int32) (p2 : Int32) : Option Int32 :=
  (rd_i 60 (mo_k M) p1).bind fun v_9 =>
  if v_9 = 1 then
    some ((24 * p1) + 0)
  else
    (rd_i 60 (mo_c M) p1).bind fun v_26 =>
    (nz_i v_26).bind fun _ =>
    some ((24 * p1) + ((p2 + 1) - (p2 + 1) / v_26 * v_26))
abbrev rm_X4_to : Room := { frames := 0, cells := 0, slots := 0, locals := 0 }
theorem in_X4_to_X4 : ∀ w ∈ wsX40, w ∈ wsX4_to := by decide +kernel
set_option maxHeartbeats 4000000 in
set_option maxRecDepth 100000 in
theorem c_X4_to (l : Launch) (D : va_G) (cI cJ cZ cS : ClassId) (ad : Nat → Nat) (m0 mk mc mx my mf mp mq mb : Nat) (M : mo_T) (p1 : Int32) (p2 : Int32) (F : Nat)  (r : Int32) (hs : s_X4_to F M p1 p2 = some r) : Met l yX4_to wsX4_to rm_X4_to (gl_P D cI cJ cZ cS ad [.ref m0, .int p1, .int p2] (fun H => va_P D vwCl (mo_w cI cJ cZ m0 mk mc mx my mf mp mq mb M) H)) (vp_Si (fun v => v = r)) 0 0 (fun _ => False) := by
  refine Met.ofW (cc := cX4_to) (maxL := 3) (ret := (some .int)) (by decide) rfl ?_
  intro p e s m args below meth c s₁ B hml hv
  obtain ⟨rfl, hK, hE, hP⟩ := hv
  have hx := B.exec
  have hb := B.bytes
  have hr := B.returns
  have hts := atoms_spec (ws := wsX4_to) B.pre
  have hown : s.vm.findClass RX4 = some m.cls := findClass_of_methodNamed B.named
  have hlocks := B.notSynchronized
  have lk_13 := hts (.fieldLink RX4 13 "PlacePointsModel" "kinds" "[I") (by decide +kernel)
  have lk_17 := hts (.fieldLink RX4 17 "PlacePointsModel" "counts" "[I") (by decide +kernel)
  have in_X4 := in_X4_to_X4
  have hl := lv_entry ([.ref m0, .int p1, .int p2]) (n := 3) (Nat.le_of_ble_eq_true rfl)
  rw [lg_entry_eq]
  generalize (lg_sl ([.ref m0, .int p1, .int p2]) ++ List.replicate (3 - (lg_sl ([.ref m0, .int p1, .int p2])).length) Slot.unset).toArray = ls at hl ⊢
  have hl : lv_has ls 3 [(0, .ref m0), (1, .int p1), (2, .int p2)] := hl
  rw [s_X4_to] at hs
  refine lv_bipush (v := 24) hx hb dX4_to_0 (by decide) ?_
  refine lv_iload_n hx hb dX4_to_2 rfl (lv_at hl 1 rfl) ?_
  refine lv_imul hx hb dX4_to_3 ?_
  refine lv_aload_n hx hb dX4_to_4 rfl (lv_at hl 0 rfl) ?_
  refine va_get (D := D) (ci := 4) (v := .ref mk) (C := RX4) (T := TX4) (N := 15) hx hb hts in_X4 hown hK hP 0 rfl rfl 0 (by decide) lk_13 (fun _ h9 => h9) rfl dX4_to_5 ?_
  refine lv_iload_n hx hb dX4_to_8 rfl (lv_at hl 1 rfl) ?_
  obtain ⟨v_9, hv_9, hs⟩ := op_bd hs
  refine gx_iald hx hb hK hP 1 0 rfl rfl hv_9 dX4_to_9 ?_
  refine lv_iconst (v := 1) hx hb dX4_to_10 (by decide) ?_
  refine lv_icmp_ne (tgt := 18) hx hb dX4_to_11 (by decide) (fun c_11 => ?_) (fun c_11 => ?_)
  · replace hs := it_f c_11 hs
    refine lv_iload_n hx hb dX4_to_18 rfl (lv_at hl 2 rfl) ?_
    refine lv_iconst (v := 1) hx hb dX4_to_19 (by decide) ?_
    refine lv_iadd hx hb dX4_to_20 ?_
    refine lv_aload_n hx hb dX4_to_21 rfl (lv_at hl 0 rfl) ?_
    refine va_get (D := D) (ci := 4) (v := .ref mc) (C := RX4) (T := TX4) (N := 15) hx hb hts in_X4 hown hK hP 0 rfl rfl 1 (by decide) lk_17 (fun _ h9 => h9) rfl dX4_to_22 ?_
    refine lv_iload_n hx hb dX4_to_25 rfl (lv_at hl 1 rfl) ?_
    obtain ⟨v_26, hv_26, hs⟩ := op_bd hs
    refine gx_iald hx hb hK hP 2 0 rfl rfl hv_26 dX4_to_26 ?_
    obtain ⟨_, hz_27, hs⟩ := op_bd hs
    refine lv_irem hx hb dX4_to_27 (nz_i_ne hz_27) ?_
    refine lv_iadd hx hb dX4_to_28 ?_
    obtain rfl := Option.some.inj hs
    exact W.iret hx hb hr (fun t ht hW => ⟨_, rfl, rfl, ht⟩) (fun _ h => by cases h) dX4_to_29
  · replace hs := it_t c_11 hs
    refine lv_iconst (v := 0) hx hb dX4_to_14 (by decide) ?_
    refine lv_goto (tgt := 28) hx hb dX4_to_15 (by decide) ?_
    refine lv_iadd hx hb dX4_to_28 ?_
    obtain rfl := Option.some.inj hs
    exact W.iret hx hb hr (fun t ht hW => ⟨_, rfl, rfl, ht⟩) (fun _ h => by cases h) dX4_to_29
def s_X4_isShape (F : Nat) (M : mo_T) (p1 : Int32) : Option Int32 :=
  if p1 < 0 then
    some 0
  else
    if (mo_n M) ≤ p1 then
      some 0
    else
      (rd_i 60 (mo_k M) p1).bind fun v_17 =>
      if v_17 = 0 then
        some 0
      else
        some 1
abbrev rm_X4_isShape : Room := { frames := 0, cells := 0, slots := 0, locals := 0 }
theorem in_X4_isShape_X4 : ∀ w ∈ wsX40, w ∈ wsX4_isShape := by decide +kernel
set_option maxHeartbeats 4000000 in
set_option maxRecDepth 100000 in
theorem c_X4_isShape (l : Launch) (D : va_G) (cI cJ cZ cS : ClassId) (ad : Nat → Nat) (m0 mk mc mx my mf mp mq mb : Nat) (M : mo_T) (p1 : Int32) (F : Nat)  (r : Int32) (hs : s_X4_isShape F M p1 = some r) : Met l yX4_isShape wsX4_isShape rm_X4_isShape (gl_P D cI cJ cZ cS ad [.ref m0, .int p1] (fun H => va_P D vwCl (mo_w cI cJ cZ m0 mk mc mx my mf mp mq mb M) H)) (vp_Si (fun v => v = r)) 0 0 (fun _ => False) := by
  refine Met.ofW (cc := cX4_isShape) (maxL := 2) (ret := (some .boolean)) (by decide) rfl ?_
  intro p e s m args below meth c s₁ B hml hv
  obtain ⟨rfl, hK, hE, hP⟩ := hv
  have hx := B.exec
  have hb := B.bytes
  have hr := B.returns
  have hts := atoms_spec (ws := wsX4_isShape) B.pre
  have hown : s.vm.findClass RX4 = some m.cls := findClass_of_methodNamed B.named
  have hlocks := B.notSynchronized
  have lk_13 := hts (.fieldLink RX4 13 "PlacePointsModel" "kinds" "[I") (by decide +kernel)
  have lk_40 := hts (.fieldLink RX4 40 "PlacePointsModel" "count" "I") (by decide +kernel)
  have in_X4 := in_X4_isShape_X4
  have hl := lv_entry ([.ref m0, .int p1]) (n := 2) (Nat.le_of_ble_eq_true rfl)
  rw [lg_entry_eq]
  generalize (lg_sl ([.ref m0, .int p1]) ++ List.replicate (2 - (lg_sl ([.ref m0, .int p1])).length) Slot.unset).toArray = ls at hl ⊢
  have hl : lv_has ls 2 [(0, .ref m0), (1, .int p1)] := hl
  rw [s_X4_isShape] at hs
  refine lv_iload_n hx hb dX4_isShape_0 rfl (lv_at hl 1 rfl) ?_
  refine lv_if_lt (tgt := 25) hx hb dX4_isShape_1 (by decide) (fun c_1 => ?_) (fun c_1 => ?_)
  · replace hs := it_t c_1 hs
    refine lv_iconst (v := 0) hx hb dX4_isShape_25 (by decide) ?_
    obtain rfl := Option.some.inj hs
    exact W.zret hx hb hr rfl (fun t ht hW => ⟨_, rfl, rfl, ht⟩) (fun _ h => by cases h) dX4_isShape_26
  · replace hs := it_f c_1 hs
    refine lv_iload_n hx hb dX4_isShape_4 rfl (lv_at hl 1 rfl) ?_
    refine lv_aload_n hx hb dX4_isShape_5 rfl (lv_at hl 0 rfl) ?_
    refine va_get (D := D) (ci := 4) (v := .int (mo_n M)) (C := RX4) (T := TX4) (N := 15) hx hb hts in_X4 hown hK hP 0 rfl rfl 4 (by decide) lk_40 (fun _ h9 => h9) rfl dX4_isShape_6 ?_
    refine lv_icmp_ge (tgt := 25) hx hb dX4_isShape_9 (by decide) (fun c_9 => ?_) (fun c_9 => ?_)
    · replace hs := it_t c_9 hs
      refine lv_iconst (v := 0) hx hb dX4_isShape_25 (by decide) ?_
      obtain rfl := Option.some.inj hs
      exact W.zret hx hb hr rfl (fun t ht hW => ⟨_, rfl, rfl, ht⟩) (fun _ h => by cases h) dX4_isShape_26
    · replace hs := it_f c_9 hs
      refine lv_aload_n hx hb dX4_isShape_12 rfl (lv_at hl 0 rfl) ?_
      refine va_get (D := D) (ci := 4) (v := .ref mk) (C := RX4) (T := TX4) (N := 15) hx hb hts in_X4 hown hK hP 0 rfl rfl 0 (by decide) lk_13 (fun _ h9 => h9) rfl dX4_isShape_13 ?_
      refine lv_iload_n hx hb dX4_isShape_16 rfl (lv_at hl 1 rfl) ?_
      obtain ⟨v_17, hv_17, hs⟩ := op_bd hs
      refine gx_iald hx hb hK hP 1 0 rfl rfl hv_17 dX4_isShape_17 ?_
      refine lv_if_eq (tgt := 25) hx hb dX4_isShape_18 (by decide) (fun c_18 => ?_) (fun c_18 => ?_)
      · replace hs := it_t c_18 hs
        refine lv_iconst (v := 0) hx hb dX4_isShape_25 (by decide) ?_
        obtain rfl := Option.some.inj hs
        exact W.zret hx hb hr rfl (fun t ht hW => ⟨_, rfl, rfl, ht⟩) (fun _ h => by cases h) dX4_isShape_26
      · replace hs := it_f c_18 hs
        refine lv_iconst (v := 1) hx hb dX4_isShape_21 (by decide) ?_
        refine lv_goto (tgt := 26) hx hb dX4_isShape_22 (by decide) ?_
        obtain rfl := Option.some.inj hs
        exact W.zret hx hb hr rfl (fun t ht hW => ⟨_, rfl, rfl, ht⟩) (fun _ h => by cases h) dX4_isShape_26
def s_X4_thrown (F : Nat) (M : mo_T) : Option Int32 :=
  some (mo_t M)
abbrev rm_X4_thrown : Room := { frames := 0, cells := 0, slots := 0, locals := 0 }
theorem in_X4_thrown_X4 : ∀ w ∈ wsX40, w ∈ wsX4_thrown := by decide +kernel
set_option maxHeartbeats 4000000 in
set_option maxRecDepth 100000 in
theorem c_X4_thrown (l : Launch) (D : va_G) (cI cJ cZ cS : ClassId) (ad : Nat → Nat) (m0 mk mc mx my mf mp mq mb : Nat) (M : mo_T) (F : Nat)  (r : Int32) (hs : s_X4_thrown F M = some r) : Met l yX4_thrown wsX4_thrown rm_X4_thrown (gl_P D cI cJ cZ cS ad [.ref m0] (fun H => va_P D vwCl (mo_w cI cJ cZ m0 mk mc mx my mf mp mq mb M) H)) (vp_Si (fun v => v = r)) 0 0 (fun _ => False) := by
  refine Met.ofW (cc := cX4_thrown) (maxL := 1) (ret := (some .int)) (by decide) rfl ?_
  intro p e s m args below meth c s₁ B hml hv
  obtain ⟨rfl, hK, hE, hP⟩ := hv
  have hx := B.exec
  have hb := B.bytes
  have hr := B.returns
  have hts := atoms_spec (ws := wsX4_thrown) B.pre
  have hown : s.vm.findClass RX4 = some m.cls := findClass_of_methodNamed B.named
  have hlocks := B.notSynchronized
  have lk_1 := hts (.fieldLink RX4 1 "PlacePointsModel" "thrown" "I") (by decide +kernel)
  have in_X4 := in_X4_thrown_X4
  have hl := lv_entry ([.ref m0]) (n := 1) (Nat.le_of_ble_eq_true rfl)
  rw [lg_entry_eq]
  generalize (lg_sl ([.ref m0]) ++ List.replicate (1 - (lg_sl ([.ref m0])).length) Slot.unset).toArray = ls at hl ⊢
  have hl : lv_has ls 1 [(0, .ref m0)] := hl
  rw [s_X4_thrown] at hs
  refine lv_aload_n hx hb dX4_thrown_0 rfl (lv_at hl 0 rfl) ?_
  refine va_get (D := D) (ci := 4) (v := .int (mo_t M)) (C := RX4) (T := TX4) (N := 15) hx hb hts in_X4 hown hK hP 0 rfl rfl 11 (by decide) lk_1 (fun _ h9 => h9) rfl dX4_thrown_1 ?_
  obtain rfl := Option.some.inj hs
  exact W.iret hx hb hr (fun t ht hW => ⟨_, rfl, rfl, ht⟩) (fun _ h => by cases h) dX4_thrown_4
def s_X4_divisor_6 (F : Nat) (p1 : Int64) (p2 : Int64) : Nat → Int64 → Int64 → Option Int64
  | 0, _, _ => none
  | n + 1, x4, x6 =>
    if (lg_cmp x6 0) = 0 then
      some x4
    else
      (nz_l x6).bind fun _ =>
      (some ((x4 - x4 / x6 * x6))).bind fun e_18 =>
      s_X4_divisor_6 F p1 p2 n x6 e_18
def s_X4_divisor (F : Nat) (p1 : Int64) (p2 : Int64) : Option Int64 :=
  s_X4_divisor_6 F p1 p2 F p1 p2
abbrev rm_X4_divisor : Room := { frames := 0, cells := 0, slots := 0, locals := 0 }
set_option maxHeartbeats 4000000 in
set_option maxRecDepth 100000 in
theorem c_X4_divisor (l : Launch) (D : va_G) (cI cJ cZ cS : ClassId) (ad : Nat → Nat) (p1 : Int64) (p2 : Int64) (F : Nat)  (r : Int64) (hs : s_X4_divisor F p1 p2 = some r) : Met l yX4_divisor wsX4_divisor rm_X4_divisor (gl_P D cI cJ cZ cS ad [.long p1, .long p2] (fun _ => True)) (vp_Sl (fun v => v = r)) 0 0 (fun _ => False) := by
  refine Met.ofW (cc := cX4_divisor) (maxL := 10) (ret := (some .long)) (by decide) rfl ?_
  intro p e s m args below meth c s₁ B hml hv
  obtain ⟨rfl, hK, hE, hP⟩ := hv
  have hx := B.exec
  have hb := B.bytes
  have hr := B.returns
  have hts := atoms_spec (ws := wsX4_divisor) B.pre
  have hown : s.vm.findClass RX4 = some m.cls := findClass_of_methodNamed B.named
  have hlocks := B.notSynchronized
  have J_6 : ∀ (n_6 : Nat) (x4 : Int64) (x6 : Int64), s_X4_divisor_6 F p1 p2 n_6 x4 x6 = some r → ∀ ls : Array Slot, lv_has ls 10 [(4, .long x4), (6, .long x6)] → W p l e (headSpec wsX4_divisor rm_X4_divisor).room s m ([.long p1, .long p2] : List Value).toArray below meth c s.heap [] 0 0 (MQ below (vp_Sl (fun v => v = r)) ([.long p1, .long p2] : List Value).toArray s 0 0 (fun _ => False)) (F0 m 6 ls []) := by
    intro n_6
    induction n_6 with
    | zero =>
      intro x4 x6 hs
      cases hs
    | succ n_6 ih_6 =>
      intro x4 x6 hs ls hl
      rw [s_X4_divisor_6] at hs
      refine lv_lload hx hb dX4_divisor_6 (lv_at hl 1 rfl) ?_
      refine lv_lconst (v := 0) hx hb dX4_divisor_8 (by decide) ?_
      refine W.lcmp hx hb dX4_divisor_9 ?_
      refine lv_if_eq (tgt := 31) hx hb dX4_divisor_10 (by decide) (fun c_10 => ?_) (fun c_10 => ?_)
      · replace hs := it_t c_10 hs
        refine lv_lload hx hb dX4_divisor_31 (lv_at hl 0 rfl) ?_
        obtain rfl := Option.some.inj hs
        exact W.lret hx hb hr (fun t ht hW => ⟨_, rfl, rfl, ht⟩) (fun _ h => by cases h) dX4_divisor_33
      · replace hs := it_f c_10 hs
        refine lv_lload hx hb dX4_divisor_13 (lv_at hl 0 rfl) ?_
        refine lv_lload hx hb dX4_divisor_15 (lv_at hl 1 rfl) ?_
        obtain ⟨_, hz_17, hs⟩ := op_bd hs
        refine lv_lrem hx hb dX4_divisor_17 (nz_l_ne hz_17) ?_
        obtain ⟨e_18, hv_18, hs⟩ := op_bd hs
        refine gx_nj (Option.some.inj hv_18) ?_
        refine lv_lstore (lv' := [(8, .long e_18), (4, .long x4), (6, .long x6)]) hx hb dX4_divisor_18 hl (by decide) rfl (fun ls hl => ?_)
        refine lv_lload hx hb dX4_divisor_20 (lv_at hl 2 rfl) ?_
        refine lv_lstore (lv' := [(4, .long x6), (8, .long e_18), (6, .long x6)]) hx hb dX4_divisor_22 hl (by decide) rfl (fun ls hl => ?_)
        refine lv_lload hx hb dX4_divisor_24 (lv_at hl 1 rfl) ?_
        refine lv_lstore (lv' := [(6, .long e_18), (4, .long x6), (8, .long e_18)]) hx hb dX4_divisor_26 hl (by decide) rfl (fun ls hl => ?_)
        refine lv_goto (tgt := 6) hx hb dX4_divisor_28 (by decide) ?_
        exact ih_6 x6 e_18 hs _ (lv_sub hl [1, 0] rfl)
  have hl := lv_entry ([.long p1, .long p2]) (n := 10) (Nat.le_of_ble_eq_true rfl)
  rw [lg_entry_eq]
  generalize (lg_sl ([.long p1, .long p2]) ++ List.replicate (10 - (lg_sl ([.long p1, .long p2])).length) Slot.unset).toArray = ls at hl ⊢
  have hl : lv_has ls 10 [(0, .long p1), (2, .long p2)] := hl
  rw [s_X4_divisor] at hs
  refine lv_lload_n hx hb dX4_divisor_0 rfl (lv_at hl 0 rfl) ?_
  refine lv_lstore (lv' := [(4, .long p1), (0, .long p1), (2, .long p2)]) hx hb dX4_divisor_1 hl (by decide) rfl (fun ls hl => ?_)
  refine lv_lload_n hx hb dX4_divisor_3 rfl (lv_at hl 2 rfl) ?_
  refine lv_lstore (lv' := [(6, .long p2), (4, .long p1), (0, .long p1), (2, .long p2)]) hx hb dX4_divisor_4 hl (by decide) rfl (fun ls hl => ?_)
  exact J_6 F p1 p2 hs _ (lv_sub hl [1, 0] rfl)
def s_X4_isLess_115 (F : Nat) (p1 : Int64) (p2 : Int64) (p3 : Int64) (p4 : Int64) (kc_17 : Int64 → Int64 → Int64 → Int64 → Int32 → Option Int32) (x16 : Int32) (t0 : Int32) : Option Int32 :=
  if t0 = x16 then
    some 0
  else
    some 1
def s_X4_isLess_50 (F : Nat) (p1 : Int64) (p2 : Int64) (p3 : Int64) (p4 : Int64) (kc_17 : Int64 → Int64 → Int64 → Int64 → Int32 → Option Int32) (x10 : Int64) (x14 : Int64) (x16 : Int32) (t0 : Int32) : Option Int32 :=
  if x16 = 0 then
    (bz_i t0).bind fun _ =>
    some t0
  else
    if (lg_cmp x10 0) = 0 then
      if (lg_cmp x14 0) = 0 then
        some 0
      else
        some 1
    else
      some 0
def s_X4_isLess_31 (F : Nat) (p1 : Int64) (p2 : Int64) (p3 : Int64) (p4 : Int64) (kc_17 : Int64 → Int64 → Int64 → Int64 → Int32 → Option Int32) (x10 : Int64) (x14 : Int64) (x16 : Int32) : Option Int32 :=
  if (lg_cmp x14 0) = 0 then
    if (lg_cmp x10 0) = 0 then
      s_X4_isLess_50 F p1 p2 p3 p4 kc_17 x10 x14 x16 0
    else
      s_X4_isLess_50 F p1 p2 p3 p4 kc_17 x10 x14 x16 1
  else
    s_X4_isLess_50 F p1 p2 p3 p4 kc_17 x10 x14 x16 0
def s_X4_isLess_17 (F : Nat) (p1 : Int64) (p2 : Int64) (p3 : Int64) (p4 : Int64) : Nat → Int64 → Int64 → Int64 → Int64 → Int32 → Option Int32
  | 0, _, _, _, _, _ => none
  | n + 1, x8, x10, x12, x14, x16 =>
    if (lg_cmp x10 0) = 0 then
      s_X4_isLess_31 F p1 p2 p3 p4 (fun y0 y1 y2 y3 y4 => s_X4_isLess_17 F p1 p2 p3 p4 n y0 y1 y2 y3 y4) x10 x14 x16
    else
      if (lg_cmp x14 0) = 0 then
        s_X4_isLess_31 F p1 p2 p3 p4 (fun y0 y1 y2 y3 y4 => s_X4_isLess_17 F p1 p2 p3 p4 n y0 y1 y2 y3 y4) x10 x14 x16
      else
        (nz_l x10).bind fun _ =>
        (nz_l x14).bind fun _ =>
        if (lg_cmp (x8 / x10) (x12 / x14)) = 0 then
          (nz_l x10).bind fun _ =>
          (some ((x8 - x8 / x10 * x10))).bind fun e_131 =>
          (nz_l x14).bind fun _ =>
          (some ((x12 - x12 / x14 * x14))).bind fun e_138 =>
          if x16 = 0 then
            s_X4_isLess_17 F p1 p2 p3 p4 n x10 e_131 x14 e_138 1
          else
            s_X4_isLess_17 F p1 p2 p3 p4 n x10 e_131 x14 e_138 0
        else
          (nz_l x10).bind fun _ =>
          (nz_l x14).bind fun _ =>
          if 0 ≤ (lg_cmp (x8 / x10) (x12 / x14)) then
            s_X4_isLess_115 F p1 p2 p3 p4 (fun y0 y1 y2 y3 y4 => s_X4_isLess_17 F p1 p2 p3 p4 n y0 y1 y2 y3 y4) x16 0
          else
            s_X4_isLess_115 F p1 p2 p3 p4 (fun y0 y1 y2 y3 y4 => s_X4_isLess_17 F p1 p2 p3 p4 n y0 y1 y2 y3 y4) x16 1
def s_X4_isLess (F : Nat) (p1 : Int64) (p2 : Int64) (p3 : Int64) (p4 : Int64) : Option Int32 :=
  s_X4_isLess_17 F p1 p2 p3 p4 F p1 p2 p3 p4 0
abbrev rm_X4_isLess : Room := { frames := 0, cells := 0, slots := 0, locals := 0 }
set_option maxHeartbeats 4000000 in
set_option maxRecDepth 100000 in
theorem c_X4_isLess (l : Launch) (D : va_G) (cI cJ cZ cS : ClassId) (ad : Nat → Nat) (p1 : Int64) (p2 : Int64) (p3 : Int64) (p4 : Int64) (F : Nat)  (r : Int32) (hs : s_X4_isLess F p1 p2 p3 p4 = some r) : Met l yX4_isLess wsX4_isLess rm_X4_isLess (gl_P D cI cJ cZ cS ad [.long p1, .long p2, .long p3, .long p4] (fun _ => True)) (vp_Si (fun v => v = r)) 0 0 (fun _ => False) := by
  refine Met.ofW (cc := cX4_isLess) (maxL := 21) (ret := (some .boolean)) (by decide) rfl ?_
  intro p e s m args below meth c s₁ B hml hv
  obtain ⟨rfl, hK, hE, hP⟩ := hv
  have hx := B.exec
  have hb := B.bytes
  have hr := B.returns
  have hts := atoms_spec (ws := wsX4_isLess) B.pre
  have hown : s.vm.findClass RX4 = some m.cls := findClass_of_methodNamed B.named
  have hlocks := B.notSynchronized
  have J_17 : ∀ (n_17 : Nat) (x8 : Int64) (x10 : Int64) (x12 : Int64) (x14 : Int64) (x16 : Int32), s_X4_isLess_17 F p1 p2 p3 p4 n_17 x8 x10 x12 x14 x16 = some r → ∀ ls : Array Slot, lv_has ls 21 [(8, .long x8), (10, .long x10), (12, .long x12), (14, .long x14), (16, .int x16)] → W p l e (headSpec wsX4_isLess rm_X4_isLess).room s m ([.long p1, .long p2, .long p3, .long p4] : List Value).toArray below meth c s.heap [] 0 0 (MQ below (vp_Si (fun v => v = r)) ([.long p1, .long p2, .long p3, .long p4] : List Value).toArray s 0 0 (fun _ => False)) (F0 m 17 ls []) := by
    intro n_17
    induction n_17 with
    | zero =>
      intro x8 x10 x12 x14 x16 hs
      cases hs
    | succ n_17 ih_17 =>
      have J_115 : ∀ (x16 : Int32) (t0 : Int32), s_X4_isLess_115 F p1 p2 p3 p4 (fun y0 y1 y2 y3 y4 => s_X4_isLess_17 F p1 p2 p3 p4 n_17 y0 y1 y2 y3 y4) x16 t0 = some r → ∀ ls : Array Slot, lv_has ls 21 [(16, .int x16)] → W p l e (headSpec wsX4_isLess rm_X4_isLess).room s m ([.long p1, .long p2, .long p3, .long p4] : List Value).toArray below meth c s.heap [] 0 0 (MQ below (vp_Si (fun v => v = r)) ([.long p1, .long p2, .long p3, .long p4] : List Value).toArray s 0 0 (fun _ => False)) (F0 m 115 ls [.int t0]) := by
        intro x16 t0 hs ls hl
        rw [s_X4_isLess_115] at hs
        refine lv_iload hx hb dX4_isLess_115 (lv_at hl 0 rfl) ?_
        refine lv_icmp_eq (tgt := 124) hx hb dX4_isLess_117 (by decide) (fun c_117 => ?_) (fun c_117 => ?_)
        · replace hs := it_t c_117 hs
          refine lv_iconst (v := 0) hx hb dX4_isLess_124 (by decide) ?_
          obtain rfl := Option.some.inj hs
          exact W.zret hx hb hr rfl (fun t ht hW => ⟨_, rfl, rfl, ht⟩) (fun _ h => by cases h) dX4_isLess_125
        · replace hs := it_f c_117 hs
          refine lv_iconst (v := 1) hx hb dX4_isLess_120 (by decide) ?_
          refine lv_goto (tgt := 125) hx hb dX4_isLess_121 (by decide) ?_
          obtain rfl := Option.some.inj hs
          exact W.zret hx hb hr rfl (fun t ht hW => ⟨_, rfl, rfl, ht⟩) (fun _ h => by cases h) dX4_isLess_125
      have J_50 : ∀ (x10 : Int64) (x14 : Int64) (x16 : Int32) (t0 : Int32), s_X4_isLess_50 F p1 p2 p3 p4 (fun y0 y1 y2 y3 y4 => s_X4_isLess_17 F p1 p2 p3 p4 n_17 y0 y1 y2 y3 y4) x10 x14 x16 t0 = some r → ∀ ls : Array Slot, lv_has ls 21 [(10, .long x10), (14, .long x14), (16, .int x16)] → W p l e (headSpec wsX4_isLess rm_X4_isLess).room s m ([.long p1, .long p2, .long p3, .long p4] : List Value).toArray below meth c s.heap [] 0 0 (MQ below (vp_Si (fun v => v = r)) ([.long p1, .long p2, .long p3, .long p4] : List Value).toArray s 0 0 (fun _ => False)) (F0 m 50 ls [.int t0]) := by
        intro x10 x14 x16 t0 hs ls hl
        rw [s_X4_isLess_50] at hs
        refine lv_istore (lv' := [(17, .int t0), (10, .long x10), (14, .long x14), (16, .int x16)]) hx hb dX4_isLess_50 hl (by decide) rfl (fun ls hl => ?_)
        refine lv_iload hx hb dX4_isLess_52 (lv_at hl 3 rfl) ?_
        refine lv_if_eq (tgt := 79) hx hb dX4_isLess_54 (by decide) (fun c_54 => ?_) (fun c_54 => ?_)
        · replace hs := it_t c_54 hs
          refine lv_iload hx hb dX4_isLess_79 (lv_at hl 0 rfl) ?_
          obtain ⟨_, hz_81, hs⟩ := op_bd hs
          obtain rfl := Option.some.inj hs
          exact W.zret hx hb hr (bz_nar hz_81) (fun t ht hW => ⟨_, rfl, rfl, ht⟩) (fun _ h => by cases h) dX4_isLess_81
        · replace hs := it_f c_54 hs
          refine lv_lload hx hb dX4_isLess_57 (lv_at hl 1 rfl) ?_
          refine lv_lconst (v := 0) hx hb dX4_isLess_59 (by decide) ?_
          refine W.lcmp hx hb dX4_isLess_60 ?_
          refine lv_if_ne (tgt := 75) hx hb dX4_isLess_61 (by decide) (fun c_61 => ?_) (fun c_61 => ?_)
          · replace hs := it_f c_61 hs
            refine lv_iconst (v := 0) hx hb dX4_isLess_75 (by decide) ?_
            refine lv_goto (tgt := 81) hx hb dX4_isLess_76 (by decide) ?_
            obtain rfl := Option.some.inj hs
            exact W.zret hx hb hr rfl (fun t ht hW => ⟨_, rfl, rfl, ht⟩) (fun _ h => by cases h) dX4_isLess_81
          · replace hs := it_t c_61 hs
            refine lv_lload hx hb dX4_isLess_64 (lv_at hl 2 rfl) ?_
            refine lv_lconst (v := 0) hx hb dX4_isLess_66 (by decide) ?_
            refine W.lcmp hx hb dX4_isLess_67 ?_
            refine lv_if_eq (tgt := 75) hx hb dX4_isLess_68 (by decide) (fun c_68 => ?_) (fun c_68 => ?_)
            · replace hs := it_t c_68 hs
              refine lv_iconst (v := 0) hx hb dX4_isLess_75 (by decide) ?_
              refine lv_goto (tgt := 81) hx hb dX4_isLess_76 (by decide) ?_
              obtain rfl := Option.some.inj hs
              exact W.zret hx hb hr rfl (fun t ht hW => ⟨_, rfl, rfl, ht⟩) (fun _ h => by cases h) dX4_isLess_81
            · replace hs := it_f c_68 hs
              refine lv_iconst (v := 1) hx hb dX4_isLess_71 (by decide) ?_
              refine lv_goto (tgt := 81) hx hb dX4_isLess_72 (by decide) ?_
              obtain rfl := Option.some.inj hs
              exact W.zret hx hb hr rfl (fun t ht hW => ⟨_, rfl, rfl, ht⟩) (fun _ h => by cases h) dX4_isLess_81
      have J_31 : ∀ (x10 : Int64) (x14 : Int64) (x16 : Int32), s_X4_isLess_31 F p1 p2 p3 p4 (fun y0 y1 y2 y3 y4 => s_X4_isLess_17 F p1 p2 p3 p4 n_17 y0 y1 y2 y3 y4) x10 x14 x16 = some r → ∀ ls : Array Slot, lv_has ls 21 [(10, .long x10), (14, .long x14), (16, .int x16)] → W p l e (headSpec wsX4_isLess rm_X4_isLess).room s m ([.long p1, .long p2, .long p3, .long p4] : List Value).toArray below meth c s.heap [] 0 0 (MQ below (vp_Si (fun v => v = r)) ([.long p1, .long p2, .long p3, .long p4] : List Value).toArray s 0 0 (fun _ => False)) (F0 m 31 ls []) := by
        intro x10 x14 x16 hs ls hl
        rw [s_X4_isLess_31] at hs
        refine lv_lload hx hb dX4_isLess_31 (lv_at hl 1 rfl) ?_
        refine lv_lconst (v := 0) hx hb dX4_isLess_33 (by decide) ?_
        refine W.lcmp hx hb dX4_isLess_34 ?_
        refine lv_if_ne (tgt := 49) hx hb dX4_isLess_35 (by decide) (fun c_35 => ?_) (fun c_35 => ?_)
        · replace hs := it_f c_35 hs
          refine lv_iconst (v := 0) hx hb dX4_isLess_49 (by decide) ?_
          exact J_50 x10 x14 x16 0 hs _ (lv_sub hl [0, 1, 2] rfl)
        · replace hs := it_t c_35 hs
          refine lv_lload hx hb dX4_isLess_38 (lv_at hl 0 rfl) ?_
          refine lv_lconst (v := 0) hx hb dX4_isLess_40 (by decide) ?_
          refine W.lcmp hx hb dX4_isLess_41 ?_
          refine lv_if_eq (tgt := 49) hx hb dX4_isLess_42 (by decide) (fun c_42 => ?_) (fun c_42 => ?_)
          · replace hs := it_t c_42 hs
            refine lv_iconst (v := 0) hx hb dX4_isLess_49 (by decide) ?_
            exact J_50 x10 x14 x16 0 hs _ (lv_sub hl [0, 1, 2] rfl)
          · replace hs := it_f c_42 hs
            refine lv_iconst (v := 1) hx hb dX4_isLess_45 (by decide) ?_
            refine lv_goto (tgt := 50) hx hb dX4_isLess_46 (by decide) ?_
            exact J_50 x10 x14 x16 1 hs _ (lv_sub hl [0, 1, 2] rfl)
      intro x8 x10 x12 x14 x16 hs ls hl
      rw [s_X4_isLess_17] at hs
      refine lv_lload hx hb dX4_isLess_17 (lv_at hl 1 rfl) ?_
      refine lv_lconst (v := 0) hx hb dX4_isLess_19 (by decide) ?_
      refine W.lcmp hx hb dX4_isLess_20 ?_
      refine lv_if_eq (tgt := 31) hx hb dX4_isLess_21 (by decide) (fun c_21 => ?_) (fun c_21 => ?_)
      · replace hs := it_t c_21 hs
        exact J_31 x10 x14 x16 hs _ (lv_sub hl [1, 3, 4] rfl)
      · replace hs := it_f c_21 hs
        refine lv_lload hx hb dX4_isLess_24 (lv_at hl 3 rfl) ?_
        refine lv_lconst (v := 0) hx hb dX4_isLess_26 (by decide) ?_
        refine W.lcmp hx hb dX4_isLess_27 ?_
        refine lv_if_ne (tgt := 82) hx hb dX4_isLess_28 (by decide) (fun c_28 => ?_) (fun c_28 => ?_)
        · replace hs := it_f c_28 hs
          refine lv_lload hx hb dX4_isLess_82 (lv_at hl 0 rfl) ?_
          refine lv_lload hx hb dX4_isLess_84 (lv_at hl 1 rfl) ?_
          obtain ⟨_, hz_86, hs⟩ := op_bd hs
          refine lv_ldiv hx hb dX4_isLess_86 (nz_l_ne hz_86) ?_
          refine lv_lload hx hb dX4_isLess_87 (lv_at hl 2 rfl) ?_
          refine lv_lload hx hb dX4_isLess_89 (lv_at hl 3 rfl) ?_
          obtain ⟨_, hz_91, hs⟩ := op_bd hs
          refine lv_ldiv hx hb dX4_isLess_91 (nz_l_ne hz_91) ?_
          refine W.lcmp hx hb dX4_isLess_92 ?_
          refine lv_if_eq (tgt := 126) hx hb dX4_isLess_93 (by decide) (fun c_93 => ?_) (fun c_93 => ?_)
          · replace hs := it_t c_93 hs
            refine lv_lload hx hb dX4_isLess_126 (lv_at hl 0 rfl) ?_
            refine lv_lload hx hb dX4_isLess_128 (lv_at hl 1 rfl) ?_
            obtain ⟨_, hz_130, hs⟩ := op_bd hs
            refine lv_lrem hx hb dX4_isLess_130 (nz_l_ne hz_130) ?_
            obtain ⟨e_131, hv_131, hs⟩ := op_bd hs
            refine gx_nj (Option.some.inj hv_131) ?_
            refine lv_lstore (lv' := [(17, .long e_131), (8, .long x8), (10, .long x10), (12, .long x12), (14, .long x14), (16, .int x16)]) hx hb dX4_isLess_131 hl (by decide) rfl (fun ls hl => ?_)
            refine lv_lload hx hb dX4_isLess_133 (lv_at hl 3 rfl) ?_
            refine lv_lload hx hb dX4_isLess_135 (lv_at hl 4 rfl) ?_
            obtain ⟨_, hz_137, hs⟩ := op_bd hs
            refine lv_lrem hx hb dX4_isLess_137 (nz_l_ne hz_137) ?_
            obtain ⟨e_138, hv_138, hs⟩ := op_bd hs
            refine gx_nj (Option.some.inj hv_138) ?_
            refine lv_lstore (lv' := [(19, .long e_138), (17, .long e_131), (8, .long x8), (10, .long x10), (12, .long x12), (14, .long x14), (16, .int x16)]) hx hb dX4_isLess_138 hl (by decide) rfl (fun ls hl => ?_)
            refine lv_lload hx hb dX4_isLess_140 (lv_at hl 3 rfl) ?_
            refine lv_lstore (lv' := [(8, .long x10), (19, .long e_138), (17, .long e_131), (10, .long x10), (12, .long x12), (14, .long x14), (16, .int x16)]) hx hb dX4_isLess_142 hl (by decide) rfl (fun ls hl => ?_)
            refine lv_lload hx hb dX4_isLess_144 (lv_at hl 2 rfl) ?_
            refine lv_lstore (lv' := [(10, .long e_131), (8, .long x10), (19, .long e_138), (17, .long e_131), (12, .long x12), (14, .long x14), (16, .int x16)]) hx hb dX4_isLess_146 hl (by decide) rfl (fun ls hl => ?_)
            refine lv_lload hx hb dX4_isLess_148 (lv_at hl 5 rfl) ?_
            refine lv_lstore (lv' := [(12, .long x14), (10, .long e_131), (8, .long x10), (19, .long e_138), (17, .long e_131), (14, .long x14), (16, .int x16)]) hx hb dX4_isLess_150 hl (by decide) rfl (fun ls hl => ?_)
            refine lv_lload hx hb dX4_isLess_152 (lv_at hl 3 rfl) ?_
            refine lv_lstore (lv' := [(14, .long e_138), (12, .long x14), (10, .long e_131), (8, .long x10), (19, .long e_138), (17, .long e_131), (16, .int x16)]) hx hb dX4_isLess_154 hl (by decide) rfl (fun ls hl => ?_)
            refine lv_iload hx hb dX4_isLess_156 (lv_at hl 6 rfl) ?_
            refine lv_if_ne (tgt := 165) hx hb dX4_isLess_158 (by decide) (fun c_158 => ?_) (fun c_158 => ?_)
            · replace hs := it_f c_158 hs
              refine lv_iconst (v := 0) hx hb dX4_isLess_165 (by decide) ?_
              refine lv_istore (lv' := [(16, .int 0), (14, .long e_138), (12, .long x14), (10, .long e_131), (8, .long x10), (19, .long e_138), (17, .long e_131)]) hx hb dX4_isLess_166 hl (by decide) rfl (fun ls hl => ?_)
              refine lv_goto (tgt := 17) hx hb dX4_isLess_168 (by decide) ?_
              exact ih_17 x10 e_131 x14 e_138 0 hs _ (lv_sub hl [4, 3, 2, 1, 0] rfl)
            · replace hs := it_t c_158 hs
              refine lv_iconst (v := 1) hx hb dX4_isLess_161 (by decide) ?_
              refine lv_goto (tgt := 166) hx hb dX4_isLess_162 (by decide) ?_
              refine lv_istore (lv' := [(16, .int 1), (14, .long e_138), (12, .long x14), (10, .long e_131), (8, .long x10), (19, .long e_138), (17, .long e_131)]) hx hb dX4_isLess_166 hl (by decide) rfl (fun ls hl => ?_)
              refine lv_goto (tgt := 17) hx hb dX4_isLess_168 (by decide) ?_
              exact ih_17 x10 e_131 x14 e_138 1 hs _ (lv_sub hl [4, 3, 2, 1, 0] rfl)
          · replace hs := it_f c_93 hs
            refine lv_lload hx hb dX4_isLess_96 (lv_at hl 0 rfl) ?_
            refine lv_lload hx hb dX4_isLess_98 (lv_at hl 1 rfl) ?_
            obtain ⟨_, hz_100, hs⟩ := op_bd hs
            refine lv_ldiv hx hb dX4_isLess_100 (nz_l_ne hz_100) ?_
            refine lv_lload hx hb dX4_isLess_101 (lv_at hl 2 rfl) ?_
            refine lv_lload hx hb dX4_isLess_103 (lv_at hl 3 rfl) ?_
            obtain ⟨_, hz_105, hs⟩ := op_bd hs
            refine lv_ldiv hx hb dX4_isLess_105 (nz_l_ne hz_105) ?_
            refine W.lcmp hx hb dX4_isLess_106 ?_
            refine lv_if_ge (tgt := 114) hx hb dX4_isLess_107 (by decide) (fun c_107 => ?_) (fun c_107 => ?_)
            · replace hs := it_t c_107 hs
              refine lv_iconst (v := 0) hx hb dX4_isLess_114 (by decide) ?_
              exact J_115 x16 0 hs _ (lv_sub hl [4] rfl)
            · replace hs := it_f c_107 hs
              refine lv_iconst (v := 1) hx hb dX4_isLess_110 (by decide) ?_
              refine lv_goto (tgt := 115) hx hb dX4_isLess_111 (by decide) ?_
              exact J_115 x16 1 hs _ (lv_sub hl [4] rfl)
        · replace hs := it_t c_28 hs
          exact J_31 x10 x14 x16 hs _ (lv_sub hl [1, 3, 4] rfl)
  have hl := lv_entry ([.long p1, .long p2, .long p3, .long p4]) (n := 21) (Nat.le_of_ble_eq_true rfl)
  rw [lg_entry_eq]
  generalize (lg_sl ([.long p1, .long p2, .long p3, .long p4]) ++ List.replicate (21 - (lg_sl ([.long p1, .long p2, .long p3, .long p4])).length) Slot.unset).toArray = ls at hl ⊢
  have hl : lv_has ls 21 [(0, .long p1), (2, .long p2), (4, .long p3), (6, .long p4)] := hl
  rw [s_X4_isLess] at hs
  refine lv_lload_n hx hb dX4_isLess_0 rfl (lv_at hl 0 rfl) ?_
  refine lv_lstore (lv' := [(8, .long p1), (0, .long p1), (2, .long p2), (4, .long p3), (6, .long p4)]) hx hb dX4_isLess_1 hl (by decide) rfl (fun ls hl => ?_)
  refine lv_lload_n hx hb dX4_isLess_3 rfl (lv_at hl 2 rfl) ?_
  refine lv_lstore (lv' := [(10, .long p2), (8, .long p1), (0, .long p1), (2, .long p2), (4, .long p3), (6, .long p4)]) hx hb dX4_isLess_4 hl (by decide) rfl (fun ls hl => ?_)
  refine lv_lload hx hb dX4_isLess_6 (lv_at hl 4 rfl) ?_
  refine lv_lstore (lv' := [(12, .long p3), (10, .long p2), (8, .long p1), (0, .long p1), (2, .long p2), (4, .long p3), (6, .long p4)]) hx hb dX4_isLess_8 hl (by decide) rfl (fun ls hl => ?_)
  refine lv_lload hx hb dX4_isLess_10 (lv_at hl 6 rfl) ?_
  refine lv_lstore (lv' := [(14, .long p4), (12, .long p3), (10, .long p2), (8, .long p1), (0, .long p1), (2, .long p2), (4, .long p3), (6, .long p4)]) hx hb dX4_isLess_12 hl (by decide) rfl (fun ls hl => ?_)
  refine lv_iconst (v := 0) hx hb dX4_isLess_14 (by decide) ?_
  refine lv_istore (lv' := [(16, .int 0), (14, .long p4), (12, .long p3), (10, .long p2), (8, .long p1), (0, .long p1), (2, .long p2), (4, .long p3), (6, .long p4)]) hx hb dX4_isLess_15 hl (by decide) rfl (fun ls hl => ?_)
  exact J_17 F p1 p2 p3 p4 0 hs _ (lv_sub hl [4, 3, 2, 1, 0] rfl)
end
section
def s_X4_folds (F : Nat) (M : mo_T) (p1 : Int32) (p2 : Int32) (p3 : Int32) : Option Int32 :=
  (rd_l 1500 (mo_x M) p1).bind fun v_5 =>
  (rd_l 1500 (mo_x M) p2).bind fun v_11 =>
  (some ((v_5 - v_11))).bind fun e_13 =>
  (rd_l 1500 (mo_y M) p1).bind fun v_20 =>
  (rd_l 1500 (mo_y M) p2).bind fun v_26 =>
  (some ((v_20 - v_26))).bind fun e_28 =>
  (rd_l 1500 (mo_x M) p3).bind fun v_35 =>
  (rd_l 1500 (mo_x M) p2).bind fun v_41 =>
  (some ((v_35 - v_41))).bind fun e_43 =>
  (rd_l 1500 (mo_y M) p3).bind fun v_50 =>
  (rd_l 1500 (mo_y M) p2).bind fun v_56 =>
  (some ((v_50 - v_56))).bind fun e_58 =>
  (s_X4_cross F e_13 e_28 e_43 e_58).bind fun v_68 =>
  if (lg_cmp v_68 0) = 0 then
    if (lg_cmp ((e_13 * e_43) + (e_28 * e_58)) 0) ≤ 0 then
      some 0
    else
      some 1
  else
    some 0
abbrev rm_X4_folds : Room := { frames := 1, cells := 0, slots := 0, locals := 27 }
theorem in_X4_folds_X4 : ∀ w ∈ wsX40, w ∈ wsX4_folds := by decide +kernel
set_option maxHeartbeats 4000000 in
set_option maxRecDepth 100000 in
theorem c_X4_folds (l : Launch) (D : va_G) (cI cJ cZ cS : ClassId) (ad : Nat → Nat) (m0 mk mc mx my mf mp mq mb : Nat) (M : mo_T) (p1 : Int32) (p2 : Int32) (p3 : Int32) (F : Nat)  (r : Int32) (hs : s_X4_folds F M p1 p2 p3 = some r) : Met l yX4_folds wsX4_folds rm_X4_folds (gl_P D cI cJ cZ cS ad [.ref m0, .int p1, .int p2, .int p3] (fun H => va_P D vwCl (mo_w cI cJ cZ m0 mk mc mx my mf mp mq mb M) H)) (vp_Si (fun v => v = r)) 0 0 (fun _ => False) := by
  refine Met.ofW (cc := cX4_folds) (maxL := 12) (ret := (some .boolean)) (by decide) rfl ?_
  intro p e s m args below meth c s₁ B hml hv
  obtain ⟨rfl, hK, hE, hP⟩ := hv
  have hx := B.exec
  have hb := B.bytes
  have hr := B.returns
  have hts := atoms_spec (ws := wsX4_folds) B.pre
  have hown : s.vm.findClass RX4 = some m.cls := findClass_of_methodNamed B.named
  have hlocks := B.notSynchronized
  have lk_20 := hts (.fieldLink RX4 20 "PlacePointsModel" "xs" "[J") (by decide +kernel)
  have lk_24 := hts (.fieldLink RX4 24 "PlacePointsModel" "ys" "[J") (by decide +kernel)
  have in_X4 := in_X4_folds_X4
  have hl := lv_entry ([.ref m0, .int p1, .int p2, .int p3]) (n := 12) (Nat.le_of_ble_eq_true rfl)
  rw [lg_entry_eq]
  generalize (lg_sl ([.ref m0, .int p1, .int p2, .int p3]) ++ List.replicate (12 - (lg_sl ([.ref m0, .int p1, .int p2, .int p3])).length) Slot.unset).toArray = ls at hl ⊢
  have hl : lv_has ls 12 [(0, .ref m0), (1, .int p1), (2, .int p2), (3, .int p3)] := hl
  rw [s_X4_folds] at hs
  refine lv_aload_n hx hb dX4_folds_0 rfl (lv_at hl 0 rfl) ?_
  refine va_get (D := D) (ci := 4) (v := .ref mx) (C := RX4) (T := TX4) (N := 15) hx hb hts in_X4 hown hK hP 0 rfl rfl 2 (by decide) lk_20 (fun _ h9 => h9) rfl dX4_folds_1 ?_
  refine lv_iload_n hx hb dX4_folds_4 rfl (lv_at hl 1 rfl) ?_
  obtain ⟨v_5, hv_5, hs⟩ := op_bd hs
  refine gx_lald hx hb hK hP 3 1 rfl rfl hv_5 dX4_folds_5 ?_
  refine lv_aload_n hx hb dX4_folds_6 rfl (lv_at hl 0 rfl) ?_
  refine va_get (D := D) (ci := 4) (v := .ref mx) (C := RX4) (T := TX4) (N := 15) hx hb hts in_X4 hown hK hP 0 rfl rfl 2 (by decide) lk_20 (fun _ h9 => h9) rfl dX4_folds_7 ?_
  refine lv_iload_n hx hb dX4_folds_10 rfl (lv_at hl 2 rfl) ?_
  obtain ⟨v_11, hv_11, hs⟩ := op_bd hs
  refine gx_lald hx hb hK hP 3 1 rfl rfl hv_11 dX4_folds_11 ?_
  refine lv_lsub hx hb dX4_folds_12 ?_
  obtain ⟨e_13, hv_13, hs⟩ := op_bd hs
  refine gx_nj (Option.some.inj hv_13) ?_
  refine lv_lstore (lv' := [(4, .long e_13), (0, .ref m0), (1, .int p1), (2, .int p2), (3, .int p3)]) hx hb dX4_folds_13 hl (by decide) rfl (fun ls hl => ?_)
  refine lv_aload_n hx hb dX4_folds_15 rfl (lv_at hl 1 rfl) ?_
  refine va_get (D := D) (ci := 4) (v := .ref my) (C := RX4) (T := TX4) (N := 15) hx hb hts in_X4 hown hK hP 0 rfl rfl 3 (by decide) lk_24 (fun _ h9 => h9) rfl dX4_folds_16 ?_
  refine lv_iload_n hx hb dX4_folds_19 rfl (lv_at hl 2 rfl) ?_
  obtain ⟨v_20, hv_20, hs⟩ := op_bd hs
  refine gx_lald hx hb hK hP 4 1 rfl rfl hv_20 dX4_folds_20 ?_
  refine lv_aload_n hx hb dX4_folds_21 rfl (lv_at hl 1 rfl) ?_
  refine va_get (D := D) (ci := 4) (v := .ref my) (C := RX4) (T := TX4) (N := 15) hx hb hts in_X4 hown hK hP 0 rfl rfl 3 (by decide) lk_24 (fun _ h9 => h9) rfl dX4_folds_22 ?_
  refine lv_iload_n hx hb dX4_folds_25 rfl (lv_at hl 3 rfl) ?_
  obtain ⟨v_26, hv_26, hs⟩ := op_bd hs
  refine gx_lald hx hb hK hP 4 1 rfl rfl hv_26 dX4_folds_26 ?_
  refine lv_lsub hx hb dX4_folds_27 ?_
  obtain ⟨e_28, hv_28, hs⟩ := op_bd hs
  refine gx_nj (Option.some.inj hv_28) ?_
  refine lv_lstore (lv' := [(6, .long e_28), (4, .long e_13), (0, .ref m0), (1, .int p1), (2, .int p2), (3, .int p3)]) hx hb dX4_folds_28 hl (by decide) rfl (fun ls hl => ?_)
  refine lv_aload_n hx hb dX4_folds_30 rfl (lv_at hl 2 rfl) ?_
  refine va_get (D := D) (ci := 4) (v := .ref mx) (C := RX4) (T := TX4) (N := 15) hx hb hts in_X4 hown hK hP 0 rfl rfl 2 (by decide) lk_20 (fun _ h9 => h9) rfl dX4_folds_31 ?_
  refine lv_iload_n hx hb dX4_folds_34 rfl (lv_at hl 5 rfl) ?_
  obtain ⟨v_35, hv_35, hs⟩ := op_bd hs
  refine gx_lald hx hb hK hP 3 1 rfl rfl hv_35 dX4_folds_35 ?_
  refine lv_aload_n hx hb dX4_folds_36 rfl (lv_at hl 2 rfl) ?_
  refine va_get (D := D) (ci := 4) (v := .ref mx) (C := RX4) (T := TX4) (N := 15) hx hb hts in_X4 hown hK hP 0 rfl rfl 2 (by decide) lk_20 (fun _ h9 => h9) rfl dX4_folds_37 ?_
  refine lv_iload_n hx hb dX4_folds_40 rfl (lv_at hl 4 rfl) ?_
  obtain ⟨v_41, hv_41, hs⟩ := op_bd hs
  refine gx_lald hx hb hK hP 3 1 rfl rfl hv_41 dX4_folds_41 ?_
  refine lv_lsub hx hb dX4_folds_42 ?_
  obtain ⟨e_43, hv_43, hs⟩ := op_bd hs
  refine gx_nj (Option.some.inj hv_43) ?_
  refine lv_lstore (lv' := [(8, .long e_43), (6, .long e_28), (4, .long e_13), (0, .ref m0), (1, .int p1), (2, .int p2), (3, .int p3)]) hx hb dX4_folds_43 hl (by decide) rfl (fun ls hl => ?_)
  refine lv_aload_n hx hb dX4_folds_45 rfl (lv_at hl 3 rfl) ?_
  refine va_get (D := D) (ci := 4) (v := .ref my) (C := RX4) (T := TX4) (N := 15) hx hb hts in_X4 hown hK hP 0 rfl rfl 3 (by decide) lk_24 (fun _ h9 => h9) rfl dX4_folds_46 ?_
  refine lv_iload_n hx hb dX4_folds_49 rfl (lv_at hl 6 rfl) ?_
  obtain ⟨v_50, hv_50, hs⟩ := op_bd hs
  refine gx_lald hx hb hK hP 4 1 rfl rfl hv_50 dX4_folds_50 ?_
  refine lv_aload_n hx hb dX4_folds_51 rfl (lv_at hl 3 rfl) ?_
  refine va_get (D := D) (ci := 4) (v := .ref my) (C := RX4) (T := TX4) (N := 15) hx hb hts in_X4 hown hK hP 0 rfl rfl 3 (by decide) lk_24 (fun _ h9 => h9) rfl dX4_folds_52 ?_
  refine lv_iload_n hx hb dX4_folds_55 rfl (lv_at hl 5 rfl) ?_
  obtain ⟨v_56, hv_56, hs⟩ := op_bd hs
  refine gx_lald hx hb hK hP 4 1 rfl rfl hv_56 dX4_folds_56 ?_
  refine lv_lsub hx hb dX4_folds_57 ?_
  obtain ⟨e_58, hv_58, hs⟩ := op_bd hs
  refine gx_nj (Option.some.inj hv_58) ?_
  refine lv_lstore (lv' := [(10, .long e_58), (8, .long e_43), (6, .long e_28), (4, .long e_13), (0, .ref m0), (1, .int p1), (2, .int p2), (3, .int p3)]) hx hb dX4_folds_58 hl (by decide) rfl (fun ls hl => ?_)
  refine lv_lload hx hb dX4_folds_60 (lv_at hl 3 rfl) ?_
  refine lv_lload hx hb dX4_folds_62 (lv_at hl 2 rfl) ?_
  refine lv_lload hx hb dX4_folds_64 (lv_at hl 1 rfl) ?_
  refine lv_lload hx hb dX4_folds_66 (lv_at hl 0 rfl) ?_
  obtain ⟨v_68, hc_68, hs⟩ := op_bd hs
  refine gx_cSl (va_Run.run (va_runS (As := [.long e_13, .long e_28, .long e_43, .long e_58]) (rest := []) ⟨hx, hb, hml, hown, hts⟩ (c_X4_cross l D cI cJ cZ cS ad e_13 e_28 e_43 e_58 F  v_68 hc_68) (va_cwS 4 hts gX4_folds_X4_cross rfl rfl rfl (by decide +kernel) ⟨Nat.le_of_ble_eq_true rfl, Nat.le_of_ble_eq_true rfl⟩) ⟨gl_blind, gl_ok hK hE trivial⟩ rfl rfl hl.1 rfl (lv_room (Nat.le_of_ble_eq_true rfl)) dX4_folds_68 ⟨Nat.le_of_ble_eq_true rfl, Nat.le_of_ble_eq_true rfl⟩)) ?_
  refine lv_lconst (v := 0) hx hb dX4_folds_71 (by decide) ?_
  refine W.lcmp hx hb dX4_folds_72 ?_
  refine lv_if_ne (tgt := 96) hx hb dX4_folds_73 (by decide) (fun c_73 => ?_) (fun c_73 => ?_)
  · replace hs := it_f c_73 hs
    refine lv_iconst (v := 0) hx hb dX4_folds_96 (by decide) ?_
    obtain rfl := Option.some.inj hs
    exact W.zret hx hb hr rfl (fun t ht hW => ⟨_, rfl, rfl, ht⟩) (fun _ h => by cases h) dX4_folds_97
  · replace hs := it_t c_73 hs
    refine lv_lload hx hb dX4_folds_76 (lv_at hl 3 rfl) ?_
    refine lv_lload hx hb dX4_folds_78 (lv_at hl 1 rfl) ?_
    refine lv_lmul hx hb dX4_folds_80 ?_
    refine lv_lload hx hb dX4_folds_81 (lv_at hl 2 rfl) ?_
    refine lv_lload hx hb dX4_folds_83 (lv_at hl 0 rfl) ?_
    refine lv_lmul hx hb dX4_folds_85 ?_
    refine lv_ladd hx hb dX4_folds_86 ?_
    refine lv_lconst (v := 0) hx hb dX4_folds_87 (by decide) ?_
    refine W.lcmp hx hb dX4_folds_88 ?_
    refine lv_if_le (tgt := 96) hx hb dX4_folds_89 (by decide) (fun c_89 => ?_) (fun c_89 => ?_)
    · replace hs := it_t c_89 hs
      refine lv_iconst (v := 0) hx hb dX4_folds_96 (by decide) ?_
      obtain rfl := Option.some.inj hs
      exact W.zret hx hb hr rfl (fun t ht hW => ⟨_, rfl, rfl, ht⟩) (fun _ h => by cases h) dX4_folds_97
    · replace hs := it_f c_89 hs
      refine lv_iconst (v := 1) hx hb dX4_folds_92 (by decide) ?_
      refine lv_goto (tgt := 97) hx hb dX4_folds_93 (by decide) ?_
      obtain rfl := Option.some.inj hs
      exact W.zret hx hb hr rfl (fun t ht hW => ⟨_, rfl, rfl, ht⟩) (fun _ h => by cases h) dX4_folds_97
def s_X4_isIn_109 (F : Nat) (M : mo_T) (p1 : Int32) (p2 : Int32) (p3 : Int32) (p4 : Int32) (p5 : Int32) (kc_15 : Int32 → Int32 → Int32 → Int32 → Int32 → Option Int32) (x6 : Int32) (x7 : Int32) (x9 : Int32) (x10 : Int32) (x11 : Int32) (t0 : Int32) : Option Int32 :=
  if x9 = 0 then
    (some (x10 + 1)).bind fun e_137 =>
    kc_15 x6 x7 t0 0 e_137
  else
    (rd_l 1500 (mo_y M) x11).bind fun v_122 =>
    if (lg_cmp v_122 p5.toInt64) ≤ 0 then
      (some (x10 + 1)).bind fun e_137 =>
      kc_15 x6 x7 t0 0 e_137
    else
      (some (x10 + 1)).bind fun e_137 =>
      kc_15 x6 x7 t0 1 e_137
def s_X4_isIn_84 (F : Nat) (M : mo_T) (p1 : Int32) (p2 : Int32) (p3 : Int32) (p4 : Int32) (p5 : Int32) (kc_15 : Int32 → Int32 → Int32 → Int32 → Int32 → Option Int32) (x6 : Int32) (x8 : Int32) (x9 : Int32) (x10 : Int32) (x11 : Int32) (t0 : Int32) : Option Int32 :=
  if x8 = 0 then
    s_X4_isIn_109 F M p1 p2 p3 p4 p5 kc_15 x6 t0 x9 x10 x11 0
  else
    (rd_l 1500 (mo_y M) x11).bind fun v_97 =>
    if 0 ≤ (lg_cmp v_97 p3.toInt64) then
      s_X4_isIn_109 F M p1 p2 p3 p4 p5 kc_15 x6 t0 x9 x10 x11 0
    else
      s_X4_isIn_109 F M p1 p2 p3 p4 p5 kc_15 x6 t0 x9 x10 x11 1
def s_X4_isIn_58 (F : Nat) (M : mo_T) (p1 : Int32) (p2 : Int32) (p3 : Int32) (p4 : Int32) (p5 : Int32) (kc_15 : Int32 → Int32 → Int32 → Int32 → Int32 → Option Int32) (x7 : Int32) (x8 : Int32) (x9 : Int32) (x10 : Int32) (x11 : Int32) (t0 : Int32) : Option Int32 :=
  if x7 = 0 then
    s_X4_isIn_84 F M p1 p2 p3 p4 p5 kc_15 t0 x8 x9 x10 x11 0
  else
    (rd_l 1500 (mo_x M) x11).bind fun v_71 =>
    if (lg_cmp v_71 p4.toInt64) ≤ 0 then
      s_X4_isIn_84 F M p1 p2 p3 p4 p5 kc_15 t0 x8 x9 x10 x11 0
    else
      s_X4_isIn_84 F M p1 p2 p3 p4 p5 kc_15 t0 x8 x9 x10 x11 1
def s_X4_isIn_15 (F : Nat) (M : mo_T) (p1 : Int32) (p2 : Int32) (p3 : Int32) (p4 : Int32) (p5 : Int32) : Nat → Int32 → Int32 → Int32 → Int32 → Int32 → Option Int32
  | 0, _, _, _, _, _ => none
  | n + 1, x6, x7, x8, x9, x10 =>
    (rd_i 60 (mo_c M) p1).bind fun v_22 =>
    if v_22 ≤ x10 then
      if x6 = 0 then
        if x7 = 0 then
          if x8 = 0 then
            if x9 = 0 then
              some 1
            else
              some 0
          else
            some 0
        else
          some 0
      else
        some 0
    else
      (s_X4_from F M p1 x10).bind fun v_30 =>
      if x6 = 0 then
        s_X4_isIn_58 F M p1 p2 p3 p4 p5 (fun y0 y1 y2 y3 y4 => s_X4_isIn_15 F M p1 p2 p3 p4 p5 n y0 y1 y2 y3 y4) x7 x8 x9 x10 v_30 0
      else
        (rd_l 1500 (mo_x M) v_30).bind fun v_46 =>
        if 0 ≤ (lg_cmp v_46 p2.toInt64) then
          s_X4_isIn_58 F M p1 p2 p3 p4 p5 (fun y0 y1 y2 y3 y4 => s_X4_isIn_15 F M p1 p2 p3 p4 p5 n y0 y1 y2 y3 y4) x7 x8 x9 x10 v_30 0
        else
          s_X4_isIn_58 F M p1 p2 p3 p4 p5 (fun y0 y1 y2 y3 y4 => s_X4_isIn_15 F M p1 p2 p3 p4 p5 n y0 y1 y2 y3 y4) x7 x8 x9 x10 v_30 1
def s_X4_isIn (F : Nat) (M : mo_T) (p1 : Int32) (p2 : Int32) (p3 : Int32) (p4 : Int32) (p5 : Int32) : Option Int32 :=
  s_X4_isIn_15 F M p1 p2 p3 p4 p5 F 1 1 1 1 0
abbrev rm_X4_isIn : Room := { frames := 1, cells := 0, slots := 0, locals := 22 }
theorem in_X4_isIn_X4 : ∀ w ∈ wsX40, w ∈ wsX4_isIn := by decide +kernel
set_option maxHeartbeats 4000000 in
set_option maxRecDepth 100000 in
theorem c_X4_isIn (l : Launch) (D : va_G) (cI cJ cZ cS : ClassId) (ad : Nat → Nat) (m0 mk mc mx my mf mp mq mb : Nat) (M : mo_T) (p1 : Int32) (p2 : Int32) (p3 : Int32) (p4 : Int32) (p5 : Int32) (F : Nat)  (r : Int32) (hs : s_X4_isIn F M p1 p2 p3 p4 p5 = some r) : Met l yX4_isIn wsX4_isIn rm_X4_isIn (gl_P D cI cJ cZ cS ad [.ref m0, .int p1, .int p2, .int p3, .int p4, .int p5] (fun H => va_P D vwCl (mo_w cI cJ cZ m0 mk mc mx my mf mp mq mb M) H)) (vp_Si (fun v => v = r)) 0 0 (fun _ => False) := by
  refine Met.ofW (cc := cX4_isIn) (maxL := 12) (ret := (some .boolean)) (by decide) rfl ?_
  intro p e s m args below meth c s₁ B hml hv
  obtain ⟨rfl, hK, hE, hP⟩ := hv
  have hx := B.exec
  have hb := B.bytes
  have hr := B.returns
  have hts := atoms_spec (ws := wsX4_isIn) B.pre
  have hown : s.vm.findClass RX4 = some m.cls := findClass_of_methodNamed B.named
  have hlocks := B.notSynchronized
  have lk_17 := hts (.fieldLink RX4 17 "PlacePointsModel" "counts" "[I") (by decide +kernel)
  have lk_20 := hts (.fieldLink RX4 20 "PlacePointsModel" "xs" "[J") (by decide +kernel)
  have lk_24 := hts (.fieldLink RX4 24 "PlacePointsModel" "ys" "[J") (by decide +kernel)
  have in_X4 := in_X4_isIn_X4
  have J_15 : ∀ (n_15 : Nat) (x6 : Int32) (x7 : Int32) (x8 : Int32) (x9 : Int32) (x10 : Int32), s_X4_isIn_15 F M p1 p2 p3 p4 p5 n_15 x6 x7 x8 x9 x10 = some r → ∀ ls : Array Slot, lv_has ls 12 [(0, .ref m0), (1, .int p1), (2, .int p2), (3, .int p3), (4, .int p4), (5, .int p5), (6, .int x6), (7, .int x7), (8, .int x8), (9, .int x9), (10, .int x10)] → W p l e (headSpec wsX4_isIn rm_X4_isIn).room s m ([.ref m0, .int p1, .int p2, .int p3, .int p4, .int p5] : List Value).toArray below meth c s.heap [] 0 0 (MQ below (vp_Si (fun v => v = r)) ([.ref m0, .int p1, .int p2, .int p3, .int p4, .int p5] : List Value).toArray s 0 0 (fun _ => False)) (F0 m 15 ls []) := by
    intro n_15
    induction n_15 with
    | zero =>
      intro x6 x7 x8 x9 x10 hs
      cases hs
    | succ n_15 ih_15 =>
      have J_109 : ∀ (x6 : Int32) (x7 : Int32) (x9 : Int32) (x10 : Int32) (x11 : Int32) (t0 : Int32), s_X4_isIn_109 F M p1 p2 p3 p4 p5 (fun y0 y1 y2 y3 y4 => s_X4_isIn_15 F M p1 p2 p3 p4 p5 n_15 y0 y1 y2 y3 y4) x6 x7 x9 x10 x11 t0 = some r → ∀ ls : Array Slot, lv_has ls 12 [(0, .ref m0), (1, .int p1), (2, .int p2), (3, .int p3), (4, .int p4), (5, .int p5), (6, .int x6), (7, .int x7), (9, .int x9), (10, .int x10), (11, .int x11)] → W p l e (headSpec wsX4_isIn rm_X4_isIn).room s m ([.ref m0, .int p1, .int p2, .int p3, .int p4, .int p5] : List Value).toArray below meth c s.heap [] 0 0 (MQ below (vp_Si (fun v => v = r)) ([.ref m0, .int p1, .int p2, .int p3, .int p4, .int p5] : List Value).toArray s 0 0 (fun _ => False)) (F0 m 109 ls [.int t0]) := by
        intro x6 x7 x9 x10 x11 t0 hs ls hl
        rw [s_X4_isIn_109] at hs
        refine lv_istore (lv' := [(8, .int t0), (0, .ref m0), (1, .int p1), (2, .int p2), (3, .int p3), (4, .int p4), (5, .int p5), (6, .int x6), (7, .int x7), (9, .int x9), (10, .int x10), (11, .int x11)]) hx hb dX4_isIn_109 hl (by decide) rfl (fun ls hl => ?_)
        refine lv_iload hx hb dX4_isIn_111 (lv_at hl 9 rfl) ?_
        refine lv_if_eq (tgt := 134) hx hb dX4_isIn_113 (by decide) (fun c_113 => ?_) (fun c_113 => ?_)
        · replace hs := it_t c_113 hs
          refine lv_iconst (v := 0) hx hb dX4_isIn_134 (by decide) ?_
          refine lv_istore (lv' := [(9, .int 0), (8, .int t0), (0, .ref m0), (1, .int p1), (2, .int p2), (3, .int p3), (4, .int p4), (5, .int p5), (6, .int x6), (7, .int x7), (10, .int x10), (11, .int x11)]) hx hb dX4_isIn_135 hl (by decide) rfl (fun ls hl => ?_)
          obtain ⟨e_137, hv_137, hs⟩ := op_bd hs
          refine lv_iinc (v := e_137) (lv' := [(10, .int e_137), (9, .int 0), (8, .int t0), (0, .ref m0), (1, .int p1), (2, .int p2), (3, .int p3), (4, .int p4), (5, .int p5), (6, .int x6), (7, .int x7), (11, .int x11)]) hx hb dX4_isIn_137 hl (k := 10) rfl (Option.some.inj hv_137) (by decide) rfl (fun ls hl => ?_)
          refine lv_goto (tgt := 15) hx hb dX4_isIn_140 (by decide) ?_
          exact ih_15 x6 x7 t0 0 e_137 hs _ (lv_sub hl [3, 4, 5, 6, 7, 8, 9, 10, 2, 1, 0] rfl)
        · replace hs := it_f c_113 hs
          refine lv_aload_n hx hb dX4_isIn_116 rfl (lv_at hl 1 rfl) ?_
          refine va_get (D := D) (ci := 4) (v := .ref my) (C := RX4) (T := TX4) (N := 15) hx hb hts in_X4 hown hK hP 0 rfl rfl 3 (by decide) lk_24 (fun _ h9 => h9) rfl dX4_isIn_117 ?_
          refine lv_iload hx hb dX4_isIn_120 (lv_at hl 11 rfl) ?_
          obtain ⟨v_122, hv_122, hs⟩ := op_bd hs
          refine gx_lald hx hb hK hP 4 1 rfl rfl hv_122 dX4_isIn_122 ?_
          refine lv_iload hx hb dX4_isIn_123 (lv_at hl 6 rfl) ?_
          refine lv_i2l hx hb dX4_isIn_125 rfl ?_
          refine W.lcmp hx hb dX4_isIn_126 ?_
          refine lv_if_le (tgt := 134) hx hb dX4_isIn_127 (by decide) (fun c_127 => ?_) (fun c_127 => ?_)
          · replace hs := it_t c_127 hs
            refine lv_iconst (v := 0) hx hb dX4_isIn_134 (by decide) ?_
            refine lv_istore (lv' := [(9, .int 0), (8, .int t0), (0, .ref m0), (1, .int p1), (2, .int p2), (3, .int p3), (4, .int p4), (5, .int p5), (6, .int x6), (7, .int x7), (10, .int x10), (11, .int x11)]) hx hb dX4_isIn_135 hl (by decide) rfl (fun ls hl => ?_)
            obtain ⟨e_137, hv_137, hs⟩ := op_bd hs
            refine lv_iinc (v := e_137) (lv' := [(10, .int e_137), (9, .int 0), (8, .int t0), (0, .ref m0), (1, .int p1), (2, .int p2), (3, .int p3), (4, .int p4), (5, .int p5), (6, .int x6), (7, .int x7), (11, .int x11)]) hx hb dX4_isIn_137 hl (k := 10) rfl (Option.some.inj hv_137) (by decide) rfl (fun ls hl => ?_)
            refine lv_goto (tgt := 15) hx hb dX4_isIn_140 (by decide) ?_
            exact ih_15 x6 x7 t0 0 e_137 hs _ (lv_sub hl [3, 4, 5, 6, 7, 8, 9, 10, 2, 1, 0] rfl)
          · replace hs := it_f c_127 hs
            refine lv_iconst (v := 1) hx hb dX4_isIn_130 (by decide) ?_
            refine lv_goto (tgt := 135) hx hb dX4_isIn_131 (by decide) ?_
            refine lv_istore (lv' := [(9, .int 1), (8, .int t0), (0, .ref m0), (1, .int p1), (2, .int p2), (3, .int p3), (4, .int p4), (5, .int p5), (6, .int x6), (7, .int x7), (10, .int x10), (11, .int x11)]) hx hb dX4_isIn_135 hl (by decide) rfl (fun ls hl => ?_)
            obtain ⟨e_137, hv_137, hs⟩ := op_bd hs
            refine lv_iinc (v := e_137) (lv' := [(10, .int e_137), (9, .int 1), (8, .int t0), (0, .ref m0), (1, .int p1), (2, .int p2), (3, .int p3), (4, .int p4), (5, .int p5), (6, .int x6), (7, .int x7), (11, .int x11)]) hx hb dX4_isIn_137 hl (k := 10) rfl (Option.some.inj hv_137) (by decide) rfl (fun ls hl => ?_)
            refine lv_goto (tgt := 15) hx hb dX4_isIn_140 (by decide) ?_
            exact ih_15 x6 x7 t0 1 e_137 hs _ (lv_sub hl [3, 4, 5, 6, 7, 8, 9, 10, 2, 1, 0] rfl)
      have J_84 : ∀ (x6 : Int32) (x8 : Int32) (x9 : Int32) (x10 : Int32) (x11 : Int32) (t0 : Int32), s_X4_isIn_84 F M p1 p2 p3 p4 p5 (fun y0 y1 y2 y3 y4 => s_X4_isIn_15 F M p1 p2 p3 p4 p5 n_15 y0 y1 y2 y3 y4) x6 x8 x9 x10 x11 t0 = some r → ∀ ls : Array Slot, lv_has ls 12 [(0, .ref m0), (1, .int p1), (2, .int p2), (3, .int p3), (4, .int p4), (5, .int p5), (6, .int x6), (8, .int x8), (9, .int x9), (10, .int x10), (11, .int x11)] → W p l e (headSpec wsX4_isIn rm_X4_isIn).room s m ([.ref m0, .int p1, .int p2, .int p3, .int p4, .int p5] : List Value).toArray below meth c s.heap [] 0 0 (MQ below (vp_Si (fun v => v = r)) ([.ref m0, .int p1, .int p2, .int p3, .int p4, .int p5] : List Value).toArray s 0 0 (fun _ => False)) (F0 m 84 ls [.int t0]) := by
        intro x6 x8 x9 x10 x11 t0 hs ls hl
        rw [s_X4_isIn_84] at hs
        refine lv_istore (lv' := [(7, .int t0), (0, .ref m0), (1, .int p1), (2, .int p2), (3, .int p3), (4, .int p4), (5, .int p5), (6, .int x6), (8, .int x8), (9, .int x9), (10, .int x10), (11, .int x11)]) hx hb dX4_isIn_84 hl (by decide) rfl (fun ls hl => ?_)
        refine lv_iload hx hb dX4_isIn_86 (lv_at hl 8 rfl) ?_
        refine lv_if_eq (tgt := 108) hx hb dX4_isIn_88 (by decide) (fun c_88 => ?_) (fun c_88 => ?_)
        · replace hs := it_t c_88 hs
          refine lv_iconst (v := 0) hx hb dX4_isIn_108 (by decide) ?_
          exact J_109 x6 t0 x9 x10 x11 0 hs _ (lv_sub hl [1, 2, 3, 4, 5, 6, 7, 0, 9, 10, 11] rfl)
        · replace hs := it_f c_88 hs
          refine lv_aload_n hx hb dX4_isIn_91 rfl (lv_at hl 1 rfl) ?_
          refine va_get (D := D) (ci := 4) (v := .ref my) (C := RX4) (T := TX4) (N := 15) hx hb hts in_X4 hown hK hP 0 rfl rfl 3 (by decide) lk_24 (fun _ h9 => h9) rfl dX4_isIn_92 ?_
          refine lv_iload hx hb dX4_isIn_95 (lv_at hl 11 rfl) ?_
          obtain ⟨v_97, hv_97, hs⟩ := op_bd hs
          refine gx_lald hx hb hK hP 4 1 rfl rfl hv_97 dX4_isIn_97 ?_
          refine lv_iload_n hx hb dX4_isIn_98 rfl (lv_at hl 4 rfl) ?_
          refine lv_i2l hx hb dX4_isIn_99 rfl ?_
          refine W.lcmp hx hb dX4_isIn_100 ?_
          refine lv_if_ge (tgt := 108) hx hb dX4_isIn_101 (by decide) (fun c_101 => ?_) (fun c_101 => ?_)
          · replace hs := it_t c_101 hs
            refine lv_iconst (v := 0) hx hb dX4_isIn_108 (by decide) ?_
            exact J_109 x6 t0 x9 x10 x11 0 hs _ (lv_sub hl [1, 2, 3, 4, 5, 6, 7, 0, 9, 10, 11] rfl)
          · replace hs := it_f c_101 hs
            refine lv_iconst (v := 1) hx hb dX4_isIn_104 (by decide) ?_
            refine lv_goto (tgt := 109) hx hb dX4_isIn_105 (by decide) ?_
            exact J_109 x6 t0 x9 x10 x11 1 hs _ (lv_sub hl [1, 2, 3, 4, 5, 6, 7, 0, 9, 10, 11] rfl)
      have J_58 : ∀ (x7 : Int32) (x8 : Int32) (x9 : Int32) (x10 : Int32) (x11 : Int32) (t0 : Int32), s_X4_isIn_58 F M p1 p2 p3 p4 p5 (fun y0 y1 y2 y3 y4 => s_X4_isIn_15 F M p1 p2 p3 p4 p5 n_15 y0 y1 y2 y3 y4) x7 x8 x9 x10 x11 t0 = some r → ∀ ls : Array Slot, lv_has ls 12 [(0, .ref m0), (1, .int p1), (2, .int p2), (3, .int p3), (4, .int p4), (5, .int p5), (7, .int x7), (8, .int x8), (9, .int x9), (10, .int x10), (11, .int x11)] → W p l e (headSpec wsX4_isIn rm_X4_isIn).room s m ([.ref m0, .int p1, .int p2, .int p3, .int p4, .int p5] : List Value).toArray below meth c s.heap [] 0 0 (MQ below (vp_Si (fun v => v = r)) ([.ref m0, .int p1, .int p2, .int p3, .int p4, .int p5] : List Value).toArray s 0 0 (fun _ => False)) (F0 m 58 ls [.int t0]) := by
        intro x7 x8 x9 x10 x11 t0 hs ls hl
        rw [s_X4_isIn_58] at hs
        refine lv_istore (lv' := [(6, .int t0), (0, .ref m0), (1, .int p1), (2, .int p2), (3, .int p3), (4, .int p4), (5, .int p5), (7, .int x7), (8, .int x8), (9, .int x9), (10, .int x10), (11, .int x11)]) hx hb dX4_isIn_58 hl (by decide) rfl (fun ls hl => ?_)
        refine lv_iload hx hb dX4_isIn_60 (lv_at hl 7 rfl) ?_
        refine lv_if_eq (tgt := 83) hx hb dX4_isIn_62 (by decide) (fun c_62 => ?_) (fun c_62 => ?_)
        · replace hs := it_t c_62 hs
          refine lv_iconst (v := 0) hx hb dX4_isIn_83 (by decide) ?_
          exact J_84 t0 x8 x9 x10 x11 0 hs _ (lv_sub hl [1, 2, 3, 4, 5, 6, 0, 8, 9, 10, 11] rfl)
        · replace hs := it_f c_62 hs
          refine lv_aload_n hx hb dX4_isIn_65 rfl (lv_at hl 1 rfl) ?_
          refine va_get (D := D) (ci := 4) (v := .ref mx) (C := RX4) (T := TX4) (N := 15) hx hb hts in_X4 hown hK hP 0 rfl rfl 2 (by decide) lk_20 (fun _ h9 => h9) rfl dX4_isIn_66 ?_
          refine lv_iload hx hb dX4_isIn_69 (lv_at hl 11 rfl) ?_
          obtain ⟨v_71, hv_71, hs⟩ := op_bd hs
          refine gx_lald hx hb hK hP 3 1 rfl rfl hv_71 dX4_isIn_71 ?_
          refine lv_iload hx hb dX4_isIn_72 (lv_at hl 5 rfl) ?_
          refine lv_i2l hx hb dX4_isIn_74 rfl ?_
          refine W.lcmp hx hb dX4_isIn_75 ?_
          refine lv_if_le (tgt := 83) hx hb dX4_isIn_76 (by decide) (fun c_76 => ?_) (fun c_76 => ?_)
          · replace hs := it_t c_76 hs
            refine lv_iconst (v := 0) hx hb dX4_isIn_83 (by decide) ?_
            exact J_84 t0 x8 x9 x10 x11 0 hs _ (lv_sub hl [1, 2, 3, 4, 5, 6, 0, 8, 9, 10, 11] rfl)
          · replace hs := it_f c_76 hs
            refine lv_iconst (v := 1) hx hb dX4_isIn_79 (by decide) ?_
            refine lv_goto (tgt := 84) hx hb dX4_isIn_80 (by decide) ?_
            exact J_84 t0 x8 x9 x10 x11 1 hs _ (lv_sub hl [1, 2, 3, 4, 5, 6, 0, 8, 9, 10, 11] rfl)
      intro x6 x7 x8 x9 x10 hs ls hl
      rw [s_X4_isIn_15] at hs
      refine lv_iload hx hb dX4_isIn_15 (lv_at hl 10 rfl) ?_
      refine lv_aload_n hx hb dX4_isIn_17 rfl (lv_at hl 0 rfl) ?_
      refine va_get (D := D) (ci := 4) (v := .ref mc) (C := RX4) (T := TX4) (N := 15) hx hb hts in_X4 hown hK hP 0 rfl rfl 1 (by decide) lk_17 (fun _ h9 => h9) rfl dX4_isIn_18 ?_
      refine lv_iload_n hx hb dX4_isIn_21 rfl (lv_at hl 1 rfl) ?_
      obtain ⟨v_22, hv_22, hs⟩ := op_bd hs
      refine gx_iald hx hb hK hP 2 0 rfl rfl hv_22 dX4_isIn_22 ?_
      refine lv_icmp_ge (tgt := 143) hx hb dX4_isIn_23 (by decide) (fun c_23 => ?_) (fun c_23 => ?_)
      · replace hs := it_t c_23 hs
        refine lv_iload hx hb dX4_isIn_143 (lv_at hl 6 rfl) ?_
        refine lv_if_ne (tgt := 167) hx hb dX4_isIn_145 (by decide) (fun c_145 => ?_) (fun c_145 => ?_)
        · replace hs := it_f c_145 hs
          refine lv_iconst (v := 0) hx hb dX4_isIn_167 (by decide) ?_
          obtain rfl := Option.some.inj hs
          exact W.zret hx hb hr rfl (fun t ht hW => ⟨_, rfl, rfl, ht⟩) (fun _ h => by cases h) dX4_isIn_168
        · replace hs := it_t c_145 hs
          refine lv_iload hx hb dX4_isIn_148 (lv_at hl 7 rfl) ?_
          refine lv_if_ne (tgt := 167) hx hb dX4_isIn_150 (by decide) (fun c_150 => ?_) (fun c_150 => ?_)
          · replace hs := it_f c_150 hs
            refine lv_iconst (v := 0) hx hb dX4_isIn_167 (by decide) ?_
            obtain rfl := Option.some.inj hs
            exact W.zret hx hb hr rfl (fun t ht hW => ⟨_, rfl, rfl, ht⟩) (fun _ h => by cases h) dX4_isIn_168
          · replace hs := it_t c_150 hs
            refine lv_iload hx hb dX4_isIn_153 (lv_at hl 8 rfl) ?_
            refine lv_if_ne (tgt := 167) hx hb dX4_isIn_155 (by decide) (fun c_155 => ?_) (fun c_155 => ?_)
            · replace hs := it_f c_155 hs
              refine lv_iconst (v := 0) hx hb dX4_isIn_167 (by decide) ?_
              obtain rfl := Option.some.inj hs
              exact W.zret hx hb hr rfl (fun t ht hW => ⟨_, rfl, rfl, ht⟩) (fun _ h => by cases h) dX4_isIn_168
            · replace hs := it_t c_155 hs
              refine lv_iload hx hb dX4_isIn_158 (lv_at hl 9 rfl) ?_
              refine lv_if_ne (tgt := 167) hx hb dX4_isIn_160 (by decide) (fun c_160 => ?_) (fun c_160 => ?_)
              · replace hs := it_f c_160 hs
                refine lv_iconst (v := 0) hx hb dX4_isIn_167 (by decide) ?_
                obtain rfl := Option.some.inj hs
                exact W.zret hx hb hr rfl (fun t ht hW => ⟨_, rfl, rfl, ht⟩) (fun _ h => by cases h) dX4_isIn_168
              · replace hs := it_t c_160 hs
                refine lv_iconst (v := 1) hx hb dX4_isIn_163 (by decide) ?_
                refine lv_goto (tgt := 168) hx hb dX4_isIn_164 (by decide) ?_
                obtain rfl := Option.some.inj hs
                exact W.zret hx hb hr rfl (fun t ht hW => ⟨_, rfl, rfl, ht⟩) (fun _ h => by cases h) dX4_isIn_168
      · replace hs := it_f c_23 hs
        refine lv_aload_n hx hb dX4_isIn_26 rfl (lv_at hl 0 rfl) ?_
        refine lv_iload_n hx hb dX4_isIn_27 rfl (lv_at hl 1 rfl) ?_
        refine lv_iload hx hb dX4_isIn_28 (lv_at hl 10 rfl) ?_
        obtain ⟨v_30, hc_30, hs⟩ := op_bd hs
        refine gx_cSi (va_Run.run (va_runV (As := [.int p1, .int x10]) (rest := []) ⟨hx, hb, hml, hown, hts⟩ (c_X4_from l D cI cJ cZ cS ad m0 mk mc mx my mf mp mq mb M p1 x10 F  v_30 hc_30) (cwV 2 hts gX4_isIn_X4_from rfl rfl rfl (by decide +kernel) ⟨Nat.le_of_ble_eq_true rfl, Nat.le_of_ble_eq_true rfl⟩) ⟨gl_blind, va_recv hK hP (ci := 4) (q0 := 0) rfl rfl, gl_ok hK hE hP⟩ rfl rfl hl.1 rfl (lv_room (Nat.le_of_ble_eq_true rfl)) dX4_isIn_30 ⟨Nat.le_of_ble_eq_true rfl, Nat.le_of_ble_eq_true rfl⟩)) ?_
        refine lv_istore (lv' := [(11, .int v_30), (0, .ref m0), (1, .int p1), (2, .int p2), (3, .int p3), (4, .int p4), (5, .int p5), (6, .int x6), (7, .int x7), (8, .int x8), (9, .int x9), (10, .int x10)]) hx hb dX4_isIn_33 hl (by decide) rfl (fun ls hl => ?_)
        refine lv_iload hx hb dX4_isIn_35 (lv_at hl 7 rfl) ?_
        refine lv_if_eq (tgt := 57) hx hb dX4_isIn_37 (by decide) (fun c_37 => ?_) (fun c_37 => ?_)
        · replace hs := it_t c_37 hs
          refine lv_iconst (v := 0) hx hb dX4_isIn_57 (by decide) ?_
          exact J_58 x7 x8 x9 x10 v_30 0 hs _ (lv_sub hl [1, 2, 3, 4, 5, 6, 8, 9, 10, 11, 0] rfl)
        · replace hs := it_f c_37 hs
          refine lv_aload_n hx hb dX4_isIn_40 rfl (lv_at hl 1 rfl) ?_
          refine va_get (D := D) (ci := 4) (v := .ref mx) (C := RX4) (T := TX4) (N := 15) hx hb hts in_X4 hown hK hP 0 rfl rfl 2 (by decide) lk_20 (fun _ h9 => h9) rfl dX4_isIn_41 ?_
          refine lv_iload hx hb dX4_isIn_44 (lv_at hl 0 rfl) ?_
          obtain ⟨v_46, hv_46, hs⟩ := op_bd hs
          refine gx_lald hx hb hK hP 3 1 rfl rfl hv_46 dX4_isIn_46 ?_
          refine lv_iload_n hx hb dX4_isIn_47 rfl (lv_at hl 3 rfl) ?_
          refine lv_i2l hx hb dX4_isIn_48 rfl ?_
          refine W.lcmp hx hb dX4_isIn_49 ?_
          refine lv_if_ge (tgt := 57) hx hb dX4_isIn_50 (by decide) (fun c_50 => ?_) (fun c_50 => ?_)
          · replace hs := it_t c_50 hs
            refine lv_iconst (v := 0) hx hb dX4_isIn_57 (by decide) ?_
            exact J_58 x7 x8 x9 x10 v_30 0 hs _ (lv_sub hl [1, 2, 3, 4, 5, 6, 8, 9, 10, 11, 0] rfl)
          · replace hs := it_f c_50 hs
            refine lv_iconst (v := 1) hx hb dX4_isIn_53 (by decide) ?_
            refine lv_goto (tgt := 58) hx hb dX4_isIn_54 (by decide) ?_
            exact J_58 x7 x8 x9 x10 v_30 1 hs _ (lv_sub hl [1, 2, 3, 4, 5, 6, 8, 9, 10, 11, 0] rfl)
  have hl := lv_entry ([.ref m0, .int p1, .int p2, .int p3, .int p4, .int p5]) (n := 12) (Nat.le_of_ble_eq_true rfl)
  rw [lg_entry_eq]
  generalize (lg_sl ([.ref m0, .int p1, .int p2, .int p3, .int p4, .int p5]) ++ List.replicate (12 - (lg_sl ([.ref m0, .int p1, .int p2, .int p3, .int p4, .int p5])).length) Slot.unset).toArray = ls at hl ⊢
  have hl : lv_has ls 12 [(0, .ref m0), (1, .int p1), (2, .int p2), (3, .int p3), (4, .int p4), (5, .int p5)] := hl
  rw [s_X4_isIn] at hs
  refine lv_iconst (v := 1) hx hb dX4_isIn_0 (by decide) ?_
  refine lv_istore (lv' := [(6, .int 1), (0, .ref m0), (1, .int p1), (2, .int p2), (3, .int p3), (4, .int p4), (5, .int p5)]) hx hb dX4_isIn_1 hl (by decide) rfl (fun ls hl => ?_)
  refine lv_iconst (v := 1) hx hb dX4_isIn_3 (by decide) ?_
  refine lv_istore (lv' := [(7, .int 1), (6, .int 1), (0, .ref m0), (1, .int p1), (2, .int p2), (3, .int p3), (4, .int p4), (5, .int p5)]) hx hb dX4_isIn_4 hl (by decide) rfl (fun ls hl => ?_)
  refine lv_iconst (v := 1) hx hb dX4_isIn_6 (by decide) ?_
  refine lv_istore (lv' := [(8, .int 1), (7, .int 1), (6, .int 1), (0, .ref m0), (1, .int p1), (2, .int p2), (3, .int p3), (4, .int p4), (5, .int p5)]) hx hb dX4_isIn_7 hl (by decide) rfl (fun ls hl => ?_)
  refine lv_iconst (v := 1) hx hb dX4_isIn_9 (by decide) ?_
  refine lv_istore (lv' := [(9, .int 1), (8, .int 1), (7, .int 1), (6, .int 1), (0, .ref m0), (1, .int p1), (2, .int p2), (3, .int p3), (4, .int p4), (5, .int p5)]) hx hb dX4_isIn_10 hl (by decide) rfl (fun ls hl => ?_)
  refine lv_iconst (v := 0) hx hb dX4_isIn_12 (by decide) ?_
  refine lv_istore (lv' := [(10, .int 0), (9, .int 1), (8, .int 1), (7, .int 1), (6, .int 1), (0, .ref m0), (1, .int p1), (2, .int p2), (3, .int p3), (4, .int p4), (5, .int p5)]) hx hb dX4_isIn_13 hl (by decide) rfl (fun ls hl => ?_)
  exact J_15 F 1 1 1 1 0 hs _ (lv_sub hl [5, 6, 7, 8, 9, 10, 4, 3, 2, 1, 0] rfl)
def s_X4_cut (F : Nat) (M : mo_T) (p1 : Int32) (p2 : Int32) (p3 : Int32) (p4 : Int32) : Option Int32 :=
  (rd_l 1500 (mo_x M) p1).bind fun v_5 =>
  (rd_l 1500 (mo_y M) p1).bind fun v_11 =>
  (rd_l 1500 (mo_x M) p2).bind fun v_17 =>
  (rd_l 1500 (mo_y M) p2).bind fun v_23 =>
  (rd_l 1500 (mo_x M) p3).bind fun v_29 =>
  (rd_l 1500 (mo_y M) p3).bind fun v_35 =>
  (s_X4_isOn F v_5 v_11 v_17 v_23 v_29 v_35).bind fun v_36 =>
  if v_36 = 0 then
    (rd_l 1500 (mo_x M) p1).bind fun v_47 =>
    (rd_l 1500 (mo_y M) p1).bind fun v_53 =>
    (rd_l 1500 (mo_x M) p2).bind fun v_59 =>
    (rd_l 1500 (mo_y M) p2).bind fun v_65 =>
    (rd_l 1500 (mo_x M) p4).bind fun v_72 =>
    (rd_l 1500 (mo_y M) p4).bind fun v_79 =>
    (s_X4_isOn F v_47 v_53 v_59 v_65 v_72 v_79).bind fun v_80 =>
    if v_80 = 0 then
      (rd_l 1500 (mo_x M) p3).bind fun v_91 =>
      (rd_l 1500 (mo_y M) p3).bind fun v_97 =>
      (rd_l 1500 (mo_x M) p4).bind fun v_104 =>
      (rd_l 1500 (mo_y M) p4).bind fun v_111 =>
      (rd_l 1500 (mo_x M) p1).bind fun v_117 =>
      (rd_l 1500 (mo_y M) p1).bind fun v_123 =>
      (s_X4_isOn F v_91 v_97 v_104 v_111 v_117 v_123).bind fun v_124 =>
      if v_124 = 0 then
        (rd_l 1500 (mo_x M) p3).bind fun v_135 =>
        (rd_l 1500 (mo_y M) p3).bind fun v_141 =>
        (rd_l 1500 (mo_x M) p4).bind fun v_148 =>
        (rd_l 1500 (mo_y M) p4).bind fun v_155 =>
        (rd_l 1500 (mo_x M) p2).bind fun v_161 =>
        (rd_l 1500 (mo_y M) p2).bind fun v_167 =>
        (s_X4_isOn F v_135 v_141 v_148 v_155 v_161 v_167).bind fun v_168 =>
        if v_168 = 0 then
          (rd_l 1500 (mo_x M) p1).bind fun v_181 =>
          (rd_l 1500 (mo_y M) p1).bind fun v_187 =>
          (rd_l 1500 (mo_x M) p2).bind fun v_193 =>
          (rd_l 1500 (mo_y M) p2).bind fun v_199 =>
          (rd_l 1500 (mo_x M) p3).bind fun v_205 =>
          (rd_l 1500 (mo_y M) p3).bind fun v_211 =>
          (s_X4_hand F v_181 v_187 v_193 v_199 v_205 v_211).bind fun v_212 =>
          (rd_l 1500 (mo_x M) p1).bind fun v_220 =>
          (rd_l 1500 (mo_y M) p1).bind fun v_226 =>
          (rd_l 1500 (mo_x M) p2).bind fun v_232 =>
          (rd_l 1500 (mo_y M) p2).bind fun v_238 =>
          (rd_l 1500 (mo_x M) p4).bind fun v_245 =>
          (rd_l 1500 (mo_y M) p4).bind fun v_252 =>
          (s_X4_hand F v_220 v_226 v_232 v_238 v_245 v_252).bind fun v_253 =>
          (some ((v_212 * v_253))).bind fun e_257 =>
          (rd_l 1500 (mo_x M) p3).bind fun v_264 =>
          (rd_l 1500 (mo_y M) p3).bind fun v_270 =>
          (rd_l 1500 (mo_x M) p4).bind fun v_277 =>
          (rd_l 1500 (mo_y M) p4).bind fun v_284 =>
          (rd_l 1500 (mo_x M) p1).bind fun v_290 =>
          (rd_l 1500 (mo_y M) p1).bind fun v_296 =>
          (s_X4_hand F v_264 v_270 v_277 v_284 v_290 v_296).bind fun v_297 =>
          (rd_l 1500 (mo_x M) p3).bind fun v_305 =>
          (rd_l 1500 (mo_y M) p3).bind fun v_311 =>
          (rd_l 1500 (mo_x M) p4).bind fun v_318 =>
          (rd_l 1500 (mo_y M) p4).bind fun v_325 =>
          (rd_l 1500 (mo_x M) p2).bind fun v_331 =>
          (rd_l 1500 (mo_y M) p2).bind fun v_337 =>
          (s_X4_hand F v_305 v_311 v_318 v_325 v_331 v_337).bind fun v_338 =>
          (some ((v_297 * v_338))).bind fun e_342 =>
          if 0 ≤ e_257 then
            some 0
          else
            if 0 ≤ e_342 then
              some 0
            else
              some 1
        else
          some 1
      else
        some 1
    else
      some 1
  else
    some 1
abbrev rm_X4_cut : Room := { frames := 3, cells := 0, slots := 0, locals := 91 }
theorem in_X4_cut_X4 : ∀ w ∈ wsX40, w ∈ wsX4_cut := by decide +kernel
set_option maxHeartbeats 4000000 in
set_option maxRecDepth 100000 in
theorem c_X4_cut (l : Launch) (D : va_G) (cI cJ cZ cS : ClassId) (ad : Nat → Nat) (m0 mk mc mx my mf mp mq mb : Nat) (M : mo_T) (p1 : Int32) (p2 : Int32) (p3 : Int32) (p4 : Int32) (F : Nat)  (r : Int32) (hs : s_X4_cut F M p1 p2 p3 p4 = some r) : Met l yX4_cut wsX4_cut rm_X4_cut (gl_P D cI cJ cZ cS ad [.ref m0, .int p1, .int p2, .int p3, .int p4] (fun H => va_P D vwCl (mo_w cI cJ cZ m0 mk mc mx my mf mp mq mb M) H)) (vp_Si (fun v => v = r)) 0 0 (fun _ => False) := by
  refine Met.ofW (cc := cX4_cut) (maxL := 7) (ret := (some .boolean)) (by decide) rfl ?_
  intro p e s m args below meth c s₁ B hml hv
  obtain ⟨rfl, hK, hE, hP⟩ := hv
  have hx := B.exec
  have hb := B.bytes
  have hr := B.returns
  have hts := atoms_spec (ws := wsX4_cut) B.pre
  have hown : s.vm.findClass RX4 = some m.cls := findClass_of_methodNamed B.named
  have hlocks := B.notSynchronized
  have lk_20 := hts (.fieldLink RX4 20 "PlacePointsModel" "xs" "[J") (by decide +kernel)
  have lk_24 := hts (.fieldLink RX4 24 "PlacePointsModel" "ys" "[J") (by decide +kernel)
  have in_X4 := in_X4_cut_X4
  have hl := lv_entry ([.ref m0, .int p1, .int p2, .int p3, .int p4]) (n := 7) (Nat.le_of_ble_eq_true rfl)
  rw [lg_entry_eq]
  generalize (lg_sl ([.ref m0, .int p1, .int p2, .int p3, .int p4]) ++ List.replicate (7 - (lg_sl ([.ref m0, .int p1, .int p2, .int p3, .int p4])).length) Slot.unset).toArray = ls at hl ⊢
  have hl : lv_has ls 7 [(0, .ref m0), (1, .int p1), (2, .int p2), (3, .int p3), (4, .int p4)] := hl
  rw [s_X4_cut] at hs
  refine lv_aload_n hx hb dX4_cut_0 rfl (lv_at hl 0 rfl) ?_
  refine va_get (D := D) (ci := 4) (v := .ref mx) (C := RX4) (T := TX4) (N := 15) hx hb hts in_X4 hown hK hP 0 rfl rfl 2 (by decide) lk_20 (fun _ h9 => h9) rfl dX4_cut_1 ?_
  refine lv_iload_n hx hb dX4_cut_4 rfl (lv_at hl 1 rfl) ?_
  obtain ⟨v_5, hv_5, hs⟩ := op_bd hs
  refine gx_lald hx hb hK hP 3 1 rfl rfl hv_5 dX4_cut_5 ?_
  refine lv_aload_n hx hb dX4_cut_6 rfl (lv_at hl 0 rfl) ?_
  refine va_get (D := D) (ci := 4) (v := .ref my) (C := RX4) (T := TX4) (N := 15) hx hb hts in_X4 hown hK hP 0 rfl rfl 3 (by decide) lk_24 (fun _ h9 => h9) rfl dX4_cut_7 ?_
  refine lv_iload_n hx hb dX4_cut_10 rfl (lv_at hl 1 rfl) ?_
  obtain ⟨v_11, hv_11, hs⟩ := op_bd hs
  refine gx_lald hx hb hK hP 4 1 rfl rfl hv_11 dX4_cut_11 ?_
  refine lv_aload_n hx hb dX4_cut_12 rfl (lv_at hl 0 rfl) ?_
  refine va_get (D := D) (ci := 4) (v := .ref mx) (C := RX4) (T := TX4) (N := 15) hx hb hts in_X4 hown hK hP 0 rfl rfl 2 (by decide) lk_20 (fun _ h9 => h9) rfl dX4_cut_13 ?_
  refine lv_iload_n hx hb dX4_cut_16 rfl (lv_at hl 2 rfl) ?_
  obtain ⟨v_17, hv_17, hs⟩ := op_bd hs
  refine gx_lald hx hb hK hP 3 1 rfl rfl hv_17 dX4_cut_17 ?_
  refine lv_aload_n hx hb dX4_cut_18 rfl (lv_at hl 0 rfl) ?_
  refine va_get (D := D) (ci := 4) (v := .ref my) (C := RX4) (T := TX4) (N := 15) hx hb hts in_X4 hown hK hP 0 rfl rfl 3 (by decide) lk_24 (fun _ h9 => h9) rfl dX4_cut_19 ?_
  refine lv_iload_n hx hb dX4_cut_22 rfl (lv_at hl 2 rfl) ?_
  obtain ⟨v_23, hv_23, hs⟩ := op_bd hs
  refine gx_lald hx hb hK hP 4 1 rfl rfl hv_23 dX4_cut_23 ?_
  refine lv_aload_n hx hb dX4_cut_24 rfl (lv_at hl 0 rfl) ?_
  refine va_get (D := D) (ci := 4) (v := .ref mx) (C := RX4) (T := TX4) (N := 15) hx hb hts in_X4 hown hK hP 0 rfl rfl 2 (by decide) lk_20 (fun _ h9 => h9) rfl dX4_cut_25 ?_
  refine lv_iload_n hx hb dX4_cut_28 rfl (lv_at hl 3 rfl) ?_
  obtain ⟨v_29, hv_29, hs⟩ := op_bd hs
  refine gx_lald hx hb hK hP 3 1 rfl rfl hv_29 dX4_cut_29 ?_
  refine lv_aload_n hx hb dX4_cut_30 rfl (lv_at hl 0 rfl) ?_
  refine va_get (D := D) (ci := 4) (v := .ref my) (C := RX4) (T := TX4) (N := 15) hx hb hts in_X4 hown hK hP 0 rfl rfl 3 (by decide) lk_24 (fun _ h9 => h9) rfl dX4_cut_31 ?_
  refine lv_iload_n hx hb dX4_cut_34 rfl (lv_at hl 3 rfl) ?_
  obtain ⟨v_35, hv_35, hs⟩ := op_bd hs
  refine gx_lald hx hb hK hP 4 1 rfl rfl hv_35 dX4_cut_35 ?_
  obtain ⟨v_36, hc_36, hs⟩ := op_bd hs
  refine gx_cSi (va_Run.run (va_runS (As := [.long v_5, .long v_11, .long v_17, .long v_23, .long v_29, .long v_35]) (rest := []) ⟨hx, hb, hml, hown, hts⟩ (c_X4_isOn l D cI cJ cZ cS ad v_5 v_11 v_17 v_23 v_29 v_35 F  v_36 hc_36) (va_cwS 6 hts gX4_cut_X4_isOn rfl rfl rfl (by decide +kernel) ⟨Nat.le_of_ble_eq_true rfl, Nat.le_of_ble_eq_true rfl⟩) ⟨gl_blind, gl_ok hK hE trivial⟩ rfl rfl hl.1 rfl (lv_room (Nat.le_of_ble_eq_true rfl)) dX4_cut_36 ⟨Nat.le_of_ble_eq_true rfl, Nat.le_of_ble_eq_true rfl⟩)) ?_
  refine lv_if_ne (tgt := 174) hx hb dX4_cut_39 (by decide) (fun c_39 => ?_) (fun c_39 => ?_)
  · replace hs := it_f c_39 hs
    refine lv_iconst (v := 1) hx hb dX4_cut_174 (by decide) ?_
    obtain rfl := Option.some.inj hs
    exact W.zret hx hb hr rfl (fun t ht hW => ⟨_, rfl, rfl, ht⟩) (fun _ h => by cases h) dX4_cut_175
  · replace hs := it_t c_39 hs
    refine lv_aload_n hx hb dX4_cut_42 rfl (lv_at hl 0 rfl) ?_
    refine va_get (D := D) (ci := 4) (v := .ref mx) (C := RX4) (T := TX4) (N := 15) hx hb hts in_X4 hown hK hP 0 rfl rfl 2 (by decide) lk_20 (fun _ h9 => h9) rfl dX4_cut_43 ?_
    refine lv_iload_n hx hb dX4_cut_46 rfl (lv_at hl 1 rfl) ?_
    obtain ⟨v_47, hv_47, hs⟩ := op_bd hs
    refine gx_lald hx hb hK hP 3 1 rfl rfl hv_47 dX4_cut_47 ?_
    refine lv_aload_n hx hb dX4_cut_48 rfl (lv_at hl 0 rfl) ?_
    refine va_get (D := D) (ci := 4) (v := .ref my) (C := RX4) (T := TX4) (N := 15) hx hb hts in_X4 hown hK hP 0 rfl rfl 3 (by decide) lk_24 (fun _ h9 => h9) rfl dX4_cut_49 ?_
    refine lv_iload_n hx hb dX4_cut_52 rfl (lv_at hl 1 rfl) ?_
    obtain ⟨v_53, hv_53, hs⟩ := op_bd hs
    refine gx_lald hx hb hK hP 4 1 rfl rfl hv_53 dX4_cut_53 ?_
    refine lv_aload_n hx hb dX4_cut_54 rfl (lv_at hl 0 rfl) ?_
    refine va_get (D := D) (ci := 4) (v := .ref mx) (C := RX4) (T := TX4) (N := 15) hx hb hts in_X4 hown hK hP 0 rfl rfl 2 (by decide) lk_20 (fun _ h9 => h9) rfl dX4_cut_55 ?_
    refine lv_iload_n hx hb dX4_cut_58 rfl (lv_at hl 2 rfl) ?_
    obtain ⟨v_59, hv_59, hs⟩ := op_bd hs
    refine gx_lald hx hb hK hP 3 1 rfl rfl hv_59 dX4_cut_59 ?_
    refine lv_aload_n hx hb dX4_cut_60 rfl (lv_at hl 0 rfl) ?_
    refine va_get (D := D) (ci := 4) (v := .ref my) (C := RX4) (T := TX4) (N := 15) hx hb hts in_X4 hown hK hP 0 rfl rfl 3 (by decide) lk_24 (fun _ h9 => h9) rfl dX4_cut_61 ?_
    refine lv_iload_n hx hb dX4_cut_64 rfl (lv_at hl 2 rfl) ?_
    obtain ⟨v_65, hv_65, hs⟩ := op_bd hs
    refine gx_lald hx hb hK hP 4 1 rfl rfl hv_65 dX4_cut_65 ?_
    refine lv_aload_n hx hb dX4_cut_66 rfl (lv_at hl 0 rfl) ?_
    refine va_get (D := D) (ci := 4) (v := .ref mx) (C := RX4) (T := TX4) (N := 15) hx hb hts in_X4 hown hK hP 0 rfl rfl 2 (by decide) lk_20 (fun _ h9 => h9) rfl dX4_cut_67 ?_
    refine lv_iload hx hb dX4_cut_70 (lv_at hl 4 rfl) ?_
    obtain ⟨v_72, hv_72, hs⟩ := op_bd hs
    refine gx_lald hx hb hK hP 3 1 rfl rfl hv_72 dX4_cut_72 ?_
    refine lv_aload_n hx hb dX4_cut_73 rfl (lv_at hl 0 rfl) ?_
    refine va_get (D := D) (ci := 4) (v := .ref my) (C := RX4) (T := TX4) (N := 15) hx hb hts in_X4 hown hK hP 0 rfl rfl 3 (by decide) lk_24 (fun _ h9 => h9) rfl dX4_cut_74 ?_
    refine lv_iload hx hb dX4_cut_77 (lv_at hl 4 rfl) ?_
    obtain ⟨v_79, hv_79, hs⟩ := op_bd hs
    refine gx_lald hx hb hK hP 4 1 rfl rfl hv_79 dX4_cut_79 ?_
    obtain ⟨v_80, hc_80, hs⟩ := op_bd hs
    refine gx_cSi (va_Run.run (va_runS (As := [.long v_47, .long v_53, .long v_59, .long v_65, .long v_72, .long v_79]) (rest := []) ⟨hx, hb, hml, hown, hts⟩ (c_X4_isOn l D cI cJ cZ cS ad v_47 v_53 v_59 v_65 v_72 v_79 F  v_80 hc_80) (va_cwS 6 hts gX4_cut_X4_isOn rfl rfl rfl (by decide +kernel) ⟨Nat.le_of_ble_eq_true rfl, Nat.le_of_ble_eq_true rfl⟩) ⟨gl_blind, gl_ok hK hE trivial⟩ rfl rfl hl.1 rfl (lv_room (Nat.le_of_ble_eq_true rfl)) dX4_cut_80 ⟨Nat.le_of_ble_eq_true rfl, Nat.le_of_ble_eq_true rfl⟩)) ?_
    refine lv_if_ne (tgt := 174) hx hb dX4_cut_83 (by decide) (fun c_83 => ?_) (fun c_83 => ?_)
    · replace hs := it_f c_83 hs
      refine lv_iconst (v := 1) hx hb dX4_cut_174 (by decide) ?_
      obtain rfl := Option.some.inj hs
      exact W.zret hx hb hr rfl (fun t ht hW => ⟨_, rfl, rfl, ht⟩) (fun _ h => by cases h) dX4_cut_175
    · replace hs := it_t c_83 hs
      refine lv_aload_n hx hb dX4_cut_86 rfl (lv_at hl 0 rfl) ?_
      refine va_get (D := D) (ci := 4) (v := .ref mx) (C := RX4) (T := TX4) (N := 15) hx hb hts in_X4 hown hK hP 0 rfl rfl 2 (by decide) lk_20 (fun _ h9 => h9) rfl dX4_cut_87 ?_
      refine lv_iload_n hx hb dX4_cut_90 rfl (lv_at hl 3 rfl) ?_
      obtain ⟨v_91, hv_91, hs⟩ := op_bd hs
      refine gx_lald hx hb hK hP 3 1 rfl rfl hv_91 dX4_cut_91 ?_
      refine lv_aload_n hx hb dX4_cut_92 rfl (lv_at hl 0 rfl) ?_
      refine va_get (D := D) (ci := 4) (v := .ref my) (C := RX4) (T := TX4) (N := 15) hx hb hts in_X4 hown hK hP 0 rfl rfl 3 (by decide) lk_24 (fun _ h9 => h9) rfl dX4_cut_93 ?_
      refine lv_iload_n hx hb dX4_cut_96 rfl (lv_at hl 3 rfl) ?_
      obtain ⟨v_97, hv_97, hs⟩ := op_bd hs
      refine gx_lald hx hb hK hP 4 1 rfl rfl hv_97 dX4_cut_97 ?_
      refine lv_aload_n hx hb dX4_cut_98 rfl (lv_at hl 0 rfl) ?_
      refine va_get (D := D) (ci := 4) (v := .ref mx) (C := RX4) (T := TX4) (N := 15) hx hb hts in_X4 hown hK hP 0 rfl rfl 2 (by decide) lk_20 (fun _ h9 => h9) rfl dX4_cut_99 ?_
      refine lv_iload hx hb dX4_cut_102 (lv_at hl 4 rfl) ?_
      obtain ⟨v_104, hv_104, hs⟩ := op_bd hs
      refine gx_lald hx hb hK hP 3 1 rfl rfl hv_104 dX4_cut_104 ?_
      refine lv_aload_n hx hb dX4_cut_105 rfl (lv_at hl 0 rfl) ?_
      refine va_get (D := D) (ci := 4) (v := .ref my) (C := RX4) (T := TX4) (N := 15) hx hb hts in_X4 hown hK hP 0 rfl rfl 3 (by decide) lk_24 (fun _ h9 => h9) rfl dX4_cut_106 ?_
      refine lv_iload hx hb dX4_cut_109 (lv_at hl 4 rfl) ?_
      obtain ⟨v_111, hv_111, hs⟩ := op_bd hs
      refine gx_lald hx hb hK hP 4 1 rfl rfl hv_111 dX4_cut_111 ?_
      refine lv_aload_n hx hb dX4_cut_112 rfl (lv_at hl 0 rfl) ?_
      refine va_get (D := D) (ci := 4) (v := .ref mx) (C := RX4) (T := TX4) (N := 15) hx hb hts in_X4 hown hK hP 0 rfl rfl 2 (by decide) lk_20 (fun _ h9 => h9) rfl dX4_cut_113 ?_
      refine lv_iload_n hx hb dX4_cut_116 rfl (lv_at hl 1 rfl) ?_
      obtain ⟨v_117, hv_117, hs⟩ := op_bd hs
      refine gx_lald hx hb hK hP 3 1 rfl rfl hv_117 dX4_cut_117 ?_
      refine lv_aload_n hx hb dX4_cut_118 rfl (lv_at hl 0 rfl) ?_
      refine va_get (D := D) (ci := 4) (v := .ref my) (C := RX4) (T := TX4) (N := 15) hx hb hts in_X4 hown hK hP 0 rfl rfl 3 (by decide) lk_24 (fun _ h9 => h9) rfl dX4_cut_119 ?_
      refine lv_iload_n hx hb dX4_cut_122 rfl (lv_at hl 1 rfl) ?_
      obtain ⟨v_123, hv_123, hs⟩ := op_bd hs
      refine gx_lald hx hb hK hP 4 1 rfl rfl hv_123 dX4_cut_123 ?_
      obtain ⟨v_124, hc_124, hs⟩ := op_bd hs
      refine gx_cSi (va_Run.run (va_runS (As := [.long v_91, .long v_97, .long v_104, .long v_111, .long v_117, .long v_123]) (rest := []) ⟨hx, hb, hml, hown, hts⟩ (c_X4_isOn l D cI cJ cZ cS ad v_91 v_97 v_104 v_111 v_117 v_123 F  v_124 hc_124) (va_cwS 6 hts gX4_cut_X4_isOn rfl rfl rfl (by decide +kernel) ⟨Nat.le_of_ble_eq_true rfl, Nat.le_of_ble_eq_true rfl⟩) ⟨gl_blind, gl_ok hK hE trivial⟩ rfl rfl hl.1 rfl (lv_room (Nat.le_of_ble_eq_true rfl)) dX4_cut_124 ⟨Nat.le_of_ble_eq_true rfl, Nat.le_of_ble_eq_true rfl⟩)) ?_
      refine lv_if_ne (tgt := 174) hx hb dX4_cut_127 (by decide) (fun c_127 => ?_) (fun c_127 => ?_)
      · replace hs := it_f c_127 hs
        refine lv_iconst (v := 1) hx hb dX4_cut_174 (by decide) ?_
        obtain rfl := Option.some.inj hs
        exact W.zret hx hb hr rfl (fun t ht hW => ⟨_, rfl, rfl, ht⟩) (fun _ h => by cases h) dX4_cut_175
      · replace hs := it_t c_127 hs
        refine lv_aload_n hx hb dX4_cut_130 rfl (lv_at hl 0 rfl) ?_
        refine va_get (D := D) (ci := 4) (v := .ref mx) (C := RX4) (T := TX4) (N := 15) hx hb hts in_X4 hown hK hP 0 rfl rfl 2 (by decide) lk_20 (fun _ h9 => h9) rfl dX4_cut_131 ?_
        refine lv_iload_n hx hb dX4_cut_134 rfl (lv_at hl 3 rfl) ?_
        obtain ⟨v_135, hv_135, hs⟩ := op_bd hs
        refine gx_lald hx hb hK hP 3 1 rfl rfl hv_135 dX4_cut_135 ?_
        refine lv_aload_n hx hb dX4_cut_136 rfl (lv_at hl 0 rfl) ?_
        refine va_get (D := D) (ci := 4) (v := .ref my) (C := RX4) (T := TX4) (N := 15) hx hb hts in_X4 hown hK hP 0 rfl rfl 3 (by decide) lk_24 (fun _ h9 => h9) rfl dX4_cut_137 ?_
        refine lv_iload_n hx hb dX4_cut_140 rfl (lv_at hl 3 rfl) ?_
        obtain ⟨v_141, hv_141, hs⟩ := op_bd hs
        refine gx_lald hx hb hK hP 4 1 rfl rfl hv_141 dX4_cut_141 ?_
        refine lv_aload_n hx hb dX4_cut_142 rfl (lv_at hl 0 rfl) ?_
        refine va_get (D := D) (ci := 4) (v := .ref mx) (C := RX4) (T := TX4) (N := 15) hx hb hts in_X4 hown hK hP 0 rfl rfl 2 (by decide) lk_20 (fun _ h9 => h9) rfl dX4_cut_143 ?_
        refine lv_iload hx hb dX4_cut_146 (lv_at hl 4 rfl) ?_
        obtain ⟨v_148, hv_148, hs⟩ := op_bd hs
        refine gx_lald hx hb hK hP 3 1 rfl rfl hv_148 dX4_cut_148 ?_
        refine lv_aload_n hx hb dX4_cut_149 rfl (lv_at hl 0 rfl) ?_
        refine va_get (D := D) (ci := 4) (v := .ref my) (C := RX4) (T := TX4) (N := 15) hx hb hts in_X4 hown hK hP 0 rfl rfl 3 (by decide) lk_24 (fun _ h9 => h9) rfl dX4_cut_150 ?_
        refine lv_iload hx hb dX4_cut_153 (lv_at hl 4 rfl) ?_
        obtain ⟨v_155, hv_155, hs⟩ := op_bd hs
        refine gx_lald hx hb hK hP 4 1 rfl rfl hv_155 dX4_cut_155 ?_
        refine lv_aload_n hx hb dX4_cut_156 rfl (lv_at hl 0 rfl) ?_
        refine va_get (D := D) (ci := 4) (v := .ref mx) (C := RX4) (T := TX4) (N := 15) hx hb hts in_X4 hown hK hP 0 rfl rfl 2 (by decide) lk_20 (fun _ h9 => h9) rfl dX4_cut_157 ?_
        refine lv_iload_n hx hb dX4_cut_160 rfl (lv_at hl 2 rfl) ?_
        obtain ⟨v_161, hv_161, hs⟩ := op_bd hs
        refine gx_lald hx hb hK hP 3 1 rfl rfl hv_161 dX4_cut_161 ?_
        refine lv_aload_n hx hb dX4_cut_162 rfl (lv_at hl 0 rfl) ?_
        refine va_get (D := D) (ci := 4) (v := .ref my) (C := RX4) (T := TX4) (N := 15) hx hb hts in_X4 hown hK hP 0 rfl rfl 3 (by decide) lk_24 (fun _ h9 => h9) rfl dX4_cut_163 ?_
        refine lv_iload_n hx hb dX4_cut_166 rfl (lv_at hl 2 rfl) ?_
        obtain ⟨v_167, hv_167, hs⟩ := op_bd hs
        refine gx_lald hx hb hK hP 4 1 rfl rfl hv_167 dX4_cut_167 ?_
        obtain ⟨v_168, hc_168, hs⟩ := op_bd hs
        refine gx_cSi (va_Run.run (va_runS (As := [.long v_135, .long v_141, .long v_148, .long v_155, .long v_161, .long v_167]) (rest := []) ⟨hx, hb, hml, hown, hts⟩ (c_X4_isOn l D cI cJ cZ cS ad v_135 v_141 v_148 v_155 v_161 v_167 F  v_168 hc_168) (va_cwS 6 hts gX4_cut_X4_isOn rfl rfl rfl (by decide +kernel) ⟨Nat.le_of_ble_eq_true rfl, Nat.le_of_ble_eq_true rfl⟩) ⟨gl_blind, gl_ok hK hE trivial⟩ rfl rfl hl.1 rfl (lv_room (Nat.le_of_ble_eq_true rfl)) dX4_cut_168 ⟨Nat.le_of_ble_eq_true rfl, Nat.le_of_ble_eq_true rfl⟩)) ?_
        refine lv_if_eq (tgt := 176) hx hb dX4_cut_171 (by decide) (fun c_171 => ?_) (fun c_171 => ?_)
        · replace hs := it_t c_171 hs
          refine lv_aload_n hx hb dX4_cut_176 rfl (lv_at hl 0 rfl) ?_
          refine va_get (D := D) (ci := 4) (v := .ref mx) (C := RX4) (T := TX4) (N := 15) hx hb hts in_X4 hown hK hP 0 rfl rfl 2 (by decide) lk_20 (fun _ h9 => h9) rfl dX4_cut_177 ?_
          refine lv_iload_n hx hb dX4_cut_180 rfl (lv_at hl 1 rfl) ?_
          obtain ⟨v_181, hv_181, hs⟩ := op_bd hs
          refine gx_lald hx hb hK hP 3 1 rfl rfl hv_181 dX4_cut_181 ?_
          refine lv_aload_n hx hb dX4_cut_182 rfl (lv_at hl 0 rfl) ?_
          refine va_get (D := D) (ci := 4) (v := .ref my) (C := RX4) (T := TX4) (N := 15) hx hb hts in_X4 hown hK hP 0 rfl rfl 3 (by decide) lk_24 (fun _ h9 => h9) rfl dX4_cut_183 ?_
          refine lv_iload_n hx hb dX4_cut_186 rfl (lv_at hl 1 rfl) ?_
          obtain ⟨v_187, hv_187, hs⟩ := op_bd hs
          refine gx_lald hx hb hK hP 4 1 rfl rfl hv_187 dX4_cut_187 ?_
          refine lv_aload_n hx hb dX4_cut_188 rfl (lv_at hl 0 rfl) ?_
          refine va_get (D := D) (ci := 4) (v := .ref mx) (C := RX4) (T := TX4) (N := 15) hx hb hts in_X4 hown hK hP 0 rfl rfl 2 (by decide) lk_20 (fun _ h9 => h9) rfl dX4_cut_189 ?_
          refine lv_iload_n hx hb dX4_cut_192 rfl (lv_at hl 2 rfl) ?_
          obtain ⟨v_193, hv_193, hs⟩ := op_bd hs
          refine gx_lald hx hb hK hP 3 1 rfl rfl hv_193 dX4_cut_193 ?_
          refine lv_aload_n hx hb dX4_cut_194 rfl (lv_at hl 0 rfl) ?_
          refine va_get (D := D) (ci := 4) (v := .ref my) (C := RX4) (T := TX4) (N := 15) hx hb hts in_X4 hown hK hP 0 rfl rfl 3 (by decide) lk_24 (fun _ h9 => h9) rfl dX4_cut_195 ?_
          refine lv_iload_n hx hb dX4_cut_198 rfl (lv_at hl 2 rfl) ?_
          obtain ⟨v_199, hv_199, hs⟩ := op_bd hs
          refine gx_lald hx hb hK hP 4 1 rfl rfl hv_199 dX4_cut_199 ?_
          refine lv_aload_n hx hb dX4_cut_200 rfl (lv_at hl 0 rfl) ?_
          refine va_get (D := D) (ci := 4) (v := .ref mx) (C := RX4) (T := TX4) (N := 15) hx hb hts in_X4 hown hK hP 0 rfl rfl 2 (by decide) lk_20 (fun _ h9 => h9) rfl dX4_cut_201 ?_
          refine lv_iload_n hx hb dX4_cut_204 rfl (lv_at hl 3 rfl) ?_
          obtain ⟨v_205, hv_205, hs⟩ := op_bd hs
          refine gx_lald hx hb hK hP 3 1 rfl rfl hv_205 dX4_cut_205 ?_
          refine lv_aload_n hx hb dX4_cut_206 rfl (lv_at hl 0 rfl) ?_
          refine va_get (D := D) (ci := 4) (v := .ref my) (C := RX4) (T := TX4) (N := 15) hx hb hts in_X4 hown hK hP 0 rfl rfl 3 (by decide) lk_24 (fun _ h9 => h9) rfl dX4_cut_207 ?_
          refine lv_iload_n hx hb dX4_cut_210 rfl (lv_at hl 3 rfl) ?_
          obtain ⟨v_211, hv_211, hs⟩ := op_bd hs
          refine gx_lald hx hb hK hP 4 1 rfl rfl hv_211 dX4_cut_211 ?_
          obtain ⟨v_212, hc_212, hs⟩ := op_bd hs
          refine gx_cSi (va_Run.run (va_runS (As := [.long v_181, .long v_187, .long v_193, .long v_199, .long v_205, .long v_211]) (rest := []) ⟨hx, hb, hml, hown, hts⟩ (c_X4_hand l D cI cJ cZ cS ad v_181 v_187 v_193 v_199 v_205 v_211 F  v_212 hc_212) (va_cwS 6 hts gX4_cut_X4_hand rfl rfl rfl (by decide +kernel) ⟨Nat.le_of_ble_eq_true rfl, Nat.le_of_ble_eq_true rfl⟩) ⟨gl_blind, gl_ok hK hE trivial⟩ rfl rfl hl.1 rfl (lv_room (Nat.le_of_ble_eq_true rfl)) dX4_cut_212 ⟨Nat.le_of_ble_eq_true rfl, Nat.le_of_ble_eq_true rfl⟩)) ?_
          refine lv_aload_n hx hb dX4_cut_215 rfl (lv_at hl 0 rfl) ?_
          refine va_get (D := D) (ci := 4) (v := .ref mx) (C := RX4) (T := TX4) (N := 15) hx hb hts in_X4 hown hK hP 0 rfl rfl 2 (by decide) lk_20 (fun _ h9 => h9) rfl dX4_cut_216 ?_
          refine lv_iload_n hx hb dX4_cut_219 rfl (lv_at hl 1 rfl) ?_
          obtain ⟨v_220, hv_220, hs⟩ := op_bd hs
          refine gx_lald hx hb hK hP 3 1 rfl rfl hv_220 dX4_cut_220 ?_
          refine lv_aload_n hx hb dX4_cut_221 rfl (lv_at hl 0 rfl) ?_
          refine va_get (D := D) (ci := 4) (v := .ref my) (C := RX4) (T := TX4) (N := 15) hx hb hts in_X4 hown hK hP 0 rfl rfl 3 (by decide) lk_24 (fun _ h9 => h9) rfl dX4_cut_222 ?_
          refine lv_iload_n hx hb dX4_cut_225 rfl (lv_at hl 1 rfl) ?_
          obtain ⟨v_226, hv_226, hs⟩ := op_bd hs
          refine gx_lald hx hb hK hP 4 1 rfl rfl hv_226 dX4_cut_226 ?_
          refine lv_aload_n hx hb dX4_cut_227 rfl (lv_at hl 0 rfl) ?_
          refine va_get (D := D) (ci := 4) (v := .ref mx) (C := RX4) (T := TX4) (N := 15) hx hb hts in_X4 hown hK hP 0 rfl rfl 2 (by decide) lk_20 (fun _ h9 => h9) rfl dX4_cut_228 ?_
          refine lv_iload_n hx hb dX4_cut_231 rfl (lv_at hl 2 rfl) ?_
          obtain ⟨v_232, hv_232, hs⟩ := op_bd hs
          refine gx_lald hx hb hK hP 3 1 rfl rfl hv_232 dX4_cut_232 ?_
          refine lv_aload_n hx hb dX4_cut_233 rfl (lv_at hl 0 rfl) ?_
          refine va_get (D := D) (ci := 4) (v := .ref my) (C := RX4) (T := TX4) (N := 15) hx hb hts in_X4 hown hK hP 0 rfl rfl 3 (by decide) lk_24 (fun _ h9 => h9) rfl dX4_cut_234 ?_
          refine lv_iload_n hx hb dX4_cut_237 rfl (lv_at hl 2 rfl) ?_
          obtain ⟨v_238, hv_238, hs⟩ := op_bd hs
          refine gx_lald hx hb hK hP 4 1 rfl rfl hv_238 dX4_cut_238 ?_
          refine lv_aload_n hx hb dX4_cut_239 rfl (lv_at hl 0 rfl) ?_
          refine va_get (D := D) (ci := 4) (v := .ref mx) (C := RX4) (T := TX4) (N := 15) hx hb hts in_X4 hown hK hP 0 rfl rfl 2 (by decide) lk_20 (fun _ h9 => h9) rfl dX4_cut_240 ?_
          refine lv_iload hx hb dX4_cut_243 (lv_at hl 4 rfl) ?_
          obtain ⟨v_245, hv_245, hs⟩ := op_bd hs
          refine gx_lald hx hb hK hP 3 1 rfl rfl hv_245 dX4_cut_245 ?_
          refine lv_aload_n hx hb dX4_cut_246 rfl (lv_at hl 0 rfl) ?_
          refine va_get (D := D) (ci := 4) (v := .ref my) (C := RX4) (T := TX4) (N := 15) hx hb hts in_X4 hown hK hP 0 rfl rfl 3 (by decide) lk_24 (fun _ h9 => h9) rfl dX4_cut_247 ?_
          refine lv_iload hx hb dX4_cut_250 (lv_at hl 4 rfl) ?_
          obtain ⟨v_252, hv_252, hs⟩ := op_bd hs
          refine gx_lald hx hb hK hP 4 1 rfl rfl hv_252 dX4_cut_252 ?_
          obtain ⟨v_253, hc_253, hs⟩ := op_bd hs
          refine gx_cSi (va_Run.run (va_runS (As := [.long v_220, .long v_226, .long v_232, .long v_238, .long v_245, .long v_252]) (rest := [.int v_212]) ⟨hx, hb, hml, hown, hts⟩ (c_X4_hand l D cI cJ cZ cS ad v_220 v_226 v_232 v_238 v_245 v_252 F  v_253 hc_253) (va_cwS 6 hts gX4_cut_X4_hand rfl rfl rfl (by decide +kernel) ⟨Nat.le_of_ble_eq_true rfl, Nat.le_of_ble_eq_true rfl⟩) ⟨gl_blind, gl_ok hK hE trivial⟩ rfl rfl hl.1 rfl (lv_room (Nat.le_of_ble_eq_true rfl)) dX4_cut_253 ⟨Nat.le_of_ble_eq_true rfl, Nat.le_of_ble_eq_true rfl⟩)) ?_
          refine lv_imul hx hb dX4_cut_256 ?_
          obtain ⟨e_257, hv_257, hs⟩ := op_bd hs
          refine gx_ni (Option.some.inj hv_257) ?_
          refine lv_istore (lv' := [(5, .int e_257), (0, .ref m0), (1, .int p1), (2, .int p2), (3, .int p3), (4, .int p4)]) hx hb dX4_cut_257 hl (by decide) rfl (fun ls hl => ?_)
          refine lv_aload_n hx hb dX4_cut_259 rfl (lv_at hl 1 rfl) ?_
          refine va_get (D := D) (ci := 4) (v := .ref mx) (C := RX4) (T := TX4) (N := 15) hx hb hts in_X4 hown hK hP 0 rfl rfl 2 (by decide) lk_20 (fun _ h9 => h9) rfl dX4_cut_260 ?_
          refine lv_iload_n hx hb dX4_cut_263 rfl (lv_at hl 4 rfl) ?_
          obtain ⟨v_264, hv_264, hs⟩ := op_bd hs
          refine gx_lald hx hb hK hP 3 1 rfl rfl hv_264 dX4_cut_264 ?_
          refine lv_aload_n hx hb dX4_cut_265 rfl (lv_at hl 1 rfl) ?_
          refine va_get (D := D) (ci := 4) (v := .ref my) (C := RX4) (T := TX4) (N := 15) hx hb hts in_X4 hown hK hP 0 rfl rfl 3 (by decide) lk_24 (fun _ h9 => h9) rfl dX4_cut_266 ?_
          refine lv_iload_n hx hb dX4_cut_269 rfl (lv_at hl 4 rfl) ?_
          obtain ⟨v_270, hv_270, hs⟩ := op_bd hs
          refine gx_lald hx hb hK hP 4 1 rfl rfl hv_270 dX4_cut_270 ?_
          refine lv_aload_n hx hb dX4_cut_271 rfl (lv_at hl 1 rfl) ?_
          refine va_get (D := D) (ci := 4) (v := .ref mx) (C := RX4) (T := TX4) (N := 15) hx hb hts in_X4 hown hK hP 0 rfl rfl 2 (by decide) lk_20 (fun _ h9 => h9) rfl dX4_cut_272 ?_
          refine lv_iload hx hb dX4_cut_275 (lv_at hl 5 rfl) ?_
          obtain ⟨v_277, hv_277, hs⟩ := op_bd hs
          refine gx_lald hx hb hK hP 3 1 rfl rfl hv_277 dX4_cut_277 ?_
          refine lv_aload_n hx hb dX4_cut_278 rfl (lv_at hl 1 rfl) ?_
          refine va_get (D := D) (ci := 4) (v := .ref my) (C := RX4) (T := TX4) (N := 15) hx hb hts in_X4 hown hK hP 0 rfl rfl 3 (by decide) lk_24 (fun _ h9 => h9) rfl dX4_cut_279 ?_
          refine lv_iload hx hb dX4_cut_282 (lv_at hl 5 rfl) ?_
          obtain ⟨v_284, hv_284, hs⟩ := op_bd hs
          refine gx_lald hx hb hK hP 4 1 rfl rfl hv_284 dX4_cut_284 ?_
          refine lv_aload_n hx hb dX4_cut_285 rfl (lv_at hl 1 rfl) ?_
          refine va_get (D := D) (ci := 4) (v := .ref mx) (C := RX4) (T := TX4) (N := 15) hx hb hts in_X4 hown hK hP 0 rfl rfl 2 (by decide) lk_20 (fun _ h9 => h9) rfl dX4_cut_286 ?_
          refine lv_iload_n hx hb dX4_cut_289 rfl (lv_at hl 2 rfl) ?_
          obtain ⟨v_290, hv_290, hs⟩ := op_bd hs
          refine gx_lald hx hb hK hP 3 1 rfl rfl hv_290 dX4_cut_290 ?_
          refine lv_aload_n hx hb dX4_cut_291 rfl (lv_at hl 1 rfl) ?_
          refine va_get (D := D) (ci := 4) (v := .ref my) (C := RX4) (T := TX4) (N := 15) hx hb hts in_X4 hown hK hP 0 rfl rfl 3 (by decide) lk_24 (fun _ h9 => h9) rfl dX4_cut_292 ?_
          refine lv_iload_n hx hb dX4_cut_295 rfl (lv_at hl 2 rfl) ?_
          obtain ⟨v_296, hv_296, hs⟩ := op_bd hs
          refine gx_lald hx hb hK hP 4 1 rfl rfl hv_296 dX4_cut_296 ?_
          obtain ⟨v_297, hc_297, hs⟩ := op_bd hs
          refine gx_cSi (va_Run.run (va_runS (As := [.long v_264, .long v_270, .long v_277, .long v_284, .long v_290, .long v_296]) (rest := []) ⟨hx, hb, hml, hown, hts⟩ (c_X4_hand l D cI cJ cZ cS ad v_264 v_270 v_277 v_284 v_290 v_296 F  v_297 hc_297) (va_cwS 6 hts gX4_cut_X4_hand rfl rfl rfl (by decide +kernel) ⟨Nat.le_of_ble_eq_true rfl, Nat.le_of_ble_eq_true rfl⟩) ⟨gl_blind, gl_ok hK hE trivial⟩ rfl rfl hl.1 rfl (lv_room (Nat.le_of_ble_eq_true rfl)) dX4_cut_297 ⟨Nat.le_of_ble_eq_true rfl, Nat.le_of_ble_eq_true rfl⟩)) ?_
          refine lv_aload_n hx hb dX4_cut_300 rfl (lv_at hl 1 rfl) ?_
          refine va_get (D := D) (ci := 4) (v := .ref mx) (C := RX4) (T := TX4) (N := 15) hx hb hts in_X4 hown hK hP 0 rfl rfl 2 (by decide) lk_20 (fun _ h9 => h9) rfl dX4_cut_301 ?_
          refine lv_iload_n hx hb dX4_cut_304 rfl (lv_at hl 4 rfl) ?_
          obtain ⟨v_305, hv_305, hs⟩ := op_bd hs
          refine gx_lald hx hb hK hP 3 1 rfl rfl hv_305 dX4_cut_305 ?_
          refine lv_aload_n hx hb dX4_cut_306 rfl (lv_at hl 1 rfl) ?_
          refine va_get (D := D) (ci := 4) (v := .ref my) (C := RX4) (T := TX4) (N := 15) hx hb hts in_X4 hown hK hP 0 rfl rfl 3 (by decide) lk_24 (fun _ h9 => h9) rfl dX4_cut_307 ?_
          refine lv_iload_n hx hb dX4_cut_310 rfl (lv_at hl 4 rfl) ?_
          obtain ⟨v_311, hv_311, hs⟩ := op_bd hs
          refine gx_lald hx hb hK hP 4 1 rfl rfl hv_311 dX4_cut_311 ?_
          refine lv_aload_n hx hb dX4_cut_312 rfl (lv_at hl 1 rfl) ?_
          refine va_get (D := D) (ci := 4) (v := .ref mx) (C := RX4) (T := TX4) (N := 15) hx hb hts in_X4 hown hK hP 0 rfl rfl 2 (by decide) lk_20 (fun _ h9 => h9) rfl dX4_cut_313 ?_
          refine lv_iload hx hb dX4_cut_316 (lv_at hl 5 rfl) ?_
          obtain ⟨v_318, hv_318, hs⟩ := op_bd hs
          refine gx_lald hx hb hK hP 3 1 rfl rfl hv_318 dX4_cut_318 ?_
          refine lv_aload_n hx hb dX4_cut_319 rfl (lv_at hl 1 rfl) ?_
          refine va_get (D := D) (ci := 4) (v := .ref my) (C := RX4) (T := TX4) (N := 15) hx hb hts in_X4 hown hK hP 0 rfl rfl 3 (by decide) lk_24 (fun _ h9 => h9) rfl dX4_cut_320 ?_
          refine lv_iload hx hb dX4_cut_323 (lv_at hl 5 rfl) ?_
          obtain ⟨v_325, hv_325, hs⟩ := op_bd hs
          refine gx_lald hx hb hK hP 4 1 rfl rfl hv_325 dX4_cut_325 ?_
          refine lv_aload_n hx hb dX4_cut_326 rfl (lv_at hl 1 rfl) ?_
          refine va_get (D := D) (ci := 4) (v := .ref mx) (C := RX4) (T := TX4) (N := 15) hx hb hts in_X4 hown hK hP 0 rfl rfl 2 (by decide) lk_20 (fun _ h9 => h9) rfl dX4_cut_327 ?_
          refine lv_iload_n hx hb dX4_cut_330 rfl (lv_at hl 3 rfl) ?_
          obtain ⟨v_331, hv_331, hs⟩ := op_bd hs
          refine gx_lald hx hb hK hP 3 1 rfl rfl hv_331 dX4_cut_331 ?_
          refine lv_aload_n hx hb dX4_cut_332 rfl (lv_at hl 1 rfl) ?_
          refine va_get (D := D) (ci := 4) (v := .ref my) (C := RX4) (T := TX4) (N := 15) hx hb hts in_X4 hown hK hP 0 rfl rfl 3 (by decide) lk_24 (fun _ h9 => h9) rfl dX4_cut_333 ?_
          refine lv_iload_n hx hb dX4_cut_336 rfl (lv_at hl 3 rfl) ?_
          obtain ⟨v_337, hv_337, hs⟩ := op_bd hs
          refine gx_lald hx hb hK hP 4 1 rfl rfl hv_337 dX4_cut_337 ?_
          obtain ⟨v_338, hc_338, hs⟩ := op_bd hs
          refine gx_cSi (va_Run.run (va_runS (As := [.long v_305, .long v_311, .long v_318, .long v_325, .long v_331, .long v_337]) (rest := [.int v_297]) ⟨hx, hb, hml, hown, hts⟩ (c_X4_hand l D cI cJ cZ cS ad v_305 v_311 v_318 v_325 v_331 v_337 F  v_338 hc_338) (va_cwS 6 hts gX4_cut_X4_hand rfl rfl rfl (by decide +kernel) ⟨Nat.le_of_ble_eq_true rfl, Nat.le_of_ble_eq_true rfl⟩) ⟨gl_blind, gl_ok hK hE trivial⟩ rfl rfl hl.1 rfl (lv_room (Nat.le_of_ble_eq_true rfl)) dX4_cut_338 ⟨Nat.le_of_ble_eq_true rfl, Nat.le_of_ble_eq_true rfl⟩)) ?_
          refine lv_imul hx hb dX4_cut_341 ?_
          obtain ⟨e_342, hv_342, hs⟩ := op_bd hs
          refine gx_ni (Option.some.inj hv_342) ?_
          refine lv_istore (lv' := [(6, .int e_342), (5, .int e_257), (0, .ref m0), (1, .int p1), (2, .int p2), (3, .int p3), (4, .int p4)]) hx hb dX4_cut_342 hl (by decide) rfl (fun ls hl => ?_)
          refine lv_iload hx hb dX4_cut_344 (lv_at hl 1 rfl) ?_
          refine lv_if_ge (tgt := 358) hx hb dX4_cut_346 (by decide) (fun c_346 => ?_) (fun c_346 => ?_)
          · replace hs := it_t c_346 hs
            refine lv_iconst (v := 0) hx hb dX4_cut_358 (by decide) ?_
            obtain rfl := Option.some.inj hs
            exact W.zret hx hb hr rfl (fun t ht hW => ⟨_, rfl, rfl, ht⟩) (fun _ h => by cases h) dX4_cut_359
          · replace hs := it_f c_346 hs
            refine lv_iload hx hb dX4_cut_349 (lv_at hl 0 rfl) ?_
            refine lv_if_ge (tgt := 358) hx hb dX4_cut_351 (by decide) (fun c_351 => ?_) (fun c_351 => ?_)
            · replace hs := it_t c_351 hs
              refine lv_iconst (v := 0) hx hb dX4_cut_358 (by decide) ?_
              obtain rfl := Option.some.inj hs
              exact W.zret hx hb hr rfl (fun t ht hW => ⟨_, rfl, rfl, ht⟩) (fun _ h => by cases h) dX4_cut_359
            · replace hs := it_f c_351 hs
              refine lv_iconst (v := 1) hx hb dX4_cut_354 (by decide) ?_
              refine lv_goto (tgt := 359) hx hb dX4_cut_355 (by decide) ?_
              obtain rfl := Option.some.inj hs
              exact W.zret hx hb hr rfl (fun t ht hW => ⟨_, rfl, rfl, ht⟩) (fun _ h => by cases h) dX4_cut_359
        · replace hs := it_f c_171 hs
          refine lv_iconst (v := 1) hx hb dX4_cut_174 (by decide) ?_
          obtain rfl := Option.some.inj hs
          exact W.zret hx hb hr rfl (fun t ht hW => ⟨_, rfl, rfl, ht⟩) (fun _ h => by cases h) dX4_cut_175
end
section
def s_X4_isWrong_191 (F : Nat) (M : mo_T) (p1 : Int32) (p2 : Int32) (kc_74 : Int32 → Int32 → Int32 → Int32 → Option Int32) (x3 : Int32) (x4 : Int32) (x5 : Int32) (x6 : Int32) (t0 : Int32) : Option Int32 :=
  if t0 = 0 then
    (some (x6 + 1)).bind fun e_200 =>
    kc_74 x3 x4 x5 e_200
  else
    some 1
def s_X4_isWrong_124 (F : Nat) (M : mo_T) (p1 : Int32) (p2 : Int32) (kc_74 : Int32 → Int32 → Int32 → Int32 → Option Int32) (x3 : Int32) (x4 : Int32) (x5 : Int32) (x6 : Int32) (x7 : Int32) (t0 : Int32) : Option Int32 :=
  if x7 = 0 then
    if t0 = 0 then
      (s_X4_from F M p1 x6).bind fun v_178 =>
      (s_X4_to F M p1 x6).bind fun v_185 =>
      (s_X4_cut F M x3 x4 v_178 v_185).bind fun v_188 =>
      s_X4_isWrong_191 F M p1 p2 kc_74 x3 x4 x5 x6 v_188
    else
      (s_X4_from F M p1 x6).bind fun v_158 =>
      (s_X4_folds F M v_158 x3 x4).bind fun v_164 =>
      s_X4_isWrong_191 F M p1 p2 kc_74 x3 x4 x5 x6 v_164
  else
    (s_X4_to F M p1 x6).bind fun v_139 =>
    (s_X4_folds F M x3 x4 v_139).bind fun v_142 =>
    s_X4_isWrong_191 F M p1 p2 kc_74 x3 x4 x5 x6 v_142
def s_X4_isWrong_106 (F : Nat) (M : mo_T) (p1 : Int32) (p2 : Int32) (kc_74 : Int32 → Int32 → Int32 → Int32 → Option Int32) (x3 : Int32) (x4 : Int32) (x5 : Int32) (x6 : Int32) (t0 : Int32) : Option Int32 :=
  (nz_i x5).bind fun _ =>
  if ((x6 + 1) - (x6 + 1) / x5 * x5) = p2 then
    s_X4_isWrong_124 F M p1 p2 kc_74 x3 x4 x5 x6 t0 1
  else
    s_X4_isWrong_124 F M p1 p2 kc_74 x3 x4 x5 x6 t0 0
def s_X4_isWrong_74 (F : Nat) (M : mo_T) (p1 : Int32) (p2 : Int32) : Nat → Int32 → Int32 → Int32 → Int32 → Option Int32
  | 0, _, _, _, _ => none
  | n + 1, x3, x4, x5, x6 =>
    if x5 ≤ x6 then
      some 0
    else
      if x6 = p2 then
        (some (x6 + 1)).bind fun e_200 =>
        s_X4_isWrong_74 F M p1 p2 n x3 x4 x5 e_200
      else
        (nz_i x5).bind fun _ =>
        if ((p2 + 1) - (p2 + 1) / x5 * x5) = x6 then
          s_X4_isWrong_106 F M p1 p2 (fun y0 y1 y2 y3 => s_X4_isWrong_74 F M p1 p2 n y0 y1 y2 y3) x3 x4 x5 x6 1
        else
          s_X4_isWrong_106 F M p1 p2 (fun y0 y1 y2 y3 => s_X4_isWrong_74 F M p1 p2 n y0 y1 y2 y3) x3 x4 x5 x6 0
def s_X4_isWrong_51 (F : Nat) (M : mo_T) (p1 : Int32) (p2 : Int32) (x3 : Int32) (x4 : Int32) : Option Int32 :=
  (rd_i 60 (mo_k M) p1).bind fun v_56 =>
  if v_56 = 2 then
    some 0
  else
    (rd_i 60 (mo_c M) p1).bind fun v_68 =>
    s_X4_isWrong_74 F M p1 p2 F x3 x4 v_68 0
def s_X4_isWrong (F : Nat) (M : mo_T) (p1 : Int32) (p2 : Int32) : Option Int32 :=
  (s_X4_from F M p1 p2).bind fun v_3 =>
  (s_X4_to F M p1 p2).bind fun v_10 =>
  (rd_l 1500 (mo_x M) v_3).bind fun v_20 =>
  (rd_l 1500 (mo_x M) v_10).bind fun v_27 =>
  if (lg_cmp v_20 v_27) = 0 then
    (rd_l 1500 (mo_y M) v_3).bind fun v_37 =>
    (rd_l 1500 (mo_y M) v_10).bind fun v_44 =>
    if (lg_cmp v_37 v_44) = 0 then
      some 1
    else
      s_X4_isWrong_51 F M p1 p2 v_3 v_10
  else
    s_X4_isWrong_51 F M p1 p2 v_3 v_10
abbrev rm_X4_isWrong : Room := { frames := 4, cells := 0, slots := 0, locals := 117 }
theorem in_X4_isWrong_X4 : ∀ w ∈ wsX40, w ∈ wsX4_isWrong := by decide +kernel
set_option maxHeartbeats 4000000 in
set_option maxRecDepth 100000 in
theorem c_X4_isWrong (l : Launch) (D : va_G) (cI cJ cZ cS : ClassId) (ad : Nat → Nat) (m0 mk mc mx my mf mp mq mb : Nat) (M : mo_T) (p1 : Int32) (p2 : Int32) (F : Nat)  (r : Int32) (hs : s_X4_isWrong F M p1 p2 = some r) : Met l yX4_isWrong wsX4_isWrong rm_X4_isWrong (gl_P D cI cJ cZ cS ad [.ref m0, .int p1, .int p2] (fun H => va_P D vwCl (mo_w cI cJ cZ m0 mk mc mx my mf mp mq mb M) H)) (vp_Si (fun v => v = r)) 0 0 (fun _ => False) := by
  refine Met.ofW (cc := cX4_isWrong) (maxL := 10) (ret := (some .boolean)) (by decide) rfl ?_
  intro p e s m args below meth c s₁ B hml hv
  obtain ⟨rfl, hK, hE, hP⟩ := hv
  have hx := B.exec
  have hb := B.bytes
  have hr := B.returns
  have hts := atoms_spec (ws := wsX4_isWrong) B.pre
  have hown : s.vm.findClass RX4 = some m.cls := findClass_of_methodNamed B.named
  have hlocks := B.notSynchronized
  have lk_13 := hts (.fieldLink RX4 13 "PlacePointsModel" "kinds" "[I") (by decide +kernel)
  have lk_17 := hts (.fieldLink RX4 17 "PlacePointsModel" "counts" "[I") (by decide +kernel)
  have lk_20 := hts (.fieldLink RX4 20 "PlacePointsModel" "xs" "[J") (by decide +kernel)
  have lk_24 := hts (.fieldLink RX4 24 "PlacePointsModel" "ys" "[J") (by decide +kernel)
  have in_X4 := in_X4_isWrong_X4
  have J_74 : ∀ (n_74 : Nat) (x3 : Int32) (x4 : Int32) (x5 : Int32) (x6 : Int32), s_X4_isWrong_74 F M p1 p2 n_74 x3 x4 x5 x6 = some r → ∀ ls : Array Slot, lv_has ls 10 [(0, .ref m0), (1, .int p1), (2, .int p2), (3, .int x3), (4, .int x4), (5, .int x5), (6, .int x6)] → W p l e (headSpec wsX4_isWrong rm_X4_isWrong).room s m ([.ref m0, .int p1, .int p2] : List Value).toArray below meth c s.heap [] 0 0 (MQ below (vp_Si (fun v => v = r)) ([.ref m0, .int p1, .int p2] : List Value).toArray s 0 0 (fun _ => False)) (F0 m 74 ls []) := by
    intro n_74
    induction n_74 with
    | zero =>
      intro x3 x4 x5 x6 hs
      cases hs
    | succ n_74 ih_74 =>
      have J_191 : ∀ (x3 : Int32) (x4 : Int32) (x5 : Int32) (x6 : Int32) (t0 : Int32), s_X4_isWrong_191 F M p1 p2 (fun y0 y1 y2 y3 => s_X4_isWrong_74 F M p1 p2 n_74 y0 y1 y2 y3) x3 x4 x5 x6 t0 = some r → ∀ ls : Array Slot, lv_has ls 10 [(0, .ref m0), (1, .int p1), (2, .int p2), (3, .int x3), (4, .int x4), (5, .int x5), (6, .int x6)] → W p l e (headSpec wsX4_isWrong rm_X4_isWrong).room s m ([.ref m0, .int p1, .int p2] : List Value).toArray below meth c s.heap [] 0 0 (MQ below (vp_Si (fun v => v = r)) ([.ref m0, .int p1, .int p2] : List Value).toArray s 0 0 (fun _ => False)) (F0 m 191 ls [.int t0]) := by
        intro x3 x4 x5 x6 t0 hs ls hl
        rw [s_X4_isWrong_191] at hs
        refine lv_istore (lv' := [(9, .int t0), (0, .ref m0), (1, .int p1), (2, .int p2), (3, .int x3), (4, .int x4), (5, .int x5), (6, .int x6)]) hx hb dX4_isWrong_191 hl (by decide) rfl (fun ls hl => ?_)
        refine lv_iload hx hb dX4_isWrong_193 (lv_at hl 0 rfl) ?_
        refine lv_if_eq (tgt := 200) hx hb dX4_isWrong_195 (by decide) (fun c_195 => ?_) (fun c_195 => ?_)
        · replace hs := it_t c_195 hs
          obtain ⟨e_200, hv_200, hs⟩ := op_bd hs
          refine lv_iinc (v := e_200) (lv' := [(6, .int e_200), (9, .int t0), (0, .ref m0), (1, .int p1), (2, .int p2), (3, .int x3), (4, .int x4), (5, .int x5)]) hx hb dX4_isWrong_200 hl (k := 7) rfl (Option.some.inj hv_200) (by decide) rfl (fun ls hl => ?_)
          refine lv_goto (tgt := 74) hx hb dX4_isWrong_203 (by decide) ?_
          exact ih_74 x3 x4 x5 e_200 hs _ (lv_sub hl [2, 3, 4, 5, 6, 7, 0] rfl)
        · replace hs := it_f c_195 hs
          refine lv_iconst (v := 1) hx hb dX4_isWrong_198 (by decide) ?_
          obtain rfl := Option.some.inj hs
          exact W.zret hx hb hr rfl (fun t ht hW => ⟨_, rfl, rfl, ht⟩) (fun _ h => by cases h) dX4_isWrong_199
      have J_124 : ∀ (x3 : Int32) (x4 : Int32) (x5 : Int32) (x6 : Int32) (x7 : Int32) (t0 : Int32), s_X4_isWrong_124 F M p1 p2 (fun y0 y1 y2 y3 => s_X4_isWrong_74 F M p1 p2 n_74 y0 y1 y2 y3) x3 x4 x5 x6 x7 t0 = some r → ∀ ls : Array Slot, lv_has ls 10 [(0, .ref m0), (1, .int p1), (2, .int p2), (3, .int x3), (4, .int x4), (5, .int x5), (6, .int x6), (7, .int x7)] → W p l e (headSpec wsX4_isWrong rm_X4_isWrong).room s m ([.ref m0, .int p1, .int p2] : List Value).toArray below meth c s.heap [] 0 0 (MQ below (vp_Si (fun v => v = r)) ([.ref m0, .int p1, .int p2] : List Value).toArray s 0 0 (fun _ => False)) (F0 m 124 ls [.int t0]) := by
        intro x3 x4 x5 x6 x7 t0 hs ls hl
        rw [s_X4_isWrong_124] at hs
        refine lv_istore (lv' := [(8, .int t0), (0, .ref m0), (1, .int p1), (2, .int p2), (3, .int x3), (4, .int x4), (5, .int x5), (6, .int x6), (7, .int x7)]) hx hb dX4_isWrong_124 hl (by decide) rfl (fun ls hl => ?_)
        refine lv_iload hx hb dX4_isWrong_126 (lv_at hl 8 rfl) ?_
        refine lv_if_eq (tgt := 148) hx hb dX4_isWrong_128 (by decide) (fun c_128 => ?_) (fun c_128 => ?_)
        · replace hs := it_t c_128 hs
          refine lv_iload hx hb dX4_isWrong_148 (lv_at hl 0 rfl) ?_
          refine lv_if_eq (tgt := 170) hx hb dX4_isWrong_150 (by decide) (fun c_150 => ?_) (fun c_150 => ?_)
          · replace hs := it_t c_150 hs
            refine lv_aload_n hx hb dX4_isWrong_170 rfl (lv_at hl 1 rfl) ?_
            refine lv_iload_n hx hb dX4_isWrong_171 rfl (lv_at hl 4 rfl) ?_
            refine lv_iload hx hb dX4_isWrong_172 (lv_at hl 5 rfl) ?_
            refine lv_aload_n hx hb dX4_isWrong_174 rfl (lv_at hl 1 rfl) ?_
            refine lv_iload_n hx hb dX4_isWrong_175 rfl (lv_at hl 2 rfl) ?_
            refine lv_iload hx hb dX4_isWrong_176 (lv_at hl 7 rfl) ?_
            obtain ⟨v_178, hc_178, hs⟩ := op_bd hs
            refine gx_cSi (va_Run.run (va_runV (As := [.int p1, .int x6]) (rest := [.int x4, .int x3, .ref m0]) ⟨hx, hb, hml, hown, hts⟩ (c_X4_from l D cI cJ cZ cS ad m0 mk mc mx my mf mp mq mb M p1 x6 F  v_178 hc_178) (cwV 2 hts gX4_isWrong_X4_from rfl rfl rfl (by decide +kernel) ⟨Nat.le_of_ble_eq_true rfl, Nat.le_of_ble_eq_true rfl⟩) ⟨gl_blind, va_recv hK hP (ci := 4) (q0 := 0) rfl rfl, gl_ok hK hE hP⟩ rfl rfl hl.1 rfl (lv_room (Nat.le_of_ble_eq_true rfl)) dX4_isWrong_178 ⟨Nat.le_of_ble_eq_true rfl, Nat.le_of_ble_eq_true rfl⟩)) ?_
            refine lv_aload_n hx hb dX4_isWrong_181 rfl (lv_at hl 1 rfl) ?_
            refine lv_iload_n hx hb dX4_isWrong_182 rfl (lv_at hl 2 rfl) ?_
            refine lv_iload hx hb dX4_isWrong_183 (lv_at hl 7 rfl) ?_
            obtain ⟨v_185, hc_185, hs⟩ := op_bd hs
            refine gx_cSi (va_Run.run (va_runV (As := [.int p1, .int x6]) (rest := [.int v_178, .int x4, .int x3, .ref m0]) ⟨hx, hb, hml, hown, hts⟩ (c_X4_to l D cI cJ cZ cS ad m0 mk mc mx my mf mp mq mb M p1 x6 F  v_185 hc_185) (cwV 2 hts gX4_isWrong_X4_to rfl rfl rfl (by decide +kernel) ⟨Nat.le_of_ble_eq_true rfl, Nat.le_of_ble_eq_true rfl⟩) ⟨gl_blind, va_recv hK hP (ci := 4) (q0 := 0) rfl rfl, gl_ok hK hE hP⟩ rfl rfl hl.1 rfl (lv_room (Nat.le_of_ble_eq_true rfl)) dX4_isWrong_185 ⟨Nat.le_of_ble_eq_true rfl, Nat.le_of_ble_eq_true rfl⟩)) ?_
            obtain ⟨v_188, hc_188, hs⟩ := op_bd hs
            refine gx_cSi (va_Run.run (va_runV (As := [.int x3, .int x4, .int v_178, .int v_185]) (rest := []) ⟨hx, hb, hml, hown, hts⟩ (c_X4_cut l D cI cJ cZ cS ad m0 mk mc mx my mf mp mq mb M x3 x4 v_178 v_185 F  v_188 hc_188) (cwV 4 hts gX4_isWrong_X4_cut rfl rfl rfl (by decide +kernel) ⟨Nat.le_of_ble_eq_true rfl, Nat.le_of_ble_eq_true rfl⟩) ⟨gl_blind, va_recv hK hP (ci := 4) (q0 := 0) rfl rfl, gl_ok hK hE hP⟩ rfl rfl hl.1 rfl (lv_room (Nat.le_of_ble_eq_true rfl)) dX4_isWrong_188 ⟨Nat.le_of_ble_eq_true rfl, Nat.le_of_ble_eq_true rfl⟩)) ?_
            exact J_191 x3 x4 x5 x6 v_188 hs _ (lv_sub hl [1, 2, 3, 4, 5, 6, 7] rfl)
          · replace hs := it_f c_150 hs
            refine lv_aload_n hx hb dX4_isWrong_153 rfl (lv_at hl 1 rfl) ?_
            refine lv_aload_n hx hb dX4_isWrong_154 rfl (lv_at hl 1 rfl) ?_
            refine lv_iload_n hx hb dX4_isWrong_155 rfl (lv_at hl 2 rfl) ?_
            refine lv_iload hx hb dX4_isWrong_156 (lv_at hl 7 rfl) ?_
            obtain ⟨v_158, hc_158, hs⟩ := op_bd hs
            refine gx_cSi (va_Run.run (va_runV (As := [.int p1, .int x6]) (rest := [.ref m0]) ⟨hx, hb, hml, hown, hts⟩ (c_X4_from l D cI cJ cZ cS ad m0 mk mc mx my mf mp mq mb M p1 x6 F  v_158 hc_158) (cwV 2 hts gX4_isWrong_X4_from rfl rfl rfl (by decide +kernel) ⟨Nat.le_of_ble_eq_true rfl, Nat.le_of_ble_eq_true rfl⟩) ⟨gl_blind, va_recv hK hP (ci := 4) (q0 := 0) rfl rfl, gl_ok hK hE hP⟩ rfl rfl hl.1 rfl (lv_room (Nat.le_of_ble_eq_true rfl)) dX4_isWrong_158 ⟨Nat.le_of_ble_eq_true rfl, Nat.le_of_ble_eq_true rfl⟩)) ?_
            refine lv_iload_n hx hb dX4_isWrong_161 rfl (lv_at hl 4 rfl) ?_
            refine lv_iload hx hb dX4_isWrong_162 (lv_at hl 5 rfl) ?_
            obtain ⟨v_164, hc_164, hs⟩ := op_bd hs
            refine gx_cSi (va_Run.run (va_runV (As := [.int v_158, .int x3, .int x4]) (rest := []) ⟨hx, hb, hml, hown, hts⟩ (c_X4_folds l D cI cJ cZ cS ad m0 mk mc mx my mf mp mq mb M v_158 x3 x4 F  v_164 hc_164) (cwV 3 hts gX4_isWrong_X4_folds rfl rfl rfl (by decide +kernel) ⟨Nat.le_of_ble_eq_true rfl, Nat.le_of_ble_eq_true rfl⟩) ⟨gl_blind, va_recv hK hP (ci := 4) (q0 := 0) rfl rfl, gl_ok hK hE hP⟩ rfl rfl hl.1 rfl (lv_room (Nat.le_of_ble_eq_true rfl)) dX4_isWrong_164 ⟨Nat.le_of_ble_eq_true rfl, Nat.le_of_ble_eq_true rfl⟩)) ?_
            refine lv_goto (tgt := 191) hx hb dX4_isWrong_167 (by decide) ?_
            exact J_191 x3 x4 x5 x6 v_164 hs _ (lv_sub hl [1, 2, 3, 4, 5, 6, 7] rfl)
        · replace hs := it_f c_128 hs
          refine lv_aload_n hx hb dX4_isWrong_131 rfl (lv_at hl 1 rfl) ?_
          refine lv_iload_n hx hb dX4_isWrong_132 rfl (lv_at hl 4 rfl) ?_
          refine lv_iload hx hb dX4_isWrong_133 (lv_at hl 5 rfl) ?_
          refine lv_aload_n hx hb dX4_isWrong_135 rfl (lv_at hl 1 rfl) ?_
          refine lv_iload_n hx hb dX4_isWrong_136 rfl (lv_at hl 2 rfl) ?_
          refine lv_iload hx hb dX4_isWrong_137 (lv_at hl 7 rfl) ?_
          obtain ⟨v_139, hc_139, hs⟩ := op_bd hs
          refine gx_cSi (va_Run.run (va_runV (As := [.int p1, .int x6]) (rest := [.int x4, .int x3, .ref m0]) ⟨hx, hb, hml, hown, hts⟩ (c_X4_to l D cI cJ cZ cS ad m0 mk mc mx my mf mp mq mb M p1 x6 F  v_139 hc_139) (cwV 2 hts gX4_isWrong_X4_to rfl rfl rfl (by decide +kernel) ⟨Nat.le_of_ble_eq_true rfl, Nat.le_of_ble_eq_true rfl⟩) ⟨gl_blind, va_recv hK hP (ci := 4) (q0 := 0) rfl rfl, gl_ok hK hE hP⟩ rfl rfl hl.1 rfl (lv_room (Nat.le_of_ble_eq_true rfl)) dX4_isWrong_139 ⟨Nat.le_of_ble_eq_true rfl, Nat.le_of_ble_eq_true rfl⟩)) ?_
          obtain ⟨v_142, hc_142, hs⟩ := op_bd hs
          refine gx_cSi (va_Run.run (va_runV (As := [.int x3, .int x4, .int v_139]) (rest := []) ⟨hx, hb, hml, hown, hts⟩ (c_X4_folds l D cI cJ cZ cS ad m0 mk mc mx my mf mp mq mb M x3 x4 v_139 F  v_142 hc_142) (cwV 3 hts gX4_isWrong_X4_folds rfl rfl rfl (by decide +kernel) ⟨Nat.le_of_ble_eq_true rfl, Nat.le_of_ble_eq_true rfl⟩) ⟨gl_blind, va_recv hK hP (ci := 4) (q0 := 0) rfl rfl, gl_ok hK hE hP⟩ rfl rfl hl.1 rfl (lv_room (Nat.le_of_ble_eq_true rfl)) dX4_isWrong_142 ⟨Nat.le_of_ble_eq_true rfl, Nat.le_of_ble_eq_true rfl⟩)) ?_
          refine lv_goto (tgt := 191) hx hb dX4_isWrong_145 (by decide) ?_
          exact J_191 x3 x4 x5 x6 v_142 hs _ (lv_sub hl [1, 2, 3, 4, 5, 6, 7] rfl)
      have J_106 : ∀ (x3 : Int32) (x4 : Int32) (x5 : Int32) (x6 : Int32) (t0 : Int32), s_X4_isWrong_106 F M p1 p2 (fun y0 y1 y2 y3 => s_X4_isWrong_74 F M p1 p2 n_74 y0 y1 y2 y3) x3 x4 x5 x6 t0 = some r → ∀ ls : Array Slot, lv_has ls 10 [(0, .ref m0), (1, .int p1), (2, .int p2), (3, .int x3), (4, .int x4), (5, .int x5), (6, .int x6)] → W p l e (headSpec wsX4_isWrong rm_X4_isWrong).room s m ([.ref m0, .int p1, .int p2] : List Value).toArray below meth c s.heap [] 0 0 (MQ below (vp_Si (fun v => v = r)) ([.ref m0, .int p1, .int p2] : List Value).toArray s 0 0 (fun _ => False)) (F0 m 106 ls [.int t0]) := by
        intro x3 x4 x5 x6 t0 hs ls hl
        rw [s_X4_isWrong_106] at hs
        refine lv_istore (lv' := [(7, .int t0), (0, .ref m0), (1, .int p1), (2, .int p2), (3, .int x3), (4, .int x4), (5, .int x5), (6, .int x6)]) hx hb dX4_isWrong_106 hl (by decide) rfl (fun ls hl => ?_)
        refine lv_iload hx hb dX4_isWrong_108 (lv_at hl 7 rfl) ?_
        refine lv_iconst (v := 1) hx hb dX4_isWrong_110 (by decide) ?_
        refine lv_iadd hx hb dX4_isWrong_111 ?_
        refine lv_iload hx hb dX4_isWrong_112 (lv_at hl 6 rfl) ?_
        obtain ⟨_, hz_114, hs⟩ := op_bd hs
        refine lv_irem hx hb dX4_isWrong_114 (nz_i_ne hz_114) ?_
        refine lv_iload_n hx hb dX4_isWrong_115 rfl (lv_at hl 3 rfl) ?_
        refine lv_icmp_ne (tgt := 123) hx hb dX4_isWrong_116 (by decide) (fun c_116 => ?_) (fun c_116 => ?_)
        · replace hs := it_f c_116 hs
          refine lv_iconst (v := 0) hx hb dX4_isWrong_123 (by decide) ?_
          exact J_124 x3 x4 x5 x6 t0 0 hs _ (lv_sub hl [1, 2, 3, 4, 5, 6, 7, 0] rfl)
        · replace hs := it_t c_116 hs
          refine lv_iconst (v := 1) hx hb dX4_isWrong_119 (by decide) ?_
          refine lv_goto (tgt := 124) hx hb dX4_isWrong_120 (by decide) ?_
          exact J_124 x3 x4 x5 x6 t0 1 hs _ (lv_sub hl [1, 2, 3, 4, 5, 6, 7, 0] rfl)
      intro x3 x4 x5 x6 hs ls hl
      rw [s_X4_isWrong_74] at hs
      refine lv_iload hx hb dX4_isWrong_74 (lv_at hl 6 rfl) ?_
      refine lv_iload hx hb dX4_isWrong_76 (lv_at hl 5 rfl) ?_
      refine lv_icmp_ge (tgt := 206) hx hb dX4_isWrong_78 (by decide) (fun c_78 => ?_) (fun c_78 => ?_)
      · replace hs := it_t c_78 hs
        refine lv_iconst (v := 0) hx hb dX4_isWrong_206 (by decide) ?_
        obtain rfl := Option.some.inj hs
        exact W.zret hx hb hr rfl (fun t ht hW => ⟨_, rfl, rfl, ht⟩) (fun _ h => by cases h) dX4_isWrong_207
      · replace hs := it_f c_78 hs
        refine lv_iload hx hb dX4_isWrong_81 (lv_at hl 6 rfl) ?_
        refine lv_iload_n hx hb dX4_isWrong_83 rfl (lv_at hl 2 rfl) ?_
        refine lv_icmp_ne (tgt := 90) hx hb dX4_isWrong_84 (by decide) (fun c_84 => ?_) (fun c_84 => ?_)
        · replace hs := it_f c_84 hs
          refine lv_iload_n hx hb dX4_isWrong_90 rfl (lv_at hl 2 rfl) ?_
          refine lv_iconst (v := 1) hx hb dX4_isWrong_91 (by decide) ?_
          refine lv_iadd hx hb dX4_isWrong_92 ?_
          refine lv_iload hx hb dX4_isWrong_93 (lv_at hl 5 rfl) ?_
          obtain ⟨_, hz_95, hs⟩ := op_bd hs
          refine lv_irem hx hb dX4_isWrong_95 (nz_i_ne hz_95) ?_
          refine lv_iload hx hb dX4_isWrong_96 (lv_at hl 6 rfl) ?_
          refine lv_icmp_ne (tgt := 105) hx hb dX4_isWrong_98 (by decide) (fun c_98 => ?_) (fun c_98 => ?_)
          · replace hs := it_f c_98 hs
            refine lv_iconst (v := 0) hx hb dX4_isWrong_105 (by decide) ?_
            exact J_106 x3 x4 x5 x6 0 hs _ (lv_sub hl [0, 1, 2, 3, 4, 5, 6] rfl)
          · replace hs := it_t c_98 hs
            refine lv_iconst (v := 1) hx hb dX4_isWrong_101 (by decide) ?_
            refine lv_goto (tgt := 106) hx hb dX4_isWrong_102 (by decide) ?_
            exact J_106 x3 x4 x5 x6 1 hs _ (lv_sub hl [0, 1, 2, 3, 4, 5, 6] rfl)
        · replace hs := it_t c_84 hs
          refine lv_goto (tgt := 200) hx hb dX4_isWrong_87 (by decide) ?_
          obtain ⟨e_200, hv_200, hs⟩ := op_bd hs
          refine lv_iinc (v := e_200) (lv' := [(6, .int e_200), (0, .ref m0), (1, .int p1), (2, .int p2), (3, .int x3), (4, .int x4), (5, .int x5)]) hx hb dX4_isWrong_200 hl (k := 6) rfl (Option.some.inj hv_200) (by decide) rfl (fun ls hl => ?_)
          refine lv_goto (tgt := 74) hx hb dX4_isWrong_203 (by decide) ?_
          exact ih_74 x3 x4 x5 e_200 hs _ (lv_sub hl [1, 2, 3, 4, 5, 6, 0] rfl)
  have J_51 : ∀ (x3 : Int32) (x4 : Int32), s_X4_isWrong_51 F M p1 p2 x3 x4 = some r → ∀ ls : Array Slot, lv_has ls 10 [(0, .ref m0), (1, .int p1), (2, .int p2), (3, .int x3), (4, .int x4)] → W p l e (headSpec wsX4_isWrong rm_X4_isWrong).room s m ([.ref m0, .int p1, .int p2] : List Value).toArray below meth c s.heap [] 0 0 (MQ below (vp_Si (fun v => v = r)) ([.ref m0, .int p1, .int p2] : List Value).toArray s 0 0 (fun _ => False)) (F0 m 51 ls []) := by
    intro x3 x4 hs ls hl
    rw [s_X4_isWrong_51] at hs
    refine lv_aload_n hx hb dX4_isWrong_51 rfl (lv_at hl 0 rfl) ?_
    refine va_get (D := D) (ci := 4) (v := .ref mk) (C := RX4) (T := TX4) (N := 15) hx hb hts in_X4 hown hK hP 0 rfl rfl 0 (by decide) lk_13 (fun _ h9 => h9) rfl dX4_isWrong_52 ?_
    refine lv_iload_n hx hb dX4_isWrong_55 rfl (lv_at hl 1 rfl) ?_
    obtain ⟨v_56, hv_56, hs⟩ := op_bd hs
    refine gx_iald hx hb hK hP 1 0 rfl rfl hv_56 dX4_isWrong_56 ?_
    refine lv_iconst (v := 2) hx hb dX4_isWrong_57 (by decide) ?_
    refine lv_icmp_ne (tgt := 63) hx hb dX4_isWrong_58 (by decide) (fun c_58 => ?_) (fun c_58 => ?_)
    · replace hs := it_f c_58 hs
      refine lv_aload_n hx hb dX4_isWrong_63 rfl (lv_at hl 0 rfl) ?_
      refine va_get (D := D) (ci := 4) (v := .ref mc) (C := RX4) (T := TX4) (N := 15) hx hb hts in_X4 hown hK hP 0 rfl rfl 1 (by decide) lk_17 (fun _ h9 => h9) rfl dX4_isWrong_64 ?_
      refine lv_iload_n hx hb dX4_isWrong_67 rfl (lv_at hl 1 rfl) ?_
      obtain ⟨v_68, hv_68, hs⟩ := op_bd hs
      refine gx_iald hx hb hK hP 2 0 rfl rfl hv_68 dX4_isWrong_68 ?_
      refine lv_istore (lv' := [(5, .int v_68), (0, .ref m0), (1, .int p1), (2, .int p2), (3, .int x3), (4, .int x4)]) hx hb dX4_isWrong_69 hl (by decide) rfl (fun ls hl => ?_)
      refine lv_iconst (v := 0) hx hb dX4_isWrong_71 (by decide) ?_
      refine lv_istore (lv' := [(6, .int 0), (5, .int v_68), (0, .ref m0), (1, .int p1), (2, .int p2), (3, .int x3), (4, .int x4)]) hx hb dX4_isWrong_72 hl (by decide) rfl (fun ls hl => ?_)
      exact J_74 F x3 x4 v_68 0 hs _ (lv_sub hl [2, 3, 4, 5, 6, 1, 0] rfl)
    · replace hs := it_t c_58 hs
      refine lv_iconst (v := 0) hx hb dX4_isWrong_61 (by decide) ?_
      obtain rfl := Option.some.inj hs
      exact W.zret hx hb hr rfl (fun t ht hW => ⟨_, rfl, rfl, ht⟩) (fun _ h => by cases h) dX4_isWrong_62
  have hl := lv_entry ([.ref m0, .int p1, .int p2]) (n := 10) (Nat.le_of_ble_eq_true rfl)
  rw [lg_entry_eq]
  generalize (lg_sl ([.ref m0, .int p1, .int p2]) ++ List.replicate (10 - (lg_sl ([.ref m0, .int p1, .int p2])).length) Slot.unset).toArray = ls at hl ⊢
  have hl : lv_has ls 10 [(0, .ref m0), (1, .int p1), (2, .int p2)] := hl
  rw [s_X4_isWrong] at hs
  refine lv_aload_n hx hb dX4_isWrong_0 rfl (lv_at hl 0 rfl) ?_
  refine lv_iload_n hx hb dX4_isWrong_1 rfl (lv_at hl 1 rfl) ?_
  refine lv_iload_n hx hb dX4_isWrong_2 rfl (lv_at hl 2 rfl) ?_
  obtain ⟨v_3, hc_3, hs⟩ := op_bd hs
  refine gx_cSi (va_Run.run (va_runV (As := [.int p1, .int p2]) (rest := []) ⟨hx, hb, hml, hown, hts⟩ (c_X4_from l D cI cJ cZ cS ad m0 mk mc mx my mf mp mq mb M p1 p2 F  v_3 hc_3) (cwV 2 hts gX4_isWrong_X4_from rfl rfl rfl (by decide +kernel) ⟨Nat.le_of_ble_eq_true rfl, Nat.le_of_ble_eq_true rfl⟩) ⟨gl_blind, va_recv hK hP (ci := 4) (q0 := 0) rfl rfl, gl_ok hK hE hP⟩ rfl rfl hl.1 rfl (lv_room (Nat.le_of_ble_eq_true rfl)) dX4_isWrong_3 ⟨Nat.le_of_ble_eq_true rfl, Nat.le_of_ble_eq_true rfl⟩)) ?_
  refine lv_istore_n (lv' := [(3, .int v_3), (0, .ref m0), (1, .int p1), (2, .int p2)]) hx hb dX4_isWrong_6 rfl hl (by decide) rfl (fun ls hl => ?_)
  refine lv_aload_n hx hb dX4_isWrong_7 rfl (lv_at hl 1 rfl) ?_
  refine lv_iload_n hx hb dX4_isWrong_8 rfl (lv_at hl 2 rfl) ?_
  refine lv_iload_n hx hb dX4_isWrong_9 rfl (lv_at hl 3 rfl) ?_
  obtain ⟨v_10, hc_10, hs⟩ := op_bd hs
  refine gx_cSi (va_Run.run (va_runV (As := [.int p1, .int p2]) (rest := []) ⟨hx, hb, hml, hown, hts⟩ (c_X4_to l D cI cJ cZ cS ad m0 mk mc mx my mf mp mq mb M p1 p2 F  v_10 hc_10) (cwV 2 hts gX4_isWrong_X4_to rfl rfl rfl (by decide +kernel) ⟨Nat.le_of_ble_eq_true rfl, Nat.le_of_ble_eq_true rfl⟩) ⟨gl_blind, va_recv hK hP (ci := 4) (q0 := 0) rfl rfl, gl_ok hK hE hP⟩ rfl rfl hl.1 rfl (lv_room (Nat.le_of_ble_eq_true rfl)) dX4_isWrong_10 ⟨Nat.le_of_ble_eq_true rfl, Nat.le_of_ble_eq_true rfl⟩)) ?_
  refine lv_istore (lv' := [(4, .int v_10), (3, .int v_3), (0, .ref m0), (1, .int p1), (2, .int p2)]) hx hb dX4_isWrong_13 hl (by decide) rfl (fun ls hl => ?_)
  refine lv_aload_n hx hb dX4_isWrong_15 rfl (lv_at hl 2 rfl) ?_
  refine va_get (D := D) (ci := 4) (v := .ref mx) (C := RX4) (T := TX4) (N := 15) hx hb hts in_X4 hown hK hP 0 rfl rfl 2 (by decide) lk_20 (fun _ h9 => h9) rfl dX4_isWrong_16 ?_
  refine lv_iload_n hx hb dX4_isWrong_19 rfl (lv_at hl 1 rfl) ?_
  obtain ⟨v_20, hv_20, hs⟩ := op_bd hs
  refine gx_lald hx hb hK hP 3 1 rfl rfl hv_20 dX4_isWrong_20 ?_
  refine lv_aload_n hx hb dX4_isWrong_21 rfl (lv_at hl 2 rfl) ?_
  refine va_get (D := D) (ci := 4) (v := .ref mx) (C := RX4) (T := TX4) (N := 15) hx hb hts in_X4 hown hK hP 0 rfl rfl 2 (by decide) lk_20 (fun _ h9 => h9) rfl dX4_isWrong_22 ?_
  refine lv_iload hx hb dX4_isWrong_25 (lv_at hl 0 rfl) ?_
  obtain ⟨v_27, hv_27, hs⟩ := op_bd hs
  refine gx_lald hx hb hK hP 3 1 rfl rfl hv_27 dX4_isWrong_27 ?_
  refine W.lcmp hx hb dX4_isWrong_28 ?_
  refine lv_if_ne (tgt := 51) hx hb dX4_isWrong_29 (by decide) (fun c_29 => ?_) (fun c_29 => ?_)
  · replace hs := it_f c_29 hs
    exact J_51 v_3 v_10 hs _ (lv_sub hl [2, 3, 4, 1, 0] rfl)
  · replace hs := it_t c_29 hs
    refine lv_aload_n hx hb dX4_isWrong_32 rfl (lv_at hl 2 rfl) ?_
    refine va_get (D := D) (ci := 4) (v := .ref my) (C := RX4) (T := TX4) (N := 15) hx hb hts in_X4 hown hK hP 0 rfl rfl 3 (by decide) lk_24 (fun _ h9 => h9) rfl dX4_isWrong_33 ?_
    refine lv_iload_n hx hb dX4_isWrong_36 rfl (lv_at hl 1 rfl) ?_
    obtain ⟨v_37, hv_37, hs⟩ := op_bd hs
    refine gx_lald hx hb hK hP 4 1 rfl rfl hv_37 dX4_isWrong_37 ?_
    refine lv_aload_n hx hb dX4_isWrong_38 rfl (lv_at hl 2 rfl) ?_
    refine va_get (D := D) (ci := 4) (v := .ref my) (C := RX4) (T := TX4) (N := 15) hx hb hts in_X4 hown hK hP 0 rfl rfl 3 (by decide) lk_24 (fun _ h9 => h9) rfl dX4_isWrong_39 ?_
    refine lv_iload hx hb dX4_isWrong_42 (lv_at hl 0 rfl) ?_
    obtain ⟨v_44, hv_44, hs⟩ := op_bd hs
    refine gx_lald hx hb hK hP 4 1 rfl rfl hv_44 dX4_isWrong_44 ?_
    refine W.lcmp hx hb dX4_isWrong_45 ?_
    refine lv_if_ne (tgt := 51) hx hb dX4_isWrong_46 (by decide) (fun c_46 => ?_) (fun c_46 => ?_)
    · replace hs := it_f c_46 hs
      exact J_51 v_3 v_10 hs _ (lv_sub hl [2, 3, 4, 1, 0] rfl)
    · replace hs := it_t c_46 hs
      refine lv_iconst (v := 1) hx hb dX4_isWrong_49 (by decide) ?_
      obtain rfl := Option.some.inj hs
      exact W.zret hx hb hr rfl (fun t ht hW => ⟨_, rfl, rfl, ht⟩) (fun _ h => by cases h) dX4_isWrong_50
def s_X4_stands_157 (F : Nat) (M : mo_T) (p1 : Int64) (p2 : Int64) (p3 : Int32) (kc_6 : Int32 → Int32 → Option Int32) (x6 : Int32) (x7 : Int32) (x10 : Int32) (t0 : Int32) : Option Int32 :=
  (rd_l 1500 (mo_x M) x10).bind fun v_165 =>
  (rd_l 1500 (mo_y M) x10).bind fun v_172 =>
  (rd_l 1500 (mo_x M) t0).bind fun v_179 =>
  (rd_l 1500 (mo_y M) t0).bind fun v_186 =>
  (s_X4_hand F v_165 v_172 v_179 v_186 p1 p2).bind fun v_189 =>
  if v_189 ≤ 0 then
    (some (x7 + 1)).bind fun e_207 =>
    kc_6 x6 e_207
  else
    if x6 = 0 then
      (some (x7 + 1)).bind fun e_207 =>
      kc_6 1 e_207
    else
      (some (x7 + 1)).bind fun e_207 =>
      kc_6 0 e_207
def s_X4_stands_141 (F : Nat) (M : mo_T) (p1 : Int64) (p2 : Int64) (p3 : Int32) (kc_6 : Int32 → Int32 → Option Int32) (x6 : Int32) (x7 : Int32) (x8 : Int32) (x9 : Int32) (t0 : Int32) : Option Int32 :=
  if t0 = x8 then
    s_X4_stands_157 F M p1 p2 p3 kc_6 x6 x7 t0 x9
  else
    s_X4_stands_157 F M p1 p2 p3 kc_6 x6 x7 t0 x8
def s_X4_stands_110 (F : Nat) (M : mo_T) (p1 : Int64) (p2 : Int64) (p3 : Int32) (kc_6 : Int32 → Int32 → Option Int32) (x6 : Int32) (x7 : Int32) (x8 : Int32) (x9 : Int32) (t0 : Int32) (t1 : Int32) : Option Int32 :=
  if t1 = t0 then
    (some (x7 + 1)).bind fun e_207 =>
    kc_6 x6 e_207
  else
    (rd_l 1500 (mo_y M) x8).bind fun v_122 =>
    (rd_l 1500 (mo_y M) x9).bind fun v_129 =>
    if 0 ≤ (lg_cmp v_122 v_129) then
      s_X4_stands_141 F M p1 p2 p3 kc_6 x6 x7 x8 x9 x9
    else
      s_X4_stands_141 F M p1 p2 p3 kc_6 x6 x7 x8 x9 x8
def s_X4_stands_93 (F : Nat) (M : mo_T) (p1 : Int64) (p2 : Int64) (p3 : Int32) (kc_6 : Int32 → Int32 → Option Int32) (x6 : Int32) (x7 : Int32) (x8 : Int32) (x9 : Int32) (t0 : Int32) : Option Int32 :=
  (rd_l 1500 (mo_y M) x9).bind fun v_99 =>
  if (lg_cmp v_99 p2) ≤ 0 then
    s_X4_stands_110 F M p1 p2 p3 kc_6 x6 x7 x8 x9 0 t0
  else
    s_X4_stands_110 F M p1 p2 p3 kc_6 x6 x7 x8 x9 1 t0
def s_X4_stands_6 (F : Nat) (M : mo_T) (p1 : Int64) (p2 : Int64) (p3 : Int32) : Nat → Int32 → Int32 → Option Int32
  | 0, _, _ => none
  | n + 1, x6, x7 =>
    (rd_i 60 (mo_c M) p3).bind fun v_14 =>
    if v_14 ≤ x7 then
      if x6 = 0 then
        some 0
      else
        some 1
    else
      (s_X4_from F M p3 x7).bind fun v_23 =>
      (s_X4_to F M p3 x7).bind fun v_33 =>
      (rd_l 1500 (mo_x M) v_23).bind fun v_44 =>
      (rd_l 1500 (mo_y M) v_23).bind fun v_51 =>
      (rd_l 1500 (mo_x M) v_33).bind fun v_58 =>
      (rd_l 1500 (mo_y M) v_33).bind fun v_65 =>
      (s_X4_isOn F v_44 v_51 v_58 v_65 p1 p2).bind fun v_68 =>
      if v_68 = 0 then
        (rd_l 1500 (mo_y M) v_23).bind fun v_82 =>
        if (lg_cmp v_82 p2) ≤ 0 then
          s_X4_stands_93 F M p1 p2 p3 (fun y0 y1 => s_X4_stands_6 F M p1 p2 p3 n y0 y1) x6 x7 v_23 v_33 0
        else
          s_X4_stands_93 F M p1 p2 p3 (fun y0 y1 => s_X4_stands_6 F M p1 p2 p3 n y0 y1) x6 x7 v_23 v_33 1
      else
        some 2
def s_X4_stands (F : Nat) (M : mo_T) (p1 : Int64) (p2 : Int64) (p3 : Int32) : Option Int32 :=
  s_X4_stands_6 F M p1 p2 p3 F 0 0
abbrev rm_X4_stands : Room := { frames := 3, cells := 0, slots := 0, locals := 91 }
theorem in_X4_stands_X4 : ∀ w ∈ wsX40, w ∈ wsX4_stands := by decide +kernel
set_option maxHeartbeats 4000000 in
set_option maxRecDepth 100000 in
theorem c_X4_stands (l : Launch) (D : va_G) (cI cJ cZ cS : ClassId) (ad : Nat → Nat) (m0 mk mc mx my mf mp mq mb : Nat) (M : mo_T) (p1 : Int64) (p2 : Int64) (p3 : Int32) (F : Nat)  (r : Int32) (hs : s_X4_stands F M p1 p2 p3 = some r) : Met l yX4_stands wsX4_stands rm_X4_stands (gl_P D cI cJ cZ cS ad [.ref m0, .long p1, .long p2, .int p3] (fun H => va_P D vwCl (mo_w cI cJ cZ m0 mk mc mx my mf mp mq mb M) H)) (vp_Si (fun v => v = r)) 0 0 (fun _ => False) := by
  refine Met.ofW (cc := cX4_stands) (maxL := 12) (ret := (some .int)) (by decide) rfl ?_
  intro p e s m args below meth c s₁ B hml hv
  obtain ⟨rfl, hK, hE, hP⟩ := hv
  have hx := B.exec
  have hb := B.bytes
  have hr := B.returns
  have hts := atoms_spec (ws := wsX4_stands) B.pre
  have hown : s.vm.findClass RX4 = some m.cls := findClass_of_methodNamed B.named
  have hlocks := B.notSynchronized
  have lk_17 := hts (.fieldLink RX4 17 "PlacePointsModel" "counts" "[I") (by decide +kernel)
  have lk_20 := hts (.fieldLink RX4 20 "PlacePointsModel" "xs" "[J") (by decide +kernel)
  have lk_24 := hts (.fieldLink RX4 24 "PlacePointsModel" "ys" "[J") (by decide +kernel)
  have in_X4 := in_X4_stands_X4
  have J_6 : ∀ (n_6 : Nat) (x6 : Int32) (x7 : Int32), s_X4_stands_6 F M p1 p2 p3 n_6 x6 x7 = some r → ∀ ls : Array Slot, lv_has ls 12 [(0, .ref m0), (1, .long p1), (3, .long p2), (5, .int p3), (6, .int x6), (7, .int x7)] → W p l e (headSpec wsX4_stands rm_X4_stands).room s m ([.ref m0, .long p1, .long p2, .int p3] : List Value).toArray below meth c s.heap [] 0 0 (MQ below (vp_Si (fun v => v = r)) ([.ref m0, .long p1, .long p2, .int p3] : List Value).toArray s 0 0 (fun _ => False)) (F0 m 6 ls []) := by
    intro n_6
    induction n_6 with
    | zero =>
      intro x6 x7 hs
      cases hs
    | succ n_6 ih_6 =>
      have J_157 : ∀ (x6 : Int32) (x7 : Int32) (x10 : Int32) (t0 : Int32), s_X4_stands_157 F M p1 p2 p3 (fun y0 y1 => s_X4_stands_6 F M p1 p2 p3 n_6 y0 y1) x6 x7 x10 t0 = some r → ∀ ls : Array Slot, lv_has ls 12 [(0, .ref m0), (1, .long p1), (3, .long p2), (5, .int p3), (6, .int x6), (7, .int x7), (10, .int x10)] → W p l e (headSpec wsX4_stands rm_X4_stands).room s m ([.ref m0, .long p1, .long p2, .int p3] : List Value).toArray below meth c s.heap [] 0 0 (MQ below (vp_Si (fun v => v = r)) ([.ref m0, .long p1, .long p2, .int p3] : List Value).toArray s 0 0 (fun _ => False)) (F0 m 157 ls [.int t0]) := by
        intro x6 x7 x10 t0 hs ls hl
        rw [s_X4_stands_157] at hs
        refine lv_istore (lv' := [(11, .int t0), (0, .ref m0), (1, .long p1), (3, .long p2), (5, .int p3), (6, .int x6), (7, .int x7), (10, .int x10)]) hx hb dX4_stands_157 hl (by decide) rfl (fun ls hl => ?_)
        refine lv_aload_n hx hb dX4_stands_159 rfl (lv_at hl 1 rfl) ?_
        refine va_get (D := D) (ci := 4) (v := .ref mx) (C := RX4) (T := TX4) (N := 15) hx hb hts in_X4 hown hK hP 0 rfl rfl 2 (by decide) lk_20 (fun _ h9 => h9) rfl dX4_stands_160 ?_
        refine lv_iload hx hb dX4_stands_163 (lv_at hl 7 rfl) ?_
        obtain ⟨v_165, hv_165, hs⟩ := op_bd hs
        refine gx_lald hx hb hK hP 3 1 rfl rfl hv_165 dX4_stands_165 ?_
        refine lv_aload_n hx hb dX4_stands_166 rfl (lv_at hl 1 rfl) ?_
        refine va_get (D := D) (ci := 4) (v := .ref my) (C := RX4) (T := TX4) (N := 15) hx hb hts in_X4 hown hK hP 0 rfl rfl 3 (by decide) lk_24 (fun _ h9 => h9) rfl dX4_stands_167 ?_
        refine lv_iload hx hb dX4_stands_170 (lv_at hl 7 rfl) ?_
        obtain ⟨v_172, hv_172, hs⟩ := op_bd hs
        refine gx_lald hx hb hK hP 4 1 rfl rfl hv_172 dX4_stands_172 ?_
        refine lv_aload_n hx hb dX4_stands_173 rfl (lv_at hl 1 rfl) ?_
        refine va_get (D := D) (ci := 4) (v := .ref mx) (C := RX4) (T := TX4) (N := 15) hx hb hts in_X4 hown hK hP 0 rfl rfl 2 (by decide) lk_20 (fun _ h9 => h9) rfl dX4_stands_174 ?_
        refine lv_iload hx hb dX4_stands_177 (lv_at hl 0 rfl) ?_
        obtain ⟨v_179, hv_179, hs⟩ := op_bd hs
        refine gx_lald hx hb hK hP 3 1 rfl rfl hv_179 dX4_stands_179 ?_
        refine lv_aload_n hx hb dX4_stands_180 rfl (lv_at hl 1 rfl) ?_
        refine va_get (D := D) (ci := 4) (v := .ref my) (C := RX4) (T := TX4) (N := 15) hx hb hts in_X4 hown hK hP 0 rfl rfl 3 (by decide) lk_24 (fun _ h9 => h9) rfl dX4_stands_181 ?_
        refine lv_iload hx hb dX4_stands_184 (lv_at hl 0 rfl) ?_
        obtain ⟨v_186, hv_186, hs⟩ := op_bd hs
        refine gx_lald hx hb hK hP 4 1 rfl rfl hv_186 dX4_stands_186 ?_
        refine lv_lload_n hx hb dX4_stands_187 rfl (lv_at hl 2 rfl) ?_
        refine lv_lload_n hx hb dX4_stands_188 rfl (lv_at hl 3 rfl) ?_
        obtain ⟨v_189, hc_189, hs⟩ := op_bd hs
        refine gx_cSi (va_Run.run (va_runS (As := [.long v_165, .long v_172, .long v_179, .long v_186, .long p1, .long p2]) (rest := []) ⟨hx, hb, hml, hown, hts⟩ (c_X4_hand l D cI cJ cZ cS ad v_165 v_172 v_179 v_186 p1 p2 F  v_189 hc_189) (va_cwS 6 hts gX4_stands_X4_hand rfl rfl rfl (by decide +kernel) ⟨Nat.le_of_ble_eq_true rfl, Nat.le_of_ble_eq_true rfl⟩) ⟨gl_blind, gl_ok hK hE trivial⟩ rfl rfl hl.1 rfl (lv_room (Nat.le_of_ble_eq_true rfl)) dX4_stands_189 ⟨Nat.le_of_ble_eq_true rfl, Nat.le_of_ble_eq_true rfl⟩)) ?_
        refine lv_if_le (tgt := 207) hx hb dX4_stands_192 (by decide) (fun c_192 => ?_) (fun c_192 => ?_)
        · replace hs := it_t c_192 hs
          obtain ⟨e_207, hv_207, hs⟩ := op_bd hs
          refine lv_iinc (v := e_207) (lv' := [(7, .int e_207), (11, .int t0), (0, .ref m0), (1, .long p1), (3, .long p2), (5, .int p3), (6, .int x6), (10, .int x10)]) hx hb dX4_stands_207 hl (k := 6) rfl (Option.some.inj hv_207) (by decide) rfl (fun ls hl => ?_)
          refine lv_goto (tgt := 6) hx hb dX4_stands_210 (by decide) ?_
          exact ih_6 x6 e_207 hs _ (lv_sub hl [2, 3, 4, 5, 6, 0] rfl)
        · replace hs := it_f c_192 hs
          refine lv_iload hx hb dX4_stands_195 (lv_at hl 5 rfl) ?_
          refine lv_if_ne (tgt := 204) hx hb dX4_stands_197 (by decide) (fun c_197 => ?_) (fun c_197 => ?_)
          · replace hs := it_f c_197 hs
            refine lv_iconst (v := 0) hx hb dX4_stands_204 (by decide) ?_
            refine lv_istore (lv' := [(6, .int 0), (11, .int t0), (0, .ref m0), (1, .long p1), (3, .long p2), (5, .int p3), (7, .int x7), (10, .int x10)]) hx hb dX4_stands_205 hl (by decide) rfl (fun ls hl => ?_)
            obtain ⟨e_207, hv_207, hs⟩ := op_bd hs
            refine lv_iinc (v := e_207) (lv' := [(7, .int e_207), (6, .int 0), (11, .int t0), (0, .ref m0), (1, .long p1), (3, .long p2), (5, .int p3), (10, .int x10)]) hx hb dX4_stands_207 hl (k := 6) rfl (Option.some.inj hv_207) (by decide) rfl (fun ls hl => ?_)
            refine lv_goto (tgt := 6) hx hb dX4_stands_210 (by decide) ?_
            exact ih_6 0 e_207 hs _ (lv_sub hl [3, 4, 5, 6, 1, 0] rfl)
          · replace hs := it_t c_197 hs
            refine lv_iconst (v := 1) hx hb dX4_stands_200 (by decide) ?_
            refine lv_goto (tgt := 205) hx hb dX4_stands_201 (by decide) ?_
            refine lv_istore (lv' := [(6, .int 1), (11, .int t0), (0, .ref m0), (1, .long p1), (3, .long p2), (5, .int p3), (7, .int x7), (10, .int x10)]) hx hb dX4_stands_205 hl (by decide) rfl (fun ls hl => ?_)
            obtain ⟨e_207, hv_207, hs⟩ := op_bd hs
            refine lv_iinc (v := e_207) (lv' := [(7, .int e_207), (6, .int 1), (11, .int t0), (0, .ref m0), (1, .long p1), (3, .long p2), (5, .int p3), (10, .int x10)]) hx hb dX4_stands_207 hl (k := 6) rfl (Option.some.inj hv_207) (by decide) rfl (fun ls hl => ?_)
            refine lv_goto (tgt := 6) hx hb dX4_stands_210 (by decide) ?_
            exact ih_6 1 e_207 hs _ (lv_sub hl [3, 4, 5, 6, 1, 0] rfl)
      have J_141 : ∀ (x6 : Int32) (x7 : Int32) (x8 : Int32) (x9 : Int32) (t0 : Int32), s_X4_stands_141 F M p1 p2 p3 (fun y0 y1 => s_X4_stands_6 F M p1 p2 p3 n_6 y0 y1) x6 x7 x8 x9 t0 = some r → ∀ ls : Array Slot, lv_has ls 12 [(0, .ref m0), (1, .long p1), (3, .long p2), (5, .int p3), (6, .int x6), (7, .int x7), (8, .int x8), (9, .int x9)] → W p l e (headSpec wsX4_stands rm_X4_stands).room s m ([.ref m0, .long p1, .long p2, .int p3] : List Value).toArray below meth c s.heap [] 0 0 (MQ below (vp_Si (fun v => v = r)) ([.ref m0, .long p1, .long p2, .int p3] : List Value).toArray s 0 0 (fun _ => False)) (F0 m 141 ls [.int t0]) := by
        intro x6 x7 x8 x9 t0 hs ls hl
        rw [s_X4_stands_141] at hs
        refine lv_istore (lv' := [(10, .int t0), (0, .ref m0), (1, .long p1), (3, .long p2), (5, .int p3), (6, .int x6), (7, .int x7), (8, .int x8), (9, .int x9)]) hx hb dX4_stands_141 hl (by decide) rfl (fun ls hl => ?_)
        refine lv_iload hx hb dX4_stands_143 (lv_at hl 0 rfl) ?_
        refine lv_iload hx hb dX4_stands_145 (lv_at hl 7 rfl) ?_
        refine lv_icmp_ne (tgt := 155) hx hb dX4_stands_147 (by decide) (fun c_147 => ?_) (fun c_147 => ?_)
        · replace hs := it_f c_147 hs
          refine lv_iload hx hb dX4_stands_155 (lv_at hl 7 rfl) ?_
          exact J_157 x6 x7 t0 x8 hs _ (lv_sub hl [1, 2, 3, 4, 5, 6, 0] rfl)
        · replace hs := it_t c_147 hs
          refine lv_iload hx hb dX4_stands_150 (lv_at hl 8 rfl) ?_
          refine lv_goto (tgt := 157) hx hb dX4_stands_152 (by decide) ?_
          exact J_157 x6 x7 t0 x9 hs _ (lv_sub hl [1, 2, 3, 4, 5, 6, 0] rfl)
      have J_110 : ∀ (x6 : Int32) (x7 : Int32) (x8 : Int32) (x9 : Int32) (t0 : Int32) (t1 : Int32), s_X4_stands_110 F M p1 p2 p3 (fun y0 y1 => s_X4_stands_6 F M p1 p2 p3 n_6 y0 y1) x6 x7 x8 x9 t0 t1 = some r → ∀ ls : Array Slot, lv_has ls 12 [(0, .ref m0), (1, .long p1), (3, .long p2), (5, .int p3), (6, .int x6), (7, .int x7), (8, .int x8), (9, .int x9)] → W p l e (headSpec wsX4_stands rm_X4_stands).room s m ([.ref m0, .long p1, .long p2, .int p3] : List Value).toArray below meth c s.heap [] 0 0 (MQ below (vp_Si (fun v => v = r)) ([.ref m0, .long p1, .long p2, .int p3] : List Value).toArray s 0 0 (fun _ => False)) (F0 m 110 ls [.int t0, .int t1]) := by
        intro x6 x7 x8 x9 t0 t1 hs ls hl
        rw [s_X4_stands_110] at hs
        refine lv_icmp_ne (tgt := 116) hx hb dX4_stands_110 (by decide) (fun c_110 => ?_) (fun c_110 => ?_)
        · replace hs := it_f c_110 hs
          refine lv_aload_n hx hb dX4_stands_116 rfl (lv_at hl 0 rfl) ?_
          refine va_get (D := D) (ci := 4) (v := .ref my) (C := RX4) (T := TX4) (N := 15) hx hb hts in_X4 hown hK hP 0 rfl rfl 3 (by decide) lk_24 (fun _ h9 => h9) rfl dX4_stands_117 ?_
          refine lv_iload hx hb dX4_stands_120 (lv_at hl 6 rfl) ?_
          obtain ⟨v_122, hv_122, hs⟩ := op_bd hs
          refine gx_lald hx hb hK hP 4 1 rfl rfl hv_122 dX4_stands_122 ?_
          refine lv_aload_n hx hb dX4_stands_123 rfl (lv_at hl 0 rfl) ?_
          refine va_get (D := D) (ci := 4) (v := .ref my) (C := RX4) (T := TX4) (N := 15) hx hb hts in_X4 hown hK hP 0 rfl rfl 3 (by decide) lk_24 (fun _ h9 => h9) rfl dX4_stands_124 ?_
          refine lv_iload hx hb dX4_stands_127 (lv_at hl 7 rfl) ?_
          obtain ⟨v_129, hv_129, hs⟩ := op_bd hs
          refine gx_lald hx hb hK hP 4 1 rfl rfl hv_129 dX4_stands_129 ?_
          refine W.lcmp hx hb dX4_stands_130 ?_
          refine lv_if_ge (tgt := 139) hx hb dX4_stands_131 (by decide) (fun c_131 => ?_) (fun c_131 => ?_)
          · replace hs := it_t c_131 hs
            refine lv_iload hx hb dX4_stands_139 (lv_at hl 7 rfl) ?_
            exact J_141 x6 x7 x8 x9 x9 hs _ (lv_sub hl [0, 1, 2, 3, 4, 5, 6, 7] rfl)
          · replace hs := it_f c_131 hs
            refine lv_iload hx hb dX4_stands_134 (lv_at hl 6 rfl) ?_
            refine lv_goto (tgt := 141) hx hb dX4_stands_136 (by decide) ?_
            exact J_141 x6 x7 x8 x9 x8 hs _ (lv_sub hl [0, 1, 2, 3, 4, 5, 6, 7] rfl)
        · replace hs := it_t c_110 hs
          refine lv_goto (tgt := 207) hx hb dX4_stands_113 (by decide) ?_
          obtain ⟨e_207, hv_207, hs⟩ := op_bd hs
          refine lv_iinc (v := e_207) (lv' := [(7, .int e_207), (0, .ref m0), (1, .long p1), (3, .long p2), (5, .int p3), (6, .int x6), (8, .int x8), (9, .int x9)]) hx hb dX4_stands_207 hl (k := 5) rfl (Option.some.inj hv_207) (by decide) rfl (fun ls hl => ?_)
          refine lv_goto (tgt := 6) hx hb dX4_stands_210 (by decide) ?_
          exact ih_6 x6 e_207 hs _ (lv_sub hl [1, 2, 3, 4, 5, 0] rfl)
      have J_93 : ∀ (x6 : Int32) (x7 : Int32) (x8 : Int32) (x9 : Int32) (t0 : Int32), s_X4_stands_93 F M p1 p2 p3 (fun y0 y1 => s_X4_stands_6 F M p1 p2 p3 n_6 y0 y1) x6 x7 x8 x9 t0 = some r → ∀ ls : Array Slot, lv_has ls 12 [(0, .ref m0), (1, .long p1), (3, .long p2), (5, .int p3), (6, .int x6), (7, .int x7), (8, .int x8), (9, .int x9)] → W p l e (headSpec wsX4_stands rm_X4_stands).room s m ([.ref m0, .long p1, .long p2, .int p3] : List Value).toArray below meth c s.heap [] 0 0 (MQ below (vp_Si (fun v => v = r)) ([.ref m0, .long p1, .long p2, .int p3] : List Value).toArray s 0 0 (fun _ => False)) (F0 m 93 ls [.int t0]) := by
        intro x6 x7 x8 x9 t0 hs ls hl
        rw [s_X4_stands_93] at hs
        refine lv_aload_n hx hb dX4_stands_93 rfl (lv_at hl 0 rfl) ?_
        refine va_get (D := D) (ci := 4) (v := .ref my) (C := RX4) (T := TX4) (N := 15) hx hb hts in_X4 hown hK hP 0 rfl rfl 3 (by decide) lk_24 (fun _ h9 => h9) rfl dX4_stands_94 ?_
        refine lv_iload hx hb dX4_stands_97 (lv_at hl 7 rfl) ?_
        obtain ⟨v_99, hv_99, hs⟩ := op_bd hs
        refine gx_lald hx hb hK hP 4 1 rfl rfl hv_99 dX4_stands_99 ?_
        refine lv_lload_n hx hb dX4_stands_100 rfl (lv_at hl 2 rfl) ?_
        refine W.lcmp hx hb dX4_stands_101 ?_
        refine lv_if_le (tgt := 109) hx hb dX4_stands_102 (by decide) (fun c_102 => ?_) (fun c_102 => ?_)
        · replace hs := it_t c_102 hs
          refine lv_iconst (v := 0) hx hb dX4_stands_109 (by decide) ?_
          exact J_110 x6 x7 x8 x9 0 t0 hs _ (lv_sub hl [0, 1, 2, 3, 4, 5, 6, 7] rfl)
        · replace hs := it_f c_102 hs
          refine lv_iconst (v := 1) hx hb dX4_stands_105 (by decide) ?_
          refine lv_goto (tgt := 110) hx hb dX4_stands_106 (by decide) ?_
          exact J_110 x6 x7 x8 x9 1 t0 hs _ (lv_sub hl [0, 1, 2, 3, 4, 5, 6, 7] rfl)
      intro x6 x7 hs ls hl
      rw [s_X4_stands_6] at hs
      refine lv_iload hx hb dX4_stands_6 (lv_at hl 5 rfl) ?_
      refine lv_aload_n hx hb dX4_stands_8 rfl (lv_at hl 0 rfl) ?_
      refine va_get (D := D) (ci := 4) (v := .ref mc) (C := RX4) (T := TX4) (N := 15) hx hb hts in_X4 hown hK hP 0 rfl rfl 1 (by decide) lk_17 (fun _ h9 => h9) rfl dX4_stands_9 ?_
      refine lv_iload hx hb dX4_stands_12 (lv_at hl 3 rfl) ?_
      obtain ⟨v_14, hv_14, hs⟩ := op_bd hs
      refine gx_iald hx hb hK hP 2 0 rfl rfl hv_14 dX4_stands_14 ?_
      refine lv_icmp_ge (tgt := 213) hx hb dX4_stands_15 (by decide) (fun c_15 => ?_) (fun c_15 => ?_)
      · replace hs := it_t c_15 hs
        refine lv_iload hx hb dX4_stands_213 (lv_at hl 4 rfl) ?_
        refine lv_if_eq (tgt := 222) hx hb dX4_stands_215 (by decide) (fun c_215 => ?_) (fun c_215 => ?_)
        · replace hs := it_t c_215 hs
          refine lv_iconst (v := 0) hx hb dX4_stands_222 (by decide) ?_
          obtain rfl := Option.some.inj hs
          exact W.iret hx hb hr (fun t ht hW => ⟨_, rfl, rfl, ht⟩) (fun _ h => by cases h) dX4_stands_223
        · replace hs := it_f c_215 hs
          refine lv_iconst (v := 1) hx hb dX4_stands_218 (by decide) ?_
          refine lv_goto (tgt := 223) hx hb dX4_stands_219 (by decide) ?_
          obtain rfl := Option.some.inj hs
          exact W.iret hx hb hr (fun t ht hW => ⟨_, rfl, rfl, ht⟩) (fun _ h => by cases h) dX4_stands_223
      · replace hs := it_f c_15 hs
        refine lv_aload_n hx hb dX4_stands_18 rfl (lv_at hl 0 rfl) ?_
        refine lv_iload hx hb dX4_stands_19 (lv_at hl 3 rfl) ?_
        refine lv_iload hx hb dX4_stands_21 (lv_at hl 5 rfl) ?_
        obtain ⟨v_23, hc_23, hs⟩ := op_bd hs
        refine gx_cSi (va_Run.run (va_runV (As := [.int p3, .int x7]) (rest := []) ⟨hx, hb, hml, hown, hts⟩ (c_X4_from l D cI cJ cZ cS ad m0 mk mc mx my mf mp mq mb M p3 x7 F  v_23 hc_23) (cwV 2 hts gX4_stands_X4_from rfl rfl rfl (by decide +kernel) ⟨Nat.le_of_ble_eq_true rfl, Nat.le_of_ble_eq_true rfl⟩) ⟨gl_blind, va_recv hK hP (ci := 4) (q0 := 0) rfl rfl, gl_ok hK hE hP⟩ rfl rfl hl.1 rfl (lv_room (Nat.le_of_ble_eq_true rfl)) dX4_stands_23 ⟨Nat.le_of_ble_eq_true rfl, Nat.le_of_ble_eq_true rfl⟩)) ?_
        refine lv_istore (lv' := [(8, .int v_23), (0, .ref m0), (1, .long p1), (3, .long p2), (5, .int p3), (6, .int x6), (7, .int x7)]) hx hb dX4_stands_26 hl (by decide) rfl (fun ls hl => ?_)
        refine lv_aload_n hx hb dX4_stands_28 rfl (lv_at hl 1 rfl) ?_
        refine lv_iload hx hb dX4_stands_29 (lv_at hl 4 rfl) ?_
        refine lv_iload hx hb dX4_stands_31 (lv_at hl 6 rfl) ?_
        obtain ⟨v_33, hc_33, hs⟩ := op_bd hs
        refine gx_cSi (va_Run.run (va_runV (As := [.int p3, .int x7]) (rest := []) ⟨hx, hb, hml, hown, hts⟩ (c_X4_to l D cI cJ cZ cS ad m0 mk mc mx my mf mp mq mb M p3 x7 F  v_33 hc_33) (cwV 2 hts gX4_stands_X4_to rfl rfl rfl (by decide +kernel) ⟨Nat.le_of_ble_eq_true rfl, Nat.le_of_ble_eq_true rfl⟩) ⟨gl_blind, va_recv hK hP (ci := 4) (q0 := 0) rfl rfl, gl_ok hK hE hP⟩ rfl rfl hl.1 rfl (lv_room (Nat.le_of_ble_eq_true rfl)) dX4_stands_33 ⟨Nat.le_of_ble_eq_true rfl, Nat.le_of_ble_eq_true rfl⟩)) ?_
        refine lv_istore (lv' := [(9, .int v_33), (8, .int v_23), (0, .ref m0), (1, .long p1), (3, .long p2), (5, .int p3), (6, .int x6), (7, .int x7)]) hx hb dX4_stands_36 hl (by decide) rfl (fun ls hl => ?_)
        refine lv_aload_n hx hb dX4_stands_38 rfl (lv_at hl 2 rfl) ?_
        refine va_get (D := D) (ci := 4) (v := .ref mx) (C := RX4) (T := TX4) (N := 15) hx hb hts in_X4 hown hK hP 0 rfl rfl 2 (by decide) lk_20 (fun _ h9 => h9) rfl dX4_stands_39 ?_
        refine lv_iload hx hb dX4_stands_42 (lv_at hl 1 rfl) ?_
        obtain ⟨v_44, hv_44, hs⟩ := op_bd hs
        refine gx_lald hx hb hK hP 3 1 rfl rfl hv_44 dX4_stands_44 ?_
        refine lv_aload_n hx hb dX4_stands_45 rfl (lv_at hl 2 rfl) ?_
        refine va_get (D := D) (ci := 4) (v := .ref my) (C := RX4) (T := TX4) (N := 15) hx hb hts in_X4 hown hK hP 0 rfl rfl 3 (by decide) lk_24 (fun _ h9 => h9) rfl dX4_stands_46 ?_
        refine lv_iload hx hb dX4_stands_49 (lv_at hl 1 rfl) ?_
        obtain ⟨v_51, hv_51, hs⟩ := op_bd hs
        refine gx_lald hx hb hK hP 4 1 rfl rfl hv_51 dX4_stands_51 ?_
        refine lv_aload_n hx hb dX4_stands_52 rfl (lv_at hl 2 rfl) ?_
        refine va_get (D := D) (ci := 4) (v := .ref mx) (C := RX4) (T := TX4) (N := 15) hx hb hts in_X4 hown hK hP 0 rfl rfl 2 (by decide) lk_20 (fun _ h9 => h9) rfl dX4_stands_53 ?_
        refine lv_iload hx hb dX4_stands_56 (lv_at hl 0 rfl) ?_
        obtain ⟨v_58, hv_58, hs⟩ := op_bd hs
        refine gx_lald hx hb hK hP 3 1 rfl rfl hv_58 dX4_stands_58 ?_
        refine lv_aload_n hx hb dX4_stands_59 rfl (lv_at hl 2 rfl) ?_
        refine va_get (D := D) (ci := 4) (v := .ref my) (C := RX4) (T := TX4) (N := 15) hx hb hts in_X4 hown hK hP 0 rfl rfl 3 (by decide) lk_24 (fun _ h9 => h9) rfl dX4_stands_60 ?_
        refine lv_iload hx hb dX4_stands_63 (lv_at hl 0 rfl) ?_
        obtain ⟨v_65, hv_65, hs⟩ := op_bd hs
        refine gx_lald hx hb hK hP 4 1 rfl rfl hv_65 dX4_stands_65 ?_
        refine lv_lload_n hx hb dX4_stands_66 rfl (lv_at hl 3 rfl) ?_
        refine lv_lload_n hx hb dX4_stands_67 rfl (lv_at hl 4 rfl) ?_
        obtain ⟨v_68, hc_68, hs⟩ := op_bd hs
        refine gx_cSi (va_Run.run (va_runS (As := [.long v_44, .long v_51, .long v_58, .long v_65, .long p1, .long p2]) (rest := []) ⟨hx, hb, hml, hown, hts⟩ (c_X4_isOn l D cI cJ cZ cS ad v_44 v_51 v_58 v_65 p1 p2 F  v_68 hc_68) (va_cwS 6 hts gX4_stands_X4_isOn rfl rfl rfl (by decide +kernel) ⟨Nat.le_of_ble_eq_true rfl, Nat.le_of_ble_eq_true rfl⟩) ⟨gl_blind, gl_ok hK hE trivial⟩ rfl rfl hl.1 rfl (lv_room (Nat.le_of_ble_eq_true rfl)) dX4_stands_68 ⟨Nat.le_of_ble_eq_true rfl, Nat.le_of_ble_eq_true rfl⟩)) ?_
        refine lv_if_eq (tgt := 76) hx hb dX4_stands_71 (by decide) (fun c_71 => ?_) (fun c_71 => ?_)
        · replace hs := it_t c_71 hs
          refine lv_aload_n hx hb dX4_stands_76 rfl (lv_at hl 2 rfl) ?_
          refine va_get (D := D) (ci := 4) (v := .ref my) (C := RX4) (T := TX4) (N := 15) hx hb hts in_X4 hown hK hP 0 rfl rfl 3 (by decide) lk_24 (fun _ h9 => h9) rfl dX4_stands_77 ?_
          refine lv_iload hx hb dX4_stands_80 (lv_at hl 1 rfl) ?_
          obtain ⟨v_82, hv_82, hs⟩ := op_bd hs
          refine gx_lald hx hb hK hP 4 1 rfl rfl hv_82 dX4_stands_82 ?_
          refine lv_lload_n hx hb dX4_stands_83 rfl (lv_at hl 4 rfl) ?_
          refine W.lcmp hx hb dX4_stands_84 ?_
          refine lv_if_le (tgt := 92) hx hb dX4_stands_85 (by decide) (fun c_85 => ?_) (fun c_85 => ?_)
          · replace hs := it_t c_85 hs
            refine lv_iconst (v := 0) hx hb dX4_stands_92 (by decide) ?_
            exact J_93 x6 x7 v_23 v_33 0 hs _ (lv_sub hl [2, 3, 4, 5, 6, 7, 1, 0] rfl)
          · replace hs := it_f c_85 hs
            refine lv_iconst (v := 1) hx hb dX4_stands_88 (by decide) ?_
            refine lv_goto (tgt := 93) hx hb dX4_stands_89 (by decide) ?_
            exact J_93 x6 x7 v_23 v_33 1 hs _ (lv_sub hl [2, 3, 4, 5, 6, 7, 1, 0] rfl)
        · replace hs := it_f c_71 hs
          refine lv_iconst (v := 2) hx hb dX4_stands_74 (by decide) ?_
          obtain rfl := Option.some.inj hs
          exact W.iret hx hb hr (fun t ht hW => ⟨_, rfl, rfl, ht⟩) (fun _ h => by cases h) dX4_stands_75
  have hl := lv_entry ([.ref m0, .long p1, .long p2, .int p3]) (n := 12) (Nat.le_of_ble_eq_true rfl)
  rw [lg_entry_eq]
  generalize (lg_sl ([.ref m0, .long p1, .long p2, .int p3]) ++ List.replicate (12 - (lg_sl ([.ref m0, .long p1, .long p2, .int p3])).length) Slot.unset).toArray = ls at hl ⊢
  have hl : lv_has ls 12 [(0, .ref m0), (1, .long p1), (3, .long p2), (5, .int p3)] := hl
  rw [s_X4_stands] at hs
  refine lv_iconst (v := 0) hx hb dX4_stands_0 (by decide) ?_
  refine lv_istore (lv' := [(6, .int 0), (0, .ref m0), (1, .long p1), (3, .long p2), (5, .int p3)]) hx hb dX4_stands_1 hl (by decide) rfl (fun ls hl => ?_)
  refine lv_iconst (v := 0) hx hb dX4_stands_3 (by decide) ?_
  refine lv_istore (lv' := [(7, .int 0), (6, .int 0), (0, .ref m0), (1, .long p1), (3, .long p2), (5, .int p3)]) hx hb dX4_stands_4 hl (by decide) rfl (fun ls hl => ?_)
  exact J_6 F 0 0 hs _ (lv_sub hl [2, 3, 4, 5, 1, 0] rfl)
def s_X4_have_14 (F : Nat) (M : mo_T) (p1 : Int32) (p2 : Int32) (kc_2 : Int32 → Option Int32) : Nat → Int32 → Int32 → Option Int32
  | 0, _, _ => none
  | n + 1, x3, x4 =>
    (s_X4_sides F M p2).bind fun v_18 =>
    if v_18 ≤ x4 then
      (some (x3 + 1)).bind fun e_65 =>
      kc_2 e_65
    else
      (s_X4_from F M p1 x3).bind fun v_28 =>
      (s_X4_to F M p1 x3).bind fun v_34 =>
      (s_X4_from F M p2 x4).bind fun v_41 =>
      (s_X4_to F M p2 x4).bind fun v_48 =>
      (s_X4_cut F M v_28 v_34 v_41 v_48).bind fun v_51 =>
      if v_51 = 0 then
        (some (x4 + 1)).bind fun e_59 =>
        s_X4_have_14 F M p1 p2 kc_2 n x3 e_59
      else
        some 1
def s_X4_have_111 (F : Nat) (M : mo_T) (p1 : Int32) (p2 : Int32) : Option Int32 :=
  (rd_i 60 (mo_k M) p2).bind fun v_116 =>
  if v_116 = 3 then
    (s_X4_from F M p1 0).bind fun v_129 =>
    (rd_l 1500 (mo_x M) v_129).bind fun v_132 =>
    (s_X4_from F M p1 0).bind fun v_140 =>
    (rd_l 1500 (mo_y M) v_140).bind fun v_143 =>
    (s_X4_stands F M v_132 v_143 p2).bind fun v_145 =>
    if v_145 ≤ 0 then
      some 0
    else
      some 1
  else
    some 0
def s_X4_have_2 (F : Nat) (M : mo_T) (p1 : Int32) (p2 : Int32) : Nat → Int32 → Option Int32
  | 0, _ => none
  | n + 1, x3 =>
    (s_X4_sides F M p1).bind fun v_5 =>
    if v_5 ≤ x3 then
      (rd_i 60 (mo_k M) p1).bind fun v_76 =>
      if v_76 = 3 then
        (s_X4_from F M p2 0).bind fun v_89 =>
        (rd_l 1500 (mo_x M) v_89).bind fun v_92 =>
        (s_X4_from F M p2 0).bind fun v_100 =>
        (rd_l 1500 (mo_y M) v_100).bind fun v_103 =>
        (s_X4_stands F M v_92 v_103 p1).bind fun v_105 =>
        if 0 < v_105 then
          some 1
        else
          s_X4_have_111 F M p1 p2 
      else
        s_X4_have_111 F M p1 p2 
    else
      s_X4_have_14 F M p1 p2 (fun y0 => s_X4_have_2 F M p1 p2 n y0) F x3 0
def s_X4_have (F : Nat) (M : mo_T) (p1 : Int32) (p2 : Int32) : Option Int32 :=
  s_X4_have_2 F M p1 p2 F 0
abbrev rm_X4_have : Room := { frames := 4, cells := 0, slots := 0, locals := 122 }
theorem in_X4_have_X4 : ∀ w ∈ wsX40, w ∈ wsX4_have := by decide +kernel
set_option maxHeartbeats 4000000 in
set_option maxRecDepth 100000 in
theorem c_X4_have (l : Launch) (D : va_G) (cI cJ cZ cS : ClassId) (ad : Nat → Nat) (m0 mk mc mx my mf mp mq mb : Nat) (M : mo_T) (p1 : Int32) (p2 : Int32) (F : Nat)  (r : Int32) (hs : s_X4_have F M p1 p2 = some r) : Met l yX4_have wsX4_have rm_X4_have (gl_P D cI cJ cZ cS ad [.ref m0, .int p1, .int p2] (fun H => va_P D vwCl (mo_w cI cJ cZ m0 mk mc mx my mf mp mq mb M) H)) (vp_Si (fun v => v = r)) 0 0 (fun _ => False) := by
  refine Met.ofW (cc := cX4_have) (maxL := 5) (ret := (some .boolean)) (by decide) rfl ?_
  intro p e s m args below meth c s₁ B hml hv
  obtain ⟨rfl, hK, hE, hP⟩ := hv
  have hx := B.exec
  have hb := B.bytes
  have hr := B.returns
  have hts := atoms_spec (ws := wsX4_have) B.pre
  have hown : s.vm.findClass RX4 = some m.cls := findClass_of_methodNamed B.named
  have hlocks := B.notSynchronized
  have lk_13 := hts (.fieldLink RX4 13 "PlacePointsModel" "kinds" "[I") (by decide +kernel)
  have lk_20 := hts (.fieldLink RX4 20 "PlacePointsModel" "xs" "[J") (by decide +kernel)
  have lk_24 := hts (.fieldLink RX4 24 "PlacePointsModel" "ys" "[J") (by decide +kernel)
  have in_X4 := in_X4_have_X4
  have J_111 : s_X4_have_111 F M p1 p2 = some r → ∀ ls : Array Slot, lv_has ls 5 [(0, .ref m0), (1, .int p1), (2, .int p2)] → W p l e (headSpec wsX4_have rm_X4_have).room s m ([.ref m0, .int p1, .int p2] : List Value).toArray below meth c s.heap [] 0 0 (MQ below (vp_Si (fun v => v = r)) ([.ref m0, .int p1, .int p2] : List Value).toArray s 0 0 (fun _ => False)) (F0 m 111 ls []) := by
    intro  hs ls hl
    rw [s_X4_have_111] at hs
    refine lv_aload_n hx hb dX4_have_111 rfl (lv_at hl 0 rfl) ?_
    refine va_get (D := D) (ci := 4) (v := .ref mk) (C := RX4) (T := TX4) (N := 15) hx hb hts in_X4 hown hK hP 0 rfl rfl 0 (by decide) lk_13 (fun _ h9 => h9) rfl dX4_have_112 ?_
    refine lv_iload_n hx hb dX4_have_115 rfl (lv_at hl 2 rfl) ?_
    obtain ⟨v_116, hv_116, hs⟩ := op_bd hs
    refine gx_iald hx hb hK hP 1 0 rfl rfl hv_116 dX4_have_116 ?_
    refine lv_iconst (v := 3) hx hb dX4_have_117 (by decide) ?_
    refine lv_icmp_ne (tgt := 155) hx hb dX4_have_118 (by decide) (fun c_118 => ?_) (fun c_118 => ?_)
    · replace hs := it_f c_118 hs
      refine lv_iconst (v := 0) hx hb dX4_have_155 (by decide) ?_
      obtain rfl := Option.some.inj hs
      exact W.zret hx hb hr rfl (fun t ht hW => ⟨_, rfl, rfl, ht⟩) (fun _ h => by cases h) dX4_have_156
    · replace hs := it_t c_118 hs
      refine lv_aload_n hx hb dX4_have_121 rfl (lv_at hl 0 rfl) ?_
      refine lv_aload_n hx hb dX4_have_122 rfl (lv_at hl 0 rfl) ?_
      refine va_get (D := D) (ci := 4) (v := .ref mx) (C := RX4) (T := TX4) (N := 15) hx hb hts in_X4 hown hK hP 0 rfl rfl 2 (by decide) lk_20 (fun _ h9 => h9) rfl dX4_have_123 ?_
      refine lv_aload_n hx hb dX4_have_126 rfl (lv_at hl 0 rfl) ?_
      refine lv_iload_n hx hb dX4_have_127 rfl (lv_at hl 1 rfl) ?_
      refine lv_iconst (v := 0) hx hb dX4_have_128 (by decide) ?_
      obtain ⟨v_129, hc_129, hs⟩ := op_bd hs
      refine gx_cSi (va_Run.run (va_runV (As := [.int p1, .int 0]) (rest := [.ref mx, .ref m0]) ⟨hx, hb, hml, hown, hts⟩ (c_X4_from l D cI cJ cZ cS ad m0 mk mc mx my mf mp mq mb M p1 0 F  v_129 hc_129) (cwV 2 hts gX4_have_X4_from rfl rfl rfl (by decide +kernel) ⟨Nat.le_of_ble_eq_true rfl, Nat.le_of_ble_eq_true rfl⟩) ⟨gl_blind, va_recv hK hP (ci := 4) (q0 := 0) rfl rfl, gl_ok hK hE hP⟩ rfl rfl hl.1 rfl (lv_room (Nat.le_of_ble_eq_true rfl)) dX4_have_129 ⟨Nat.le_of_ble_eq_true rfl, Nat.le_of_ble_eq_true rfl⟩)) ?_
      obtain ⟨v_132, hv_132, hs⟩ := op_bd hs
      refine gx_lald hx hb hK hP 3 1 rfl rfl hv_132 dX4_have_132 ?_
      refine lv_aload_n hx hb dX4_have_133 rfl (lv_at hl 0 rfl) ?_
      refine va_get (D := D) (ci := 4) (v := .ref my) (C := RX4) (T := TX4) (N := 15) hx hb hts in_X4 hown hK hP 0 rfl rfl 3 (by decide) lk_24 (fun _ h9 => h9) rfl dX4_have_134 ?_
      refine lv_aload_n hx hb dX4_have_137 rfl (lv_at hl 0 rfl) ?_
      refine lv_iload_n hx hb dX4_have_138 rfl (lv_at hl 1 rfl) ?_
      refine lv_iconst (v := 0) hx hb dX4_have_139 (by decide) ?_
      obtain ⟨v_140, hc_140, hs⟩ := op_bd hs
      refine gx_cSi (va_Run.run (va_runV (As := [.int p1, .int 0]) (rest := [.ref my, .long v_132, .ref m0]) ⟨hx, hb, hml, hown, hts⟩ (c_X4_from l D cI cJ cZ cS ad m0 mk mc mx my mf mp mq mb M p1 0 F  v_140 hc_140) (cwV 2 hts gX4_have_X4_from rfl rfl rfl (by decide +kernel) ⟨Nat.le_of_ble_eq_true rfl, Nat.le_of_ble_eq_true rfl⟩) ⟨gl_blind, va_recv hK hP (ci := 4) (q0 := 0) rfl rfl, gl_ok hK hE hP⟩ rfl rfl hl.1 rfl (lv_room (Nat.le_of_ble_eq_true rfl)) dX4_have_140 ⟨Nat.le_of_ble_eq_true rfl, Nat.le_of_ble_eq_true rfl⟩)) ?_
      obtain ⟨v_143, hv_143, hs⟩ := op_bd hs
      refine gx_lald hx hb hK hP 4 1 rfl rfl hv_143 dX4_have_143 ?_
      refine lv_iload_n hx hb dX4_have_144 rfl (lv_at hl 2 rfl) ?_
      obtain ⟨v_145, hc_145, hs⟩ := op_bd hs
      refine gx_cSi (va_Run.run (va_runV (As := [.long v_132, .long v_143, .int p2]) (rest := []) ⟨hx, hb, hml, hown, hts⟩ (c_X4_stands l D cI cJ cZ cS ad m0 mk mc mx my mf mp mq mb M v_132 v_143 p2 F  v_145 hc_145) (cwV 3 hts gX4_have_X4_stands rfl rfl rfl (by decide +kernel) ⟨Nat.le_of_ble_eq_true rfl, Nat.le_of_ble_eq_true rfl⟩) ⟨gl_blind, va_recv hK hP (ci := 4) (q0 := 0) rfl rfl, gl_ok hK hE hP⟩ rfl rfl hl.1 rfl (lv_room (Nat.le_of_ble_eq_true rfl)) dX4_have_145 ⟨Nat.le_of_ble_eq_true rfl, Nat.le_of_ble_eq_true rfl⟩)) ?_
      refine lv_if_le (tgt := 155) hx hb dX4_have_148 (by decide) (fun c_148 => ?_) (fun c_148 => ?_)
      · replace hs := it_t c_148 hs
        refine lv_iconst (v := 0) hx hb dX4_have_155 (by decide) ?_
        obtain rfl := Option.some.inj hs
        exact W.zret hx hb hr rfl (fun t ht hW => ⟨_, rfl, rfl, ht⟩) (fun _ h => by cases h) dX4_have_156
      · replace hs := it_f c_148 hs
        refine lv_iconst (v := 1) hx hb dX4_have_151 (by decide) ?_
        refine lv_goto (tgt := 156) hx hb dX4_have_152 (by decide) ?_
        obtain rfl := Option.some.inj hs
        exact W.zret hx hb hr rfl (fun t ht hW => ⟨_, rfl, rfl, ht⟩) (fun _ h => by cases h) dX4_have_156
  have J_2 : ∀ (n_2 : Nat) (x3 : Int32), s_X4_have_2 F M p1 p2 n_2 x3 = some r → ∀ ls : Array Slot, lv_has ls 5 [(0, .ref m0), (1, .int p1), (2, .int p2), (3, .int x3)] → W p l e (headSpec wsX4_have rm_X4_have).room s m ([.ref m0, .int p1, .int p2] : List Value).toArray below meth c s.heap [] 0 0 (MQ below (vp_Si (fun v => v = r)) ([.ref m0, .int p1, .int p2] : List Value).toArray s 0 0 (fun _ => False)) (F0 m 2 ls []) := by
    intro n_2
    induction n_2 with
    | zero =>
      intro x3 hs
      cases hs
    | succ n_2 ih_2 =>
      have J_14 : ∀ (n_14 : Nat) (x3 : Int32) (x4 : Int32), s_X4_have_14 F M p1 p2 (fun y0 => s_X4_have_2 F M p1 p2 n_2 y0) n_14 x3 x4 = some r → ∀ ls : Array Slot, lv_has ls 5 [(0, .ref m0), (1, .int p1), (2, .int p2), (3, .int x3), (4, .int x4)] → W p l e (headSpec wsX4_have rm_X4_have).room s m ([.ref m0, .int p1, .int p2] : List Value).toArray below meth c s.heap [] 0 0 (MQ below (vp_Si (fun v => v = r)) ([.ref m0, .int p1, .int p2] : List Value).toArray s 0 0 (fun _ => False)) (F0 m 14 ls []) := by
        intro n_14
        induction n_14 with
        | zero =>
          intro x3 x4 hs
          cases hs
        | succ n_14 ih_14 =>
          intro x3 x4 hs ls hl
          rw [s_X4_have_14] at hs
          refine lv_iload hx hb dX4_have_14 (lv_at hl 4 rfl) ?_
          refine lv_aload_n hx hb dX4_have_16 rfl (lv_at hl 0 rfl) ?_
          refine lv_iload_n hx hb dX4_have_17 rfl (lv_at hl 2 rfl) ?_
          obtain ⟨v_18, hc_18, hs⟩ := op_bd hs
          refine gx_cSi (va_Run.run (va_runV (As := [.int p2]) (rest := [.int x4]) ⟨hx, hb, hml, hown, hts⟩ (c_X4_sides l D cI cJ cZ cS ad m0 mk mc mx my mf mp mq mb M p2 F  v_18 hc_18) (cwV 1 hts gX4_have_X4_sides rfl rfl rfl (by decide +kernel) ⟨Nat.le_of_ble_eq_true rfl, Nat.le_of_ble_eq_true rfl⟩) ⟨gl_blind, va_recv hK hP (ci := 4) (q0 := 0) rfl rfl, gl_ok hK hE hP⟩ rfl rfl hl.1 rfl (lv_room (Nat.le_of_ble_eq_true rfl)) dX4_have_18 ⟨Nat.le_of_ble_eq_true rfl, Nat.le_of_ble_eq_true rfl⟩)) ?_
          refine lv_icmp_ge (tgt := 65) hx hb dX4_have_21 (by decide) (fun c_21 => ?_) (fun c_21 => ?_)
          · replace hs := it_t c_21 hs
            obtain ⟨e_65, hv_65, hs⟩ := op_bd hs
            refine lv_iinc (v := e_65) (lv' := [(3, .int e_65), (0, .ref m0), (1, .int p1), (2, .int p2), (4, .int x4)]) hx hb dX4_have_65 hl (k := 3) rfl (Option.some.inj hv_65) (by decide) rfl (fun ls hl => ?_)
            refine lv_goto (tgt := 2) hx hb dX4_have_68 (by decide) ?_
            exact ih_2 e_65 hs _ (lv_sub hl [1, 2, 3, 0] rfl)
          · replace hs := it_f c_21 hs
            refine lv_aload_n hx hb dX4_have_24 rfl (lv_at hl 0 rfl) ?_
            refine lv_aload_n hx hb dX4_have_25 rfl (lv_at hl 0 rfl) ?_
            refine lv_iload_n hx hb dX4_have_26 rfl (lv_at hl 1 rfl) ?_
            refine lv_iload_n hx hb dX4_have_27 rfl (lv_at hl 3 rfl) ?_
            obtain ⟨v_28, hc_28, hs⟩ := op_bd hs
            refine gx_cSi (va_Run.run (va_runV (As := [.int p1, .int x3]) (rest := [.ref m0]) ⟨hx, hb, hml, hown, hts⟩ (c_X4_from l D cI cJ cZ cS ad m0 mk mc mx my mf mp mq mb M p1 x3 F  v_28 hc_28) (cwV 2 hts gX4_have_X4_from rfl rfl rfl (by decide +kernel) ⟨Nat.le_of_ble_eq_true rfl, Nat.le_of_ble_eq_true rfl⟩) ⟨gl_blind, va_recv hK hP (ci := 4) (q0 := 0) rfl rfl, gl_ok hK hE hP⟩ rfl rfl hl.1 rfl (lv_room (Nat.le_of_ble_eq_true rfl)) dX4_have_28 ⟨Nat.le_of_ble_eq_true rfl, Nat.le_of_ble_eq_true rfl⟩)) ?_
            refine lv_aload_n hx hb dX4_have_31 rfl (lv_at hl 0 rfl) ?_
            refine lv_iload_n hx hb dX4_have_32 rfl (lv_at hl 1 rfl) ?_
            refine lv_iload_n hx hb dX4_have_33 rfl (lv_at hl 3 rfl) ?_
            obtain ⟨v_34, hc_34, hs⟩ := op_bd hs
            refine gx_cSi (va_Run.run (va_runV (As := [.int p1, .int x3]) (rest := [.int v_28, .ref m0]) ⟨hx, hb, hml, hown, hts⟩ (c_X4_to l D cI cJ cZ cS ad m0 mk mc mx my mf mp mq mb M p1 x3 F  v_34 hc_34) (cwV 2 hts gX4_have_X4_to rfl rfl rfl (by decide +kernel) ⟨Nat.le_of_ble_eq_true rfl, Nat.le_of_ble_eq_true rfl⟩) ⟨gl_blind, va_recv hK hP (ci := 4) (q0 := 0) rfl rfl, gl_ok hK hE hP⟩ rfl rfl hl.1 rfl (lv_room (Nat.le_of_ble_eq_true rfl)) dX4_have_34 ⟨Nat.le_of_ble_eq_true rfl, Nat.le_of_ble_eq_true rfl⟩)) ?_
            refine lv_aload_n hx hb dX4_have_37 rfl (lv_at hl 0 rfl) ?_
            refine lv_iload_n hx hb dX4_have_38 rfl (lv_at hl 2 rfl) ?_
            refine lv_iload hx hb dX4_have_39 (lv_at hl 4 rfl) ?_
            obtain ⟨v_41, hc_41, hs⟩ := op_bd hs
            refine gx_cSi (va_Run.run (va_runV (As := [.int p2, .int x4]) (rest := [.int v_34, .int v_28, .ref m0]) ⟨hx, hb, hml, hown, hts⟩ (c_X4_from l D cI cJ cZ cS ad m0 mk mc mx my mf mp mq mb M p2 x4 F  v_41 hc_41) (cwV 2 hts gX4_have_X4_from rfl rfl rfl (by decide +kernel) ⟨Nat.le_of_ble_eq_true rfl, Nat.le_of_ble_eq_true rfl⟩) ⟨gl_blind, va_recv hK hP (ci := 4) (q0 := 0) rfl rfl, gl_ok hK hE hP⟩ rfl rfl hl.1 rfl (lv_room (Nat.le_of_ble_eq_true rfl)) dX4_have_41 ⟨Nat.le_of_ble_eq_true rfl, Nat.le_of_ble_eq_true rfl⟩)) ?_
            refine lv_aload_n hx hb dX4_have_44 rfl (lv_at hl 0 rfl) ?_
            refine lv_iload_n hx hb dX4_have_45 rfl (lv_at hl 2 rfl) ?_
            refine lv_iload hx hb dX4_have_46 (lv_at hl 4 rfl) ?_
            obtain ⟨v_48, hc_48, hs⟩ := op_bd hs
            refine gx_cSi (va_Run.run (va_runV (As := [.int p2, .int x4]) (rest := [.int v_41, .int v_34, .int v_28, .ref m0]) ⟨hx, hb, hml, hown, hts⟩ (c_X4_to l D cI cJ cZ cS ad m0 mk mc mx my mf mp mq mb M p2 x4 F  v_48 hc_48) (cwV 2 hts gX4_have_X4_to rfl rfl rfl (by decide +kernel) ⟨Nat.le_of_ble_eq_true rfl, Nat.le_of_ble_eq_true rfl⟩) ⟨gl_blind, va_recv hK hP (ci := 4) (q0 := 0) rfl rfl, gl_ok hK hE hP⟩ rfl rfl hl.1 rfl (lv_room (Nat.le_of_ble_eq_true rfl)) dX4_have_48 ⟨Nat.le_of_ble_eq_true rfl, Nat.le_of_ble_eq_true rfl⟩)) ?_
            obtain ⟨v_51, hc_51, hs⟩ := op_bd hs
            refine gx_cSi (va_Run.run (va_runV (As := [.int v_28, .int v_34, .int v_41, .int v_48]) (rest := []) ⟨hx, hb, hml, hown, hts⟩ (c_X4_cut l D cI cJ cZ cS ad m0 mk mc mx my mf mp mq mb M v_28 v_34 v_41 v_48 F  v_51 hc_51) (cwV 4 hts gX4_have_X4_cut rfl rfl rfl (by decide +kernel) ⟨Nat.le_of_ble_eq_true rfl, Nat.le_of_ble_eq_true rfl⟩) ⟨gl_blind, va_recv hK hP (ci := 4) (q0 := 0) rfl rfl, gl_ok hK hE hP⟩ rfl rfl hl.1 rfl (lv_room (Nat.le_of_ble_eq_true rfl)) dX4_have_51 ⟨Nat.le_of_ble_eq_true rfl, Nat.le_of_ble_eq_true rfl⟩)) ?_
            refine lv_if_eq (tgt := 59) hx hb dX4_have_54 (by decide) (fun c_54 => ?_) (fun c_54 => ?_)
            · replace hs := it_t c_54 hs
              obtain ⟨e_59, hv_59, hs⟩ := op_bd hs
              refine lv_iinc (v := e_59) (lv' := [(4, .int e_59), (0, .ref m0), (1, .int p1), (2, .int p2), (3, .int x3)]) hx hb dX4_have_59 hl (k := 4) rfl (Option.some.inj hv_59) (by decide) rfl (fun ls hl => ?_)
              refine lv_goto (tgt := 14) hx hb dX4_have_62 (by decide) ?_
              exact ih_14 x3 e_59 hs _ (lv_sub hl [1, 2, 3, 4, 0] rfl)
            · replace hs := it_f c_54 hs
              refine lv_iconst (v := 1) hx hb dX4_have_57 (by decide) ?_
              obtain rfl := Option.some.inj hs
              exact W.zret hx hb hr rfl (fun t ht hW => ⟨_, rfl, rfl, ht⟩) (fun _ h => by cases h) dX4_have_58
      intro x3 hs ls hl
      rw [s_X4_have_2] at hs
      refine lv_iload_n hx hb dX4_have_2 rfl (lv_at hl 3 rfl) ?_
      refine lv_aload_n hx hb dX4_have_3 rfl (lv_at hl 0 rfl) ?_
      refine lv_iload_n hx hb dX4_have_4 rfl (lv_at hl 1 rfl) ?_
      obtain ⟨v_5, hc_5, hs⟩ := op_bd hs
      refine gx_cSi (va_Run.run (va_runV (As := [.int p1]) (rest := [.int x3]) ⟨hx, hb, hml, hown, hts⟩ (c_X4_sides l D cI cJ cZ cS ad m0 mk mc mx my mf mp mq mb M p1 F  v_5 hc_5) (cwV 1 hts gX4_have_X4_sides rfl rfl rfl (by decide +kernel) ⟨Nat.le_of_ble_eq_true rfl, Nat.le_of_ble_eq_true rfl⟩) ⟨gl_blind, va_recv hK hP (ci := 4) (q0 := 0) rfl rfl, gl_ok hK hE hP⟩ rfl rfl hl.1 rfl (lv_room (Nat.le_of_ble_eq_true rfl)) dX4_have_5 ⟨Nat.le_of_ble_eq_true rfl, Nat.le_of_ble_eq_true rfl⟩)) ?_
      refine lv_icmp_ge (tgt := 71) hx hb dX4_have_8 (by decide) (fun c_8 => ?_) (fun c_8 => ?_)
      · replace hs := it_t c_8 hs
        refine lv_aload_n hx hb dX4_have_71 rfl (lv_at hl 0 rfl) ?_
        refine va_get (D := D) (ci := 4) (v := .ref mk) (C := RX4) (T := TX4) (N := 15) hx hb hts in_X4 hown hK hP 0 rfl rfl 0 (by decide) lk_13 (fun _ h9 => h9) rfl dX4_have_72 ?_
        refine lv_iload_n hx hb dX4_have_75 rfl (lv_at hl 1 rfl) ?_
        obtain ⟨v_76, hv_76, hs⟩ := op_bd hs
        refine gx_iald hx hb hK hP 1 0 rfl rfl hv_76 dX4_have_76 ?_
        refine lv_iconst (v := 3) hx hb dX4_have_77 (by decide) ?_
        refine lv_icmp_ne (tgt := 111) hx hb dX4_have_78 (by decide) (fun c_78 => ?_) (fun c_78 => ?_)
        · replace hs := it_f c_78 hs
          exact J_111  hs _ (lv_sub hl [0, 1, 2] rfl)
        · replace hs := it_t c_78 hs
          refine lv_aload_n hx hb dX4_have_81 rfl (lv_at hl 0 rfl) ?_
          refine lv_aload_n hx hb dX4_have_82 rfl (lv_at hl 0 rfl) ?_
          refine va_get (D := D) (ci := 4) (v := .ref mx) (C := RX4) (T := TX4) (N := 15) hx hb hts in_X4 hown hK hP 0 rfl rfl 2 (by decide) lk_20 (fun _ h9 => h9) rfl dX4_have_83 ?_
          refine lv_aload_n hx hb dX4_have_86 rfl (lv_at hl 0 rfl) ?_
          refine lv_iload_n hx hb dX4_have_87 rfl (lv_at hl 2 rfl) ?_
          refine lv_iconst (v := 0) hx hb dX4_have_88 (by decide) ?_
          obtain ⟨v_89, hc_89, hs⟩ := op_bd hs
          refine gx_cSi (va_Run.run (va_runV (As := [.int p2, .int 0]) (rest := [.ref mx, .ref m0]) ⟨hx, hb, hml, hown, hts⟩ (c_X4_from l D cI cJ cZ cS ad m0 mk mc mx my mf mp mq mb M p2 0 F  v_89 hc_89) (cwV 2 hts gX4_have_X4_from rfl rfl rfl (by decide +kernel) ⟨Nat.le_of_ble_eq_true rfl, Nat.le_of_ble_eq_true rfl⟩) ⟨gl_blind, va_recv hK hP (ci := 4) (q0 := 0) rfl rfl, gl_ok hK hE hP⟩ rfl rfl hl.1 rfl (lv_room (Nat.le_of_ble_eq_true rfl)) dX4_have_89 ⟨Nat.le_of_ble_eq_true rfl, Nat.le_of_ble_eq_true rfl⟩)) ?_
          obtain ⟨v_92, hv_92, hs⟩ := op_bd hs
          refine gx_lald hx hb hK hP 3 1 rfl rfl hv_92 dX4_have_92 ?_
          refine lv_aload_n hx hb dX4_have_93 rfl (lv_at hl 0 rfl) ?_
          refine va_get (D := D) (ci := 4) (v := .ref my) (C := RX4) (T := TX4) (N := 15) hx hb hts in_X4 hown hK hP 0 rfl rfl 3 (by decide) lk_24 (fun _ h9 => h9) rfl dX4_have_94 ?_
          refine lv_aload_n hx hb dX4_have_97 rfl (lv_at hl 0 rfl) ?_
          refine lv_iload_n hx hb dX4_have_98 rfl (lv_at hl 2 rfl) ?_
          refine lv_iconst (v := 0) hx hb dX4_have_99 (by decide) ?_
          obtain ⟨v_100, hc_100, hs⟩ := op_bd hs
          refine gx_cSi (va_Run.run (va_runV (As := [.int p2, .int 0]) (rest := [.ref my, .long v_92, .ref m0]) ⟨hx, hb, hml, hown, hts⟩ (c_X4_from l D cI cJ cZ cS ad m0 mk mc mx my mf mp mq mb M p2 0 F  v_100 hc_100) (cwV 2 hts gX4_have_X4_from rfl rfl rfl (by decide +kernel) ⟨Nat.le_of_ble_eq_true rfl, Nat.le_of_ble_eq_true rfl⟩) ⟨gl_blind, va_recv hK hP (ci := 4) (q0 := 0) rfl rfl, gl_ok hK hE hP⟩ rfl rfl hl.1 rfl (lv_room (Nat.le_of_ble_eq_true rfl)) dX4_have_100 ⟨Nat.le_of_ble_eq_true rfl, Nat.le_of_ble_eq_true rfl⟩)) ?_
          obtain ⟨v_103, hv_103, hs⟩ := op_bd hs
          refine gx_lald hx hb hK hP 4 1 rfl rfl hv_103 dX4_have_103 ?_
          refine lv_iload_n hx hb dX4_have_104 rfl (lv_at hl 1 rfl) ?_
          obtain ⟨v_105, hc_105, hs⟩ := op_bd hs
          refine gx_cSi (va_Run.run (va_runV (As := [.long v_92, .long v_103, .int p1]) (rest := []) ⟨hx, hb, hml, hown, hts⟩ (c_X4_stands l D cI cJ cZ cS ad m0 mk mc mx my mf mp mq mb M v_92 v_103 p1 F  v_105 hc_105) (cwV 3 hts gX4_have_X4_stands rfl rfl rfl (by decide +kernel) ⟨Nat.le_of_ble_eq_true rfl, Nat.le_of_ble_eq_true rfl⟩) ⟨gl_blind, va_recv hK hP (ci := 4) (q0 := 0) rfl rfl, gl_ok hK hE hP⟩ rfl rfl hl.1 rfl (lv_room (Nat.le_of_ble_eq_true rfl)) dX4_have_105 ⟨Nat.le_of_ble_eq_true rfl, Nat.le_of_ble_eq_true rfl⟩)) ?_
          refine lv_if_gt (tgt := 151) hx hb dX4_have_108 (by decide) (fun c_108 => ?_) (fun c_108 => ?_)
          · replace hs := it_t c_108 hs
            refine lv_iconst (v := 1) hx hb dX4_have_151 (by decide) ?_
            refine lv_goto (tgt := 156) hx hb dX4_have_152 (by decide) ?_
            obtain rfl := Option.some.inj hs
            exact W.zret hx hb hr rfl (fun t ht hW => ⟨_, rfl, rfl, ht⟩) (fun _ h => by cases h) dX4_have_156
          · replace hs := it_f c_108 hs
            exact J_111  hs _ (lv_sub hl [0, 1, 2] rfl)
      · replace hs := it_f c_8 hs
        refine lv_iconst (v := 0) hx hb dX4_have_11 (by decide) ?_
        refine lv_istore (lv' := [(4, .int 0), (0, .ref m0), (1, .int p1), (2, .int p2), (3, .int x3)]) hx hb dX4_have_12 hl (by decide) rfl (fun ls hl => ?_)
        exact J_14 F x3 0 hs _ (lv_sub hl [1, 2, 3, 4, 0] rfl)
  have hl := lv_entry ([.ref m0, .int p1, .int p2]) (n := 5) (Nat.le_of_ble_eq_true rfl)
  rw [lg_entry_eq]
  generalize (lg_sl ([.ref m0, .int p1, .int p2]) ++ List.replicate (5 - (lg_sl ([.ref m0, .int p1, .int p2])).length) Slot.unset).toArray = ls at hl ⊢
  have hl : lv_has ls 5 [(0, .ref m0), (1, .int p1), (2, .int p2)] := hl
  rw [s_X4_have] at hs
  refine lv_iconst (v := 0) hx hb dX4_have_0 (by decide) ?_
  refine lv_istore_n (lv' := [(3, .int 0), (0, .ref m0), (1, .int p1), (2, .int p2)]) hx hb dX4_have_1 rfl hl (by decide) rfl (fun ls hl => ?_)
  exact J_2 F 0 hs _ (lv_sub hl [1, 2, 3, 0] rfl)
end
