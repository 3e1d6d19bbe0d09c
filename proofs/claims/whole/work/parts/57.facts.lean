-- what holds at the law's start
theorem ow_in : ∀ w ∈ tho, w ∈ lw_tbl := by decide +kernel
theorem fl_t {w : Cond} {s : State} {b : Nat} (hgv : (Jvm.Cond.and given_1 narrow_1).before #[Value.ref b] s = true) (hw : w ∈ flatC (Jvm.Cond.and given_1 narrow_1)) : w.before #[Value.ref b] s = true := flat_of_before _ hgv w hw
theorem in3 {i : Nat} (h : i < ["POINT", "LINE", "POLYGON"].length) : i = 0 ∨ i = 1 ∨ i = 2 := by
  have : i < 3 := h
  omega
theorem st_E {s : State} {b : Nat} (hts : ∀ w ∈ lw_tbl, w.before #[Value.ref b] s = true) (hgv : (Jvm.Cond.and given_1 narrow_1).before #[Value.ref b] s = true) : ∃ ad : Nat → Nat, gl_E ad (lA s) s s.heap := by
  refine va_Enof (args := #[Value.ref b]) ?_ (hts (.initialized "PlacePoints$Kind") (by decide +kernel)) ?_ ?_ ?_ (fun a ha => Nat.not_le.mpr ha)
  · intro i hi
    rcases in3 hi with rfl | rfl | rfl
    · exact hts (.laysStatic "PlacePoints$Kind" "POINT" "LPlacePoints$Kind;") (by decide +kernel)
    · exact hts (.laysStatic "PlacePoints$Kind" "LINE" "LPlacePoints$Kind;") (by decide +kernel)
    · exact hts (.laysStatic "PlacePoints$Kind" "POLYGON" "LPlacePoints$Kind;") (by decide +kernel)
  · intro i hi
    rcases in3 hi with rfl | rfl | rfl
    · exact fl_t hgv (w := .exactly (.static "PlacePoints$Kind" "POINT" "LPlacePoints$Kind;") "PlacePoints$Kind") (by decide +kernel)
    · exact fl_t hgv (w := .exactly (.static "PlacePoints$Kind" "LINE" "LPlacePoints$Kind;") "PlacePoints$Kind") (by decide +kernel)
    · exact fl_t hgv (w := .exactly (.static "PlacePoints$Kind" "POLYGON" "LPlacePoints$Kind;") "PlacePoints$Kind") (by decide +kernel)
  · intro q hq i hi
    rcases List.mem_cons.mp hq with rfl | hq
    · rcases in3 hi with rfl | rfl | rfl
      · exact fl_t hgv (w := .eq (.field (.static "PlacePoints$Kind" "POINT" "LPlacePoints$Kind;") "PlacePoints$Kind" "least" "I") (.int 1)) (by decide +kernel)
      · exact fl_t hgv (w := .eq (.field (.static "PlacePoints$Kind" "LINE" "LPlacePoints$Kind;") "PlacePoints$Kind" "least" "I") (.int 2)) (by decide +kernel)
      · exact fl_t hgv (w := .eq (.field (.static "PlacePoints$Kind" "POLYGON" "LPlacePoints$Kind;") "PlacePoints$Kind" "least" "I") (.int 3)) (by decide +kernel)
    · rcases List.mem_cons.mp hq with rfl | hq
      · rcases in3 hi with rfl | rfl | rfl
        · exact fl_t hgv (w := .eq (.field (.static "PlacePoints$Kind" "POINT" "LPlacePoints$Kind;") "PlacePoints$Kind" "most" "I") (.int 1)) (by decide +kernel)
        · exact fl_t hgv (w := .eq (.field (.static "PlacePoints$Kind" "LINE" "LPlacePoints$Kind;") "PlacePoints$Kind" "most" "I") (.int 24)) (by decide +kernel)
        · exact fl_t hgv (w := .eq (.field (.static "PlacePoints$Kind" "POLYGON" "LPlacePoints$Kind;") "PlacePoints$Kind" "most" "I") (.int 24)) (by decide +kernel)
      · cases hq
  · intro i j hi hj hij
    have d1 := fl_t hgv (w := .not (.eq (.static "PlacePoints$Kind" "POINT" "LPlacePoints$Kind;") (.static "PlacePoints$Kind" "LINE" "LPlacePoints$Kind;"))) (by decide +kernel)
    have d2 := fl_t hgv (w := .not (.eq (.static "PlacePoints$Kind" "POINT" "LPlacePoints$Kind;") (.static "PlacePoints$Kind" "POLYGON" "LPlacePoints$Kind;"))) (by decide +kernel)
    have d3 := fl_t hgv (w := .not (.eq (.static "PlacePoints$Kind" "LINE" "LPlacePoints$Kind;") (.static "PlacePoints$Kind" "POLYGON" "LPlacePoints$Kind;"))) (by decide +kernel)
    rcases in3 hi with rfl | rfl | rfl <;> rcases in3 hj with rfl | rfl | rfl
    · exact absurd rfl hij
    · exact Or.inl d1
    · exact Or.inl d2
    · exact Or.inr d1
    · exact absurd rfl hij
    · exact Or.inl d3
    · exact Or.inr d2
    · exact Or.inr d3
    · exact absurd rfl hij
theorem st_A {s : State} {args : Array Value} {ty : FieldType} (h : (Cond.arrayClass ty).before args s = true) : ∃ cA : ClassId, ArrOfT s cA ty ∧ s.vm.findClass ("[" ++ ty.toString) = some cA := by
  obtain ⟨c, k, comp, h1, h2, h3⟩ := Cond.arrayClass_spec h
  exact ⟨c, fun n z => ⟨fun k h => (by cases h), k, h2, comp, h3⟩, h1⟩
theorem st_K {s : State} {b : Nat} (hts : ∀ w ∈ lw_tbl, w.before #[Value.ref b] s = true) : ∃ (D : va_G) (cI cJ cZ cS : ClassId), gl_K D cI cJ cZ cS s := by
  obtain ⟨c0, iS0, k0⟩ := u_known (C := RJx00060) (T := TJx00060) (N := 6) (n := 6) hts wl_J (hts (.instantiable RJx00060 6) (by decide +kernel))
  obtain ⟨c1, iS1, k1⟩ := u_known (C := RX0) (T := TX0) (N := 2) (n := 2) hts wl_X0 (hts (.instantiable RX0 2) (by decide +kernel))
  obtain ⟨c2, iS2, k2⟩ := u_known (C := RX2) (T := TX2) (N := 9) (n := 9) hts wl_X2 (hts (.instantiable RX2 9) (by decide +kernel))
  obtain ⟨c3, iS3, k3⟩ := u_known (C := RX3) (T := TX3) (N := 10) (n := 10) hts wl_X3 (hts (.instantiable RX3 10) (by decide +kernel))
  obtain ⟨c4, iS4, k4⟩ := u_known (C := RX4) (T := TX4) (N := 15) (n := 15) hts wl_X4 (hts (.instantiable RX4 15) (by decide +kernel))
  obtain ⟨cI, aI, nI9⟩ := st_A (hts (.arrayClass .int) (by decide +kernel))
  obtain ⟨cJ, aJ, nJ9⟩ := st_A (hts (.arrayClass .long) (by decide +kernel))
  obtain ⟨cZ, aZ, nZ9⟩ := st_A (hts (.arrayClass .boolean) (by decide +kernel))
  obtain ⟨comp, cS, kS, s1, -, s3, s4, s5⟩ := Cond.arrayOver_spec (hts (.arrayOver (.object "PlacePoints$Shape")) (by decide +kernel))
  refine ⟨(fun k => if k = 0 then c0 else if k = 1 then c1 else if k = 2 then c2 else if k = 3 then c3 else c4, fun k => if k = 0 then iS0 else if k = 1 then iS1 else if k = 2 then iS2 else if k = 3 then iS3 else iS4), cI, cJ, cZ, cS, ?_, ?_⟩
  · intro k q hq
    match k, hq with
    | 0, hq => cases hq; exact k0
    | 1, hq => cases hq; exact k1
    | 2, hq => cases hq; exact k2
    | 3, hq => cases hq; exact k3
    | 4, hq => cases hq; exact k4
    | k + 5, hq => simp [vwCl] at hq
  · intro k q hq
    match k, hq with
    | 0, hq => cases hq; exact ⟨aI, nI9⟩
    | 1, hq => cases hq; exact ⟨aJ, nJ9⟩
    | 2, hq => cases hq; exact ⟨aZ, nZ9⟩
    | 3, hq => cases hq; exact ⟨fun n z => ⟨fun k h => (by cases h), kS, s3, comp, s4⟩, kS, comp, s3, s4, s1, s5⟩
    | k + 4, hq => simp at hq
theorem st_Z {s : State} {b : Nat} (hts : ∀ w ∈ lw_tbl, w.before #[Value.ref b] s = true) (hgv : (Jvm.Cond.and given_1 narrow_1).before #[Value.ref b] s = true) : TZ (lA s) s s.heap :=
  ⟨tz_of (hts (.laysStatic Bundle.tN "UNASSIGNED_STACK" Bundle.steD) (by decide +kernel)) (hts (.initialized Bundle.tN) (by decide +kernel)) (fl_t hgv (w := .isRef (.static Bundle.tN "UNASSIGNED_STACK" Bundle.steD)) (by decide +kernel)) (fun a ha => Nat.not_le.mpr ha),
   tz_of (hts (.laysStatic Bundle.tN "SUPPRESSED_SENTINEL" Bundle.listD) (by decide +kernel)) (hts (.initialized Bundle.tN) (by decide +kernel)) (fl_t hgv (w := .isRef (.static Bundle.tN "SUPPRESSED_SENTINEL" Bundle.listD)) (by decide +kernel)) (fun a ha => Nat.not_le.mpr ha)⟩
theorem st_O {s : State} {b : Nat} (hts : ∀ w ∈ lw_tbl, w.before #[Value.ref b] s = true) : OW s := fun w hw => wd_f (State.WarmedH.refl s) (tho_f w hw) (hts w (ow_in w hw))
theorem st_Q {s : State} {b : Nat} (hts : ∀ w ∈ lw_tbl, w.before #[Value.ref b] s = true) : va_AO "PlacePoints$Shape" s ∧ va_Nw (.methodLinkNest RX3 34 yX0_init "PlacePoints") s := ⟨va_AO.of (hts (.arrayOver (.object "PlacePoints$Shape")) (by decide +kernel)), va_Nw.of rfl (hts (.methodLinkNest RX3 34 yX0_init "PlacePoints") (by decide +kernel))⟩
theorem inlX3 : ∀ w ∈ wsX30, w ∈ wsL_law := fun _ h => List.mem_append_left _ (List.mem_append_left _ (List.mem_append_left _ (List.mem_append_left _ (List.mem_append_left _ (List.mem_append_right _ h)))))
theorem inlX4 : ∀ w ∈ wsX40, w ∈ wsL_law := fun _ h => List.mem_append_left _ (List.mem_append_left _ (List.mem_append_left _ (List.mem_append_left _ (List.mem_append_right _ h))))
