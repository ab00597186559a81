/-! ===== what is known at the law's start ===== -/
theorem la_str {args : Array Value} {s : State} {own tx : String} {k : Nat} (h1 : (Cond.stringRef own k tx).before args s = true) (h2 : (Cond.exactly (.string own k) "java/lang/String").before args s = true) : ∃ a, vk_R own k tx a s := by
  obtain ⟨a, -, -, -, q1, -⟩ := Cond.exactly_spec (args := args) (first := s) (o := none) (s := s) (idx := []) (t := .string own k) (cls := "java/lang/String") h2
  exact ⟨a, vk_R.of (A := args) h1 q1⟩
theorem la_arr {args : Array Value} {s : State} {ty : FieldType} (h : (Cond.arrayClass ty).before args s = true) : ∃ cA, ArrOfT s cA ty ∧ s.vm.findClass ("[" ++ ty.toString) = some cA := by
  obtain ⟨cA, kA, comp, h1, h2, h3⟩ := Cond.arrayClass_spec h
  exact ⟨cA, fun n z => ⟨fun k h => (by cases h), kA, h2, comp, h3⟩, h1⟩
theorem la_arq {args : Array Value} {s : State} {C : String} (h : (Cond.arrayOver (.object C)).before args s = true) : ∃ cA, ArrOfT s cA (.object C) ∧ va_RA s cA (.object C) := by
  obtain ⟨comp, cA, kA, h1, -, h2, h3, h4⟩ := Cond.arrayOver_spec h
  exact ⟨cA, fun n z => ⟨fun k h => (by cases h), kA, h2, comp, h3⟩, kA, comp, h2, h3, h1, h4⟩
theorem la_i0 : ∀ w ∈ wsX00, w ∈ lw_tbl := by decide +kernel
theorem la_i1 : ∀ w ∈ wsX10, w ∈ lw_tbl := by decide +kernel
theorem la_i2 : ∀ w ∈ wsX20, w ∈ lw_tbl := by decide +kernel
theorem la_i3 : ∀ w ∈ wsX30, w ∈ lw_tbl := by decide +kernel
theorem la_i4 : ∀ w ∈ wsX40, w ∈ lw_tbl := by decide +kernel
theorem la_i5 : ∀ w ∈ wsX50, w ∈ lw_tbl := by decide +kernel
theorem la_i6 : ∀ w ∈ wsX60, w ∈ lw_tbl := by decide +kernel
theorem la_i7 : ∀ w ∈ wsX70, w ∈ lw_tbl := by decide +kernel
theorem la_start {s : State} {b : Nat} (hts : ∀ w ∈ lw_tbl, w.before #[Value.ref b] s = true) (hgv : (Jvm.Cond.and given_1 narrow_1).before #[Value.ref b] s = true) :
    ∃ (D : va_G) (cI cQ cL cD : ClassId), va_K D vwCl (la_T cI cQ cL cD) s ∧ qi_N s ∧ qm_Z (fun q : Nat => s.heap.size ≤ q) s := by
  have hg := flat_of_before _ hgv
  obtain ⟨c0, i0, k0⟩ := u_known (C := RX0) (T := TX0) (N := 4) (n := 4) hts la_i0 (hts (.instantiable RX0 4) (by decide +kernel))
  obtain ⟨c1, i1, k1⟩ := u_known (C := RX1) (T := TX1) (N := 2) (n := 2) hts la_i1 (hts (.instantiable RX1 2) (by decide +kernel))
  obtain ⟨c2, i2, k2⟩ := u_known (C := RX2) (T := TX2) (N := 1) (n := 1) hts la_i2 (hts (.instantiable RX2 1) (by decide +kernel))
  obtain ⟨c3, i3, k3⟩ := u_known (C := RX3) (T := TX3) (N := 3) (n := 3) hts la_i3 (hts (.instantiable RX3 3) (by decide +kernel))
  obtain ⟨c4, i4, k4⟩ := u_known (C := RX4) (T := TX4) (N := 2) (n := 2) hts la_i4 (hts (.instantiable RX4 2) (by decide +kernel))
  obtain ⟨c5, i5, k5⟩ := u_known (C := RX5) (T := TX5) (N := 3) (n := 3) hts la_i5 (hts (.instantiable RX5 3) (by decide +kernel))
  obtain ⟨c6, i6, k6⟩ := u_known (C := RX6) (T := TX6) (N := 1) (n := 1) hts la_i6 (hts (.instantiable RX6 1) (by decide +kernel))
  obtain ⟨c7, i7, k7⟩ := u_known (C := RX7) (T := TX7) (N := 11) (n := 11) hts la_i7 (hts (.instantiable RX7 11) (by decide +kernel))
  obtain ⟨cI, a1, a2⟩ := la_arr (hts (.arrayClass .int) (by decide +kernel))
  obtain ⟨cL, b1, b2⟩ := la_arr (hts (.arrayClass .long) (by decide +kernel))
  obtain ⟨cD, d1, d2⟩ := la_arr (hts (.arrayClass .double) (by decide +kernel))
  have hao := hts (.arrayOver (.object "QueueMiddles$Counter")) (by decide +kernel)
  obtain ⟨cQ, e1, e2⟩ := la_arq hao
  have hA : ∀ a : Nat, a < s.heap.size → ¬ (fun q : Nat => s.heap.size ≤ q) a := fun a h q => Nat.not_le.mpr h q
  refine ⟨(fun k => ([c0, c1, c2, c3, c4, c5, c6, c7] : List ClassId).getD k c0, fun k => ([i0, i1, i2, i3, i4, i5, i6, i7] : List (Nat → Nat)).getD k i0), cI, cQ, cL, cD, ⟨fun k q hq => ?_, fun k q hk => ?_⟩, ⟨?_, ?_, ?_, ?_, ?_, ?_, ?_, ?_, va_AO.of hao⟩, ?_⟩
  · match k, hq with
    | 0, hq => cases hq; exact k0
    | 1, hq => cases hq; exact k1
    | 2, hq => cases hq; exact k2
    | 3, hq => cases hq; exact k3
    | 4, hq => cases hq; exact k4
    | 5, hq => cases hq; exact k5
    | 6, hq => cases hq; exact k6
    | 7, hq => cases hq; exact k7
    | k + 8, hq => cases hq
  · match k, hk with
    | 0, hk => cases hk; exact ⟨a1, a2⟩
    | 1, hk => cases hk; exact ⟨e1, e2⟩
    | 2, hk => cases hk; exact ⟨b1, b2⟩
    | 3, hk => cases hk; exact ⟨d1, d2⟩
    | k + 4, hk => cases hk
  · exact va_Nw.of rfl (hts (.methodLinkNest RX6 15 yX0_init RX6) (by decide +kernel))
  · exact va_Nw.of rfl (hts (.methodLinkNest RX0 11 yX3_init RX6) (by decide +kernel))
  · exact va_Nw.of rfl (hts (.methodLinkNest RX0 20 yX5_init RX6) (by decide +kernel))
  · exact va_Nw.of rfl (hts (.methodLinkNest RX0 27 yX1_init RX6) (by decide +kernel))
  · exact va_Nw.of rfl (hts (.methodLinkNest RX1 9 yX2_init RX6) (by decide +kernel))
  · exact va_Nw.of rfl (hts (.methodLinkNest RX2 9 yX4_init RX6) (by decide +kernel))
  · exact va_Nw.of rfl (hts (.methodLinkNest RX3 9 yX4_init RX6) (by decide +kernel))
  · exact va_Nw.of rfl (hts (.methodLinkNest RX5 9 yX4_init RX6) (by decide +kernel))
  · refine ⟨vx_Zqof (hts (.laysStatic Bundle.tN "UNASSIGNED_STACK" Bundle.steD) (by decide +kernel)) (hts (.initialized Bundle.tN) (by decide +kernel)) (hg (.isRef (.static Bundle.tN "UNASSIGNED_STACK" Bundle.steD)) (by decide +kernel)) hA,
      vx_Zqof (hts (.laysStatic Bundle.tN "SUPPRESSED_SENTINEL" Bundle.listD) (by decide +kernel)) (hts (.initialized Bundle.tN) (by decide +kernel)) (hg (.isRef (.static Bundle.tN "SUPPRESSED_SENTINEL" Bundle.listD)) (by decide +kernel)) hA,
      la_str (hts (.stringRef RX6 135 "no such counter") (by decide +kernel)) (hg (.exactly (.string RX6 135) "java/lang/String") (by decide +kernel)),
      la_str (hts (.stringRef RX6 140 "an argument is out of range") (by decide +kernel)) (hg (.exactly (.string RX6 140) "java/lang/String") (by decide +kernel)),
      la_str (hts (.stringRef RX0 47 "the counter would have too many numbers") (by decide +kernel)) (hg (.exactly (.string RX0 47) "java/lang/String") (by decide +kernel)),
      la_str (hts (.stringRef RX6 65 "both counters are the same") (by decide +kernel)) (hg (.exactly (.string RX6 65) "java/lang/String") (by decide +kernel)),
      la_str (hts (.stringRef RX6 138 "no such mark") (by decide +kernel)) (hg (.exactly (.string RX6 138) "java/lang/String") (by decide +kernel)),
      la_str (hts (.stringRef RX0 52 "the counter has no numbers") (by decide +kernel)) (hg (.exactly (.string RX0 52) "java/lang/String") (by decide +kernel)),
      va_Nw.of rfl (hts (.fieldLinkNest RX6 48 RX0 "row" "LQueueMiddles$MarkRow;" RX6) (by decide +kernel)),
      va_Nw.of rfl (hts (.fieldLinkNest RX6 24 RX0 "numbers" "LQueueMiddles$Tally;" RX6) (by decide +kernel)),
      va_Nw.of rfl (hts (.fieldLinkNest RX6 124 RX0 "halves" "LQueueMiddles$Halves;" RX6) (by decide +kernel)),
      va_Nw.of rfl (hts (.fieldLinkNest RX6 74 RX0 "thousandths" "I" RX6) (by decide +kernel)),
      va_Nw.of rfl (hts (.castable "java/lang/IndexOutOfBoundsException" "java/lang/IndexOutOfBoundsException") (by decide +kernel)),
      va_Nw.of rfl (hts (.castable "java/lang/IllegalArgumentException" "java/lang/IllegalArgumentException") (by decide +kernel)),
      va_Nw.of rfl (hts (.castable "java/lang/IllegalStateException" "java/lang/IllegalStateException") (by decide +kernel)),
      va_Nw.of rfl (hts (.declares (Bundle.initS "java/lang/RuntimeException")) (by decide +kernel)),
      va_Nw.of rfl (hts (.declares (Bundle.initS "java/lang/Exception")) (by decide +kernel)),
      va_Nw.of rfl (hts (.declares (Bundle.initS "java/lang/Throwable")) (by decide +kernel)),
      va_Nc.of (hg (.not (.castable "java/lang/IllegalArgumentException" "java/lang/IndexOutOfBoundsException")) (by decide +kernel)),
      va_Nc.of (hg (.not (.castable "java/lang/IllegalStateException" "java/lang/IndexOutOfBoundsException")) (by decide +kernel)),
      va_Nc.of (hg (.not (.castable "java/lang/IllegalStateException" "java/lang/IllegalArgumentException")) (by decide +kernel))⟩
