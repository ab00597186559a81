noncomputable def fX7_isThere (S : mm_M) (p0 : Int32) : Option (Int32 × mm_M) :=
  (if mo_in p0 0 3 then some ((1 : Int32), mm_th S (0 : Int32)) else some ((0 : Int32), mm_th S (1 : Int32)))
set_option maxHeartbeats 4000000 in
set_option maxRecDepth 100000 in
theorem kX7_isThere (l : Launch) (D : va_G) (A : Nat → Prop) (pre : va_W) (am : Nat → Nat) (cI : ClassId) (S : mm_M) (p0 : Int32) (z : Int32 × mm_M) (h : fX7_isThere S p0 = some z) : Met l yX7_isThere wsX7_isThere ({ frames := 2, cells := 0, slots := 0, locals := 42 }) (va_Pc [.ref (am 0), .int p0] (qm_B D A (mm_T cI) (mm_W pre am cI S))) (qm_Qi D A (mm_W pre am cI) z) 0 0 A := by
  refine Met.ofW (cc := cX7_isThere) (maxL := 2) (ret := (some .boolean)) (by decide) rfl ?_
  intro p e s m args below meth c s₁ B hml hv
  obtain ⟨rfl, hA, hP, hK, hD⟩ := hv
  have hx := B.exec
  have hb := B.bytes
  have hr := B.returns
  have hts := atoms_spec (ws := wsX7_isThere) B.pre
  have hown : s.vm.findClass RX7 = some m.cls := findClass_of_methodNamed B.named
  have hlocks := B.notSynchronized
  have hS : va_S A s.heap s.heap [] := va_S.rf
  have hl := lv_entry ([.ref (am 0), .int p0]) (n := 2) (Nat.le_of_ble_eq_true rfl)
  rw [lg_entry_eq]
  generalize (lg_sl ([.ref (am 0), .int p0]) ++ List.replicate (2 - (lg_sl ([.ref (am 0), .int p0])).length) Slot.unset).toArray = ls at hl ⊢
  have hl : lv_has ls 2 [(0, .ref (am 0)), (1, .int p0)] := hl
  rw [fX7_isThere] at h
  refine lv_aload_n hx hb dX7_isThere_0 rfl (lv_at hl 0 rfl) ?_
  refine lv_iload_n hx hb dX7_isThere_1 rfl (lv_at hl 1 rfl) ?_
  refine va_calli (va_runS (As := [.int p0]) (rest := [.ref (am 0)]) ⟨hx, hb, hml, hown, hts⟩ (nX7_isCounter l D A pre am cI S p0) (va_cwS 1 hts gX7_isThere_X7_isCounter rfl rfl rfl (by decide +kernel) ⟨Nat.le_of_ble_eq_true rfl, Nat.le_of_ble_eq_true rfl⟩) ⟨qm_blind, fun U hU hW => ⟨rfl, qm_go hA hS hP hK hD hU hW⟩⟩ rfl rfl hl.1 rfl (lv_room (Nat.le_of_ble_eq_true rfl)) dX7_isThere_2 ⟨Nat.le_of_ble_eq_true rfl, Nat.le_of_ble_eq_true rfl⟩) hS (fun _ _ h9 => h9) (fun _ h9 => h9) (fun v u t H1 locs1 ht hvm hw hB hz1 hk1 hS => ?_)
  obtain ⟨hw1, hw2⟩ := hw
  have hw1 : (if mo_in p0 0 3 then 1 else 0) = v := hw1.symm
  have hw2 : S = u := hw2.symm
  subst hw1
  subst hw2
  obtain ⟨hP, hD⟩ := qm_bk ht hB
  by_cases c_1 : mo_in p0 0 3
  · rw [if_pos c_1] at h ⊢
    refine lv_if_eq (tgt := 12) hx hb dX7_isThere_5 (by decide) (fun c => absurd c (by decide)) (fun _ => ?_)
    refine lv_iconst (v := (0 : Int32)) hx hb dX7_isThere_8 (by decide) ?_
    refine lv_goto (tgt := 13) hx hb dX7_isThere_9 (by decide) ?_
    refine va_calli (va_runV (As := [.int (0 : Int32)]) (rest := []) ⟨hx, hb, hml, hown, hts⟩ (nX7_isFine l D A pre am cI S (0 : Int32)) (cwV 1 hts gX7_isThere_X7_isFine rfl rfl rfl (by decide +kernel) ⟨Nat.le_of_ble_eq_true rfl, Nat.le_of_ble_eq_true rfl⟩) ⟨qm_blind, va_recv hK hP (ci := 7) (q0 := (pre.length + 0)) rfl mg_0, fun U hU hW => ⟨rfl, qm_go hA hS hP hK hD hU hW⟩⟩ rfl rfl hl.1 rfl (lv_room (Nat.le_of_ble_eq_true rfl)) dX7_isThere_13 ⟨Nat.le_of_ble_eq_true rfl, Nat.le_of_ble_eq_true rfl⟩) hS (fun _ _ h9 => h9) (fun _ h9 => h9) (fun v u t H1 locs1 ht hvm hw hB hz1 hk1 hS => ?_)
    obtain ⟨hw1, hw2⟩ := hw
    have hw1 : (if (0 : Int32) = 0 then 1 else 0) = v := hw1.symm
    have hw2 : mm_th S (0 : Int32) = u := hw2.symm
    subst hw1
    subst hw2
    obtain ⟨hP, hD⟩ := qm_bk ht hB
    rw [if_pos (show (0 : Int32) = 0 by decide)]
    have h := Option.some.inj h
    subst h
    exact W.zret (v := (1 : Int32)) hx hb hr rfl (fun t ht hW => ⟨⟨(1 : Int32), mm_th S (0 : Int32), rfl, ⟨rfl, rfl⟩, qm_en ht hP hD⟩, hS.F ht⟩) hS.2.2 dX7_isThere_16
  · rw [if_neg c_1] at h ⊢
    refine lv_if_eq (tgt := 12) hx hb dX7_isThere_5 (by decide) (fun _ => ?_) (fun c => absurd (by decide) c)
    refine lv_iconst (v := (1 : Int32)) hx hb dX7_isThere_12 (by decide) ?_
    refine va_calli (va_runV (As := [.int (1 : Int32)]) (rest := []) ⟨hx, hb, hml, hown, hts⟩ (nX7_isFine l D A pre am cI S (1 : Int32)) (cwV 1 hts gX7_isThere_X7_isFine rfl rfl rfl (by decide +kernel) ⟨Nat.le_of_ble_eq_true rfl, Nat.le_of_ble_eq_true rfl⟩) ⟨qm_blind, va_recv hK hP (ci := 7) (q0 := (pre.length + 0)) rfl mg_0, fun U hU hW => ⟨rfl, qm_go hA hS hP hK hD hU hW⟩⟩ rfl rfl hl.1 rfl (lv_room (Nat.le_of_ble_eq_true rfl)) dX7_isThere_13 ⟨Nat.le_of_ble_eq_true rfl, Nat.le_of_ble_eq_true rfl⟩) hS (fun _ _ h9 => h9) (fun _ h9 => h9) (fun v u t H1 locs1 ht hvm hw hB hz1 hk1 hS => ?_)
    obtain ⟨hw1, hw2⟩ := hw
    have hw1 : (if (1 : Int32) = 0 then 1 else 0) = v := hw1.symm
    have hw2 : mm_th S (1 : Int32) = u := hw2.symm
    subst hw1
    subst hw2
    obtain ⟨hP, hD⟩ := qm_bk ht hB
    rw [if_neg (show ¬ (1 : Int32) = 0 by decide)]
    have h := Option.some.inj h
    subst h
    exact W.zret (v := (0 : Int32)) hx hb hr rfl (fun t ht hW => ⟨⟨(0 : Int32), mm_th S (1 : Int32), rfl, ⟨rfl, rfl⟩, qm_en ht hP hD⟩, hS.F ht⟩) hS.2.2 dX7_isThere_16
noncomputable def fX7_allowed (S : mm_M) (p0 : Int32) : Option (Int32) :=
  qm_gd (vp_in p0 4) (qm_gd (vp_in p0 4) (some ((((2 : Int32) * ((S.1 0) p0.toNatClampNeg)) * ((S.1 1) p0.toNatClampNeg)) / (1000 : Int32))))
set_option maxHeartbeats 4000000 in
set_option maxRecDepth 100000 in
theorem kX7_allowed (l : Launch) (D : va_G) (A : Nat → Prop) (pre : va_W) (am : Nat → Nat) (cI : ClassId) (S : mm_M) (p0 : Int32) (z : Int32) (h : fX7_allowed S p0 = some z) : Met l yX7_allowed wsX7_allowed ({ frames := 0, cells := 0, slots := 0, locals := 0 }) (va_Pc [.ref (am 0), .int p0] (qm_B D A (mm_T cI) (mm_W pre am cI S))) (qm_Qi D A (mm_W pre am cI) (z, S)) 0 0 A := by
  refine Met.ofW (cc := cX7_allowed) (maxL := 2) (ret := (some .int)) (by decide) rfl ?_
  intro p e s m args below meth c s₁ B hml hv
  obtain ⟨rfl, hA, hP, hK, hD⟩ := hv
  have hx := B.exec
  have hb := B.bytes
  have hr := B.returns
  have hts := atoms_spec (ws := wsX7_allowed) B.pre
  have hown : s.vm.findClass RX7 = some m.cls := findClass_of_methodNamed B.named
  have hlocks := B.notSynchronized
  have hS : va_S A s.heap s.heap [] := va_S.rf
  have hl := lv_entry ([.ref (am 0), .int p0]) (n := 2) (Nat.le_of_ble_eq_true rfl)
  rw [lg_entry_eq]
  generalize (lg_sl ([.ref (am 0), .int p0]) ++ List.replicate (2 - (lg_sl ([.ref (am 0), .int p0])).length) Slot.unset).toArray = ls at hl ⊢
  have hl : lv_has ls 2 [(0, .ref (am 0)), (1, .int p0)] := hl
  rw [fX7_allowed] at h
  refine lv_iconst (v := (2 : Int32)) hx hb dX7_allowed_0 (by decide) ?_
  refine lv_aload_n hx hb dX7_allowed_1 rfl (lv_at hl 0 rfl) ?_
  refine va_get (D := D) (ci := 7) (v := .ref (am 1)) (C := RX7) (T := TX7) (N := 11) hx hb hts (by decide +kernel) hown hK hP (pre.length + 0) mg_0 rfl 0 (by decide) (hts (.fieldLink RX7 7 "QueueMiddlesModel" "bound" "[I") (by decide +kernel)) (fun _ h9 => h9) rfl dX7_allowed_2 ?_
  refine lv_iload_n hx hb dX7_allowed_5 rfl (lv_at hl 1 rfl) ?_
  obtain ⟨g_1, h⟩ := qm_gd_some h
  refine va_iald hx hb hK hP (pre.length + 1) 0 mg_1 rfl g_1 dX7_allowed_6 ?_
  refine lv_imul hx hb dX7_allowed_7 ?_
  refine lv_aload_n hx hb dX7_allowed_8 rfl (lv_at hl 0 rfl) ?_
  refine va_get (D := D) (ci := 7) (v := .ref (am 2)) (C := RX7) (T := TX7) (N := 11) hx hb hts (by decide +kernel) hown hK hP (pre.length + 0) mg_0 rfl 1 (by decide) (hts (.fieldLink RX7 13 "QueueMiddlesModel" "count" "[I") (by decide +kernel)) (fun _ h9 => h9) rfl dX7_allowed_9 ?_
  refine lv_iload_n hx hb dX7_allowed_12 rfl (lv_at hl 1 rfl) ?_
  obtain ⟨g_2, h⟩ := qm_gd_some h
  refine va_iald hx hb hK hP (pre.length + 2) 0 mg_2 rfl g_2 dX7_allowed_13 ?_
  refine lv_imul hx hb dX7_allowed_14 ?_
  refine lv_sipush (v := (1000 : Int32)) hx hb dX7_allowed_15 (by decide) ?_
  refine lv_idiv hx hb dX7_allowed_18 (by decide) ?_
  have h := Option.some.inj h
  subst h
  exact W.iret (v := (((2 : Int32) * ((S.1 0) p0.toNatClampNeg)) * ((S.1 1) p0.toNatClampNeg)) / (1000 : Int32)) hx hb hr (fun t ht hW => ⟨⟨(((2 : Int32) * ((S.1 0) p0.toNatClampNeg)) * ((S.1 1) p0.toNatClampNeg)) / (1000 : Int32), S, rfl, ⟨rfl, rfl⟩, qm_en ht hP hD⟩, hS.F ht⟩) hS.2.2 dX7_allowed_19
noncomputable def fX7_isMark (S : mm_M) (p0 : Int32) (p1 : Int32) : Option (Int32 × mm_M) :=
  (if mo_in p0 0 3 then qm_gd (vp_in p0 4) ((if mo_in p1 (0 : Int32) (((S.1 2) p0.toNatClampNeg) - (1 : Int32)) then some ((1 : Int32), mm_th S (0 : Int32)) else some ((0 : Int32), mm_th S (1 : Int32)))) else some ((0 : Int32), mm_th S (1 : Int32)))
set_option maxHeartbeats 4000000 in
set_option maxRecDepth 100000 in
theorem kX7_isMark (l : Launch) (D : va_G) (A : Nat → Prop) (pre : va_W) (am : Nat → Nat) (cI : ClassId) (S : mm_M) (p0 : Int32) (p1 : Int32) (z : Int32 × mm_M) (h : fX7_isMark S p0 p1 = some z) : Met l yX7_isMark wsX7_isMark ({ frames := 2, cells := 0, slots := 0, locals := 42 }) (va_Pc [.ref (am 0), .int p0, .int p1] (qm_B D A (mm_T cI) (mm_W pre am cI S))) (qm_Qi D A (mm_W pre am cI) z) 0 0 A := by
  refine Met.ofW (cc := cX7_isMark) (maxL := 3) (ret := (some .boolean)) (by decide) rfl ?_
  intro p e s m args below meth c s₁ B hml hv
  obtain ⟨rfl, hA, hP, hK, hD⟩ := hv
  have hx := B.exec
  have hb := B.bytes
  have hr := B.returns
  have hts := atoms_spec (ws := wsX7_isMark) B.pre
  have hown : s.vm.findClass RX7 = some m.cls := findClass_of_methodNamed B.named
  have hlocks := B.notSynchronized
  have hS : va_S A s.heap s.heap [] := va_S.rf
  have hl := lv_entry ([.ref (am 0), .int p0, .int p1]) (n := 3) (Nat.le_of_ble_eq_true rfl)
  rw [lg_entry_eq]
  generalize (lg_sl ([.ref (am 0), .int p0, .int p1]) ++ List.replicate (3 - (lg_sl ([.ref (am 0), .int p0, .int p1])).length) Slot.unset).toArray = ls at hl ⊢
  have hl : lv_has ls 3 [(0, .ref (am 0)), (1, .int p0), (2, .int p1)] := hl
  rw [fX7_isMark] at h
  refine lv_aload_n hx hb dX7_isMark_0 rfl (lv_at hl 0 rfl) ?_
  refine lv_iload_n hx hb dX7_isMark_1 rfl (lv_at hl 1 rfl) ?_
  refine va_calli (va_runS (As := [.int p0]) (rest := [.ref (am 0)]) ⟨hx, hb, hml, hown, hts⟩ (nX7_isCounter l D A pre am cI S p0) (va_cwS 1 hts gX7_isMark_X7_isCounter rfl rfl rfl (by decide +kernel) ⟨Nat.le_of_ble_eq_true rfl, Nat.le_of_ble_eq_true rfl⟩) ⟨qm_blind, fun U hU hW => ⟨rfl, qm_go hA hS hP hK hD hU hW⟩⟩ rfl rfl hl.1 rfl (lv_room (Nat.le_of_ble_eq_true rfl)) dX7_isMark_2 ⟨Nat.le_of_ble_eq_true rfl, Nat.le_of_ble_eq_true rfl⟩) hS (fun _ _ h9 => h9) (fun _ h9 => h9) (fun v u t H1 locs1 ht hvm hw hB hz1 hk1 hS => ?_)
  obtain ⟨hw1, hw2⟩ := hw
  have hw1 : (if mo_in p0 0 3 then 1 else 0) = v := hw1.symm
  have hw2 : S = u := hw2.symm
  subst hw1
  subst hw2
  obtain ⟨hP, hD⟩ := qm_bk ht hB
  by_cases c_1 : mo_in p0 0 3
  · rw [if_pos c_1] at h ⊢
    refine lv_if_eq (tgt := 28) hx hb dX7_isMark_5 (by decide) (fun c => absurd c (by decide)) (fun _ => ?_)
    refine lv_iload_n hx hb dX7_isMark_8 rfl (lv_at hl 2 rfl) ?_
    refine lv_iconst (v := (0 : Int32)) hx hb dX7_isMark_9 (by decide) ?_
    refine lv_aload_n hx hb dX7_isMark_10 rfl (lv_at hl 0 rfl) ?_
    refine va_get (D := D) (ci := 7) (v := .ref (am 3)) (C := RX7) (T := TX7) (N := 11) hx hb hts (by decide +kernel) hown hK hP (pre.length + 0) mg_0 rfl 2 (by decide) (hts (.fieldLink RX7 16 "QueueMiddlesModel" "marks" "[I") (by decide +kernel)) (fun _ h9 => h9) rfl dX7_isMark_11 ?_
    refine lv_iload_n hx hb dX7_isMark_14 rfl (lv_at hl 1 rfl) ?_
    obtain ⟨g_2, h⟩ := qm_gd_some h
    refine va_iald hx hb hK hP (pre.length + 3) 0 mg_3 rfl g_2 dX7_isMark_15 ?_
    refine lv_iconst (v := (1 : Int32)) hx hb dX7_isMark_16 (by decide) ?_
    refine lv_isub hx hb dX7_isMark_17 ?_
    refine va_calli (va_runS (As := [.int p1, .int (0 : Int32), .int (((S.1 2) p0.toNatClampNeg) - (1 : Int32))]) (rest := [.ref (am 0)]) ⟨hx, hb, hml, hown, hts⟩ (nX7_in l D A pre am cI S p1 (0 : Int32) (((S.1 2) p0.toNatClampNeg) - (1 : Int32))) (va_cwS 3 hts gX7_isMark_X7_in rfl rfl rfl (by decide +kernel) ⟨Nat.le_of_ble_eq_true rfl, Nat.le_of_ble_eq_true rfl⟩) ⟨qm_blind, fun U hU hW => ⟨rfl, qm_go hA hS hP hK hD hU hW⟩⟩ rfl rfl hl.1 rfl (lv_room (Nat.le_of_ble_eq_true rfl)) dX7_isMark_18 ⟨Nat.le_of_ble_eq_true rfl, Nat.le_of_ble_eq_true rfl⟩) hS (fun _ _ h9 => h9) (fun _ h9 => h9) (fun v u t H1 locs1 ht hvm hw hB hz1 hk1 hS => ?_)
    obtain ⟨hw1, hw2⟩ := hw
    have hw1 : (if mo_in p1 (0 : Int32) (((S.1 2) p0.toNatClampNeg) - (1 : Int32)) then 1 else 0) = v := hw1.symm
    have hw2 : S = u := hw2.symm
    subst hw1
    subst hw2
    obtain ⟨hP, hD⟩ := qm_bk ht hB
    by_cases c_3 : mo_in p1 (0 : Int32) (((S.1 2) p0.toNatClampNeg) - (1 : Int32))
    · rw [if_pos c_3] at h ⊢
      refine lv_if_eq (tgt := 28) hx hb dX7_isMark_21 (by decide) (fun c => absurd c (by decide)) (fun _ => ?_)
      refine lv_iconst (v := (0 : Int32)) hx hb dX7_isMark_24 (by decide) ?_
      refine lv_goto (tgt := 29) hx hb dX7_isMark_25 (by decide) ?_
      refine va_calli (va_runV (As := [.int (0 : Int32)]) (rest := []) ⟨hx, hb, hml, hown, hts⟩ (nX7_isFine l D A pre am cI S (0 : Int32)) (cwV 1 hts gX7_isMark_X7_isFine rfl rfl rfl (by decide +kernel) ⟨Nat.le_of_ble_eq_true rfl, Nat.le_of_ble_eq_true rfl⟩) ⟨qm_blind, va_recv hK hP (ci := 7) (q0 := (pre.length + 0)) rfl mg_0, fun U hU hW => ⟨rfl, qm_go hA hS hP hK hD hU hW⟩⟩ rfl rfl hl.1 rfl (lv_room (Nat.le_of_ble_eq_true rfl)) dX7_isMark_29 ⟨Nat.le_of_ble_eq_true rfl, Nat.le_of_ble_eq_true rfl⟩) hS (fun _ _ h9 => h9) (fun _ h9 => h9) (fun v u t H1 locs1 ht hvm hw hB hz1 hk1 hS => ?_)
      obtain ⟨hw1, hw2⟩ := hw
      have hw1 : (if (0 : Int32) = 0 then 1 else 0) = v := hw1.symm
      have hw2 : mm_th S (0 : Int32) = u := hw2.symm
      subst hw1
      subst hw2
      obtain ⟨hP, hD⟩ := qm_bk ht hB
      rw [if_pos (show (0 : Int32) = 0 by decide)]
      have h := Option.some.inj h
      subst h
      exact W.zret (v := (1 : Int32)) hx hb hr rfl (fun t ht hW => ⟨⟨(1 : Int32), mm_th S (0 : Int32), rfl, ⟨rfl, rfl⟩, qm_en ht hP hD⟩, hS.F ht⟩) hS.2.2 dX7_isMark_32
    · rw [if_neg c_3] at h ⊢
      refine lv_if_eq (tgt := 28) hx hb dX7_isMark_21 (by decide) (fun _ => ?_) (fun c => absurd (by decide) c)
      refine lv_iconst (v := (1 : Int32)) hx hb dX7_isMark_28 (by decide) ?_
      refine va_calli (va_runV (As := [.int (1 : Int32)]) (rest := []) ⟨hx, hb, hml, hown, hts⟩ (nX7_isFine l D A pre am cI S (1 : Int32)) (cwV 1 hts gX7_isMark_X7_isFine rfl rfl rfl (by decide +kernel) ⟨Nat.le_of_ble_eq_true rfl, Nat.le_of_ble_eq_true rfl⟩) ⟨qm_blind, va_recv hK hP (ci := 7) (q0 := (pre.length + 0)) rfl mg_0, fun U hU hW => ⟨rfl, qm_go hA hS hP hK hD hU hW⟩⟩ rfl rfl hl.1 rfl (lv_room (Nat.le_of_ble_eq_true rfl)) dX7_isMark_29 ⟨Nat.le_of_ble_eq_true rfl, Nat.le_of_ble_eq_true rfl⟩) hS (fun _ _ h9 => h9) (fun _ h9 => h9) (fun v u t H1 locs1 ht hvm hw hB hz1 hk1 hS => ?_)
      obtain ⟨hw1, hw2⟩ := hw
      have hw1 : (if (1 : Int32) = 0 then 1 else 0) = v := hw1.symm
      have hw2 : mm_th S (1 : Int32) = u := hw2.symm
      subst hw1
      subst hw2
      obtain ⟨hP, hD⟩ := qm_bk ht hB
      rw [if_neg (show ¬ (1 : Int32) = 0 by decide)]
      have h := Option.some.inj h
      subst h
      exact W.zret (v := (0 : Int32)) hx hb hr rfl (fun t ht hW => ⟨⟨(0 : Int32), mm_th S (1 : Int32), rfl, ⟨rfl, rfl⟩, qm_en ht hP hD⟩, hS.F ht⟩) hS.2.2 dX7_isMark_32
  · rw [if_neg c_1] at h ⊢
    refine lv_if_eq (tgt := 28) hx hb dX7_isMark_5 (by decide) (fun _ => ?_) (fun c => absurd (by decide) c)
    refine lv_iconst (v := (1 : Int32)) hx hb dX7_isMark_28 (by decide) ?_
    refine va_calli (va_runV (As := [.int (1 : Int32)]) (rest := []) ⟨hx, hb, hml, hown, hts⟩ (nX7_isFine l D A pre am cI S (1 : Int32)) (cwV 1 hts gX7_isMark_X7_isFine rfl rfl rfl (by decide +kernel) ⟨Nat.le_of_ble_eq_true rfl, Nat.le_of_ble_eq_true rfl⟩) ⟨qm_blind, va_recv hK hP (ci := 7) (q0 := (pre.length + 0)) rfl mg_0, fun U hU hW => ⟨rfl, qm_go hA hS hP hK hD hU hW⟩⟩ rfl rfl hl.1 rfl (lv_room (Nat.le_of_ble_eq_true rfl)) dX7_isMark_29 ⟨Nat.le_of_ble_eq_true rfl, Nat.le_of_ble_eq_true rfl⟩) hS (fun _ _ h9 => h9) (fun _ h9 => h9) (fun v u t H1 locs1 ht hvm hw hB hz1 hk1 hS => ?_)
    obtain ⟨hw1, hw2⟩ := hw
    have hw1 : (if (1 : Int32) = 0 then 1 else 0) = v := hw1.symm
    have hw2 : mm_th S (1 : Int32) = u := hw2.symm
    subst hw1
    subst hw2
    obtain ⟨hP, hD⟩ := qm_bk ht hB
    rw [if_neg (show ¬ (1 : Int32) = 0 by decide)]
    have h := Option.some.inj h
    subst h
    exact W.zret (v := (0 : Int32)) hx hb hr rfl (fun t ht hW => ⟨⟨(0 : Int32), mm_th S (1 : Int32), rfl, ⟨rfl, rfl⟩, qm_en ht hP hD⟩, hS.F ht⟩) hS.2.2 dX7_isMark_32
noncomputable def fX7_canAsk (S : mm_M) (p0 : Int32) (p1 : Int32) : Option (Int32 × mm_M) :=
  (if mo_in p0 0 3 then (if mo_in p1 (0 : Int32) (1000 : Int32) then qm_gd (vp_in p0 4) ((if ((S.1 1) p0.toNatClampNeg) = 0 then some ((0 : Int32), mm_th S (3 : Int32)) else some ((1 : Int32), mm_th S (0 : Int32)))) else some ((0 : Int32), mm_th S (2 : Int32))) else some ((0 : Int32), mm_th S (1 : Int32)))
set_option maxHeartbeats 4000000 in
set_option maxRecDepth 100000 in
theorem kX7_canAsk (l : Launch) (D : va_G) (A : Nat → Prop) (pre : va_W) (am : Nat → Nat) (cI : ClassId) (S : mm_M) (p0 : Int32) (p1 : Int32) (z : Int32 × mm_M) (h : fX7_canAsk S p0 p1 = some z) : Met l yX7_canAsk wsX7_canAsk ({ frames := 2, cells := 0, slots := 0, locals := 42 }) (va_Pc [.ref (am 0), .int p0, .int p1] (qm_B D A (mm_T cI) (mm_W pre am cI S))) (qm_Qi D A (mm_W pre am cI) z) 0 0 A := by
  refine Met.ofW (cc := cX7_canAsk) (maxL := 3) (ret := (some .boolean)) (by decide) rfl ?_
  intro p e s m args below meth c s₁ B hml hv
  obtain ⟨rfl, hA, hP, hK, hD⟩ := hv
  have hx := B.exec
  have hb := B.bytes
  have hr := B.returns
  have hts := atoms_spec (ws := wsX7_canAsk) B.pre
  have hown : s.vm.findClass RX7 = some m.cls := findClass_of_methodNamed B.named
  have hlocks := B.notSynchronized
  have hS : va_S A s.heap s.heap [] := va_S.rf
  have hl := lv_entry ([.ref (am 0), .int p0, .int p1]) (n := 3) (Nat.le_of_ble_eq_true rfl)
  rw [lg_entry_eq]
  generalize (lg_sl ([.ref (am 0), .int p0, .int p1]) ++ List.replicate (3 - (lg_sl ([.ref (am 0), .int p0, .int p1])).length) Slot.unset).toArray = ls at hl ⊢
  have hl : lv_has ls 3 [(0, .ref (am 0)), (1, .int p0), (2, .int p1)] := hl
  rw [fX7_canAsk] at h
  refine lv_aload_n hx hb dX7_canAsk_0 rfl (lv_at hl 0 rfl) ?_
  refine lv_iload_n hx hb dX7_canAsk_1 rfl (lv_at hl 1 rfl) ?_
  refine va_calli (va_runS (As := [.int p0]) (rest := [.ref (am 0)]) ⟨hx, hb, hml, hown, hts⟩ (nX7_isCounter l D A pre am cI S p0) (va_cwS 1 hts gX7_canAsk_X7_isCounter rfl rfl rfl (by decide +kernel) ⟨Nat.le_of_ble_eq_true rfl, Nat.le_of_ble_eq_true rfl⟩) ⟨qm_blind, fun U hU hW => ⟨rfl, qm_go hA hS hP hK hD hU hW⟩⟩ rfl rfl hl.1 rfl (lv_room (Nat.le_of_ble_eq_true rfl)) dX7_canAsk_2 ⟨Nat.le_of_ble_eq_true rfl, Nat.le_of_ble_eq_true rfl⟩) hS (fun _ _ h9 => h9) (fun _ h9 => h9) (fun v u t H1 locs1 ht hvm hw hB hz1 hk1 hS => ?_)
  obtain ⟨hw1, hw2⟩ := hw
  have hw1 : (if mo_in p0 0 3 then 1 else 0) = v := hw1.symm
  have hw2 : S = u := hw2.symm
  subst hw1
  subst hw2
  obtain ⟨hP, hD⟩ := qm_bk ht hB
  by_cases c_1 : mo_in p0 0 3
  · rw [if_pos c_1] at h ⊢
    refine lv_if_ne (tgt := 12) hx hb dX7_canAsk_5 (by decide) (fun _ => ?_) (fun c => absurd c (by decide))
    refine lv_iload_n hx hb dX7_canAsk_12 rfl (lv_at hl 2 rfl) ?_
    refine lv_iconst (v := (0 : Int32)) hx hb dX7_canAsk_13 (by decide) ?_
    refine lv_sipush (v := (1000 : Int32)) hx hb dX7_canAsk_14 (by decide) ?_
    refine va_calli (va_runS (As := [.int p1, .int (0 : Int32), .int (1000 : Int32)]) (rest := [.ref (am 0)]) ⟨hx, hb, hml, hown, hts⟩ (nX7_in l D A pre am cI S p1 (0 : Int32) (1000 : Int32)) (va_cwS 3 hts gX7_canAsk_X7_in rfl rfl rfl (by decide +kernel) ⟨Nat.le_of_ble_eq_true rfl, Nat.le_of_ble_eq_true rfl⟩) ⟨qm_blind, fun U hU hW => ⟨rfl, qm_go hA hS hP hK hD hU hW⟩⟩ rfl rfl hl.1 rfl (lv_room (Nat.le_of_ble_eq_true rfl)) dX7_canAsk_17 ⟨Nat.le_of_ble_eq_true rfl, Nat.le_of_ble_eq_true rfl⟩) hS (fun _ _ h9 => h9) (fun _ h9 => h9) (fun v u t H1 locs1 ht hvm hw hB hz1 hk1 hS => ?_)
    obtain ⟨hw1, hw2⟩ := hw
    have hw1 : (if mo_in p1 (0 : Int32) (1000 : Int32) then 1 else 0) = v := hw1.symm
    have hw2 : S = u := hw2.symm
    subst hw1
    subst hw2
    obtain ⟨hP, hD⟩ := qm_bk ht hB
    by_cases c_2 : mo_in p1 (0 : Int32) (1000 : Int32)
    · rw [if_pos c_2] at h ⊢
      refine lv_if_ne (tgt := 27) hx hb dX7_canAsk_20 (by decide) (fun _ => ?_) (fun c => absurd c (by decide))
      refine lv_aload_n hx hb dX7_canAsk_27 rfl (lv_at hl 0 rfl) ?_
      refine va_get (D := D) (ci := 7) (v := .ref (am 2)) (C := RX7) (T := TX7) (N := 11) hx hb hts (by decide +kernel) hown hK hP (pre.length + 0) mg_0 rfl 1 (by decide) (hts (.fieldLink RX7 13 "QueueMiddlesModel" "count" "[I") (by decide +kernel)) (fun _ h9 => h9) rfl dX7_canAsk_28 ?_
      refine lv_iload_n hx hb dX7_canAsk_31 rfl (lv_at hl 1 rfl) ?_
      obtain ⟨g_3, h⟩ := qm_gd_some h
      refine va_iald hx hb hK hP (pre.length + 2) 0 mg_2 rfl g_3 dX7_canAsk_32 ?_
      refine lv_if_ne (tgt := 40) hx hb dX7_canAsk_33 (by decide) (fun c_4 => ?_) (fun c_4 => ?_)
      · rw [if_neg c_4] at h
        refine lv_iconst (v := (0 : Int32)) hx hb dX7_canAsk_40 (by decide) ?_
        refine va_calli (va_runV (As := [.int (0 : Int32)]) (rest := []) ⟨hx, hb, hml, hown, hts⟩ (nX7_isFine l D A pre am cI S (0 : Int32)) (cwV 1 hts gX7_canAsk_X7_isFine rfl rfl rfl (by decide +kernel) ⟨Nat.le_of_ble_eq_true rfl, Nat.le_of_ble_eq_true rfl⟩) ⟨qm_blind, va_recv hK hP (ci := 7) (q0 := (pre.length + 0)) rfl mg_0, fun U hU hW => ⟨rfl, qm_go hA hS hP hK hD hU hW⟩⟩ rfl rfl hl.1 rfl (lv_room (Nat.le_of_ble_eq_true rfl)) dX7_canAsk_41 ⟨Nat.le_of_ble_eq_true rfl, Nat.le_of_ble_eq_true rfl⟩) hS (fun _ _ h9 => h9) (fun _ h9 => h9) (fun v u t H1 locs1 ht hvm hw hB hz1 hk1 hS => ?_)
        obtain ⟨hw1, hw2⟩ := hw
        have hw1 : (if (0 : Int32) = 0 then 1 else 0) = v := hw1.symm
        have hw2 : mm_th S (0 : Int32) = u := hw2.symm
        subst hw1
        subst hw2
        obtain ⟨hP, hD⟩ := qm_bk ht hB
        rw [if_pos (show (0 : Int32) = 0 by decide)]
        have h := Option.some.inj h
        subst h
        exact W.zret (v := (1 : Int32)) hx hb hr rfl (fun t ht hW => ⟨⟨(1 : Int32), mm_th S (0 : Int32), rfl, ⟨rfl, rfl⟩, qm_en ht hP hD⟩, hS.F ht⟩) hS.2.2 dX7_canAsk_44
      · rw [if_pos c_4] at h
        refine lv_iconst (v := (3 : Int32)) hx hb dX7_canAsk_36 (by decide) ?_
        refine lv_goto (tgt := 41) hx hb dX7_canAsk_37 (by decide) ?_
        refine va_calli (va_runV (As := [.int (3 : Int32)]) (rest := []) ⟨hx, hb, hml, hown, hts⟩ (nX7_isFine l D A pre am cI S (3 : Int32)) (cwV 1 hts gX7_canAsk_X7_isFine rfl rfl rfl (by decide +kernel) ⟨Nat.le_of_ble_eq_true rfl, Nat.le_of_ble_eq_true rfl⟩) ⟨qm_blind, va_recv hK hP (ci := 7) (q0 := (pre.length + 0)) rfl mg_0, fun U hU hW => ⟨rfl, qm_go hA hS hP hK hD hU hW⟩⟩ rfl rfl hl.1 rfl (lv_room (Nat.le_of_ble_eq_true rfl)) dX7_canAsk_41 ⟨Nat.le_of_ble_eq_true rfl, Nat.le_of_ble_eq_true rfl⟩) hS (fun _ _ h9 => h9) (fun _ h9 => h9) (fun v u t H1 locs1 ht hvm hw hB hz1 hk1 hS => ?_)
        obtain ⟨hw1, hw2⟩ := hw
        have hw1 : (if (3 : Int32) = 0 then 1 else 0) = v := hw1.symm
        have hw2 : mm_th S (3 : Int32) = u := hw2.symm
        subst hw1
        subst hw2
        obtain ⟨hP, hD⟩ := qm_bk ht hB
        rw [if_neg (show ¬ (3 : Int32) = 0 by decide)]
        have h := Option.some.inj h
        subst h
        exact W.zret (v := (0 : Int32)) hx hb hr rfl (fun t ht hW => ⟨⟨(0 : Int32), mm_th S (3 : Int32), rfl, ⟨rfl, rfl⟩, qm_en ht hP hD⟩, hS.F ht⟩) hS.2.2 dX7_canAsk_44
    · rw [if_neg c_2] at h ⊢
      refine lv_if_ne (tgt := 27) hx hb dX7_canAsk_20 (by decide) (fun c => absurd (by decide) c) (fun _ => ?_)
      refine lv_iconst (v := (2 : Int32)) hx hb dX7_canAsk_23 (by decide) ?_
      refine lv_goto (tgt := 41) hx hb dX7_canAsk_24 (by decide) ?_
      refine va_calli (va_runV (As := [.int (2 : Int32)]) (rest := []) ⟨hx, hb, hml, hown, hts⟩ (nX7_isFine l D A pre am cI S (2 : Int32)) (cwV 1 hts gX7_canAsk_X7_isFine rfl rfl rfl (by decide +kernel) ⟨Nat.le_of_ble_eq_true rfl, Nat.le_of_ble_eq_true rfl⟩) ⟨qm_blind, va_recv hK hP (ci := 7) (q0 := (pre.length + 0)) rfl mg_0, fun U hU hW => ⟨rfl, qm_go hA hS hP hK hD hU hW⟩⟩ rfl rfl hl.1 rfl (lv_room (Nat.le_of_ble_eq_true rfl)) dX7_canAsk_41 ⟨Nat.le_of_ble_eq_true rfl, Nat.le_of_ble_eq_true rfl⟩) hS (fun _ _ h9 => h9) (fun _ h9 => h9) (fun v u t H1 locs1 ht hvm hw hB hz1 hk1 hS => ?_)
      obtain ⟨hw1, hw2⟩ := hw
      have hw1 : (if (2 : Int32) = 0 then 1 else 0) = v := hw1.symm
      have hw2 : mm_th S (2 : Int32) = u := hw2.symm
      subst hw1
      subst hw2
      obtain ⟨hP, hD⟩ := qm_bk ht hB
      rw [if_neg (show ¬ (2 : Int32) = 0 by decide)]
      have h := Option.some.inj h
      subst h
      exact W.zret (v := (0 : Int32)) hx hb hr rfl (fun t ht hW => ⟨⟨(0 : Int32), mm_th S (2 : Int32), rfl, ⟨rfl, rfl⟩, qm_en ht hP hD⟩, hS.F ht⟩) hS.2.2 dX7_canAsk_44
  · rw [if_neg c_1] at h ⊢
    refine lv_if_ne (tgt := 12) hx hb dX7_canAsk_5 (by decide) (fun c => absurd (by decide) c) (fun _ => ?_)
    refine lv_iconst (v := (1 : Int32)) hx hb dX7_canAsk_8 (by decide) ?_
    refine lv_goto (tgt := 41) hx hb dX7_canAsk_9 (by decide) ?_
    refine va_calli (va_runV (As := [.int (1 : Int32)]) (rest := []) ⟨hx, hb, hml, hown, hts⟩ (nX7_isFine l D A pre am cI S (1 : Int32)) (cwV 1 hts gX7_canAsk_X7_isFine rfl rfl rfl (by decide +kernel) ⟨Nat.le_of_ble_eq_true rfl, Nat.le_of_ble_eq_true rfl⟩) ⟨qm_blind, va_recv hK hP (ci := 7) (q0 := (pre.length + 0)) rfl mg_0, fun U hU hW => ⟨rfl, qm_go hA hS hP hK hD hU hW⟩⟩ rfl rfl hl.1 rfl (lv_room (Nat.le_of_ble_eq_true rfl)) dX7_canAsk_41 ⟨Nat.le_of_ble_eq_true rfl, Nat.le_of_ble_eq_true rfl⟩) hS (fun _ _ h9 => h9) (fun _ h9 => h9) (fun v u t H1 locs1 ht hvm hw hB hz1 hk1 hS => ?_)
    obtain ⟨hw1, hw2⟩ := hw
    have hw1 : (if (1 : Int32) = 0 then 1 else 0) = v := hw1.symm
    have hw2 : mm_th S (1 : Int32) = u := hw2.symm
    subst hw1
    subst hw2
    obtain ⟨hP, hD⟩ := qm_bk ht hB
    rw [if_neg (show ¬ (1 : Int32) = 0 by decide)]
    have h := Option.some.inj h
    subst h
    exact W.zret (v := (0 : Int32)) hx hb hr rfl (fun t ht hW => ⟨⟨(0 : Int32), mm_th S (1 : Int32), rfl, ⟨rfl, rfl⟩, qm_en ht hP hD⟩, hS.F ht⟩) hS.2.2 dX7_canAsk_44
noncomputable def fX7_rankOf (S : mm_M) (p0 : Int32) (p1 : Int32) : Option (Int32) :=
  qm_gd (vp_in p0 4) ((if (1 : Int32) ≤ (((p1 * ((S.1 1) p0.toNatClampNeg)) + (999 : Int32)) / (1000 : Int32)) then some (((p1 * ((S.1 1) p0.toNatClampNeg)) + (999 : Int32)) / (1000 : Int32)) else some (1 : Int32)))
set_option maxHeartbeats 4000000 in
set_option maxRecDepth 100000 in
theorem kX7_rankOf (l : Launch) (D : va_G) (A : Nat → Prop) (pre : va_W) (am : Nat → Nat) (cI : ClassId) (S : mm_M) (p0 : Int32) (p1 : Int32) (z : Int32) (h : fX7_rankOf S p0 p1 = some z) : Met l yX7_rankOf wsX7_rankOf ({ frames := 0, cells := 0, slots := 0, locals := 0 }) (va_Pc [.ref (am 0), .int p0, .int p1] (qm_B D A (mm_T cI) (mm_W pre am cI S))) (qm_Qi D A (mm_W pre am cI) (z, S)) 0 0 A := by
  refine Met.ofW (cc := cX7_rankOf) (maxL := 4) (ret := (some .int)) (by decide) rfl ?_
  intro p e s m args below meth c s₁ B hml hv
  obtain ⟨rfl, hA, hP, hK, hD⟩ := hv
  have hx := B.exec
  have hb := B.bytes
  have hr := B.returns
  have hts := atoms_spec (ws := wsX7_rankOf) B.pre
  have hown : s.vm.findClass RX7 = some m.cls := findClass_of_methodNamed B.named
  have hlocks := B.notSynchronized
  have hS : va_S A s.heap s.heap [] := va_S.rf
  have hl := lv_entry ([.ref (am 0), .int p0, .int p1]) (n := 4) (Nat.le_of_ble_eq_true rfl)
  rw [lg_entry_eq]
  generalize (lg_sl ([.ref (am 0), .int p0, .int p1]) ++ List.replicate (4 - (lg_sl ([.ref (am 0), .int p0, .int p1])).length) Slot.unset).toArray = ls at hl ⊢
  have hl : lv_has ls 4 [(0, .ref (am 0)), (1, .int p0), (2, .int p1)] := hl
  rw [fX7_rankOf] at h
  refine lv_iload_n hx hb dX7_rankOf_0 rfl (lv_at hl 2 rfl) ?_
  refine lv_aload_n hx hb dX7_rankOf_1 rfl (lv_at hl 0 rfl) ?_
  refine va_get (D := D) (ci := 7) (v := .ref (am 2)) (C := RX7) (T := TX7) (N := 11) hx hb hts (by decide +kernel) hown hK hP (pre.length + 0) mg_0 rfl 1 (by decide) (hts (.fieldLink RX7 13 "QueueMiddlesModel" "count" "[I") (by decide +kernel)) (fun _ h9 => h9) rfl dX7_rankOf_2 ?_
  refine lv_iload_n hx hb dX7_rankOf_5 rfl (lv_at hl 1 rfl) ?_
  obtain ⟨g_1, h⟩ := qm_gd_some h
  refine va_iald hx hb hK hP (pre.length + 2) 0 mg_2 rfl g_1 dX7_rankOf_6 ?_
  refine lv_imul hx hb dX7_rankOf_7 ?_
  refine lv_sipush (v := (999 : Int32)) hx hb dX7_rankOf_8 (by decide) ?_
  refine lv_iadd hx hb dX7_rankOf_11 ?_
  refine lv_sipush (v := (1000 : Int32)) hx hb dX7_rankOf_12 (by decide) ?_
  refine lv_idiv hx hb dX7_rankOf_15 (by decide) ?_
  refine lv_istore_n (lv' := [(3, .int (((p1 * ((S.1 1) p0.toNatClampNeg)) + (999 : Int32)) / (1000 : Int32))), (0, .ref (am 0)), (1, .int p0), (2, .int p1)]) hx hb dX7_rankOf_16 rfl hl (by decide) rfl (fun ls hl => ?_)
  refine lv_iload_n hx hb dX7_rankOf_17 rfl (lv_at hl 0 rfl) ?_
  refine lv_iconst (v := (1 : Int32)) hx hb dX7_rankOf_18 (by decide) ?_
  refine lv_icmp_ge (tgt := 26) hx hb dX7_rankOf_19 (by decide) (fun c_2 => ?_) (fun c_2 => ?_)
  · rw [if_pos c_2] at h
    refine lv_iload_n hx hb dX7_rankOf_26 rfl (lv_at hl 0 rfl) ?_
    have h := Option.some.inj h
    subst h
    exact W.iret (v := ((p1 * ((S.1 1) p0.toNatClampNeg)) + (999 : Int32)) / (1000 : Int32)) hx hb hr (fun t ht hW => ⟨⟨((p1 * ((S.1 1) p0.toNatClampNeg)) + (999 : Int32)) / (1000 : Int32), S, rfl, ⟨rfl, rfl⟩, qm_en ht hP hD⟩, hS.F ht⟩) hS.2.2 dX7_rankOf_27
  · rw [if_neg c_2] at h
    refine lv_iconst (v := (1 : Int32)) hx hb dX7_rankOf_22 (by decide) ?_
    refine lv_goto (tgt := 27) hx hb dX7_rankOf_23 (by decide) ?_
    have h := Option.some.inj h
    subst h
    exact W.iret (v := (1 : Int32)) hx hb hr (fun t ht hW => ⟨⟨(1 : Int32), S, rfl, ⟨rfl, rfl⟩, qm_en ht hP hD⟩, hS.F ht⟩) hS.2.2 dX7_rankOf_27
noncomputable def fX7_offAt (S : mm_M) (p0 : Int32) (p1 : Int32) : Option (Int32) :=
  qm_gd (vp_in p0 2400) (qm_gd (vp_in p0 2400) ((if (p1 - ((S.1 5) p0.toNatClampNeg)) ≤ (((S.1 6) p0.toNatClampNeg) - p1) then some (((S.1 6) p0.toNatClampNeg) - p1) else some (p1 - ((S.1 5) p0.toNatClampNeg)))))
set_option maxHeartbeats 4000000 in
set_option maxRecDepth 100000 in
theorem kX7_offAt (l : Launch) (D : va_G) (A : Nat → Prop) (pre : va_W) (am : Nat → Nat) (cI : ClassId) (S : mm_M) (p0 : Int32) (p1 : Int32) (z : Int32) (h : fX7_offAt S p0 p1 = some z) : Met l yX7_offAt wsX7_offAt ({ frames := 0, cells := 0, slots := 0, locals := 0 }) (va_Pc [.ref (am 0), .int p0, .int p1] (qm_B D A (mm_T cI) (mm_W pre am cI S))) (qm_Qi D A (mm_W pre am cI) (z, S)) 0 0 A := by
  refine Met.ofW (cc := cX7_offAt) (maxL := 5) (ret := (some .int)) (by decide) rfl ?_
  intro p e s m args below meth c s₁ B hml hv
  obtain ⟨rfl, hA, hP, hK, hD⟩ := hv
  have hx := B.exec
  have hb := B.bytes
  have hr := B.returns
  have hts := atoms_spec (ws := wsX7_offAt) B.pre
  have hown : s.vm.findClass RX7 = some m.cls := findClass_of_methodNamed B.named
  have hlocks := B.notSynchronized
  have hS : va_S A s.heap s.heap [] := va_S.rf
  have hl := lv_entry ([.ref (am 0), .int p0, .int p1]) (n := 5) (Nat.le_of_ble_eq_true rfl)
  rw [lg_entry_eq]
  generalize (lg_sl ([.ref (am 0), .int p0, .int p1]) ++ List.replicate (5 - (lg_sl ([.ref (am 0), .int p0, .int p1])).length) Slot.unset).toArray = ls at hl ⊢
  have hl : lv_has ls 5 [(0, .ref (am 0)), (1, .int p0), (2, .int p1)] := hl
  rw [fX7_offAt] at h
  refine lv_iload_n hx hb dX7_offAt_0 rfl (lv_at hl 2 rfl) ?_
  refine lv_aload_n hx hb dX7_offAt_1 rfl (lv_at hl 0 rfl) ?_
  refine va_get (D := D) (ci := 7) (v := .ref (am 6)) (C := RX7) (T := TX7) (N := 11) hx hb hts (by decide +kernel) hown hK hP (pre.length + 0) mg_0 rfl 5 (by decide) (hts (.fieldLink RX7 25 "QueueMiddlesModel" "lowest" "[I") (by decide +kernel)) (fun _ h9 => h9) rfl dX7_offAt_2 ?_
  refine lv_iload_n hx hb dX7_offAt_5 rfl (lv_at hl 1 rfl) ?_
  obtain ⟨g_1, h⟩ := qm_gd_some h
  refine va_iald hx hb hK hP (pre.length + 6) 0 mg_6 rfl g_1 dX7_offAt_6 ?_
  refine lv_isub hx hb dX7_offAt_7 ?_
  refine lv_istore_n (lv' := [(3, .int (p1 - ((S.1 5) p0.toNatClampNeg))), (0, .ref (am 0)), (1, .int p0), (2, .int p1)]) hx hb dX7_offAt_8 rfl hl (by decide) rfl (fun ls hl => ?_)
  refine lv_aload_n hx hb dX7_offAt_9 rfl (lv_at hl 1 rfl) ?_
  refine va_get (D := D) (ci := 7) (v := .ref (am 7)) (C := RX7) (T := TX7) (N := 11) hx hb hts (by decide +kernel) hown hK hP (pre.length + 0) mg_0 rfl 6 (by decide) (hts (.fieldLink RX7 28 "QueueMiddlesModel" "highest" "[I") (by decide +kernel)) (fun _ h9 => h9) rfl dX7_offAt_10 ?_
  refine lv_iload_n hx hb dX7_offAt_13 rfl (lv_at hl 2 rfl) ?_
  obtain ⟨g_2, h⟩ := qm_gd_some h
  refine va_iald hx hb hK hP (pre.length + 7) 0 mg_7 rfl g_2 dX7_offAt_14 ?_
  refine lv_iload_n hx hb dX7_offAt_15 rfl (lv_at hl 3 rfl) ?_
  refine lv_isub hx hb dX7_offAt_16 ?_
  refine lv_istore (lv' := [(4, .int (((S.1 6) p0.toNatClampNeg) - p1)), (3, .int (p1 - ((S.1 5) p0.toNatClampNeg))), (0, .ref (am 0)), (1, .int p0), (2, .int p1)]) hx hb dX7_offAt_17 hl (by decide) rfl (fun ls hl => ?_)
  refine lv_iload_n hx hb dX7_offAt_19 rfl (lv_at hl 1 rfl) ?_
  refine lv_iload hx hb dX7_offAt_20 (lv_at hl 0 rfl) ?_
  refine lv_icmp_le (tgt := 29) hx hb dX7_offAt_22 (by decide) (fun c_3 => ?_) (fun c_3 => ?_)
  · rw [if_pos c_3] at h
    refine lv_iload hx hb dX7_offAt_29 (lv_at hl 0 rfl) ?_
    have h := Option.some.inj h
    subst h
    exact W.iret (v := ((S.1 6) p0.toNatClampNeg) - p1) hx hb hr (fun t ht hW => ⟨⟨((S.1 6) p0.toNatClampNeg) - p1, S, rfl, ⟨rfl, rfl⟩, qm_en ht hP hD⟩, hS.F ht⟩) hS.2.2 dX7_offAt_31
  · rw [if_neg c_3] at h
    refine lv_iload_n hx hb dX7_offAt_25 rfl (lv_at hl 1 rfl) ?_
    refine lv_goto (tgt := 31) hx hb dX7_offAt_26 (by decide) ?_
    have h := Option.some.inj h
    subst h
    exact W.iret (v := p1 - ((S.1 5) p0.toNatClampNeg)) hx hb hr (fun t ht hW => ⟨⟨p1 - ((S.1 5) p0.toNatClampNeg), S, rfl, ⟨rfl, rfl⟩, qm_en ht hP hD⟩, hS.F ht⟩) hS.2.2 dX7_offAt_31
noncomputable def fX7_answer_L11 (x1 : Int32) (x2 : Int32) : Nat → Int32 → Int32 → mm_M → Option (Int32)
  | 0, _, _, _ => none
  | fuel + 1, v3, v4, S =>
    qm_gd (vp_in x1 4) ((if (((600 : Int32) * x1) + ((S.1 2) x1.toNatClampNeg)) ≤ v4 then some v3 else Option.bind (fX7_offAt S v4 x2) (fun z_3 => Option.bind (fX7_offAt S v3 x2) (fun z_5 => (if z_5 ≤ z_3 then fX7_answer_L11 x1 x2 fuel v3 (v4 + (1 : Int32)) S else fX7_answer_L11 x1 x2 fuel v4 (v4 + (1 : Int32)) S)))))
noncomputable def fX7_answer (S : mm_M) (p0 : Int32) (p1 : Int32) : Option (Int32) :=
  Option.bind (fX7_answer_L11 p0 p1 qm_F ((600 : Int32) * p0) (((600 : Int32) * p0) + (1 : Int32)) S) (fun z_10 => some z_10)
set_option maxHeartbeats 4000000 in
set_option maxRecDepth 100000 in
theorem kX7_answer (l : Launch) (D : va_G) (A : Nat → Prop) (pre : va_W) (am : Nat → Nat) (cI : ClassId) (S : mm_M) (p0 : Int32) (p1 : Int32) (z : Int32) (h : fX7_answer S p0 p1 = some z) : Met l yX7_answer wsX7_answer ({ frames := 1, cells := 0, slots := 0, locals := 24 }) (va_Pc [.ref (am 0), .int p0, .int p1] (qm_B D A (mm_T cI) (mm_W pre am cI S))) (qm_Qi D A (mm_W pre am cI) (z, S)) 0 0 A := by
  refine Met.ofW (cc := cX7_answer) (maxL := 5) (ret := (some .int)) (by decide) rfl ?_
  intro p e s m args below meth c s₁ B hml hv
  obtain ⟨rfl, hA, hP, hK, hD⟩ := hv
  have hx := B.exec
  have hb := B.bytes
  have hr := B.returns
  have hts := atoms_spec (ws := wsX7_answer) B.pre
  have hown : s.vm.findClass RX7 = some m.cls := findClass_of_methodNamed B.named
  have hlocks := B.notSynchronized
  have hS : va_S A s.heap s.heap [] := va_S.rf
  have hl := lv_entry ([.ref (am 0), .int p0, .int p1]) (n := 5) (Nat.le_of_ble_eq_true rfl)
  rw [lg_entry_eq]
  generalize (lg_sl ([.ref (am 0), .int p0, .int p1]) ++ List.replicate (5 - (lg_sl ([.ref (am 0), .int p0, .int p1])).length) Slot.unset).toArray = ls at hl ⊢
  have hl : lv_has ls 5 [(0, .ref (am 0)), (1, .int p0), (2, .int p1)] := hl
  obtain ⟨QX, hQX⟩ : ∃ q, q = MQ below (qm_Qi D A (mm_W pre am cI) (z, S)) ([.ref (am 0), .int p0, .int p1] : List Value).toArray s 0 0 A := ⟨_, rfl⟩
  rw [← hQX]
  rw [fX7_answer] at h
  refine lv_sipush (v := (600 : Int32)) hx hb dX7_answer_0 (by decide) ?_
  refine lv_iload_n hx hb dX7_answer_3 rfl (lv_at hl 1 rfl) ?_
  refine lv_imul hx hb dX7_answer_4 ?_
  refine lv_istore_n (lv' := [(3, .int ((600 : Int32) * p0)), (0, .ref (am 0)), (1, .int p0), (2, .int p1)]) hx hb dX7_answer_5 rfl hl (by decide) rfl (fun ls hl => ?_)
  refine lv_iload_n hx hb dX7_answer_6 rfl (lv_at hl 0 rfl) ?_
  refine lv_iconst (v := (1 : Int32)) hx hb dX7_answer_7 (by decide) ?_
  refine lv_iadd hx hb dX7_answer_8 ?_
  refine lv_istore (lv' := [(4, .int (((600 : Int32) * p0) + (1 : Int32))), (3, .int ((600 : Int32) * p0)), (0, .ref (am 0)), (1, .int p0), (2, .int p1)]) hx hb dX7_answer_9 hl (by decide) rfl (fun ls hl => ?_)
  have loop_2 : ∀ (fuel : Nat) (v3_1 v4_1 : Int32) (z : Int32), fX7_answer_L11 p0 p1 fuel v3_1 v4_1 S = some z → ∀ (H : Heap) (locs : List Loc) (ls : Array Slot), va_P D vwCl (mm_W pre am cI S) H → va_D A (mm_W pre am cI S) → va_S A s.heap H locs → lv_has ls 5 [(0, .ref (am 0)), (1, .int p0), (2, .int p1), (3, .int v3_1), (4, .int v4_1)] → (∀ (H : Heap) (locs : List Loc) (ls : Array Slot), va_P D vwCl (mm_W pre am cI S) H → va_D A (mm_W pre am cI S) → va_S A s.heap H locs → lv_has ls 5 [(3, .int z)] → W p l e ({ frames := 1, cells := 0, slots := 0, locals := 24 } : Room) s m ([.ref (am 0), .int p0, .int p1] : List Value).toArray below meth c H locs 0 0 QX (F0 m 57 ls [])) → W p l e ({ frames := 1, cells := 0, slots := 0, locals := 24 } : Room) s m ([.ref (am 0), .int p0, .int p1] : List Value).toArray below meth c H locs 0 0 QX (F0 m 11 ls []) := by
    intro fuel
    induction fuel with
    | zero =>
      intro v3_1 v4_1 z h
      rw [fX7_answer_L11] at h
      cases h
    | succ fuel ih =>
      intro v3_1 v4_1 z h H locs ls hP hD hS hl kex
      rw [fX7_answer_L11] at h
      refine lv_iload hx hb dX7_answer_11 (lv_at hl 4 rfl) ?_
      refine lv_sipush (v := (600 : Int32)) hx hb dX7_answer_13 (by decide) ?_
      refine lv_iload_n hx hb dX7_answer_16 rfl (lv_at hl 1 rfl) ?_
      refine lv_imul hx hb dX7_answer_17 ?_
      refine lv_aload_n hx hb dX7_answer_18 rfl (lv_at hl 0 rfl) ?_
      refine va_get (D := D) (ci := 7) (v := .ref (am 3)) (C := RX7) (T := TX7) (N := 11) hx hb hts (by decide +kernel) hown hK hP (pre.length + 0) mg_0 rfl 2 (by decide) (hts (.fieldLink RX7 16 "QueueMiddlesModel" "marks" "[I") (by decide +kernel)) (fun _ h9 => h9) rfl dX7_answer_19 ?_
      refine lv_iload_n hx hb dX7_answer_22 rfl (lv_at hl 1 rfl) ?_
      obtain ⟨g_3, h⟩ := qm_gd_some h
      refine va_iald hx hb hK hP (pre.length + 3) 0 mg_3 rfl g_3 dX7_answer_23 ?_
      refine lv_iadd hx hb dX7_answer_24 ?_
      refine lv_icmp_ge (tgt := 57) hx hb dX7_answer_25 (by decide) (fun c_4 => ?_) (fun c_4 => ?_)
      · rw [if_pos c_4] at h
        have h := Option.some.inj h
        subst h
        exact kex _ _ _ hP hD hS (lv_sub hl [3] rfl)
      · rw [if_neg c_4] at h
        refine lv_aload_n hx hb dX7_answer_28 rfl (lv_at hl 0 rfl) ?_
        refine lv_iload hx hb dX7_answer_29 (lv_at hl 4 rfl) ?_
        refine lv_iload_n hx hb dX7_answer_31 rfl (lv_at hl 2 rfl) ?_
        obtain ⟨z_5, hz_6, h⟩ := qm_bind h
        refine va_calli (va_runV (As := [.int v4_1, .int p1]) (rest := []) ⟨hx, hb, hml, hown, hts⟩ (kX7_offAt l D A pre am cI S v4_1 p1 z_5 hz_6) (cwV 2 hts gX7_answer_X7_offAt rfl rfl rfl (by decide +kernel) ⟨Nat.le_of_ble_eq_true rfl, Nat.le_of_ble_eq_true rfl⟩) ⟨qm_blind, va_recv hK hP (ci := 7) (q0 := (pre.length + 0)) rfl mg_0, fun U hU hW => ⟨rfl, qm_go hA hS hP hK hD hU hW⟩⟩ rfl rfl hl.1 rfl (lv_room (Nat.le_of_ble_eq_true rfl)) dX7_answer_32 ⟨Nat.le_of_ble_eq_true rfl, Nat.le_of_ble_eq_true rfl⟩) hS (fun _ _ h9 => h9) (fun _ h9 => h9) (fun v u t H1 locs1 ht hvm hw hB hz1 hk1 hS => ?_)
        obtain ⟨hw1, hw2⟩ := hw
        have hw1 : z_5 = v := hw1.symm
        have hw2 : S = u := hw2.symm
        subst hw1
        subst hw2
        obtain ⟨hP, hD⟩ := qm_bk ht hB
        refine lv_aload_n hx hb dX7_answer_35 rfl (lv_at hl 0 rfl) ?_
        refine lv_iload_n hx hb dX7_answer_36 rfl (lv_at hl 3 rfl) ?_
        refine lv_iload_n hx hb dX7_answer_37 rfl (lv_at hl 2 rfl) ?_
        obtain ⟨z_7, hz_8, h⟩ := qm_bind h
        refine va_calli (va_runV (As := [.int v3_1, .int p1]) (rest := [.int z_5]) ⟨hx, hb, hml, hown, hts⟩ (kX7_offAt l D A pre am cI S v3_1 p1 z_7 hz_8) (cwV 2 hts gX7_answer_X7_offAt rfl rfl rfl (by decide +kernel) ⟨Nat.le_of_ble_eq_true rfl, Nat.le_of_ble_eq_true rfl⟩) ⟨qm_blind, va_recv hK hP (ci := 7) (q0 := (pre.length + 0)) rfl mg_0, fun U hU hW => ⟨rfl, qm_go hA hS hP hK hD hU hW⟩⟩ rfl rfl hl.1 rfl (lv_room (Nat.le_of_ble_eq_true rfl)) dX7_answer_38 ⟨Nat.le_of_ble_eq_true rfl, Nat.le_of_ble_eq_true rfl⟩) hS (fun _ _ h9 => h9) (fun _ h9 => h9) (fun v u t H1 locs1 ht hvm hw hB hz1 hk1 hS => ?_)
        obtain ⟨hw1, hw2⟩ := hw
        have hw1 : z_7 = v := hw1.symm
        have hw2 : S = u := hw2.symm
        subst hw1
        subst hw2
        obtain ⟨hP, hD⟩ := qm_bk ht hB
        refine lv_icmp_ge (tgt := 49) hx hb dX7_answer_41 (by decide) (fun c_9 => ?_) (fun c_9 => ?_)
        · rw [if_pos c_9] at h
          refine lv_iload_n hx hb dX7_answer_49 rfl (lv_at hl 3 rfl) ?_
          refine lv_istore_n (lv' := [(3, .int v3_1), (0, .ref (am 0)), (1, .int p0), (2, .int p1), (4, .int v4_1)]) hx hb dX7_answer_50 rfl hl (by decide) rfl (fun ls hl => ?_)
          refine lv_iinc (v := v4_1 + (1 : Int32)) (lv' := [(4, .int (v4_1 + (1 : Int32))), (3, .int v3_1), (0, .ref (am 0)), (1, .int p0), (2, .int p1)]) hx hb dX7_answer_51 hl (k := 4) rfl rfl (by decide) rfl (fun ls hl => ?_)
          refine lv_goto (tgt := 11) hx hb dX7_answer_54 (by decide) ?_
          exact ih v3_1 (v4_1 + (1 : Int32))  z h _ _ _ hP hD hS (lv_sub hl [2, 3, 4, 1, 0] rfl) kex
        · rw [if_neg c_9] at h
          refine lv_iload hx hb dX7_answer_44 (lv_at hl 4 rfl) ?_
          refine lv_goto (tgt := 50) hx hb dX7_answer_46 (by decide) ?_
          refine lv_istore_n (lv' := [(3, .int v4_1), (0, .ref (am 0)), (1, .int p0), (2, .int p1), (4, .int v4_1)]) hx hb dX7_answer_50 rfl hl (by decide) rfl (fun ls hl => ?_)
          refine lv_iinc (v := v4_1 + (1 : Int32)) (lv' := [(4, .int (v4_1 + (1 : Int32))), (3, .int v4_1), (0, .ref (am 0)), (1, .int p0), (2, .int p1)]) hx hb dX7_answer_51 hl (k := 4) rfl rfl (by decide) rfl (fun ls hl => ?_)
          refine lv_goto (tgt := 11) hx hb dX7_answer_54 (by decide) ?_
          exact ih v4_1 (v4_1 + (1 : Int32))  z h _ _ _ hP hD hS (lv_sub hl [2, 3, 4, 1, 0] rfl) kex
  obtain ⟨z_10, hz_11, h⟩ := qm_bind h
  refine loop_2 qm_F ((600 : Int32) * p0) (((600 : Int32) * p0) + (1 : Int32)) z_10 hz_11 _ _ _ hP hD hS (lv_sub hl [2, 3, 4, 1, 0] rfl) (fun H locs ls hP hD hS hl => ?_)
  refine lv_iload_n hx hb dX7_answer_57 rfl (lv_at hl 0 rfl) ?_
  have h := Option.some.inj h
  subst h
  rw [hQX]
  exact W.iret (v := z_10) hx hb hr (fun t ht hW => ⟨⟨z_10, S, rfl, ⟨rfl, rfl⟩, qm_en ht hP hD⟩, hS.F ht⟩) hS.2.2 dX7_answer_58
noncomputable def fX7_upTo_L5 (x1 : Int32) (x2 : Int32) : Nat → Int32 → Int32 → mm_M → Option (Int32)
  | 0, _, _, _ => none
  | fuel + 1, v3, v4, S =>
    qm_gd (vp_in x1 4) ((if ((S.1 1) x1.toNatClampNeg) ≤ v4 then some v3 else qm_gd (vp_in (((600 : Int32) * x1) + v4) 2400) ((if x2 < ((S.1 3) (((600 : Int32) * x1) + v4).toNatClampNeg) then fX7_upTo_L5 x1 x2 fuel (v3 + (0 : Int32)) (v4 + (1 : Int32)) S else fX7_upTo_L5 x1 x2 fuel (v3 + (1 : Int32)) (v4 + (1 : Int32)) S))))
noncomputable def fX7_upTo (S : mm_M) (p0 : Int32) (p1 : Int32) : Option (Int32) :=
  Option.bind (fX7_upTo_L5 p0 p1 qm_F (0 : Int32) (0 : Int32) S) (fun z_7 => some z_7)
set_option maxHeartbeats 4000000 in
set_option maxRecDepth 100000 in
theorem kX7_upTo (l : Launch) (D : va_G) (A : Nat → Prop) (pre : va_W) (am : Nat → Nat) (cI : ClassId) (S : mm_M) (p0 : Int32) (p1 : Int32) (z : Int32) (h : fX7_upTo S p0 p1 = some z) : Met l yX7_upTo wsX7_upTo ({ frames := 0, cells := 0, slots := 0, locals := 0 }) (va_Pc [.ref (am 0), .int p0, .int p1] (qm_B D A (mm_T cI) (mm_W pre am cI S))) (qm_Qi D A (mm_W pre am cI) (z, S)) 0 0 A := by
  refine Met.ofW (cc := cX7_upTo) (maxL := 5) (ret := (some .int)) (by decide) rfl ?_
  intro p e s m args below meth c s₁ B hml hv
  obtain ⟨rfl, hA, hP, hK, hD⟩ := hv
  have hx := B.exec
  have hb := B.bytes
  have hr := B.returns
  have hts := atoms_spec (ws := wsX7_upTo) B.pre
  have hown : s.vm.findClass RX7 = some m.cls := findClass_of_methodNamed B.named
  have hlocks := B.notSynchronized
  have hS : va_S A s.heap s.heap [] := va_S.rf
  have hl := lv_entry ([.ref (am 0), .int p0, .int p1]) (n := 5) (Nat.le_of_ble_eq_true rfl)
  rw [lg_entry_eq]
  generalize (lg_sl ([.ref (am 0), .int p0, .int p1]) ++ List.replicate (5 - (lg_sl ([.ref (am 0), .int p0, .int p1])).length) Slot.unset).toArray = ls at hl ⊢
  have hl : lv_has ls 5 [(0, .ref (am 0)), (1, .int p0), (2, .int p1)] := hl
  obtain ⟨QX, hQX⟩ : ∃ q, q = MQ below (qm_Qi D A (mm_W pre am cI) (z, S)) ([.ref (am 0), .int p0, .int p1] : List Value).toArray s 0 0 A := ⟨_, rfl⟩
  rw [← hQX]
  rw [fX7_upTo] at h
  refine lv_iconst (v := (0 : Int32)) hx hb dX7_upTo_0 (by decide) ?_
  refine lv_istore_n (lv' := [(3, .int (0 : Int32)), (0, .ref (am 0)), (1, .int p0), (2, .int p1)]) hx hb dX7_upTo_1 rfl hl (by decide) rfl (fun ls hl => ?_)
  refine lv_iconst (v := (0 : Int32)) hx hb dX7_upTo_2 (by decide) ?_
  refine lv_istore (lv' := [(4, .int (0 : Int32)), (3, .int (0 : Int32)), (0, .ref (am 0)), (1, .int p0), (2, .int p1)]) hx hb dX7_upTo_3 hl (by decide) rfl (fun ls hl => ?_)
  have loop_2 : ∀ (fuel : Nat) (v3_1 v4_1 : Int32) (z : Int32), fX7_upTo_L5 p0 p1 fuel v3_1 v4_1 S = some z → ∀ (H : Heap) (locs : List Loc) (ls : Array Slot), va_P D vwCl (mm_W pre am cI S) H → va_D A (mm_W pre am cI S) → va_S A s.heap H locs → lv_has ls 5 [(0, .ref (am 0)), (1, .int p0), (2, .int p1), (3, .int v3_1), (4, .int v4_1)] → (∀ (H : Heap) (locs : List Loc) (ls : Array Slot), va_P D vwCl (mm_W pre am cI S) H → va_D A (mm_W pre am cI S) → va_S A s.heap H locs → lv_has ls 5 [(3, .int z)] → W p l e ({ frames := 0, cells := 0, slots := 0, locals := 0 } : Room) s m ([.ref (am 0), .int p0, .int p1] : List Value).toArray below meth c H locs 0 0 QX (F0 m 47 ls [])) → W p l e ({ frames := 0, cells := 0, slots := 0, locals := 0 } : Room) s m ([.ref (am 0), .int p0, .int p1] : List Value).toArray below meth c H locs 0 0 QX (F0 m 5 ls []) := by
    intro fuel
    induction fuel with
    | zero =>
      intro v3_1 v4_1 z h
      rw [fX7_upTo_L5] at h
      cases h
    | succ fuel ih =>
      intro v3_1 v4_1 z h H locs ls hP hD hS hl kex
      rw [fX7_upTo_L5] at h
      refine lv_iload hx hb dX7_upTo_5 (lv_at hl 4 rfl) ?_
      refine lv_aload_n hx hb dX7_upTo_7 rfl (lv_at hl 0 rfl) ?_
      refine va_get (D := D) (ci := 7) (v := .ref (am 2)) (C := RX7) (T := TX7) (N := 11) hx hb hts (by decide +kernel) hown hK hP (pre.length + 0) mg_0 rfl 1 (by decide) (hts (.fieldLink RX7 13 "QueueMiddlesModel" "count" "[I") (by decide +kernel)) (fun _ h9 => h9) rfl dX7_upTo_8 ?_
      refine lv_iload_n hx hb dX7_upTo_11 rfl (lv_at hl 1 rfl) ?_
      obtain ⟨g_3, h⟩ := qm_gd_some h
      refine va_iald hx hb hK hP (pre.length + 2) 0 mg_2 rfl g_3 dX7_upTo_12 ?_
      refine lv_icmp_ge (tgt := 47) hx hb dX7_upTo_13 (by decide) (fun c_4 => ?_) (fun c_4 => ?_)
      · rw [if_pos c_4] at h
        have h := Option.some.inj h
        subst h
        exact kex _ _ _ hP hD hS (lv_sub hl [3] rfl)
      · rw [if_neg c_4] at h
        refine lv_iload_n hx hb dX7_upTo_16 rfl (lv_at hl 3 rfl) ?_
        refine lv_aload_n hx hb dX7_upTo_17 rfl (lv_at hl 0 rfl) ?_
        refine va_get (D := D) (ci := 7) (v := .ref (am 4)) (C := RX7) (T := TX7) (N := 11) hx hb hts (by decide +kernel) hown hK hP (pre.length + 0) mg_0 rfl 3 (by decide) (hts (.fieldLink RX7 19 "QueueMiddlesModel" "numbers" "[I") (by decide +kernel)) (fun _ h9 => h9) rfl dX7_upTo_18 ?_
        refine lv_sipush (v := (600 : Int32)) hx hb dX7_upTo_21 (by decide) ?_
        refine lv_iload_n hx hb dX7_upTo_24 rfl (lv_at hl 1 rfl) ?_
        refine lv_imul hx hb dX7_upTo_25 ?_
        refine lv_iload hx hb dX7_upTo_26 (lv_at hl 4 rfl) ?_
        refine lv_iadd hx hb dX7_upTo_28 ?_
        obtain ⟨g_5, h⟩ := qm_gd_some h
        refine va_iald hx hb hK hP (pre.length + 4) 0 mg_4 rfl g_5 dX7_upTo_29 ?_
        refine lv_iload_n hx hb dX7_upTo_30 rfl (lv_at hl 2 rfl) ?_
        refine lv_icmp_gt (tgt := 38) hx hb dX7_upTo_31 (by decide) (fun c_6 => ?_) (fun c_6 => ?_)
        · rw [if_pos c_6] at h
          refine lv_iconst (v := (0 : Int32)) hx hb dX7_upTo_38 (by decide) ?_
          refine lv_iadd hx hb dX7_upTo_39 ?_
          refine lv_istore_n (lv' := [(3, .int (v3_1 + (0 : Int32))), (0, .ref (am 0)), (1, .int p0), (2, .int p1), (4, .int v4_1)]) hx hb dX7_upTo_40 rfl hl (by decide) rfl (fun ls hl => ?_)
          refine lv_iinc (v := v4_1 + (1 : Int32)) (lv' := [(4, .int (v4_1 + (1 : Int32))), (3, .int (v3_1 + (0 : Int32))), (0, .ref (am 0)), (1, .int p0), (2, .int p1)]) hx hb dX7_upTo_41 hl (k := 4) rfl rfl (by decide) rfl (fun ls hl => ?_)
          refine lv_goto (tgt := 5) hx hb dX7_upTo_44 (by decide) ?_
          exact ih (v3_1 + (0 : Int32)) (v4_1 + (1 : Int32))  z h _ _ _ hP hD hS (lv_sub hl [2, 3, 4, 1, 0] rfl) kex
        · rw [if_neg c_6] at h
          refine lv_iconst (v := (1 : Int32)) hx hb dX7_upTo_34 (by decide) ?_
          refine lv_goto (tgt := 39) hx hb dX7_upTo_35 (by decide) ?_
          refine lv_iadd hx hb dX7_upTo_39 ?_
          refine lv_istore_n (lv' := [(3, .int (v3_1 + (1 : Int32))), (0, .ref (am 0)), (1, .int p0), (2, .int p1), (4, .int v4_1)]) hx hb dX7_upTo_40 rfl hl (by decide) rfl (fun ls hl => ?_)
          refine lv_iinc (v := v4_1 + (1 : Int32)) (lv' := [(4, .int (v4_1 + (1 : Int32))), (3, .int (v3_1 + (1 : Int32))), (0, .ref (am 0)), (1, .int p0), (2, .int p1)]) hx hb dX7_upTo_41 hl (k := 4) rfl rfl (by decide) rfl (fun ls hl => ?_)
          refine lv_goto (tgt := 5) hx hb dX7_upTo_44 (by decide) ?_
          exact ih (v3_1 + (1 : Int32)) (v4_1 + (1 : Int32))  z h _ _ _ hP hD hS (lv_sub hl [2, 3, 4, 1, 0] rfl) kex
  obtain ⟨z_7, hz_8, h⟩ := qm_bind h
  refine loop_2 qm_F (0 : Int32) (0 : Int32) z_7 hz_8 _ _ _ hP hD hS (lv_sub hl [2, 3, 4, 1, 0] rfl) (fun H locs ls hP hD hS hl => ?_)
  refine lv_iload_n hx hb dX7_upTo_47 rfl (lv_at hl 0 rfl) ?_
  have h := Option.some.inj h
  subst h
  rw [hQX]
  exact W.iret (v := z_7) hx hb hr (fun t ht hW => ⟨⟨z_7, S, rfl, ⟨rfl, rfl⟩, qm_en ht hP hD⟩, hS.F ht⟩) hS.2.2 dX7_upTo_48
noncomputable def fX7_half (S : mm_M) (p0 : Int32) : Option (Int32 × mm_M) :=
  (if mo_in p0 0 3 then qm_gd (vp_in p0 4) ((if ((S.1 1) p0.toNatClampNeg) = 0 then some ((0 : Int32), mm_th S (2 : Int32)) else qm_gd (vp_in p0 4) (qm_gd (vp_in ((((600 : Int32) * p0) + (((((mm_th S (0 : Int32)).1 1) p0.toNatClampNeg) + (1 : Int32)) / (2 : Int32))) - (1 : Int32)) 2400) (some (((mm_th S (0 : Int32)).1 3) ((((600 : Int32) * p0) + (((((mm_th S (0 : Int32)).1 1) p0.toNatClampNeg) + (1 : Int32)) / (2 : Int32))) - (1 : Int32)).toNatClampNeg, mm_th S (0 : Int32)))))) else some ((0 : Int32), mm_th S (1 : Int32)))
set_option maxHeartbeats 4000000 in
set_option maxRecDepth 100000 in
theorem kX7_half (l : Launch) (D : va_G) (A : Nat → Prop) (pre : va_W) (am : Nat → Nat) (cI : ClassId) (S : mm_M) (p0 : Int32) (z : Int32 × mm_M) (h : fX7_half S p0 = some z) : Met l yX7_half wsX7_half ({ frames := 2, cells := 0, slots := 0, locals := 42 }) (va_Pc [.ref (am 0), .int p0] (qm_B D A (mm_T cI) (mm_W pre am cI S))) (qm_Qi D A (mm_W pre am cI) z) 0 0 A := by
  refine Met.ofW (cc := cX7_half) (maxL := 2) (ret := (some .int)) (by decide) rfl ?_
  intro p e s m args below meth c s₁ B hml hv
  obtain ⟨rfl, hA, hP, hK, hD⟩ := hv
  have hx := B.exec
  have hb := B.bytes
  have hr := B.returns
  have hts := atoms_spec (ws := wsX7_half) B.pre
  have hown : s.vm.findClass RX7 = some m.cls := findClass_of_methodNamed B.named
  have hlocks := B.notSynchronized
  have hS : va_S A s.heap s.heap [] := va_S.rf
  have hl := lv_entry ([.ref (am 0), .int p0]) (n := 2) (Nat.le_of_ble_eq_true rfl)
  rw [lg_entry_eq]
  generalize (lg_sl ([.ref (am 0), .int p0]) ++ List.replicate (2 - (lg_sl ([.ref (am 0), .int p0])).length) Slot.unset).toArray = ls at hl ⊢
  have hl : lv_has ls 2 [(0, .ref (am 0)), (1, .int p0)] := hl
  rw [fX7_half] at h
  refine lv_aload_n hx hb dX7_half_0 rfl (lv_at hl 0 rfl) ?_
  refine lv_iload_n hx hb dX7_half_1 rfl (lv_at hl 1 rfl) ?_
  refine va_calli (va_runS (As := [.int p0]) (rest := [.ref (am 0)]) ⟨hx, hb, hml, hown, hts⟩ (nX7_isCounter l D A pre am cI S p0) (va_cwS 1 hts gX7_half_X7_isCounter rfl rfl rfl (by decide +kernel) ⟨Nat.le_of_ble_eq_true rfl, Nat.le_of_ble_eq_true rfl⟩) ⟨qm_blind, fun U hU hW => ⟨rfl, qm_go hA hS hP hK hD hU hW⟩⟩ rfl rfl hl.1 rfl (lv_room (Nat.le_of_ble_eq_true rfl)) dX7_half_2 ⟨Nat.le_of_ble_eq_true rfl, Nat.le_of_ble_eq_true rfl⟩) hS (fun _ _ h9 => h9) (fun _ h9 => h9) (fun v u t H1 locs1 ht hvm hw hB hz1 hk1 hS => ?_)
  obtain ⟨hw1, hw2⟩ := hw
  have hw1 : (if mo_in p0 0 3 then 1 else 0) = v := hw1.symm
  have hw2 : S = u := hw2.symm
  subst hw1
  subst hw2
  obtain ⟨hP, hD⟩ := qm_bk ht hB
  by_cases c_1 : mo_in p0 0 3
  · rw [if_pos c_1] at h ⊢
    refine lv_if_ne (tgt := 12) hx hb dX7_half_5 (by decide) (fun _ => ?_) (fun c => absurd c (by decide))
    refine lv_aload_n hx hb dX7_half_12 rfl (lv_at hl 0 rfl) ?_
    refine va_get (D := D) (ci := 7) (v := .ref (am 2)) (C := RX7) (T := TX7) (N := 11) hx hb hts (by decide +kernel) hown hK hP (pre.length + 0) mg_0 rfl 1 (by decide) (hts (.fieldLink RX7 13 "QueueMiddlesModel" "count" "[I") (by decide +kernel)) (fun _ h9 => h9) rfl dX7_half_13 ?_
    refine lv_iload_n hx hb dX7_half_16 rfl (lv_at hl 1 rfl) ?_
    obtain ⟨g_2, h⟩ := qm_gd_some h
    refine va_iald hx hb hK hP (pre.length + 2) 0 mg_2 rfl g_2 dX7_half_17 ?_
    refine lv_if_ne (tgt := 25) hx hb dX7_half_18 (by decide) (fun c_3 => ?_) (fun c_3 => ?_)
    · rw [if_neg c_3] at h
      refine lv_iconst (v := (0 : Int32)) hx hb dX7_half_25 (by decide) ?_
      refine va_calli (va_runV (As := [.int (0 : Int32)]) (rest := []) ⟨hx, hb, hml, hown, hts⟩ (nX7_isFine l D A pre am cI S (0 : Int32)) (cwV 1 hts gX7_half_X7_isFine rfl rfl rfl (by decide +kernel) ⟨Nat.le_of_ble_eq_true rfl, Nat.le_of_ble_eq_true rfl⟩) ⟨qm_blind, va_recv hK hP (ci := 7) (q0 := (pre.length + 0)) rfl mg_0, fun U hU hW => ⟨rfl, qm_go hA hS hP hK hD hU hW⟩⟩ rfl rfl hl.1 rfl (lv_room (Nat.le_of_ble_eq_true rfl)) dX7_half_26 ⟨Nat.le_of_ble_eq_true rfl, Nat.le_of_ble_eq_true rfl⟩) hS (fun _ _ h9 => h9) (fun _ h9 => h9) (fun v u t H1 locs1 ht hvm hw hB hz1 hk1 hS => ?_)
      obtain ⟨hw1, hw2⟩ := hw
      have hw1 : (if (0 : Int32) = 0 then 1 else 0) = v := hw1.symm
      have hw2 : mm_th S (0 : Int32) = u := hw2.symm
      subst hw1
      subst hw2
      obtain ⟨hP, hD⟩ := qm_bk ht hB
      rw [if_pos (show (0 : Int32) = 0 by decide)]
      refine lv_if_ne (tgt := 34) hx hb dX7_half_29 (by decide) (fun _ => ?_) (fun c => absurd c (by decide))
      refine lv_aload_n hx hb dX7_half_34 rfl (lv_at hl 0 rfl) ?_
      refine va_get (D := D) (ci := 7) (v := .ref (am 4)) (C := RX7) (T := TX7) (N := 11) hx hb hts (by decide +kernel) hown hK hP (pre.length + 0) mg_0 rfl 3 (by decide) (hts (.fieldLink RX7 19 "QueueMiddlesModel" "numbers" "[I") (by decide +kernel)) (fun _ h9 => h9) rfl dX7_half_35 ?_
      refine lv_sipush (v := (600 : Int32)) hx hb dX7_half_38 (by decide) ?_
      refine lv_iload_n hx hb dX7_half_41 rfl (lv_at hl 1 rfl) ?_
      refine lv_imul hx hb dX7_half_42 ?_
      refine lv_aload_n hx hb dX7_half_43 rfl (lv_at hl 0 rfl) ?_
      refine va_get (D := D) (ci := 7) (v := .ref (am 2)) (C := RX7) (T := TX7) (N := 11) hx hb hts (by decide +kernel) hown hK hP (pre.length + 0) mg_0 rfl 1 (by decide) (hts (.fieldLink RX7 13 "QueueMiddlesModel" "count" "[I") (by decide +kernel)) (fun _ h9 => h9) rfl dX7_half_44 ?_
      refine lv_iload_n hx hb dX7_half_47 rfl (lv_at hl 1 rfl) ?_
      obtain ⟨g_5, h⟩ := qm_gd_some h
      refine va_iald hx hb hK hP (pre.length + 2) 0 mg_2 rfl g_5 dX7_half_48 ?_
      refine lv_iconst (v := (1 : Int32)) hx hb dX7_half_49 (by decide) ?_
      refine lv_iadd hx hb dX7_half_50 ?_
      refine lv_iconst (v := (2 : Int32)) hx hb dX7_half_51 (by decide) ?_
      refine lv_idiv hx hb dX7_half_52 (by decide) ?_
      refine lv_iadd hx hb dX7_half_53 ?_
      refine lv_iconst (v := (1 : Int32)) hx hb dX7_half_54 (by decide) ?_
      refine lv_isub hx hb dX7_half_55 ?_
      obtain ⟨g_6, h⟩ := qm_gd_some h
      refine va_iald hx hb hK hP (pre.length + 4) 0 mg_4 rfl g_6 dX7_half_56 ?_
      have h := Option.some.inj h
      subst h
      exact W.iret (v := ((mm_th S (0 : Int32)).1 3) ((((600 : Int32) * p0) + (((((mm_th S (0 : Int32)).1 1) p0.toNatClampNeg) + (1 : Int32)) / (2 : Int32))) - (1 : Int32)).toNatClampNeg) hx hb hr (fun t ht hW => ⟨⟨((mm_th S (0 : Int32)).1 3) ((((600 : Int32) * p0) + (((((mm_th S (0 : Int32)).1 1) p0.toNatClampNeg) + (1 : Int32)) / (2 : Int32))) - (1 : Int32)).toNatClampNeg, mm_th S (0 : Int32), rfl, ⟨rfl, rfl⟩, qm_en ht hP hD⟩, hS.F ht⟩) hS.2.2 dX7_half_57
    · rw [if_pos c_3] at h
      refine lv_iconst (v := (2 : Int32)) hx hb dX7_half_21 (by decide) ?_
      refine lv_goto (tgt := 26) hx hb dX7_half_22 (by decide) ?_
      refine va_calli (va_runV (As := [.int (2 : Int32)]) (rest := []) ⟨hx, hb, hml, hown, hts⟩ (nX7_isFine l D A pre am cI S (2 : Int32)) (cwV 1 hts gX7_half_X7_isFine rfl rfl rfl (by decide +kernel) ⟨Nat.le_of_ble_eq_true rfl, Nat.le_of_ble_eq_true rfl⟩) ⟨qm_blind, va_recv hK hP (ci := 7) (q0 := (pre.length + 0)) rfl mg_0, fun U hU hW => ⟨rfl, qm_go hA hS hP hK hD hU hW⟩⟩ rfl rfl hl.1 rfl (lv_room (Nat.le_of_ble_eq_true rfl)) dX7_half_26 ⟨Nat.le_of_ble_eq_true rfl, Nat.le_of_ble_eq_true rfl⟩) hS (fun _ _ h9 => h9) (fun _ h9 => h9) (fun v u t H1 locs1 ht hvm hw hB hz1 hk1 hS => ?_)
      obtain ⟨hw1, hw2⟩ := hw
      have hw1 : (if (2 : Int32) = 0 then 1 else 0) = v := hw1.symm
      have hw2 : mm_th S (2 : Int32) = u := hw2.symm
      subst hw1
      subst hw2
      obtain ⟨hP, hD⟩ := qm_bk ht hB
      rw [if_neg (show ¬ (2 : Int32) = 0 by decide)]
      refine lv_if_ne (tgt := 34) hx hb dX7_half_29 (by decide) (fun c => absurd (by decide) c) (fun _ => ?_)
      refine lv_iconst (v := (0 : Int32)) hx hb dX7_half_32 (by decide) ?_
      have h := Option.some.inj h
      subst h
      exact W.iret (v := (0 : Int32)) hx hb hr (fun t ht hW => ⟨⟨(0 : Int32), mm_th S (2 : Int32), rfl, ⟨rfl, rfl⟩, qm_en ht hP hD⟩, hS.F ht⟩) hS.2.2 dX7_half_33
  · rw [if_neg c_1] at h ⊢
    refine lv_if_ne (tgt := 12) hx hb dX7_half_5 (by decide) (fun c => absurd (by decide) c) (fun _ => ?_)
    refine lv_iconst (v := (1 : Int32)) hx hb dX7_half_8 (by decide) ?_
    refine lv_goto (tgt := 26) hx hb dX7_half_9 (by decide) ?_
    refine va_calli (va_runV (As := [.int (1 : Int32)]) (rest := []) ⟨hx, hb, hml, hown, hts⟩ (nX7_isFine l D A pre am cI S (1 : Int32)) (cwV 1 hts gX7_half_X7_isFine rfl rfl rfl (by decide +kernel) ⟨Nat.le_of_ble_eq_true rfl, Nat.le_of_ble_eq_true rfl⟩) ⟨qm_blind, va_recv hK hP (ci := 7) (q0 := (pre.length + 0)) rfl mg_0, fun U hU hW => ⟨rfl, qm_go hA hS hP hK hD hU hW⟩⟩ rfl rfl hl.1 rfl (lv_room (Nat.le_of_ble_eq_true rfl)) dX7_half_26 ⟨Nat.le_of_ble_eq_true rfl, Nat.le_of_ble_eq_true rfl⟩) hS (fun _ _ h9 => h9) (fun _ h9 => h9) (fun v u t H1 locs1 ht hvm hw hB hz1 hk1 hS => ?_)
    obtain ⟨hw1, hw2⟩ := hw
    have hw1 : (if (1 : Int32) = 0 then 1 else 0) = v := hw1.symm
    have hw2 : mm_th S (1 : Int32) = u := hw2.symm
    subst hw1
    subst hw2
    obtain ⟨hP, hD⟩ := qm_bk ht hB
    rw [if_neg (show ¬ (1 : Int32) = 0 by decide)]
    refine lv_if_ne (tgt := 34) hx hb dX7_half_29 (by decide) (fun c => absurd (by decide) c) (fun _ => ?_)
    refine lv_iconst (v := (0 : Int32)) hx hb dX7_half_32 (by decide) ?_
    have h := Option.some.inj h
    subst h
    exact W.iret (v := (0 : Int32)) hx hb hr (fun t ht hW => ⟨⟨(0 : Int32), mm_th S (1 : Int32), rfl, ⟨rfl, rfl⟩, qm_en ht hP hD⟩, hS.F ht⟩) hS.2.2 dX7_half_33
noncomputable def fX7_count (S : mm_M) (p0 : Int32) : Option (Int32 × mm_M) :=
  Option.bind (fX7_isThere S p0) (fun z_1 => (if z_1.1 = 0 then some ((0 : Int32), z_1.2) else qm_gd (vp_in p0 4) (some ((z_1.2.1 1) p0.toNatClampNeg, z_1.2))))
set_option maxHeartbeats 4000000 in
set_option maxRecDepth 100000 in
theorem kX7_count (l : Launch) (D : va_G) (A : Nat → Prop) (pre : va_W) (am : Nat → Nat) (cI : ClassId) (S : mm_M) (p0 : Int32) (z : Int32 × mm_M) (h : fX7_count S p0 = some z) : Met l yX7_count wsX7_count ({ frames := 3, cells := 0, slots := 0, locals := 63 }) (va_Pc [.ref (am 0), .int p0] (qm_B D A (mm_T cI) (mm_W pre am cI S))) (qm_Qi D A (mm_W pre am cI) z) 0 0 A := by
  refine Met.ofW (cc := cX7_count) (maxL := 2) (ret := (some .int)) (by decide) rfl ?_
  intro p e s m args below meth c s₁ B hml hv
  obtain ⟨rfl, hA, hP, hK, hD⟩ := hv
  have hx := B.exec
  have hb := B.bytes
  have hr := B.returns
  have hts := atoms_spec (ws := wsX7_count) B.pre
  have hown : s.vm.findClass RX7 = some m.cls := findClass_of_methodNamed B.named
  have hlocks := B.notSynchronized
  have hS : va_S A s.heap s.heap [] := va_S.rf
  have hl := lv_entry ([.ref (am 0), .int p0]) (n := 2) (Nat.le_of_ble_eq_true rfl)
  rw [lg_entry_eq]
  generalize (lg_sl ([.ref (am 0), .int p0]) ++ List.replicate (2 - (lg_sl ([.ref (am 0), .int p0])).length) Slot.unset).toArray = ls at hl ⊢
  have hl : lv_has ls 2 [(0, .ref (am 0)), (1, .int p0)] := hl
  rw [fX7_count] at h
  refine lv_aload_n hx hb dX7_count_0 rfl (lv_at hl 0 rfl) ?_
  refine lv_iload_n hx hb dX7_count_1 rfl (lv_at hl 1 rfl) ?_
  obtain ⟨z_1, hz_2, h⟩ := qm_bind h
  refine va_calli (va_runV (As := [.int p0]) (rest := []) ⟨hx, hb, hml, hown, hts⟩ (kX7_isThere l D A pre am cI S p0 z_1 hz_2) (cwV 1 hts gX7_count_X7_isThere rfl rfl rfl (by decide +kernel) ⟨Nat.le_of_ble_eq_true rfl, Nat.le_of_ble_eq_true rfl⟩) ⟨qm_blind, va_recv hK hP (ci := 7) (q0 := (pre.length + 0)) rfl mg_0, fun U hU hW => ⟨rfl, qm_go hA hS hP hK hD hU hW⟩⟩ rfl rfl hl.1 rfl (lv_room (Nat.le_of_ble_eq_true rfl)) dX7_count_2 ⟨Nat.le_of_ble_eq_true rfl, Nat.le_of_ble_eq_true rfl⟩) hS (fun _ _ h9 => h9) (fun _ h9 => h9) (fun v u t H1 locs1 ht hvm hw hB hz1 hk1 hS => ?_)
  obtain ⟨hw1, hw2⟩ := hw
  have hw1 : z_1.1 = v := hw1.symm
  have hw2 : z_1.2 = u := hw2.symm
  subst hw1
  subst hw2
  obtain ⟨hP, hD⟩ := qm_bk ht hB
  refine lv_if_eq (tgt := 17) hx hb dX7_count_5 (by decide) (fun c_3 => ?_) (fun c_3 => ?_)
  · rw [if_pos c_3] at h
    refine lv_iconst (v := (0 : Int32)) hx hb dX7_count_17 (by decide) ?_
    have h := Option.some.inj h
    subst h
    exact W.iret (v := (0 : Int32)) hx hb hr (fun t ht hW => ⟨⟨(0 : Int32), z_1.2, rfl, ⟨rfl, rfl⟩, qm_en ht hP hD⟩, hS.F ht⟩) hS.2.2 dX7_count_18
  · rw [if_neg c_3] at h
    refine lv_aload_n hx hb dX7_count_8 rfl (lv_at hl 0 rfl) ?_
    refine va_get (D := D) (ci := 7) (v := .ref (am 2)) (C := RX7) (T := TX7) (N := 11) hx hb hts (by decide +kernel) hown hK hP (pre.length + 0) mg_0 rfl 1 (by decide) (hts (.fieldLink RX7 13 "QueueMiddlesModel" "count" "[I") (by decide +kernel)) (fun _ h9 => h9) rfl dX7_count_9 ?_
    refine lv_iload_n hx hb dX7_count_12 rfl (lv_at hl 1 rfl) ?_
    obtain ⟨g_4, h⟩ := qm_gd_some h
    refine va_iald hx hb hK hP (pre.length + 2) 0 mg_2 rfl g_4 dX7_count_13 ?_
    refine lv_goto (tgt := 18) hx hb dX7_count_14 (by decide) ?_
    have h := Option.some.inj h
    subst h
    exact W.iret (v := (z_1.2.1 1) p0.toNatClampNeg) hx hb hr (fun t ht hW => ⟨⟨(z_1.2.1 1) p0.toNatClampNeg, z_1.2, rfl, ⟨rfl, rfl⟩, qm_en ht hP hD⟩, hS.F ht⟩) hS.2.2 dX7_count_18
noncomputable def fX7_bound (S : mm_M) (p0 : Int32) : Option (Int32 × mm_M) :=
  Option.bind (fX7_isThere S p0) (fun z_1 => (if z_1.1 = 0 then some ((0 : Int32), z_1.2) else qm_gd (vp_in p0 4) (some ((z_1.2.1 0) p0.toNatClampNeg, z_1.2))))
set_option maxHeartbeats 4000000 in
set_option maxRecDepth 100000 in
theorem kX7_bound (l : Launch) (D : va_G) (A : Nat → Prop) (pre : va_W) (am : Nat → Nat) (cI : ClassId) (S : mm_M) (p0 : Int32) (z : Int32 × mm_M) (h : fX7_bound S p0 = some z) : Met l yX7_bound wsX7_bound ({ frames := 3, cells := 0, slots := 0, locals := 63 }) (va_Pc [.ref (am 0), .int p0] (qm_B D A (mm_T cI) (mm_W pre am cI S))) (qm_Qi D A (mm_W pre am cI) z) 0 0 A := by
  refine Met.ofW (cc := cX7_bound) (maxL := 2) (ret := (some .int)) (by decide) rfl ?_
  intro p e s m args below meth c s₁ B hml hv
  obtain ⟨rfl, hA, hP, hK, hD⟩ := hv
  have hx := B.exec
  have hb := B.bytes
  have hr := B.returns
  have hts := atoms_spec (ws := wsX7_bound) B.pre
  have hown : s.vm.findClass RX7 = some m.cls := findClass_of_methodNamed B.named
  have hlocks := B.notSynchronized
  have hS : va_S A s.heap s.heap [] := va_S.rf
  have hl := lv_entry ([.ref (am 0), .int p0]) (n := 2) (Nat.le_of_ble_eq_true rfl)
  rw [lg_entry_eq]
  generalize (lg_sl ([.ref (am 0), .int p0]) ++ List.replicate (2 - (lg_sl ([.ref (am 0), .int p0])).length) Slot.unset).toArray = ls at hl ⊢
  have hl : lv_has ls 2 [(0, .ref (am 0)), (1, .int p0)] := hl
  rw [fX7_bound] at h
  refine lv_aload_n hx hb dX7_bound_0 rfl (lv_at hl 0 rfl) ?_
  refine lv_iload_n hx hb dX7_bound_1 rfl (lv_at hl 1 rfl) ?_
  obtain ⟨z_1, hz_2, h⟩ := qm_bind h
  refine va_calli (va_runV (As := [.int p0]) (rest := []) ⟨hx, hb, hml, hown, hts⟩ (kX7_isThere l D A pre am cI S p0 z_1 hz_2) (cwV 1 hts gX7_bound_X7_isThere rfl rfl rfl (by decide +kernel) ⟨Nat.le_of_ble_eq_true rfl, Nat.le_of_ble_eq_true rfl⟩) ⟨qm_blind, va_recv hK hP (ci := 7) (q0 := (pre.length + 0)) rfl mg_0, fun U hU hW => ⟨rfl, qm_go hA hS hP hK hD hU hW⟩⟩ rfl rfl hl.1 rfl (lv_room (Nat.le_of_ble_eq_true rfl)) dX7_bound_2 ⟨Nat.le_of_ble_eq_true rfl, Nat.le_of_ble_eq_true rfl⟩) hS (fun _ _ h9 => h9) (fun _ h9 => h9) (fun v u t H1 locs1 ht hvm hw hB hz1 hk1 hS => ?_)
  obtain ⟨hw1, hw2⟩ := hw
  have hw1 : z_1.1 = v := hw1.symm
  have hw2 : z_1.2 = u := hw2.symm
  subst hw1
  subst hw2
  obtain ⟨hP, hD⟩ := qm_bk ht hB
  refine lv_if_eq (tgt := 17) hx hb dX7_bound_5 (by decide) (fun c_3 => ?_) (fun c_3 => ?_)
  · rw [if_pos c_3] at h
    refine lv_iconst (v := (0 : Int32)) hx hb dX7_bound_17 (by decide) ?_
    have h := Option.some.inj h
    subst h
    exact W.iret (v := (0 : Int32)) hx hb hr (fun t ht hW => ⟨⟨(0 : Int32), z_1.2, rfl, ⟨rfl, rfl⟩, qm_en ht hP hD⟩, hS.F ht⟩) hS.2.2 dX7_bound_18
  · rw [if_neg c_3] at h
    refine lv_aload_n hx hb dX7_bound_8 rfl (lv_at hl 0 rfl) ?_
    refine va_get (D := D) (ci := 7) (v := .ref (am 1)) (C := RX7) (T := TX7) (N := 11) hx hb hts (by decide +kernel) hown hK hP (pre.length + 0) mg_0 rfl 0 (by decide) (hts (.fieldLink RX7 7 "QueueMiddlesModel" "bound" "[I") (by decide +kernel)) (fun _ h9 => h9) rfl dX7_bound_9 ?_
    refine lv_iload_n hx hb dX7_bound_12 rfl (lv_at hl 1 rfl) ?_
    obtain ⟨g_4, h⟩ := qm_gd_some h
    refine va_iald hx hb hK hP (pre.length + 1) 0 mg_1 rfl g_4 dX7_bound_13 ?_
    refine lv_goto (tgt := 18) hx hb dX7_bound_14 (by decide) ?_
    have h := Option.some.inj h
    subst h
    exact W.iret (v := (z_1.2.1 0) p0.toNatClampNeg) hx hb hr (fun t ht hW => ⟨⟨(z_1.2.1 0) p0.toNatClampNeg, z_1.2, rfl, ⟨rfl, rfl⟩, qm_en ht hP hD⟩, hS.F ht⟩) hS.2.2 dX7_bound_18
noncomputable def fX7_allowance (S : mm_M) (p0 : Int32) : Option (Int32 × mm_M) :=
  Option.bind (fX7_isThere S p0) (fun z_1 => (if z_1.1 = 0 then some ((0 : Int32), z_1.2) else Option.bind (fX7_allowed z_1.2 p0) (fun z_4 => some (z_4, z_1.2))))
set_option maxHeartbeats 4000000 in
set_option maxRecDepth 100000 in
theorem kX7_allowance (l : Launch) (D : va_G) (A : Nat → Prop) (pre : va_W) (am : Nat → Nat) (cI : ClassId) (S : mm_M) (p0 : Int32) (z : Int32 × mm_M) (h : fX7_allowance S p0 = some z) : Met l yX7_allowance wsX7_allowance ({ frames := 3, cells := 0, slots := 0, locals := 63 }) (va_Pc [.ref (am 0), .int p0] (qm_B D A (mm_T cI) (mm_W pre am cI S))) (qm_Qi D A (mm_W pre am cI) z) 0 0 A := by
  refine Met.ofW (cc := cX7_allowance) (maxL := 2) (ret := (some .int)) (by decide) rfl ?_
  intro p e s m args below meth c s₁ B hml hv
  obtain ⟨rfl, hA, hP, hK, hD⟩ := hv
  have hx := B.exec
  have hb := B.bytes
  have hr := B.returns
  have hts := atoms_spec (ws := wsX7_allowance) B.pre
  have hown : s.vm.findClass RX7 = some m.cls := findClass_of_methodNamed B.named
  have hlocks := B.notSynchronized
  have hS : va_S A s.heap s.heap [] := va_S.rf
  have hl := lv_entry ([.ref (am 0), .int p0]) (n := 2) (Nat.le_of_ble_eq_true rfl)
  rw [lg_entry_eq]
  generalize (lg_sl ([.ref (am 0), .int p0]) ++ List.replicate (2 - (lg_sl ([.ref (am 0), .int p0])).length) Slot.unset).toArray = ls at hl ⊢
  have hl : lv_has ls 2 [(0, .ref (am 0)), (1, .int p0)] := hl
  rw [fX7_allowance] at h
  refine lv_aload_n hx hb dX7_allowance_0 rfl (lv_at hl 0 rfl) ?_
  refine lv_iload_n hx hb dX7_allowance_1 rfl (lv_at hl 1 rfl) ?_
  obtain ⟨z_1, hz_2, h⟩ := qm_bind h
  refine va_calli (va_runV (As := [.int p0]) (rest := []) ⟨hx, hb, hml, hown, hts⟩ (kX7_isThere l D A pre am cI S p0 z_1 hz_2) (cwV 1 hts gX7_allowance_X7_isThere rfl rfl rfl (by decide +kernel) ⟨Nat.le_of_ble_eq_true rfl, Nat.le_of_ble_eq_true rfl⟩) ⟨qm_blind, va_recv hK hP (ci := 7) (q0 := (pre.length + 0)) rfl mg_0, fun U hU hW => ⟨rfl, qm_go hA hS hP hK hD hU hW⟩⟩ rfl rfl hl.1 rfl (lv_room (Nat.le_of_ble_eq_true rfl)) dX7_allowance_2 ⟨Nat.le_of_ble_eq_true rfl, Nat.le_of_ble_eq_true rfl⟩) hS (fun _ _ h9 => h9) (fun _ h9 => h9) (fun v u t H1 locs1 ht hvm hw hB hz1 hk1 hS => ?_)
  obtain ⟨hw1, hw2⟩ := hw
  have hw1 : z_1.1 = v := hw1.symm
  have hw2 : z_1.2 = u := hw2.symm
  subst hw1
  subst hw2
  obtain ⟨hP, hD⟩ := qm_bk ht hB
  refine lv_if_eq (tgt := 16) hx hb dX7_allowance_5 (by decide) (fun c_3 => ?_) (fun c_3 => ?_)
  · rw [if_pos c_3] at h
    refine lv_iconst (v := (0 : Int32)) hx hb dX7_allowance_16 (by decide) ?_
    have h := Option.some.inj h
    subst h
    exact W.iret (v := (0 : Int32)) hx hb hr (fun t ht hW => ⟨⟨(0 : Int32), z_1.2, rfl, ⟨rfl, rfl⟩, qm_en ht hP hD⟩, hS.F ht⟩) hS.2.2 dX7_allowance_17
  · rw [if_neg c_3] at h
    refine lv_aload_n hx hb dX7_allowance_8 rfl (lv_at hl 0 rfl) ?_
    refine lv_iload_n hx hb dX7_allowance_9 rfl (lv_at hl 1 rfl) ?_
    obtain ⟨z_4, hz_5, h⟩ := qm_bind h
    refine va_calli (va_runV (As := [.int p0]) (rest := []) ⟨hx, hb, hml, hown, hts⟩ (kX7_allowed l D A pre am cI z_1.2 p0 z_4 hz_5) (cwV 1 hts gX7_allowance_X7_allowed rfl rfl rfl (by decide +kernel) ⟨Nat.le_of_ble_eq_true rfl, Nat.le_of_ble_eq_true rfl⟩) ⟨qm_blind, va_recv hK hP (ci := 7) (q0 := (pre.length + 0)) rfl mg_0, fun U hU hW => ⟨rfl, qm_go hA hS hP hK hD hU hW⟩⟩ rfl rfl hl.1 rfl (lv_room (Nat.le_of_ble_eq_true rfl)) dX7_allowance_10 ⟨Nat.le_of_ble_eq_true rfl, Nat.le_of_ble_eq_true rfl⟩) hS (fun _ _ h9 => h9) (fun _ h9 => h9) (fun v u t H1 locs1 ht hvm hw hB hz1 hk1 hS => ?_)
    obtain ⟨hw1, hw2⟩ := hw
    have hw1 : z_4 = v := hw1.symm
    have hw2 : z_1.2 = u := hw2.symm
    subst hw1
    subst hw2
    obtain ⟨hP, hD⟩ := qm_bk ht hB
    refine lv_goto (tgt := 17) hx hb dX7_allowance_13 (by decide) ?_
    have h := Option.some.inj h
    subst h
    exact W.iret (v := z_4) hx hb hr (fun t ht hW => ⟨⟨z_4, z_1.2, rfl, ⟨rfl, rfl⟩, qm_en ht hP hD⟩, hS.F ht⟩) hS.2.2 dX7_allowance_17
noncomputable def fX7_marks (S : mm_M) (p0 : Int32) : Option (Int32 × mm_M) :=
  Option.bind (fX7_isThere S p0) (fun z_1 => (if z_1.1 = 0 then some ((0 : Int32), z_1.2) else qm_gd (vp_in p0 4) (some ((z_1.2.1 2) p0.toNatClampNeg, z_1.2))))
set_option maxHeartbeats 4000000 in
set_option maxRecDepth 100000 in
theorem kX7_marks (l : Launch) (D : va_G) (A : Nat → Prop) (pre : va_W) (am : Nat → Nat) (cI : ClassId) (S : mm_M) (p0 : Int32) (z : Int32 × mm_M) (h : fX7_marks S p0 = some z) : Met l yX7_marks wsX7_marks ({ frames := 3, cells := 0, slots := 0, locals := 63 }) (va_Pc [.ref (am 0), .int p0] (qm_B D A (mm_T cI) (mm_W pre am cI S))) (qm_Qi D A (mm_W pre am cI) z) 0 0 A := by
  refine Met.ofW (cc := cX7_marks) (maxL := 2) (ret := (some .int)) (by decide) rfl ?_
  intro p e s m args below meth c s₁ B hml hv
  obtain ⟨rfl, hA, hP, hK, hD⟩ := hv
  have hx := B.exec
  have hb := B.bytes
  have hr := B.returns
  have hts := atoms_spec (ws := wsX7_marks) B.pre
  have hown : s.vm.findClass RX7 = some m.cls := findClass_of_methodNamed B.named
  have hlocks := B.notSynchronized
  have hS : va_S A s.heap s.heap [] := va_S.rf
  have hl := lv_entry ([.ref (am 0), .int p0]) (n := 2) (Nat.le_of_ble_eq_true rfl)
  rw [lg_entry_eq]
  generalize (lg_sl ([.ref (am 0), .int p0]) ++ List.replicate (2 - (lg_sl ([.ref (am 0), .int p0])).length) Slot.unset).toArray = ls at hl ⊢
  have hl : lv_has ls 2 [(0, .ref (am 0)), (1, .int p0)] := hl
  rw [fX7_marks] at h
  refine lv_aload_n hx hb dX7_marks_0 rfl (lv_at hl 0 rfl) ?_
  refine lv_iload_n hx hb dX7_marks_1 rfl (lv_at hl 1 rfl) ?_
  obtain ⟨z_1, hz_2, h⟩ := qm_bind h
  refine va_calli (va_runV (As := [.int p0]) (rest := []) ⟨hx, hb, hml, hown, hts⟩ (kX7_isThere l D A pre am cI S p0 z_1 hz_2) (cwV 1 hts gX7_marks_X7_isThere rfl rfl rfl (by decide +kernel) ⟨Nat.le_of_ble_eq_true rfl, Nat.le_of_ble_eq_true rfl⟩) ⟨qm_blind, va_recv hK hP (ci := 7) (q0 := (pre.length + 0)) rfl mg_0, fun U hU hW => ⟨rfl, qm_go hA hS hP hK hD hU hW⟩⟩ rfl rfl hl.1 rfl (lv_room (Nat.le_of_ble_eq_true rfl)) dX7_marks_2 ⟨Nat.le_of_ble_eq_true rfl, Nat.le_of_ble_eq_true rfl⟩) hS (fun _ _ h9 => h9) (fun _ h9 => h9) (fun v u t H1 locs1 ht hvm hw hB hz1 hk1 hS => ?_)
  obtain ⟨hw1, hw2⟩ := hw
  have hw1 : z_1.1 = v := hw1.symm
  have hw2 : z_1.2 = u := hw2.symm
  subst hw1
  subst hw2
  obtain ⟨hP, hD⟩ := qm_bk ht hB
  refine lv_if_eq (tgt := 17) hx hb dX7_marks_5 (by decide) (fun c_3 => ?_) (fun c_3 => ?_)
  · rw [if_pos c_3] at h
    refine lv_iconst (v := (0 : Int32)) hx hb dX7_marks_17 (by decide) ?_
    have h := Option.some.inj h
    subst h
    exact W.iret (v := (0 : Int32)) hx hb hr (fun t ht hW => ⟨⟨(0 : Int32), z_1.2, rfl, ⟨rfl, rfl⟩, qm_en ht hP hD⟩, hS.F ht⟩) hS.2.2 dX7_marks_18
  · rw [if_neg c_3] at h
    refine lv_aload_n hx hb dX7_marks_8 rfl (lv_at hl 0 rfl) ?_
    refine va_get (D := D) (ci := 7) (v := .ref (am 3)) (C := RX7) (T := TX7) (N := 11) hx hb hts (by decide +kernel) hown hK hP (pre.length + 0) mg_0 rfl 2 (by decide) (hts (.fieldLink RX7 16 "QueueMiddlesModel" "marks" "[I") (by decide +kernel)) (fun _ h9 => h9) rfl dX7_marks_9 ?_
    refine lv_iload_n hx hb dX7_marks_12 rfl (lv_at hl 1 rfl) ?_
    obtain ⟨g_4, h⟩ := qm_gd_some h
    refine va_iald hx hb hK hP (pre.length + 3) 0 mg_3 rfl g_4 dX7_marks_13 ?_
    refine lv_goto (tgt := 18) hx hb dX7_marks_14 (by decide) ?_
    have h := Option.some.inj h
    subst h
    exact W.iret (v := (z_1.2.1 2) p0.toNatClampNeg) hx hb hr (fun t ht hW => ⟨⟨(z_1.2.1 2) p0.toNatClampNeg, z_1.2, rfl, ⟨rfl, rfl⟩, qm_en ht hP hD⟩, hS.F ht⟩) hS.2.2 dX7_marks_18
noncomputable def fX7_value (S : mm_M) (p0 : Int32) (p1 : Int32) : Option (Int32 × mm_M) :=
  Option.bind (fX7_isMark S p0 p1) (fun z_1 => (if z_1.1 = 0 then some ((0 : Int32), z_1.2) else qm_gd (vp_in (((600 : Int32) * p0) + p1) 2400) (some ((z_1.2.1 4) (((600 : Int32) * p0) + p1).toNatClampNeg, z_1.2))))
set_option maxHeartbeats 4000000 in
set_option maxRecDepth 100000 in
theorem kX7_value (l : Launch) (D : va_G) (A : Nat → Prop) (pre : va_W) (am : Nat → Nat) (cI : ClassId) (S : mm_M) (p0 : Int32) (p1 : Int32) (z : Int32 × mm_M) (h : fX7_value S p0 p1 = some z) : Met l yX7_value wsX7_value ({ frames := 3, cells := 0, slots := 0, locals := 64 }) (va_Pc [.ref (am 0), .int p0, .int p1] (qm_B D A (mm_T cI) (mm_W pre am cI S))) (qm_Qi D A (mm_W pre am cI) z) 0 0 A := by
  refine Met.ofW (cc := cX7_value) (maxL := 3) (ret := (some .int)) (by decide) rfl ?_
  intro p e s m args below meth c s₁ B hml hv
  obtain ⟨rfl, hA, hP, hK, hD⟩ := hv
  have hx := B.exec
  have hb := B.bytes
  have hr := B.returns
  have hts := atoms_spec (ws := wsX7_value) B.pre
  have hown : s.vm.findClass RX7 = some m.cls := findClass_of_methodNamed B.named
  have hlocks := B.notSynchronized
  have hS : va_S A s.heap s.heap [] := va_S.rf
  have hl := lv_entry ([.ref (am 0), .int p0, .int p1]) (n := 3) (Nat.le_of_ble_eq_true rfl)
  rw [lg_entry_eq]
  generalize (lg_sl ([.ref (am 0), .int p0, .int p1]) ++ List.replicate (3 - (lg_sl ([.ref (am 0), .int p0, .int p1])).length) Slot.unset).toArray = ls at hl ⊢
  have hl : lv_has ls 3 [(0, .ref (am 0)), (1, .int p0), (2, .int p1)] := hl
  rw [fX7_value] at h
  refine lv_aload_n hx hb dX7_value_0 rfl (lv_at hl 0 rfl) ?_
  refine lv_iload_n hx hb dX7_value_1 rfl (lv_at hl 1 rfl) ?_
  refine lv_iload_n hx hb dX7_value_2 rfl (lv_at hl 2 rfl) ?_
  obtain ⟨z_1, hz_2, h⟩ := qm_bind h
  refine va_calli (va_runV (As := [.int p0, .int p1]) (rest := []) ⟨hx, hb, hml, hown, hts⟩ (kX7_isMark l D A pre am cI S p0 p1 z_1 hz_2) (cwV 2 hts gX7_value_X7_isMark rfl rfl rfl (by decide +kernel) ⟨Nat.le_of_ble_eq_true rfl, Nat.le_of_ble_eq_true rfl⟩) ⟨qm_blind, va_recv hK hP (ci := 7) (q0 := (pre.length + 0)) rfl mg_0, fun U hU hW => ⟨rfl, qm_go hA hS hP hK hD hU hW⟩⟩ rfl rfl hl.1 rfl (lv_room (Nat.le_of_ble_eq_true rfl)) dX7_value_3 ⟨Nat.le_of_ble_eq_true rfl, Nat.le_of_ble_eq_true rfl⟩) hS (fun _ _ h9 => h9) (fun _ h9 => h9) (fun v u t H1 locs1 ht hvm hw hB hz1 hk1 hS => ?_)
  obtain ⟨hw1, hw2⟩ := hw
  have hw1 : z_1.1 = v := hw1.symm
  have hw2 : z_1.2 = u := hw2.symm
  subst hw1
  subst hw2
  obtain ⟨hP, hD⟩ := qm_bk ht hB
  refine lv_if_eq (tgt := 24) hx hb dX7_value_6 (by decide) (fun c_3 => ?_) (fun c_3 => ?_)
  · rw [if_pos c_3] at h
    refine lv_iconst (v := (0 : Int32)) hx hb dX7_value_24 (by decide) ?_
    have h := Option.some.inj h
    subst h
    exact W.iret (v := (0 : Int32)) hx hb hr (fun t ht hW => ⟨⟨(0 : Int32), z_1.2, rfl, ⟨rfl, rfl⟩, qm_en ht hP hD⟩, hS.F ht⟩) hS.2.2 dX7_value_25
  · rw [if_neg c_3] at h
    refine lv_aload_n hx hb dX7_value_9 rfl (lv_at hl 0 rfl) ?_
    refine va_get (D := D) (ci := 7) (v := .ref (am 5)) (C := RX7) (T := TX7) (N := 11) hx hb hts (by decide +kernel) hown hK hP (pre.length + 0) mg_0 rfl 4 (by decide) (hts (.fieldLink RX7 22 "QueueMiddlesModel" "value" "[I") (by decide +kernel)) (fun _ h9 => h9) rfl dX7_value_10 ?_
    refine lv_sipush (v := (600 : Int32)) hx hb dX7_value_13 (by decide) ?_
    refine lv_iload_n hx hb dX7_value_16 rfl (lv_at hl 1 rfl) ?_
    refine lv_imul hx hb dX7_value_17 ?_
    refine lv_iload_n hx hb dX7_value_18 rfl (lv_at hl 2 rfl) ?_
    refine lv_iadd hx hb dX7_value_19 ?_
    obtain ⟨g_4, h⟩ := qm_gd_some h
    refine va_iald hx hb hK hP (pre.length + 5) 0 mg_5 rfl g_4 dX7_value_20 ?_
    refine lv_goto (tgt := 25) hx hb dX7_value_21 (by decide) ?_
    have h := Option.some.inj h
    subst h
    exact W.iret (v := (z_1.2.1 4) (((600 : Int32) * p0) + p1).toNatClampNeg) hx hb hr (fun t ht hW => ⟨⟨(z_1.2.1 4) (((600 : Int32) * p0) + p1).toNatClampNeg, z_1.2, rfl, ⟨rfl, rfl⟩, qm_en ht hP hD⟩, hS.F ht⟩) hS.2.2 dX7_value_25
noncomputable def fX7_lowestRank (S : mm_M) (p0 : Int32) (p1 : Int32) : Option (Int32 × mm_M) :=
  Option.bind (fX7_isMark S p0 p1) (fun z_1 => (if z_1.1 = 0 then some ((0 : Int32), z_1.2) else qm_gd (vp_in (((600 : Int32) * p0) + p1) 2400) (some ((z_1.2.1 5) (((600 : Int32) * p0) + p1).toNatClampNeg, z_1.2))))
set_option maxHeartbeats 4000000 in
set_option maxRecDepth 100000 in
theorem kX7_lowestRank (l : Launch) (D : va_G) (A : Nat → Prop) (pre : va_W) (am : Nat → Nat) (cI : ClassId) (S : mm_M) (p0 : Int32) (p1 : Int32) (z : Int32 × mm_M) (h : fX7_lowestRank S p0 p1 = some z) : Met l yX7_lowestRank wsX7_lowestRank ({ frames := 3, cells := 0, slots := 0, locals := 64 }) (va_Pc [.ref (am 0), .int p0, .int p1] (qm_B D A (mm_T cI) (mm_W pre am cI S))) (qm_Qi D A (mm_W pre am cI) z) 0 0 A := by
  refine Met.ofW (cc := cX7_lowestRank) (maxL := 3) (ret := (some .int)) (by decide) rfl ?_
  intro p e s m args below meth c s₁ B hml hv
  obtain ⟨rfl, hA, hP, hK, hD⟩ := hv
  have hx := B.exec
  have hb := B.bytes
  have hr := B.returns
  have hts := atoms_spec (ws := wsX7_lowestRank) B.pre
  have hown : s.vm.findClass RX7 = some m.cls := findClass_of_methodNamed B.named
  have hlocks := B.notSynchronized
  have hS : va_S A s.heap s.heap [] := va_S.rf
  have hl := lv_entry ([.ref (am 0), .int p0, .int p1]) (n := 3) (Nat.le_of_ble_eq_true rfl)
  rw [lg_entry_eq]
  generalize (lg_sl ([.ref (am 0), .int p0, .int p1]) ++ List.replicate (3 - (lg_sl ([.ref (am 0), .int p0, .int p1])).length) Slot.unset).toArray = ls at hl ⊢
  have hl : lv_has ls 3 [(0, .ref (am 0)), (1, .int p0), (2, .int p1)] := hl
  rw [fX7_lowestRank] at h
  refine lv_aload_n hx hb dX7_lowestRank_0 rfl (lv_at hl 0 rfl) ?_
  refine lv_iload_n hx hb dX7_lowestRank_1 rfl (lv_at hl 1 rfl) ?_
  refine lv_iload_n hx hb dX7_lowestRank_2 rfl (lv_at hl 2 rfl) ?_
  obtain ⟨z_1, hz_2, h⟩ := qm_bind h
  refine va_calli (va_runV (As := [.int p0, .int p1]) (rest := []) ⟨hx, hb, hml, hown, hts⟩ (kX7_isMark l D A pre am cI S p0 p1 z_1 hz_2) (cwV 2 hts gX7_lowestRank_X7_isMark rfl rfl rfl (by decide +kernel) ⟨Nat.le_of_ble_eq_true rfl, Nat.le_of_ble_eq_true rfl⟩) ⟨qm_blind, va_recv hK hP (ci := 7) (q0 := (pre.length + 0)) rfl mg_0, fun U hU hW => ⟨rfl, qm_go hA hS hP hK hD hU hW⟩⟩ rfl rfl hl.1 rfl (lv_room (Nat.le_of_ble_eq_true rfl)) dX7_lowestRank_3 ⟨Nat.le_of_ble_eq_true rfl, Nat.le_of_ble_eq_true rfl⟩) hS (fun _ _ h9 => h9) (fun _ h9 => h9) (fun v u t H1 locs1 ht hvm hw hB hz1 hk1 hS => ?_)
  obtain ⟨hw1, hw2⟩ := hw
  have hw1 : z_1.1 = v := hw1.symm
  have hw2 : z_1.2 = u := hw2.symm
  subst hw1
  subst hw2
  obtain ⟨hP, hD⟩ := qm_bk ht hB
  refine lv_if_eq (tgt := 24) hx hb dX7_lowestRank_6 (by decide) (fun c_3 => ?_) (fun c_3 => ?_)
  · rw [if_pos c_3] at h
    refine lv_iconst (v := (0 : Int32)) hx hb dX7_lowestRank_24 (by decide) ?_
    have h := Option.some.inj h
    subst h
    exact W.iret (v := (0 : Int32)) hx hb hr (fun t ht hW => ⟨⟨(0 : Int32), z_1.2, rfl, ⟨rfl, rfl⟩, qm_en ht hP hD⟩, hS.F ht⟩) hS.2.2 dX7_lowestRank_25
  · rw [if_neg c_3] at h
    refine lv_aload_n hx hb dX7_lowestRank_9 rfl (lv_at hl 0 rfl) ?_
    refine va_get (D := D) (ci := 7) (v := .ref (am 6)) (C := RX7) (T := TX7) (N := 11) hx hb hts (by decide +kernel) hown hK hP (pre.length + 0) mg_0 rfl 5 (by decide) (hts (.fieldLink RX7 25 "QueueMiddlesModel" "lowest" "[I") (by decide +kernel)) (fun _ h9 => h9) rfl dX7_lowestRank_10 ?_
    refine lv_sipush (v := (600 : Int32)) hx hb dX7_lowestRank_13 (by decide) ?_
    refine lv_iload_n hx hb dX7_lowestRank_16 rfl (lv_at hl 1 rfl) ?_
    refine lv_imul hx hb dX7_lowestRank_17 ?_
    refine lv_iload_n hx hb dX7_lowestRank_18 rfl (lv_at hl 2 rfl) ?_
    refine lv_iadd hx hb dX7_lowestRank_19 ?_
    obtain ⟨g_4, h⟩ := qm_gd_some h
    refine va_iald hx hb hK hP (pre.length + 6) 0 mg_6 rfl g_4 dX7_lowestRank_20 ?_
    refine lv_goto (tgt := 25) hx hb dX7_lowestRank_21 (by decide) ?_
    have h := Option.some.inj h
    subst h
    exact W.iret (v := (z_1.2.1 5) (((600 : Int32) * p0) + p1).toNatClampNeg) hx hb hr (fun t ht hW => ⟨⟨(z_1.2.1 5) (((600 : Int32) * p0) + p1).toNatClampNeg, z_1.2, rfl, ⟨rfl, rfl⟩, qm_en ht hP hD⟩, hS.F ht⟩) hS.2.2 dX7_lowestRank_25
noncomputable def fX7_highestRank (S : mm_M) (p0 : Int32) (p1 : Int32) : Option (Int32 × mm_M) :=
  Option.bind (fX7_isMark S p0 p1) (fun z_1 => (if z_1.1 = 0 then some ((0 : Int32), z_1.2) else qm_gd (vp_in (((600 : Int32) * p0) + p1) 2400) (some ((z_1.2.1 6) (((600 : Int32) * p0) + p1).toNatClampNeg, z_1.2))))
set_option maxHeartbeats 4000000 in
set_option maxRecDepth 100000 in
theorem kX7_highestRank (l : Launch) (D : va_G) (A : Nat → Prop) (pre : va_W) (am : Nat → Nat) (cI : ClassId) (S : mm_M) (p0 : Int32) (p1 : Int32) (z : Int32 × mm_M) (h : fX7_highestRank S p0 p1 = some z) : Met l yX7_highestRank wsX7_highestRank ({ frames := 3, cells := 0, slots := 0, locals := 64 }) (va_Pc [.ref (am 0), .int p0, .int p1] (qm_B D A (mm_T cI) (mm_W pre am cI S))) (qm_Qi D A (mm_W pre am cI) z) 0 0 A := by
  refine Met.ofW (cc := cX7_highestRank) (maxL := 3) (ret := (some .int)) (by decide) rfl ?_
  intro p e s m args below meth c s₁ B hml hv
  obtain ⟨rfl, hA, hP, hK, hD⟩ := hv
  have hx := B.exec
  have hb := B.bytes
  have hr := B.returns
  have hts := atoms_spec (ws := wsX7_highestRank) B.pre
  have hown : s.vm.findClass RX7 = some m.cls := findClass_of_methodNamed B.named
  have hlocks := B.notSynchronized
  have hS : va_S A s.heap s.heap [] := va_S.rf
  have hl := lv_entry ([.ref (am 0), .int p0, .int p1]) (n := 3) (Nat.le_of_ble_eq_true rfl)
  rw [lg_entry_eq]
  generalize (lg_sl ([.ref (am 0), .int p0, .int p1]) ++ List.replicate (3 - (lg_sl ([.ref (am 0), .int p0, .int p1])).length) Slot.unset).toArray = ls at hl ⊢
  have hl : lv_has ls 3 [(0, .ref (am 0)), (1, .int p0), (2, .int p1)] := hl
  rw [fX7_highestRank] at h
  refine lv_aload_n hx hb dX7_highestRank_0 rfl (lv_at hl 0 rfl) ?_
  refine lv_iload_n hx hb dX7_highestRank_1 rfl (lv_at hl 1 rfl) ?_
  refine lv_iload_n hx hb dX7_highestRank_2 rfl (lv_at hl 2 rfl) ?_
  obtain ⟨z_1, hz_2, h⟩ := qm_bind h
  refine va_calli (va_runV (As := [.int p0, .int p1]) (rest := []) ⟨hx, hb, hml, hown, hts⟩ (kX7_isMark l D A pre am cI S p0 p1 z_1 hz_2) (cwV 2 hts gX7_highestRank_X7_isMark rfl rfl rfl (by decide +kernel) ⟨Nat.le_of_ble_eq_true rfl, Nat.le_of_ble_eq_true rfl⟩) ⟨qm_blind, va_recv hK hP (ci := 7) (q0 := (pre.length + 0)) rfl mg_0, fun U hU hW => ⟨rfl, qm_go hA hS hP hK hD hU hW⟩⟩ rfl rfl hl.1 rfl (lv_room (Nat.le_of_ble_eq_true rfl)) dX7_highestRank_3 ⟨Nat.le_of_ble_eq_true rfl, Nat.le_of_ble_eq_true rfl⟩) hS (fun _ _ h9 => h9) (fun _ h9 => h9) (fun v u t H1 locs1 ht hvm hw hB hz1 hk1 hS => ?_)
  obtain ⟨hw1, hw2⟩ := hw
  have hw1 : z_1.1 = v := hw1.symm
  have hw2 : z_1.2 = u := hw2.symm
  subst hw1
  subst hw2
  obtain ⟨hP, hD⟩ := qm_bk ht hB
  refine lv_if_eq (tgt := 24) hx hb dX7_highestRank_6 (by decide) (fun c_3 => ?_) (fun c_3 => ?_)
  · rw [if_pos c_3] at h
    refine lv_iconst (v := (0 : Int32)) hx hb dX7_highestRank_24 (by decide) ?_
    have h := Option.some.inj h
    subst h
    exact W.iret (v := (0 : Int32)) hx hb hr (fun t ht hW => ⟨⟨(0 : Int32), z_1.2, rfl, ⟨rfl, rfl⟩, qm_en ht hP hD⟩, hS.F ht⟩) hS.2.2 dX7_highestRank_25
  · rw [if_neg c_3] at h
    refine lv_aload_n hx hb dX7_highestRank_9 rfl (lv_at hl 0 rfl) ?_
    refine va_get (D := D) (ci := 7) (v := .ref (am 7)) (C := RX7) (T := TX7) (N := 11) hx hb hts (by decide +kernel) hown hK hP (pre.length + 0) mg_0 rfl 6 (by decide) (hts (.fieldLink RX7 28 "QueueMiddlesModel" "highest" "[I") (by decide +kernel)) (fun _ h9 => h9) rfl dX7_highestRank_10 ?_
    refine lv_sipush (v := (600 : Int32)) hx hb dX7_highestRank_13 (by decide) ?_
    refine lv_iload_n hx hb dX7_highestRank_16 rfl (lv_at hl 1 rfl) ?_
    refine lv_imul hx hb dX7_highestRank_17 ?_
    refine lv_iload_n hx hb dX7_highestRank_18 rfl (lv_at hl 2 rfl) ?_
    refine lv_iadd hx hb dX7_highestRank_19 ?_
    obtain ⟨g_4, h⟩ := qm_gd_some h
    refine va_iald hx hb hK hP (pre.length + 7) 0 mg_7 rfl g_4 dX7_highestRank_20 ?_
    refine lv_goto (tgt := 25) hx hb dX7_highestRank_21 (by decide) ?_
    have h := Option.some.inj h
    subst h
    exact W.iret (v := (z_1.2.1 6) (((600 : Int32) * p0) + p1).toNatClampNeg) hx hb hr (fun t ht hW => ⟨⟨(z_1.2.1 6) (((600 : Int32) * p0) + p1).toNatClampNeg, z_1.2, rfl, ⟨rfl, rfl⟩, qm_en ht hP hD⟩, hS.F ht⟩) hS.2.2 dX7_highestRank_25
noncomputable def fX7_widest_L18 (x1 : Int32) : Nat → Int32 → Int32 → mm_M → Option (Int32)
  | 0, _, _, _ => none
  | fuel + 1, v2, v3, S =>
    qm_gd (vp_in x1 4) ((if (((600 : Int32) * x1) + ((S.1 2) x1.toNatClampNeg)) ≤ v3 then some v2 else qm_gd (vp_in v3 2400) ((if v3 = ((600 : Int32) * x1) then (if (((S.1 6) v3.toNatClampNeg) - (0 : Int32)) ≤ v2 then fX7_widest_L18 x1 fuel v2 (v3 + (1 : Int32)) S else fX7_widest_L18 x1 fuel (((S.1 6) v3.toNatClampNeg) - (0 : Int32)) (v3 + (1 : Int32)) S) else qm_gd (vp_in (v3 - (1 : Int32)) 2400) ((if (((S.1 6) v3.toNatClampNeg) - ((S.1 5) (v3 - (1 : Int32)).toNatClampNeg)) ≤ v2 then fX7_widest_L18 x1 fuel v2 (v3 + (1 : Int32)) S else fX7_widest_L18 x1 fuel (((S.1 6) v3.toNatClampNeg) - ((S.1 5) (v3 - (1 : Int32)).toNatClampNeg)) (v3 + (1 : Int32)) S))))))
noncomputable def fX7_widest (S : mm_M) (p0 : Int32) : Option (Int32 × mm_M) :=
  Option.bind (fX7_isThere S p0) (fun z_1 => (if z_1.1 = 0 then some ((0 : Int32), z_1.2) else Option.bind (fX7_widest_L18 p0 qm_F (0 : Int32) ((600 : Int32) * p0) z_1.2) (fun z_13 => some (z_13, z_1.2))))
set_option maxHeartbeats 4000000 in
set_option maxRecDepth 100000 in
theorem kX7_widest (l : Launch) (D : va_G) (A : Nat → Prop) (pre : va_W) (am : Nat → Nat) (cI : ClassId) (S : mm_M) (p0 : Int32) (z : Int32 × mm_M) (h : fX7_widest S p0 = some z) : Met l yX7_widest wsX7_widest ({ frames := 3, cells := 0, slots := 0, locals := 63 }) (va_Pc [.ref (am 0), .int p0] (qm_B D A (mm_T cI) (mm_W pre am cI S))) (qm_Qi D A (mm_W pre am cI) z) 0 0 A := by
  refine Met.ofW (cc := cX7_widest) (maxL := 5) (ret := (some .int)) (by decide) rfl ?_
  intro p e s m args below meth c s₁ B hml hv
  obtain ⟨rfl, hA, hP, hK, hD⟩ := hv
  have hx := B.exec
  have hb := B.bytes
  have hr := B.returns
  have hts := atoms_spec (ws := wsX7_widest) B.pre
  have hown : s.vm.findClass RX7 = some m.cls := findClass_of_methodNamed B.named
  have hlocks := B.notSynchronized
  have hS : va_S A s.heap s.heap [] := va_S.rf
  have hl := lv_entry ([.ref (am 0), .int p0]) (n := 5) (Nat.le_of_ble_eq_true rfl)
  rw [lg_entry_eq]
  generalize (lg_sl ([.ref (am 0), .int p0]) ++ List.replicate (5 - (lg_sl ([.ref (am 0), .int p0])).length) Slot.unset).toArray = ls at hl ⊢
  have hl : lv_has ls 5 [(0, .ref (am 0)), (1, .int p0)] := hl
  obtain ⟨QX, hQX⟩ : ∃ q, q = MQ below (qm_Qi D A (mm_W pre am cI) z) ([.ref (am 0), .int p0] : List Value).toArray s 0 0 A := ⟨_, rfl⟩
  rw [← hQX]
  rw [fX7_widest] at h
  refine lv_aload_n hx hb dX7_widest_0 rfl (lv_at hl 0 rfl) ?_
  refine lv_iload_n hx hb dX7_widest_1 rfl (lv_at hl 1 rfl) ?_
  obtain ⟨z_1, hz_2, h⟩ := qm_bind h
  refine va_calli (va_runV (As := [.int p0]) (rest := []) ⟨hx, hb, hml, hown, hts⟩ (kX7_isThere l D A pre am cI S p0 z_1 hz_2) (cwV 1 hts gX7_widest_X7_isThere rfl rfl rfl (by decide +kernel) ⟨Nat.le_of_ble_eq_true rfl, Nat.le_of_ble_eq_true rfl⟩) ⟨qm_blind, va_recv hK hP (ci := 7) (q0 := (pre.length + 0)) rfl mg_0, fun U hU hW => ⟨rfl, qm_go hA hS hP hK hD hU hW⟩⟩ rfl rfl hl.1 rfl (lv_room (Nat.le_of_ble_eq_true rfl)) dX7_widest_2 ⟨Nat.le_of_ble_eq_true rfl, Nat.le_of_ble_eq_true rfl⟩) hS (fun _ _ h9 => h9) (fun _ h9 => h9) (fun v u t H1 locs1 ht hvm hw hB hz1 hk1 hS => ?_)
  obtain ⟨hw1, hw2⟩ := hw
  have hw1 : z_1.1 = v := hw1.symm
  have hw2 : z_1.2 = u := hw2.symm
  subst hw1
  subst hw2
  obtain ⟨hP, hD⟩ := qm_bk ht hB
  refine lv_if_ne (tgt := 10) hx hb dX7_widest_5 (by decide) (fun c_3 => ?_) (fun c_3 => ?_)
  · rw [if_neg c_3] at h
    refine lv_iconst (v := (0 : Int32)) hx hb dX7_widest_10 (by decide) ?_
    refine lv_istore_n (lv' := [(2, .int (0 : Int32)), (0, .ref (am 0)), (1, .int p0)]) hx hb dX7_widest_11 rfl hl (by decide) rfl (fun ls hl => ?_)
    refine lv_sipush (v := (600 : Int32)) hx hb dX7_widest_12 (by decide) ?_
    refine lv_iload_n hx hb dX7_widest_15 rfl (lv_at hl 2 rfl) ?_
    refine lv_imul hx hb dX7_widest_16 ?_
    refine lv_istore_n (lv' := [(3, .int ((600 : Int32) * p0)), (2, .int (0 : Int32)), (0, .ref (am 0)), (1, .int p0)]) hx hb dX7_widest_17 rfl hl (by decide) rfl (fun ls hl => ?_)
    have loop_5 : ∀ (fuel : Nat) (v2_4 v3_4 : Int32) (z : Int32), fX7_widest_L18 p0 fuel v2_4 v3_4 z_1.2 = some z → ∀ (H : Heap) (locs : List Loc) (ls : Array Slot), va_P D vwCl (mm_W pre am cI z_1.2) H → va_D A (mm_W pre am cI z_1.2) → va_S A s.heap H locs → lv_has ls 5 [(0, .ref (am 0)), (1, .int p0), (2, .int v2_4), (3, .int v3_4)] → (∀ (H : Heap) (locs : List Loc) (ls : Array Slot), va_P D vwCl (mm_W pre am cI z_1.2) H → va_D A (mm_W pre am cI z_1.2) → va_S A s.heap H locs → lv_has ls 5 [(2, .int z)] → W p l e ({ frames := 3, cells := 0, slots := 0, locals := 63 } : Room) s m ([.ref (am 0), .int p0] : List Value).toArray below meth c H locs 0 0 QX (F0 m 83 ls [])) → W p l e ({ frames := 3, cells := 0, slots := 0, locals := 63 } : Room) s m ([.ref (am 0), .int p0] : List Value).toArray below meth c H locs 0 0 QX (F0 m 18 ls []) := by
      intro fuel
      induction fuel with
      | zero =>
        intro v2_4 v3_4 z h
        rw [fX7_widest_L18] at h
        cases h
      | succ fuel ih =>
        intro v2_4 v3_4 z h H locs ls hP hD hS hl kex
        rw [fX7_widest_L18] at h
        refine lv_iload_n hx hb dX7_widest_18 rfl (lv_at hl 3 rfl) ?_
        refine lv_sipush (v := (600 : Int32)) hx hb dX7_widest_19 (by decide) ?_
        refine lv_iload_n hx hb dX7_widest_22 rfl (lv_at hl 1 rfl) ?_
        refine lv_imul hx hb dX7_widest_23 ?_
        refine lv_aload_n hx hb dX7_widest_24 rfl (lv_at hl 0 rfl) ?_
        refine va_get (D := D) (ci := 7) (v := .ref (am 3)) (C := RX7) (T := TX7) (N := 11) hx hb hts (by decide +kernel) hown hK hP (pre.length + 0) mg_0 rfl 2 (by decide) (hts (.fieldLink RX7 16 "QueueMiddlesModel" "marks" "[I") (by decide +kernel)) (fun _ h9 => h9) rfl dX7_widest_25 ?_
        refine lv_iload_n hx hb dX7_widest_28 rfl (lv_at hl 1 rfl) ?_
        obtain ⟨g_6, h⟩ := qm_gd_some h
        refine va_iald hx hb hK hP (pre.length + 3) 0 mg_3 rfl g_6 dX7_widest_29 ?_
        refine lv_iadd hx hb dX7_widest_30 ?_
        refine lv_icmp_ge (tgt := 83) hx hb dX7_widest_31 (by decide) (fun c_7 => ?_) (fun c_7 => ?_)
        · rw [if_pos c_7] at h
          have h := Option.some.inj h
          subst h
          exact kex _ _ _ hP hD hS (lv_sub hl [2] rfl)
        · rw [if_neg c_7] at h
          refine lv_aload_n hx hb dX7_widest_34 rfl (lv_at hl 0 rfl) ?_
          refine va_get (D := D) (ci := 7) (v := .ref (am 7)) (C := RX7) (T := TX7) (N := 11) hx hb hts (by decide +kernel) hown hK hP (pre.length + 0) mg_0 rfl 6 (by decide) (hts (.fieldLink RX7 28 "QueueMiddlesModel" "highest" "[I") (by decide +kernel)) (fun _ h9 => h9) rfl dX7_widest_35 ?_
          refine lv_iload_n hx hb dX7_widest_38 rfl (lv_at hl 3 rfl) ?_
          obtain ⟨g_8, h⟩ := qm_gd_some h
          refine va_iald hx hb hK hP (pre.length + 7) 0 mg_7 rfl g_8 dX7_widest_39 ?_
          refine lv_iload_n hx hb dX7_widest_40 rfl (lv_at hl 3 rfl) ?_
          refine lv_sipush (v := (600 : Int32)) hx hb dX7_widest_41 (by decide) ?_
          refine lv_iload_n hx hb dX7_widest_44 rfl (lv_at hl 1 rfl) ?_
          refine lv_imul hx hb dX7_widest_45 ?_
          refine lv_icmp_ne (tgt := 53) hx hb dX7_widest_46 (by decide) (fun c_9 => ?_) (fun c_9 => ?_)
          · rw [if_neg c_9] at h
            refine lv_aload_n hx hb dX7_widest_53 rfl (lv_at hl 0 rfl) ?_
            refine va_get (D := D) (ci := 7) (v := .ref (am 6)) (C := RX7) (T := TX7) (N := 11) hx hb hts (by decide +kernel) hown hK hP (pre.length + 0) mg_0 rfl 5 (by decide) (hts (.fieldLink RX7 25 "QueueMiddlesModel" "lowest" "[I") (by decide +kernel)) (fun _ h9 => h9) rfl dX7_widest_54 ?_
            refine lv_iload_n hx hb dX7_widest_57 rfl (lv_at hl 3 rfl) ?_
            refine lv_iconst (v := (1 : Int32)) hx hb dX7_widest_58 (by decide) ?_
            refine lv_isub hx hb dX7_widest_59 ?_
            obtain ⟨g_10, h⟩ := qm_gd_some h
            refine va_iald hx hb hK hP (pre.length + 6) 0 mg_6 rfl g_10 dX7_widest_60 ?_
            refine lv_isub hx hb dX7_widest_61 ?_
            refine lv_istore (lv' := [(4, .int (((z_1.2.1 6) v3_4.toNatClampNeg) - ((z_1.2.1 5) (v3_4 - (1 : Int32)).toNatClampNeg))), (0, .ref (am 0)), (1, .int p0), (2, .int v2_4), (3, .int v3_4)]) hx hb dX7_widest_62 hl (by decide) rfl (fun ls hl => ?_)
            refine lv_iload hx hb dX7_widest_64 (lv_at hl 0 rfl) ?_
            refine lv_iload_n hx hb dX7_widest_66 rfl (lv_at hl 3 rfl) ?_
            refine lv_icmp_le (tgt := 75) hx hb dX7_widest_67 (by decide) (fun c_11 => ?_) (fun c_11 => ?_)
            · rw [if_pos c_11] at h
              refine lv_iload_n hx hb dX7_widest_75 rfl (lv_at hl 3 rfl) ?_
              refine lv_istore_n (lv' := [(2, .int v2_4), (4, .int (((z_1.2.1 6) v3_4.toNatClampNeg) - ((z_1.2.1 5) (v3_4 - (1 : Int32)).toNatClampNeg))), (0, .ref (am 0)), (1, .int p0), (3, .int v3_4)]) hx hb dX7_widest_76 rfl hl (by decide) rfl (fun ls hl => ?_)
              refine lv_iinc (v := v3_4 + (1 : Int32)) (lv' := [(3, .int (v3_4 + (1 : Int32))), (2, .int v2_4), (4, .int (((z_1.2.1 6) v3_4.toNatClampNeg) - ((z_1.2.1 5) (v3_4 - (1 : Int32)).toNatClampNeg))), (0, .ref (am 0)), (1, .int p0)]) hx hb dX7_widest_77 hl (k := 4) rfl rfl (by decide) rfl (fun ls hl => ?_)
              refine lv_goto (tgt := 18) hx hb dX7_widest_80 (by decide) ?_
              exact ih v2_4 (v3_4 + (1 : Int32))  z h _ _ _ hP hD hS (lv_sub hl [3, 4, 1, 0] rfl) kex
            · rw [if_neg c_11] at h
              refine lv_iload hx hb dX7_widest_70 (lv_at hl 0 rfl) ?_
              refine lv_goto (tgt := 76) hx hb dX7_widest_72 (by decide) ?_
              refine lv_istore_n (lv' := [(2, .int (((z_1.2.1 6) v3_4.toNatClampNeg) - ((z_1.2.1 5) (v3_4 - (1 : Int32)).toNatClampNeg))), (4, .int (((z_1.2.1 6) v3_4.toNatClampNeg) - ((z_1.2.1 5) (v3_4 - (1 : Int32)).toNatClampNeg))), (0, .ref (am 0)), (1, .int p0), (3, .int v3_4)]) hx hb dX7_widest_76 rfl hl (by decide) rfl (fun ls hl => ?_)
              refine lv_iinc (v := v3_4 + (1 : Int32)) (lv' := [(3, .int (v3_4 + (1 : Int32))), (2, .int (((z_1.2.1 6) v3_4.toNatClampNeg) - ((z_1.2.1 5) (v3_4 - (1 : Int32)).toNatClampNeg))), (4, .int (((z_1.2.1 6) v3_4.toNatClampNeg) - ((z_1.2.1 5) (v3_4 - (1 : Int32)).toNatClampNeg))), (0, .ref (am 0)), (1, .int p0)]) hx hb dX7_widest_77 hl (k := 4) rfl rfl (by decide) rfl (fun ls hl => ?_)
              refine lv_goto (tgt := 18) hx hb dX7_widest_80 (by decide) ?_
              exact ih (((z_1.2.1 6) v3_4.toNatClampNeg) - ((z_1.2.1 5) (v3_4 - (1 : Int32)).toNatClampNeg)) (v3_4 + (1 : Int32))  z h _ _ _ hP hD hS (lv_sub hl [3, 4, 1, 0] rfl) kex
          · rw [if_pos c_9] at h
            refine lv_iconst (v := (0 : Int32)) hx hb dX7_widest_49 (by decide) ?_
            refine lv_goto (tgt := 61) hx hb dX7_widest_50 (by decide) ?_
            refine lv_isub hx hb dX7_widest_61 ?_
            refine lv_istore (lv' := [(4, .int (((z_1.2.1 6) v3_4.toNatClampNeg) - (0 : Int32))), (0, .ref (am 0)), (1, .int p0), (2, .int v2_4), (3, .int v3_4)]) hx hb dX7_widest_62 hl (by decide) rfl (fun ls hl => ?_)
            refine lv_iload hx hb dX7_widest_64 (lv_at hl 0 rfl) ?_
            refine lv_iload_n hx hb dX7_widest_66 rfl (lv_at hl 3 rfl) ?_
            refine lv_icmp_le (tgt := 75) hx hb dX7_widest_67 (by decide) (fun c_12 => ?_) (fun c_12 => ?_)
            · rw [if_pos c_12] at h
              refine lv_iload_n hx hb dX7_widest_75 rfl (lv_at hl 3 rfl) ?_
              refine lv_istore_n (lv' := [(2, .int v2_4), (4, .int (((z_1.2.1 6) v3_4.toNatClampNeg) - (0 : Int32))), (0, .ref (am 0)), (1, .int p0), (3, .int v3_4)]) hx hb dX7_widest_76 rfl hl (by decide) rfl (fun ls hl => ?_)
              refine lv_iinc (v := v3_4 + (1 : Int32)) (lv' := [(3, .int (v3_4 + (1 : Int32))), (2, .int v2_4), (4, .int (((z_1.2.1 6) v3_4.toNatClampNeg) - (0 : Int32))), (0, .ref (am 0)), (1, .int p0)]) hx hb dX7_widest_77 hl (k := 4) rfl rfl (by decide) rfl (fun ls hl => ?_)
              refine lv_goto (tgt := 18) hx hb dX7_widest_80 (by decide) ?_
              exact ih v2_4 (v3_4 + (1 : Int32))  z h _ _ _ hP hD hS (lv_sub hl [3, 4, 1, 0] rfl) kex
            · rw [if_neg c_12] at h
              refine lv_iload hx hb dX7_widest_70 (lv_at hl 0 rfl) ?_
              refine lv_goto (tgt := 76) hx hb dX7_widest_72 (by decide) ?_
              refine lv_istore_n (lv' := [(2, .int (((z_1.2.1 6) v3_4.toNatClampNeg) - (0 : Int32))), (4, .int (((z_1.2.1 6) v3_4.toNatClampNeg) - (0 : Int32))), (0, .ref (am 0)), (1, .int p0), (3, .int v3_4)]) hx hb dX7_widest_76 rfl hl (by decide) rfl (fun ls hl => ?_)
              refine lv_iinc (v := v3_4 + (1 : Int32)) (lv' := [(3, .int (v3_4 + (1 : Int32))), (2, .int (((z_1.2.1 6) v3_4.toNatClampNeg) - (0 : Int32))), (4, .int (((z_1.2.1 6) v3_4.toNatClampNeg) - (0 : Int32))), (0, .ref (am 0)), (1, .int p0)]) hx hb dX7_widest_77 hl (k := 4) rfl rfl (by decide) rfl (fun ls hl => ?_)
              refine lv_goto (tgt := 18) hx hb dX7_widest_80 (by decide) ?_
              exact ih (((z_1.2.1 6) v3_4.toNatClampNeg) - (0 : Int32)) (v3_4 + (1 : Int32))  z h _ _ _ hP hD hS (lv_sub hl [3, 4, 1, 0] rfl) kex
    obtain ⟨z_13, hz_14, h⟩ := qm_bind h
    refine loop_5 qm_F (0 : Int32) ((600 : Int32) * p0) z_13 hz_14 _ _ _ hP hD hS (lv_sub hl [2, 3, 1, 0] rfl) (fun H locs ls hP hD hS hl => ?_)
    refine lv_iload_n hx hb dX7_widest_83 rfl (lv_at hl 0 rfl) ?_
    have h := Option.some.inj h
    subst h
    rw [hQX]
    exact W.iret (v := z_13) hx hb hr (fun t ht hW => ⟨⟨z_13, z_1.2, rfl, ⟨rfl, rfl⟩, qm_en ht hP hD⟩, hS.F ht⟩) hS.2.2 dX7_widest_84
  · rw [if_pos c_3] at h
    refine lv_iconst (v := (0 : Int32)) hx hb dX7_widest_8 (by decide) ?_
    have h := Option.some.inj h
    subst h
    rw [hQX]
    exact W.iret (v := (0 : Int32)) hx hb hr (fun t ht hW => ⟨⟨(0 : Int32), z_1.2, rfl, ⟨rfl, rfl⟩, qm_en ht hP hD⟩, hS.F ht⟩) hS.2.2 dX7_widest_9
noncomputable def fX7_ask (S : mm_M) (p0 : Int32) (p1 : Int32) : Option (Int32 × mm_M) :=
  Option.bind (fX7_canAsk S p0 p1) (fun z_1 => (if z_1.1 = 0 then some ((0 : Int32), z_1.2) else Option.bind (fX7_rankOf z_1.2 p0 p1) (fun z_4 => Option.bind (fX7_answer z_1.2 p0 z_4) (fun z_6 => qm_gd (vp_in z_6 2400) (some ((z_1.2.1 4) z_6.toNatClampNeg, z_1.2))))))
set_option maxHeartbeats 4000000 in
set_option maxRecDepth 100000 in
theorem kX7_ask (l : Launch) (D : va_G) (A : Nat → Prop) (pre : va_W) (am : Nat → Nat) (cI : ClassId) (S : mm_M) (p0 : Int32) (p1 : Int32) (z : Int32 × mm_M) (h : fX7_ask S p0 p1 = some z) : Met l yX7_ask wsX7_ask ({ frames := 3, cells := 0, slots := 0, locals := 64 }) (va_Pc [.ref (am 0), .int p0, .int p1] (qm_B D A (mm_T cI) (mm_W pre am cI S))) (qm_Qi D A (mm_W pre am cI) z) 0 0 A := by
  refine Met.ofW (cc := cX7_ask) (maxL := 3) (ret := (some .int)) (by decide) rfl ?_
  intro p e s m args below meth c s₁ B hml hv
  obtain ⟨rfl, hA, hP, hK, hD⟩ := hv
  have hx := B.exec
  have hb := B.bytes
  have hr := B.returns
  have hts := atoms_spec (ws := wsX7_ask) B.pre
  have hown : s.vm.findClass RX7 = some m.cls := findClass_of_methodNamed B.named
  have hlocks := B.notSynchronized
  have hS : va_S A s.heap s.heap [] := va_S.rf
  have hl := lv_entry ([.ref (am 0), .int p0, .int p1]) (n := 3) (Nat.le_of_ble_eq_true rfl)
  rw [lg_entry_eq]
  generalize (lg_sl ([.ref (am 0), .int p0, .int p1]) ++ List.replicate (3 - (lg_sl ([.ref (am 0), .int p0, .int p1])).length) Slot.unset).toArray = ls at hl ⊢
  have hl : lv_has ls 3 [(0, .ref (am 0)), (1, .int p0), (2, .int p1)] := hl
  rw [fX7_ask] at h
  refine lv_aload_n hx hb dX7_ask_0 rfl (lv_at hl 0 rfl) ?_
  refine lv_iload_n hx hb dX7_ask_1 rfl (lv_at hl 1 rfl) ?_
  refine lv_iload_n hx hb dX7_ask_2 rfl (lv_at hl 2 rfl) ?_
  obtain ⟨z_1, hz_2, h⟩ := qm_bind h
  refine va_calli (va_runV (As := [.int p0, .int p1]) (rest := []) ⟨hx, hb, hml, hown, hts⟩ (kX7_canAsk l D A pre am cI S p0 p1 z_1 hz_2) (cwV 2 hts gX7_ask_X7_canAsk rfl rfl rfl (by decide +kernel) ⟨Nat.le_of_ble_eq_true rfl, Nat.le_of_ble_eq_true rfl⟩) ⟨qm_blind, va_recv hK hP (ci := 7) (q0 := (pre.length + 0)) rfl mg_0, fun U hU hW => ⟨rfl, qm_go hA hS hP hK hD hU hW⟩⟩ rfl rfl hl.1 rfl (lv_room (Nat.le_of_ble_eq_true rfl)) dX7_ask_3 ⟨Nat.le_of_ble_eq_true rfl, Nat.le_of_ble_eq_true rfl⟩) hS (fun _ _ h9 => h9) (fun _ h9 => h9) (fun v u t H1 locs1 ht hvm hw hB hz1 hk1 hS => ?_)
  obtain ⟨hw1, hw2⟩ := hw
  have hw1 : z_1.1 = v := hw1.symm
  have hw2 : z_1.2 = u := hw2.symm
  subst hw1
  subst hw2
  obtain ⟨hP, hD⟩ := qm_bk ht hB
  refine lv_if_eq (tgt := 28) hx hb dX7_ask_6 (by decide) (fun c_3 => ?_) (fun c_3 => ?_)
  · rw [if_pos c_3] at h
    refine lv_iconst (v := (0 : Int32)) hx hb dX7_ask_28 (by decide) ?_
    have h := Option.some.inj h
    subst h
    exact W.iret (v := (0 : Int32)) hx hb hr (fun t ht hW => ⟨⟨(0 : Int32), z_1.2, rfl, ⟨rfl, rfl⟩, qm_en ht hP hD⟩, hS.F ht⟩) hS.2.2 dX7_ask_29
  · rw [if_neg c_3] at h
    refine lv_aload_n hx hb dX7_ask_9 rfl (lv_at hl 0 rfl) ?_
    refine va_get (D := D) (ci := 7) (v := .ref (am 5)) (C := RX7) (T := TX7) (N := 11) hx hb hts (by decide +kernel) hown hK hP (pre.length + 0) mg_0 rfl 4 (by decide) (hts (.fieldLink RX7 22 "QueueMiddlesModel" "value" "[I") (by decide +kernel)) (fun _ h9 => h9) rfl dX7_ask_10 ?_
    refine lv_aload_n hx hb dX7_ask_13 rfl (lv_at hl 0 rfl) ?_
    refine lv_iload_n hx hb dX7_ask_14 rfl (lv_at hl 1 rfl) ?_
    refine lv_aload_n hx hb dX7_ask_15 rfl (lv_at hl 0 rfl) ?_
    refine lv_iload_n hx hb dX7_ask_16 rfl (lv_at hl 1 rfl) ?_
    refine lv_iload_n hx hb dX7_ask_17 rfl (lv_at hl 2 rfl) ?_
    obtain ⟨z_4, hz_5, h⟩ := qm_bind h
    refine va_calli (va_runV (As := [.int p0, .int p1]) (rest := [.int p0, .ref (am 0), .ref (am 5)]) ⟨hx, hb, hml, hown, hts⟩ (kX7_rankOf l D A pre am cI z_1.2 p0 p1 z_4 hz_5) (cwV 2 hts gX7_ask_X7_rankOf rfl rfl rfl (by decide +kernel) ⟨Nat.le_of_ble_eq_true rfl, Nat.le_of_ble_eq_true rfl⟩) ⟨qm_blind, va_recv hK hP (ci := 7) (q0 := (pre.length + 0)) rfl mg_0, fun U hU hW => ⟨rfl, qm_go hA hS hP hK hD hU hW⟩⟩ rfl rfl hl.1 rfl (lv_room (Nat.le_of_ble_eq_true rfl)) dX7_ask_18 ⟨Nat.le_of_ble_eq_true rfl, Nat.le_of_ble_eq_true rfl⟩) hS (fun _ _ h9 => h9) (fun _ h9 => h9) (fun v u t H1 locs1 ht hvm hw hB hz1 hk1 hS => ?_)
    obtain ⟨hw1, hw2⟩ := hw
    have hw1 : z_4 = v := hw1.symm
    have hw2 : z_1.2 = u := hw2.symm
    subst hw1
    subst hw2
    obtain ⟨hP, hD⟩ := qm_bk ht hB
    obtain ⟨z_6, hz_7, h⟩ := qm_bind h
    refine va_calli (va_runV (As := [.int p0, .int z_4]) (rest := [.ref (am 5)]) ⟨hx, hb, hml, hown, hts⟩ (kX7_answer l D A pre am cI z_1.2 p0 z_4 z_6 hz_7) (cwV 2 hts gX7_ask_X7_answer rfl rfl rfl (by decide +kernel) ⟨Nat.le_of_ble_eq_true rfl, Nat.le_of_ble_eq_true rfl⟩) ⟨qm_blind, va_recv hK hP (ci := 7) (q0 := (pre.length + 0)) rfl mg_0, fun U hU hW => ⟨rfl, qm_go hA hS hP hK hD hU hW⟩⟩ rfl rfl hl.1 rfl (lv_room (Nat.le_of_ble_eq_true rfl)) dX7_ask_21 ⟨Nat.le_of_ble_eq_true rfl, Nat.le_of_ble_eq_true rfl⟩) hS (fun _ _ h9 => h9) (fun _ h9 => h9) (fun v u t H1 locs1 ht hvm hw hB hz1 hk1 hS => ?_)
    obtain ⟨hw1, hw2⟩ := hw
    have hw1 : z_6 = v := hw1.symm
    have hw2 : z_1.2 = u := hw2.symm
    subst hw1
    subst hw2
    obtain ⟨hP, hD⟩ := qm_bk ht hB
    obtain ⟨g_8, h⟩ := qm_gd_some h
    refine va_iald hx hb hK hP (pre.length + 5) 0 mg_5 rfl g_8 dX7_ask_24 ?_
    refine lv_goto (tgt := 29) hx hb dX7_ask_25 (by decide) ?_
    have h := Option.some.inj h
    subst h
    exact W.iret (v := (z_1.2.1 4) z_6.toNatClampNeg) hx hb hr (fun t ht hW => ⟨⟨(z_1.2.1 4) z_6.toNatClampNeg, z_1.2, rfl, ⟨rfl, rfl⟩, qm_en ht hP hD⟩, hS.F ht⟩) hS.2.2 dX7_ask_29
noncomputable def fX7_off (S : mm_M) (p0 : Int32) (p1 : Int32) : Option (Int32 × mm_M) :=
  Option.bind (fX7_canAsk S p0 p1) (fun z_1 => (if z_1.1 = 0 then some ((0 : Int32), z_1.2) else Option.bind (fX7_rankOf z_1.2 p0 p1) (fun z_4 => Option.bind (fX7_answer z_1.2 p0 z_4) (fun z_6 => Option.bind (fX7_offAt z_1.2 z_6 z_4) (fun z_8 => some (z_8, z_1.2))))))
set_option maxHeartbeats 4000000 in
set_option maxRecDepth 100000 in
theorem kX7_off (l : Launch) (D : va_G) (A : Nat → Prop) (pre : va_W) (am : Nat → Nat) (cI : ClassId) (S : mm_M) (p0 : Int32) (p1 : Int32) (z : Int32 × mm_M) (h : fX7_off S p0 p1 = some z) : Met l yX7_off wsX7_off ({ frames := 3, cells := 0, slots := 0, locals := 64 }) (va_Pc [.ref (am 0), .int p0, .int p1] (qm_B D A (mm_T cI) (mm_W pre am cI S))) (qm_Qi D A (mm_W pre am cI) z) 0 0 A := by
  refine Met.ofW (cc := cX7_off) (maxL := 4) (ret := (some .int)) (by decide) rfl ?_
  intro p e s m args below meth c s₁ B hml hv
  obtain ⟨rfl, hA, hP, hK, hD⟩ := hv
  have hx := B.exec
  have hb := B.bytes
  have hr := B.returns
  have hts := atoms_spec (ws := wsX7_off) B.pre
  have hown : s.vm.findClass RX7 = some m.cls := findClass_of_methodNamed B.named
  have hlocks := B.notSynchronized
  have hS : va_S A s.heap s.heap [] := va_S.rf
  have hl := lv_entry ([.ref (am 0), .int p0, .int p1]) (n := 4) (Nat.le_of_ble_eq_true rfl)
  rw [lg_entry_eq]
  generalize (lg_sl ([.ref (am 0), .int p0, .int p1]) ++ List.replicate (4 - (lg_sl ([.ref (am 0), .int p0, .int p1])).length) Slot.unset).toArray = ls at hl ⊢
  have hl : lv_has ls 4 [(0, .ref (am 0)), (1, .int p0), (2, .int p1)] := hl
  rw [fX7_off] at h
  refine lv_aload_n hx hb dX7_off_0 rfl (lv_at hl 0 rfl) ?_
  refine lv_iload_n hx hb dX7_off_1 rfl (lv_at hl 1 rfl) ?_
  refine lv_iload_n hx hb dX7_off_2 rfl (lv_at hl 2 rfl) ?_
  obtain ⟨z_1, hz_2, h⟩ := qm_bind h
  refine va_calli (va_runV (As := [.int p0, .int p1]) (rest := []) ⟨hx, hb, hml, hown, hts⟩ (kX7_canAsk l D A pre am cI S p0 p1 z_1 hz_2) (cwV 2 hts gX7_off_X7_canAsk rfl rfl rfl (by decide +kernel) ⟨Nat.le_of_ble_eq_true rfl, Nat.le_of_ble_eq_true rfl⟩) ⟨qm_blind, va_recv hK hP (ci := 7) (q0 := (pre.length + 0)) rfl mg_0, fun U hU hW => ⟨rfl, qm_go hA hS hP hK hD hU hW⟩⟩ rfl rfl hl.1 rfl (lv_room (Nat.le_of_ble_eq_true rfl)) dX7_off_3 ⟨Nat.le_of_ble_eq_true rfl, Nat.le_of_ble_eq_true rfl⟩) hS (fun _ _ h9 => h9) (fun _ h9 => h9) (fun v u t H1 locs1 ht hvm hw hB hz1 hk1 hS => ?_)
  obtain ⟨hw1, hw2⟩ := hw
  have hw1 : z_1.1 = v := hw1.symm
  have hw2 : z_1.2 = u := hw2.symm
  subst hw1
  subst hw2
  obtain ⟨hP, hD⟩ := qm_bk ht hB
  refine lv_if_ne (tgt := 11) hx hb dX7_off_6 (by decide) (fun c_3 => ?_) (fun c_3 => ?_)
  · rw [if_neg c_3] at h
    refine lv_aload_n hx hb dX7_off_11 rfl (lv_at hl 0 rfl) ?_
    refine lv_iload_n hx hb dX7_off_12 rfl (lv_at hl 1 rfl) ?_
    refine lv_iload_n hx hb dX7_off_13 rfl (lv_at hl 2 rfl) ?_
    obtain ⟨z_4, hz_5, h⟩ := qm_bind h
    refine va_calli (va_runV (As := [.int p0, .int p1]) (rest := []) ⟨hx, hb, hml, hown, hts⟩ (kX7_rankOf l D A pre am cI z_1.2 p0 p1 z_4 hz_5) (cwV 2 hts gX7_off_X7_rankOf rfl rfl rfl (by decide +kernel) ⟨Nat.le_of_ble_eq_true rfl, Nat.le_of_ble_eq_true rfl⟩) ⟨qm_blind, va_recv hK hP (ci := 7) (q0 := (pre.length + 0)) rfl mg_0, fun U hU hW => ⟨rfl, qm_go hA hS hP hK hD hU hW⟩⟩ rfl rfl hl.1 rfl (lv_room (Nat.le_of_ble_eq_true rfl)) dX7_off_14 ⟨Nat.le_of_ble_eq_true rfl, Nat.le_of_ble_eq_true rfl⟩) hS (fun _ _ h9 => h9) (fun _ h9 => h9) (fun v u t H1 locs1 ht hvm hw hB hz1 hk1 hS => ?_)
    obtain ⟨hw1, hw2⟩ := hw
    have hw1 : z_4 = v := hw1.symm
    have hw2 : z_1.2 = u := hw2.symm
    subst hw1
    subst hw2
    obtain ⟨hP, hD⟩ := qm_bk ht hB
    refine lv_istore_n (lv' := [(3, .int z_4), (0, .ref (am 0)), (1, .int p0), (2, .int p1)]) hx hb dX7_off_17 rfl hl (by decide) rfl (fun ls hl => ?_)
    refine lv_aload_n hx hb dX7_off_18 rfl (lv_at hl 1 rfl) ?_
    refine lv_aload_n hx hb dX7_off_19 rfl (lv_at hl 1 rfl) ?_
    refine lv_iload_n hx hb dX7_off_20 rfl (lv_at hl 2 rfl) ?_
    refine lv_iload_n hx hb dX7_off_21 rfl (lv_at hl 0 rfl) ?_
    obtain ⟨z_6, hz_7, h⟩ := qm_bind h
    refine va_calli (va_runV (As := [.int p0, .int z_4]) (rest := [.ref (am 0)]) ⟨hx, hb, hml, hown, hts⟩ (kX7_answer l D A pre am cI z_1.2 p0 z_4 z_6 hz_7) (cwV 2 hts gX7_off_X7_answer rfl rfl rfl (by decide +kernel) ⟨Nat.le_of_ble_eq_true rfl, Nat.le_of_ble_eq_true rfl⟩) ⟨qm_blind, va_recv hK hP (ci := 7) (q0 := (pre.length + 0)) rfl mg_0, fun U hU hW => ⟨rfl, qm_go hA hS hP hK hD hU hW⟩⟩ rfl rfl hl.1 rfl (lv_room (Nat.le_of_ble_eq_true rfl)) dX7_off_22 ⟨Nat.le_of_ble_eq_true rfl, Nat.le_of_ble_eq_true rfl⟩) hS (fun _ _ h9 => h9) (fun _ h9 => h9) (fun v u t H1 locs1 ht hvm hw hB hz1 hk1 hS => ?_)
    obtain ⟨hw1, hw2⟩ := hw
    have hw1 : z_6 = v := hw1.symm
    have hw2 : z_1.2 = u := hw2.symm
    subst hw1
    subst hw2
    obtain ⟨hP, hD⟩ := qm_bk ht hB
    refine lv_iload_n hx hb dX7_off_25 rfl (lv_at hl 0 rfl) ?_
    obtain ⟨z_8, hz_9, h⟩ := qm_bind h
    refine va_calli (va_runV (As := [.int z_6, .int z_4]) (rest := []) ⟨hx, hb, hml, hown, hts⟩ (kX7_offAt l D A pre am cI z_1.2 z_6 z_4 z_8 hz_9) (cwV 2 hts gX7_off_X7_offAt rfl rfl rfl (by decide +kernel) ⟨Nat.le_of_ble_eq_true rfl, Nat.le_of_ble_eq_true rfl⟩) ⟨qm_blind, va_recv hK hP (ci := 7) (q0 := (pre.length + 0)) rfl mg_0, fun U hU hW => ⟨rfl, qm_go hA hS hP hK hD hU hW⟩⟩ rfl rfl hl.1 rfl (lv_room (Nat.le_of_ble_eq_true rfl)) dX7_off_26 ⟨Nat.le_of_ble_eq_true rfl, Nat.le_of_ble_eq_true rfl⟩) hS (fun _ _ h9 => h9) (fun _ h9 => h9) (fun v u t H1 locs1 ht hvm hw hB hz1 hk1 hS => ?_)
    obtain ⟨hw1, hw2⟩ := hw
    have hw1 : z_8 = v := hw1.symm
    have hw2 : z_1.2 = u := hw2.symm
    subst hw1
    subst hw2
    obtain ⟨hP, hD⟩ := qm_bk ht hB
    have h := Option.some.inj h
    subst h
    exact W.iret (v := z_8) hx hb hr (fun t ht hW => ⟨⟨z_8, z_1.2, rfl, ⟨rfl, rfl⟩, qm_en ht hP hD⟩, hS.F ht⟩) hS.2.2 dX7_off_29
  · rw [if_pos c_3] at h
    refine lv_iconst (v := (0 : Int32)) hx hb dX7_off_9 (by decide) ?_
    have h := Option.some.inj h
    subst h
    exact W.iret (v := (0 : Int32)) hx hb hr (fun t ht hW => ⟨⟨(0 : Int32), z_1.2, rfl, ⟨rfl, rfl⟩, qm_en ht hP hD⟩, hS.F ht⟩) hS.2.2 dX7_off_10
noncomputable def fX7_reallyOff (S : mm_M) (p0 : Int32) (p1 : Int32) : Option (Int32 × mm_M) :=
  Option.bind (fX7_canAsk S p0 p1) (fun z_1 => (if z_1.1 = 0 then some ((0 : Int32), z_1.2) else Option.bind (fX7_rankOf z_1.2 p0 p1) (fun z_4 => Option.bind (fX7_answer z_1.2 p0 z_4) (fun z_6 => qm_gd (vp_in z_6 2400) (Option.bind (fX7_upTo z_1.2 p0 ((z_1.2.1 4) z_6.toNatClampNeg)) (fun z_9 => Option.bind (fX7_upTo z_1.2 p0 (((z_1.2.1 4) z_6.toNatClampNeg) - (1 : Int32))) (fun z_11 => (if (z_11 + (1 : Int32)) ≤ z_4 then (if z_4 ≤ z_9 then some ((0 : Int32), z_1.2) else some (z_4 - z_9, z_1.2)) else some ((z_11 + (1 : Int32)) - z_4, z_1.2)))))))))
set_option maxHeartbeats 4000000 in
set_option maxRecDepth 100000 in
theorem kX7_reallyOff (l : Launch) (D : va_G) (A : Nat → Prop) (pre : va_W) (am : Nat → Nat) (cI : ClassId) (S : mm_M) (p0 : Int32) (p1 : Int32) (z : Int32 × mm_M) (h : fX7_reallyOff S p0 p1 = some z) : Met l yX7_reallyOff wsX7_reallyOff ({ frames := 3, cells := 0, slots := 0, locals := 64 }) (va_Pc [.ref (am 0), .int p0, .int p1] (qm_B D A (mm_T cI) (mm_W pre am cI S))) (qm_Qi D A (mm_W pre am cI) z) 0 0 A := by
  refine Met.ofW (cc := cX7_reallyOff) (maxL := 7) (ret := (some .int)) (by decide) rfl ?_
  intro p e s m args below meth c s₁ B hml hv
  obtain ⟨rfl, hA, hP, hK, hD⟩ := hv
  have hx := B.exec
  have hb := B.bytes
  have hr := B.returns
  have hts := atoms_spec (ws := wsX7_reallyOff) B.pre
  have hown : s.vm.findClass RX7 = some m.cls := findClass_of_methodNamed B.named
  have hlocks := B.notSynchronized
  have hS : va_S A s.heap s.heap [] := va_S.rf
  have hl := lv_entry ([.ref (am 0), .int p0, .int p1]) (n := 7) (Nat.le_of_ble_eq_true rfl)
  rw [lg_entry_eq]
  generalize (lg_sl ([.ref (am 0), .int p0, .int p1]) ++ List.replicate (7 - (lg_sl ([.ref (am 0), .int p0, .int p1])).length) Slot.unset).toArray = ls at hl ⊢
  have hl : lv_has ls 7 [(0, .ref (am 0)), (1, .int p0), (2, .int p1)] := hl
  rw [fX7_reallyOff] at h
  refine lv_aload_n hx hb dX7_reallyOff_0 rfl (lv_at hl 0 rfl) ?_
  refine lv_iload_n hx hb dX7_reallyOff_1 rfl (lv_at hl 1 rfl) ?_
  refine lv_iload_n hx hb dX7_reallyOff_2 rfl (lv_at hl 2 rfl) ?_
  obtain ⟨z_1, hz_2, h⟩ := qm_bind h
  refine va_calli (va_runV (As := [.int p0, .int p1]) (rest := []) ⟨hx, hb, hml, hown, hts⟩ (kX7_canAsk l D A pre am cI S p0 p1 z_1 hz_2) (cwV 2 hts gX7_reallyOff_X7_canAsk rfl rfl rfl (by decide +kernel) ⟨Nat.le_of_ble_eq_true rfl, Nat.le_of_ble_eq_true rfl⟩) ⟨qm_blind, va_recv hK hP (ci := 7) (q0 := (pre.length + 0)) rfl mg_0, fun U hU hW => ⟨rfl, qm_go hA hS hP hK hD hU hW⟩⟩ rfl rfl hl.1 rfl (lv_room (Nat.le_of_ble_eq_true rfl)) dX7_reallyOff_3 ⟨Nat.le_of_ble_eq_true rfl, Nat.le_of_ble_eq_true rfl⟩) hS (fun _ _ h9 => h9) (fun _ h9 => h9) (fun v u t H1 locs1 ht hvm hw hB hz1 hk1 hS => ?_)
  obtain ⟨hw1, hw2⟩ := hw
  have hw1 : z_1.1 = v := hw1.symm
  have hw2 : z_1.2 = u := hw2.symm
  subst hw1
  subst hw2
  obtain ⟨hP, hD⟩ := qm_bk ht hB
  refine lv_if_ne (tgt := 11) hx hb dX7_reallyOff_6 (by decide) (fun c_3 => ?_) (fun c_3 => ?_)
  · rw [if_neg c_3] at h
    refine lv_aload_n hx hb dX7_reallyOff_11 rfl (lv_at hl 0 rfl) ?_
    refine lv_iload_n hx hb dX7_reallyOff_12 rfl (lv_at hl 1 rfl) ?_
    refine lv_iload_n hx hb dX7_reallyOff_13 rfl (lv_at hl 2 rfl) ?_
    obtain ⟨z_4, hz_5, h⟩ := qm_bind h
    refine va_calli (va_runV (As := [.int p0, .int p1]) (rest := []) ⟨hx, hb, hml, hown, hts⟩ (kX7_rankOf l D A pre am cI z_1.2 p0 p1 z_4 hz_5) (cwV 2 hts gX7_reallyOff_X7_rankOf rfl rfl rfl (by decide +kernel) ⟨Nat.le_of_ble_eq_true rfl, Nat.le_of_ble_eq_true rfl⟩) ⟨qm_blind, va_recv hK hP (ci := 7) (q0 := (pre.length + 0)) rfl mg_0, fun U hU hW => ⟨rfl, qm_go hA hS hP hK hD hU hW⟩⟩ rfl rfl hl.1 rfl (lv_room (Nat.le_of_ble_eq_true rfl)) dX7_reallyOff_14 ⟨Nat.le_of_ble_eq_true rfl, Nat.le_of_ble_eq_true rfl⟩) hS (fun _ _ h9 => h9) (fun _ h9 => h9) (fun v u t H1 locs1 ht hvm hw hB hz1 hk1 hS => ?_)
    obtain ⟨hw1, hw2⟩ := hw
    have hw1 : z_4 = v := hw1.symm
    have hw2 : z_1.2 = u := hw2.symm
    subst hw1
    subst hw2
    obtain ⟨hP, hD⟩ := qm_bk ht hB
    refine lv_istore_n (lv' := [(3, .int z_4), (0, .ref (am 0)), (1, .int p0), (2, .int p1)]) hx hb dX7_reallyOff_17 rfl hl (by decide) rfl (fun ls hl => ?_)
    refine lv_aload_n hx hb dX7_reallyOff_18 rfl (lv_at hl 1 rfl) ?_
    refine va_get (D := D) (ci := 7) (v := .ref (am 5)) (C := RX7) (T := TX7) (N := 11) hx hb hts (by decide +kernel) hown hK hP (pre.length + 0) mg_0 rfl 4 (by decide) (hts (.fieldLink RX7 22 "QueueMiddlesModel" "value" "[I") (by decide +kernel)) (fun _ h9 => h9) rfl dX7_reallyOff_19 ?_
    refine lv_aload_n hx hb dX7_reallyOff_22 rfl (lv_at hl 1 rfl) ?_
    refine lv_iload_n hx hb dX7_reallyOff_23 rfl (lv_at hl 2 rfl) ?_
    refine lv_iload_n hx hb dX7_reallyOff_24 rfl (lv_at hl 0 rfl) ?_
    obtain ⟨z_6, hz_7, h⟩ := qm_bind h
    refine va_calli (va_runV (As := [.int p0, .int z_4]) (rest := [.ref (am 5)]) ⟨hx, hb, hml, hown, hts⟩ (kX7_answer l D A pre am cI z_1.2 p0 z_4 z_6 hz_7) (cwV 2 hts gX7_reallyOff_X7_answer rfl rfl rfl (by decide +kernel) ⟨Nat.le_of_ble_eq_true rfl, Nat.le_of_ble_eq_true rfl⟩) ⟨qm_blind, va_recv hK hP (ci := 7) (q0 := (pre.length + 0)) rfl mg_0, fun U hU hW => ⟨rfl, qm_go hA hS hP hK hD hU hW⟩⟩ rfl rfl hl.1 rfl (lv_room (Nat.le_of_ble_eq_true rfl)) dX7_reallyOff_25 ⟨Nat.le_of_ble_eq_true rfl, Nat.le_of_ble_eq_true rfl⟩) hS (fun _ _ h9 => h9) (fun _ h9 => h9) (fun v u t H1 locs1 ht hvm hw hB hz1 hk1 hS => ?_)
    obtain ⟨hw1, hw2⟩ := hw
    have hw1 : z_6 = v := hw1.symm
    have hw2 : z_1.2 = u := hw2.symm
    subst hw1
    subst hw2
    obtain ⟨hP, hD⟩ := qm_bk ht hB
    obtain ⟨g_8, h⟩ := qm_gd_some h
    refine va_iald hx hb hK hP (pre.length + 5) 0 mg_5 rfl g_8 dX7_reallyOff_28 ?_
    refine lv_istore (lv' := [(4, .int ((z_1.2.1 4) z_6.toNatClampNeg)), (3, .int z_4), (0, .ref (am 0)), (1, .int p0), (2, .int p1)]) hx hb dX7_reallyOff_29 hl (by decide) rfl (fun ls hl => ?_)
    refine lv_aload_n hx hb dX7_reallyOff_31 rfl (lv_at hl 2 rfl) ?_
    refine lv_iload_n hx hb dX7_reallyOff_32 rfl (lv_at hl 3 rfl) ?_
    refine lv_iload hx hb dX7_reallyOff_33 (lv_at hl 0 rfl) ?_
    obtain ⟨z_9, hz_10, h⟩ := qm_bind h
    refine va_calli (va_runV (As := [.int p0, .int ((z_1.2.1 4) z_6.toNatClampNeg)]) (rest := []) ⟨hx, hb, hml, hown, hts⟩ (kX7_upTo l D A pre am cI z_1.2 p0 ((z_1.2.1 4) z_6.toNatClampNeg) z_9 hz_10) (cwV 2 hts gX7_reallyOff_X7_upTo rfl rfl rfl (by decide +kernel) ⟨Nat.le_of_ble_eq_true rfl, Nat.le_of_ble_eq_true rfl⟩) ⟨qm_blind, va_recv hK hP (ci := 7) (q0 := (pre.length + 0)) rfl mg_0, fun U hU hW => ⟨rfl, qm_go hA hS hP hK hD hU hW⟩⟩ rfl rfl hl.1 rfl (lv_room (Nat.le_of_ble_eq_true rfl)) dX7_reallyOff_35 ⟨Nat.le_of_ble_eq_true rfl, Nat.le_of_ble_eq_true rfl⟩) hS (fun _ _ h9 => h9) (fun _ h9 => h9) (fun v u t H1 locs1 ht hvm hw hB hz1 hk1 hS => ?_)
    obtain ⟨hw1, hw2⟩ := hw
    have hw1 : z_9 = v := hw1.symm
    have hw2 : z_1.2 = u := hw2.symm
    subst hw1
    subst hw2
    obtain ⟨hP, hD⟩ := qm_bk ht hB
    refine lv_istore (lv' := [(5, .int z_9), (4, .int ((z_1.2.1 4) z_6.toNatClampNeg)), (3, .int z_4), (0, .ref (am 0)), (1, .int p0), (2, .int p1)]) hx hb dX7_reallyOff_38 hl (by decide) rfl (fun ls hl => ?_)
    refine lv_aload_n hx hb dX7_reallyOff_40 rfl (lv_at hl 3 rfl) ?_
    refine lv_iload_n hx hb dX7_reallyOff_41 rfl (lv_at hl 4 rfl) ?_
    refine lv_iload hx hb dX7_reallyOff_42 (lv_at hl 1 rfl) ?_
    refine lv_iconst (v := (1 : Int32)) hx hb dX7_reallyOff_44 (by decide) ?_
    refine lv_isub hx hb dX7_reallyOff_45 ?_
    obtain ⟨z_11, hz_12, h⟩ := qm_bind h
    refine va_calli (va_runV (As := [.int p0, .int (((z_1.2.1 4) z_6.toNatClampNeg) - (1 : Int32))]) (rest := []) ⟨hx, hb, hml, hown, hts⟩ (kX7_upTo l D A pre am cI z_1.2 p0 (((z_1.2.1 4) z_6.toNatClampNeg) - (1 : Int32)) z_11 hz_12) (cwV 2 hts gX7_reallyOff_X7_upTo rfl rfl rfl (by decide +kernel) ⟨Nat.le_of_ble_eq_true rfl, Nat.le_of_ble_eq_true rfl⟩) ⟨qm_blind, va_recv hK hP (ci := 7) (q0 := (pre.length + 0)) rfl mg_0, fun U hU hW => ⟨rfl, qm_go hA hS hP hK hD hU hW⟩⟩ rfl rfl hl.1 rfl (lv_room (Nat.le_of_ble_eq_true rfl)) dX7_reallyOff_46 ⟨Nat.le_of_ble_eq_true rfl, Nat.le_of_ble_eq_true rfl⟩) hS (fun _ _ h9 => h9) (fun _ h9 => h9) (fun v u t H1 locs1 ht hvm hw hB hz1 hk1 hS => ?_)
    obtain ⟨hw1, hw2⟩ := hw
    have hw1 : z_11 = v := hw1.symm
    have hw2 : z_1.2 = u := hw2.symm
    subst hw1
    subst hw2
    obtain ⟨hP, hD⟩ := qm_bk ht hB
    refine lv_iconst (v := (1 : Int32)) hx hb dX7_reallyOff_49 (by decide) ?_
    refine lv_iadd hx hb dX7_reallyOff_50 ?_
    refine lv_istore (lv' := [(6, .int (z_11 + (1 : Int32))), (5, .int z_9), (4, .int ((z_1.2.1 4) z_6.toNatClampNeg)), (3, .int z_4), (0, .ref (am 0)), (1, .int p0), (2, .int p1)]) hx hb dX7_reallyOff_51 hl (by decide) rfl (fun ls hl => ?_)
    refine lv_iload_n hx hb dX7_reallyOff_53 rfl (lv_at hl 3 rfl) ?_
    refine lv_iload hx hb dX7_reallyOff_54 (lv_at hl 0 rfl) ?_
    refine lv_icmp_ge (tgt := 66) hx hb dX7_reallyOff_56 (by decide) (fun c_13 => ?_) (fun c_13 => ?_)
    · rw [if_pos c_13] at h
      refine lv_iload_n hx hb dX7_reallyOff_66 rfl (lv_at hl 3 rfl) ?_
      refine lv_iload hx hb dX7_reallyOff_67 (lv_at hl 1 rfl) ?_
      refine lv_icmp_le (tgt := 79) hx hb dX7_reallyOff_69 (by decide) (fun c_14 => ?_) (fun c_14 => ?_)
      · rw [if_pos c_14] at h
        refine lv_iconst (v := (0 : Int32)) hx hb dX7_reallyOff_79 (by decide) ?_
        have h := Option.some.inj h
        subst h
        exact W.iret (v := (0 : Int32)) hx hb hr (fun t ht hW => ⟨⟨(0 : Int32), z_1.2, rfl, ⟨rfl, rfl⟩, qm_en ht hP hD⟩, hS.F ht⟩) hS.2.2 dX7_reallyOff_80
      · rw [if_neg c_14] at h
        refine lv_iload_n hx hb dX7_reallyOff_72 rfl (lv_at hl 3 rfl) ?_
        refine lv_iload hx hb dX7_reallyOff_73 (lv_at hl 1 rfl) ?_
        refine lv_isub hx hb dX7_reallyOff_75 ?_
        refine lv_goto (tgt := 80) hx hb dX7_reallyOff_76 (by decide) ?_
        have h := Option.some.inj h
        subst h
        exact W.iret (v := z_4 - z_9) hx hb hr (fun t ht hW => ⟨⟨z_4 - z_9, z_1.2, rfl, ⟨rfl, rfl⟩, qm_en ht hP hD⟩, hS.F ht⟩) hS.2.2 dX7_reallyOff_80
    · rw [if_neg c_13] at h
      refine lv_iload hx hb dX7_reallyOff_59 (lv_at hl 0 rfl) ?_
      refine lv_iload_n hx hb dX7_reallyOff_61 rfl (lv_at hl 3 rfl) ?_
      refine lv_isub hx hb dX7_reallyOff_62 ?_
      refine lv_goto (tgt := 80) hx hb dX7_reallyOff_63 (by decide) ?_
      have h := Option.some.inj h
      subst h
      exact W.iret (v := (z_11 + (1 : Int32)) - z_4) hx hb hr (fun t ht hW => ⟨⟨(z_11 + (1 : Int32)) - z_4, z_1.2, rfl, ⟨rfl, rfl⟩, qm_en ht hP hD⟩, hS.F ht⟩) hS.2.2 dX7_reallyOff_80
  · rw [if_pos c_3] at h
    refine lv_iconst (v := (0 : Int32)) hx hb dX7_reallyOff_9 (by decide) ?_
    have h := Option.some.inj h
    subst h
    exact W.iret (v := (0 : Int32)) hx hb hr (fun t ht hW => ⟨⟨(0 : Int32), z_1.2, rfl, ⟨rfl, rfl⟩, qm_en ht hP hD⟩, hS.F ht⟩) hS.2.2 dX7_reallyOff_10
noncomputable def fX7_atLeastUpTo_L19 (x1 : Int32) (x2 : Int32) : Nat → Int32 → Int32 → mm_M → Option (Int32)
  | 0, _, _, _ => none
  | fuel + 1, v3, v4, S =>
    qm_gd (vp_in x1 4) ((if (((600 : Int32) * x1) + ((S.1 2) x1.toNatClampNeg)) ≤ v4 then some v3 else qm_gd (vp_in v4 2400) ((if x2 < ((S.1 4) v4.toNatClampNeg) then fX7_atLeastUpTo_L19 x1 x2 fuel v3 (v4 + (1 : Int32)) S else qm_gd (vp_in v4 2400) (fX7_atLeastUpTo_L19 x1 x2 fuel ((S.1 5) v4.toNatClampNeg) (v4 + (1 : Int32)) S)))))
noncomputable def fX7_atLeastUpTo (S : mm_M) (p0 : Int32) (p1 : Int32) : Option (Int32 × mm_M) :=
  Option.bind (fX7_isThere S p0) (fun z_1 => (if z_1.1 = 0 then some ((0 : Int32), z_1.2) else Option.bind (fX7_atLeastUpTo_L19 p0 p1 qm_F (0 : Int32) ((600 : Int32) * p0) z_1.2) (fun z_11 => some (z_11, z_1.2))))
set_option maxHeartbeats 4000000 in
set_option maxRecDepth 100000 in
theorem kX7_atLeastUpTo (l : Launch) (D : va_G) (A : Nat → Prop) (pre : va_W) (am : Nat → Nat) (cI : ClassId) (S : mm_M) (p0 : Int32) (p1 : Int32) (z : Int32 × mm_M) (h : fX7_atLeastUpTo S p0 p1 = some z) : Met l yX7_atLeastUpTo wsX7_atLeastUpTo ({ frames := 3, cells := 0, slots := 0, locals := 63 }) (va_Pc [.ref (am 0), .int p0, .int p1] (qm_B D A (mm_T cI) (mm_W pre am cI S))) (qm_Qi D A (mm_W pre am cI) z) 0 0 A := by
  refine Met.ofW (cc := cX7_atLeastUpTo) (maxL := 5) (ret := (some .int)) (by decide) rfl ?_
  intro p e s m args below meth c s₁ B hml hv
  obtain ⟨rfl, hA, hP, hK, hD⟩ := hv
  have hx := B.exec
  have hb := B.bytes
  have hr := B.returns
  have hts := atoms_spec (ws := wsX7_atLeastUpTo) B.pre
  have hown : s.vm.findClass RX7 = some m.cls := findClass_of_methodNamed B.named
  have hlocks := B.notSynchronized
  have hS : va_S A s.heap s.heap [] := va_S.rf
  have hl := lv_entry ([.ref (am 0), .int p0, .int p1]) (n := 5) (Nat.le_of_ble_eq_true rfl)
  rw [lg_entry_eq]
  generalize (lg_sl ([.ref (am 0), .int p0, .int p1]) ++ List.replicate (5 - (lg_sl ([.ref (am 0), .int p0, .int p1])).length) Slot.unset).toArray = ls at hl ⊢
  have hl : lv_has ls 5 [(0, .ref (am 0)), (1, .int p0), (2, .int p1)] := hl
  obtain ⟨QX, hQX⟩ : ∃ q, q = MQ below (qm_Qi D A (mm_W pre am cI) z) ([.ref (am 0), .int p0, .int p1] : List Value).toArray s 0 0 A := ⟨_, rfl⟩
  rw [← hQX]
  rw [fX7_atLeastUpTo] at h
  refine lv_aload_n hx hb dX7_atLeastUpTo_0 rfl (lv_at hl 0 rfl) ?_
  refine lv_iload_n hx hb dX7_atLeastUpTo_1 rfl (lv_at hl 1 rfl) ?_
  obtain ⟨z_1, hz_2, h⟩ := qm_bind h
  refine va_calli (va_runV (As := [.int p0]) (rest := []) ⟨hx, hb, hml, hown, hts⟩ (kX7_isThere l D A pre am cI S p0 z_1 hz_2) (cwV 1 hts gX7_atLeastUpTo_X7_isThere rfl rfl rfl (by decide +kernel) ⟨Nat.le_of_ble_eq_true rfl, Nat.le_of_ble_eq_true rfl⟩) ⟨qm_blind, va_recv hK hP (ci := 7) (q0 := (pre.length + 0)) rfl mg_0, fun U hU hW => ⟨rfl, qm_go hA hS hP hK hD hU hW⟩⟩ rfl rfl hl.1 rfl (lv_room (Nat.le_of_ble_eq_true rfl)) dX7_atLeastUpTo_2 ⟨Nat.le_of_ble_eq_true rfl, Nat.le_of_ble_eq_true rfl⟩) hS (fun _ _ h9 => h9) (fun _ h9 => h9) (fun v u t H1 locs1 ht hvm hw hB hz1 hk1 hS => ?_)
  obtain ⟨hw1, hw2⟩ := hw
  have hw1 : z_1.1 = v := hw1.symm
  have hw2 : z_1.2 = u := hw2.symm
  subst hw1
  subst hw2
  obtain ⟨hP, hD⟩ := qm_bk ht hB
  refine lv_if_ne (tgt := 10) hx hb dX7_atLeastUpTo_5 (by decide) (fun c_3 => ?_) (fun c_3 => ?_)
  · rw [if_neg c_3] at h
    refine lv_iconst (v := (0 : Int32)) hx hb dX7_atLeastUpTo_10 (by decide) ?_
    refine lv_istore_n (lv' := [(3, .int (0 : Int32)), (0, .ref (am 0)), (1, .int p0), (2, .int p1)]) hx hb dX7_atLeastUpTo_11 rfl hl (by decide) rfl (fun ls hl => ?_)
    refine lv_sipush (v := (600 : Int32)) hx hb dX7_atLeastUpTo_12 (by decide) ?_
    refine lv_iload_n hx hb dX7_atLeastUpTo_15 rfl (lv_at hl 2 rfl) ?_
    refine lv_imul hx hb dX7_atLeastUpTo_16 ?_
    refine lv_istore (lv' := [(4, .int ((600 : Int32) * p0)), (3, .int (0 : Int32)), (0, .ref (am 0)), (1, .int p0), (2, .int p1)]) hx hb dX7_atLeastUpTo_17 hl (by decide) rfl (fun ls hl => ?_)
    have loop_5 : ∀ (fuel : Nat) (v3_4 v4_4 : Int32) (z : Int32), fX7_atLeastUpTo_L19 p0 p1 fuel v3_4 v4_4 z_1.2 = some z → ∀ (H : Heap) (locs : List Loc) (ls : Array Slot), va_P D vwCl (mm_W pre am cI z_1.2) H → va_D A (mm_W pre am cI z_1.2) → va_S A s.heap H locs → lv_has ls 5 [(0, .ref (am 0)), (1, .int p0), (2, .int p1), (3, .int v3_4), (4, .int v4_4)] → (∀ (H : Heap) (locs : List Loc) (ls : Array Slot), va_P D vwCl (mm_W pre am cI z_1.2) H → va_D A (mm_W pre am cI z_1.2) → va_S A s.heap H locs → lv_has ls 5 [(3, .int z)] → W p l e ({ frames := 3, cells := 0, slots := 0, locals := 63 } : Room) s m ([.ref (am 0), .int p0, .int p1] : List Value).toArray below meth c H locs 0 0 QX (F0 m 65 ls [])) → W p l e ({ frames := 3, cells := 0, slots := 0, locals := 63 } : Room) s m ([.ref (am 0), .int p0, .int p1] : List Value).toArray below meth c H locs 0 0 QX (F0 m 19 ls []) := by
      intro fuel
      induction fuel with
      | zero =>
        intro v3_4 v4_4 z h
        rw [fX7_atLeastUpTo_L19] at h
        cases h
      | succ fuel ih =>
        intro v3_4 v4_4 z h H locs ls hP hD hS hl kex
        rw [fX7_atLeastUpTo_L19] at h
        refine lv_iload hx hb dX7_atLeastUpTo_19 (lv_at hl 4 rfl) ?_
        refine lv_sipush (v := (600 : Int32)) hx hb dX7_atLeastUpTo_21 (by decide) ?_
        refine lv_iload_n hx hb dX7_atLeastUpTo_24 rfl (lv_at hl 1 rfl) ?_
        refine lv_imul hx hb dX7_atLeastUpTo_25 ?_
        refine lv_aload_n hx hb dX7_atLeastUpTo_26 rfl (lv_at hl 0 rfl) ?_
        refine va_get (D := D) (ci := 7) (v := .ref (am 3)) (C := RX7) (T := TX7) (N := 11) hx hb hts (by decide +kernel) hown hK hP (pre.length + 0) mg_0 rfl 2 (by decide) (hts (.fieldLink RX7 16 "QueueMiddlesModel" "marks" "[I") (by decide +kernel)) (fun _ h9 => h9) rfl dX7_atLeastUpTo_27 ?_
        refine lv_iload_n hx hb dX7_atLeastUpTo_30 rfl (lv_at hl 1 rfl) ?_
        obtain ⟨g_6, h⟩ := qm_gd_some h
        refine va_iald hx hb hK hP (pre.length + 3) 0 mg_3 rfl g_6 dX7_atLeastUpTo_31 ?_
        refine lv_iadd hx hb dX7_atLeastUpTo_32 ?_
        refine lv_icmp_ge (tgt := 65) hx hb dX7_atLeastUpTo_33 (by decide) (fun c_7 => ?_) (fun c_7 => ?_)
        · rw [if_pos c_7] at h
          have h := Option.some.inj h
          subst h
          exact kex _ _ _ hP hD hS (lv_sub hl [3] rfl)
        · rw [if_neg c_7] at h
          refine lv_aload_n hx hb dX7_atLeastUpTo_36 rfl (lv_at hl 0 rfl) ?_
          refine va_get (D := D) (ci := 7) (v := .ref (am 5)) (C := RX7) (T := TX7) (N := 11) hx hb hts (by decide +kernel) hown hK hP (pre.length + 0) mg_0 rfl 4 (by decide) (hts (.fieldLink RX7 22 "QueueMiddlesModel" "value" "[I") (by decide +kernel)) (fun _ h9 => h9) rfl dX7_atLeastUpTo_37 ?_
          refine lv_iload hx hb dX7_atLeastUpTo_40 (lv_at hl 4 rfl) ?_
          obtain ⟨g_8, h⟩ := qm_gd_some h
          refine va_iald hx hb hK hP (pre.length + 5) 0 mg_5 rfl g_8 dX7_atLeastUpTo_42 ?_
          refine lv_iload_n hx hb dX7_atLeastUpTo_43 rfl (lv_at hl 2 rfl) ?_
          refine lv_icmp_gt (tgt := 57) hx hb dX7_atLeastUpTo_44 (by decide) (fun c_9 => ?_) (fun c_9 => ?_)
          · rw [if_pos c_9] at h
            refine lv_iload_n hx hb dX7_atLeastUpTo_57 rfl (lv_at hl 3 rfl) ?_
            refine lv_istore_n (lv' := [(3, .int v3_4), (0, .ref (am 0)), (1, .int p0), (2, .int p1), (4, .int v4_4)]) hx hb dX7_atLeastUpTo_58 rfl hl (by decide) rfl (fun ls hl => ?_)
            refine lv_iinc (v := v4_4 + (1 : Int32)) (lv' := [(4, .int (v4_4 + (1 : Int32))), (3, .int v3_4), (0, .ref (am 0)), (1, .int p0), (2, .int p1)]) hx hb dX7_atLeastUpTo_59 hl (k := 4) rfl rfl (by decide) rfl (fun ls hl => ?_)
            refine lv_goto (tgt := 19) hx hb dX7_atLeastUpTo_62 (by decide) ?_
            exact ih v3_4 (v4_4 + (1 : Int32))  z h _ _ _ hP hD hS (lv_sub hl [2, 3, 4, 1, 0] rfl) kex
          · rw [if_neg c_9] at h
            refine lv_aload_n hx hb dX7_atLeastUpTo_47 rfl (lv_at hl 0 rfl) ?_
            refine va_get (D := D) (ci := 7) (v := .ref (am 6)) (C := RX7) (T := TX7) (N := 11) hx hb hts (by decide +kernel) hown hK hP (pre.length + 0) mg_0 rfl 5 (by decide) (hts (.fieldLink RX7 25 "QueueMiddlesModel" "lowest" "[I") (by decide +kernel)) (fun _ h9 => h9) rfl dX7_atLeastUpTo_48 ?_
            refine lv_iload hx hb dX7_atLeastUpTo_51 (lv_at hl 4 rfl) ?_
            obtain ⟨g_10, h⟩ := qm_gd_some h
            refine va_iald hx hb hK hP (pre.length + 6) 0 mg_6 rfl g_10 dX7_atLeastUpTo_53 ?_
            refine lv_goto (tgt := 58) hx hb dX7_atLeastUpTo_54 (by decide) ?_
            refine lv_istore_n (lv' := [(3, .int ((z_1.2.1 5) v4_4.toNatClampNeg)), (0, .ref (am 0)), (1, .int p0), (2, .int p1), (4, .int v4_4)]) hx hb dX7_atLeastUpTo_58 rfl hl (by decide) rfl (fun ls hl => ?_)
            refine lv_iinc (v := v4_4 + (1 : Int32)) (lv' := [(4, .int (v4_4 + (1 : Int32))), (3, .int ((z_1.2.1 5) v4_4.toNatClampNeg)), (0, .ref (am 0)), (1, .int p0), (2, .int p1)]) hx hb dX7_atLeastUpTo_59 hl (k := 4) rfl rfl (by decide) rfl (fun ls hl => ?_)
            refine lv_goto (tgt := 19) hx hb dX7_atLeastUpTo_62 (by decide) ?_
            exact ih ((z_1.2.1 5) v4_4.toNatClampNeg) (v4_4 + (1 : Int32))  z h _ _ _ hP hD hS (lv_sub hl [2, 3, 4, 1, 0] rfl) kex
    obtain ⟨z_11, hz_12, h⟩ := qm_bind h
    refine loop_5 qm_F (0 : Int32) ((600 : Int32) * p0) z_11 hz_12 _ _ _ hP hD hS (lv_sub hl [2, 3, 4, 1, 0] rfl) (fun H locs ls hP hD hS hl => ?_)
    refine lv_iload_n hx hb dX7_atLeastUpTo_65 rfl (lv_at hl 0 rfl) ?_
    have h := Option.some.inj h
    subst h
    rw [hQX]
    exact W.iret (v := z_11) hx hb hr (fun t ht hW => ⟨⟨z_11, z_1.2, rfl, ⟨rfl, rfl⟩, qm_en ht hP hD⟩, hS.F ht⟩) hS.2.2 dX7_atLeastUpTo_66
  · rw [if_pos c_3] at h
    refine lv_iconst (v := (0 : Int32)) hx hb dX7_atLeastUpTo_8 (by decide) ?_
    have h := Option.some.inj h
    subst h
    rw [hQX]
    exact W.iret (v := (0 : Int32)) hx hb hr (fun t ht hW => ⟨⟨(0 : Int32), z_1.2, rfl, ⟨rfl, rfl⟩, qm_en ht hP hD⟩, hS.F ht⟩) hS.2.2 dX7_atLeastUpTo_9
noncomputable def fX7_atMostUpTo_L33 (x1 : Int32) (x2 : Int32) : Nat → Int32 → Int32 → mm_M → Option (Int32)
  | 0, _, _, _ => none
  | fuel + 1, v3, v4, S =>
    (if v4 < ((600 : Int32) * x1) then some v3 else qm_gd (vp_in v4 2400) ((if ((S.1 4) v4.toNatClampNeg) ≤ x2 then fX7_atMostUpTo_L33 x1 x2 fuel v3 (v4 + (-1 : Int32)) S else qm_gd (vp_in v4 2400) (fX7_atMostUpTo_L33 x1 x2 fuel (((S.1 6) v4.toNatClampNeg) - (1 : Int32)) (v4 + (-1 : Int32)) S))))
noncomputable def fX7_atMostUpTo (S : mm_M) (p0 : Int32) (p1 : Int32) : Option (Int32 × mm_M) :=
  Option.bind (fX7_isThere S p0) (fun z_1 => (if z_1.1 = 0 then some ((0 : Int32), z_1.2) else qm_gd (vp_in p0 4) (qm_gd (vp_in p0 4) (Option.bind (fX7_atMostUpTo_L33 p0 p1 qm_F ((z_1.2.1 1) p0.toNatClampNeg) ((((600 : Int32) * p0) + ((z_1.2.1 2) p0.toNatClampNeg)) - (1 : Int32)) z_1.2) (fun z_12 => some (z_12, z_1.2))))))
set_option maxHeartbeats 4000000 in
set_option maxRecDepth 100000 in
theorem kX7_atMostUpTo (l : Launch) (D : va_G) (A : Nat → Prop) (pre : va_W) (am : Nat → Nat) (cI : ClassId) (S : mm_M) (p0 : Int32) (p1 : Int32) (z : Int32 × mm_M) (h : fX7_atMostUpTo S p0 p1 = some z) : Met l yX7_atMostUpTo wsX7_atMostUpTo ({ frames := 3, cells := 0, slots := 0, locals := 63 }) (va_Pc [.ref (am 0), .int p0, .int p1] (qm_B D A (mm_T cI) (mm_W pre am cI S))) (qm_Qi D A (mm_W pre am cI) z) 0 0 A := by
  refine Met.ofW (cc := cX7_atMostUpTo) (maxL := 5) (ret := (some .int)) (by decide) rfl ?_
  intro p e s m args below meth c s₁ B hml hv
  obtain ⟨rfl, hA, hP, hK, hD⟩ := hv
  have hx := B.exec
  have hb := B.bytes
  have hr := B.returns
  have hts := atoms_spec (ws := wsX7_atMostUpTo) B.pre
  have hown : s.vm.findClass RX7 = some m.cls := findClass_of_methodNamed B.named
  have hlocks := B.notSynchronized
  have hS : va_S A s.heap s.heap [] := va_S.rf
  have hl := lv_entry ([.ref (am 0), .int p0, .int p1]) (n := 5) (Nat.le_of_ble_eq_true rfl)
  rw [lg_entry_eq]
  generalize (lg_sl ([.ref (am 0), .int p0, .int p1]) ++ List.replicate (5 - (lg_sl ([.ref (am 0), .int p0, .int p1])).length) Slot.unset).toArray = ls at hl ⊢
  have hl : lv_has ls 5 [(0, .ref (am 0)), (1, .int p0), (2, .int p1)] := hl
  obtain ⟨QX, hQX⟩ : ∃ q, q = MQ below (qm_Qi D A (mm_W pre am cI) z) ([.ref (am 0), .int p0, .int p1] : List Value).toArray s 0 0 A := ⟨_, rfl⟩
  rw [← hQX]
  rw [fX7_atMostUpTo] at h
  refine lv_aload_n hx hb dX7_atMostUpTo_0 rfl (lv_at hl 0 rfl) ?_
  refine lv_iload_n hx hb dX7_atMostUpTo_1 rfl (lv_at hl 1 rfl) ?_
  obtain ⟨z_1, hz_2, h⟩ := qm_bind h
  refine va_calli (va_runV (As := [.int p0]) (rest := []) ⟨hx, hb, hml, hown, hts⟩ (kX7_isThere l D A pre am cI S p0 z_1 hz_2) (cwV 1 hts gX7_atMostUpTo_X7_isThere rfl rfl rfl (by decide +kernel) ⟨Nat.le_of_ble_eq_true rfl, Nat.le_of_ble_eq_true rfl⟩) ⟨qm_blind, va_recv hK hP (ci := 7) (q0 := (pre.length + 0)) rfl mg_0, fun U hU hW => ⟨rfl, qm_go hA hS hP hK hD hU hW⟩⟩ rfl rfl hl.1 rfl (lv_room (Nat.le_of_ble_eq_true rfl)) dX7_atMostUpTo_2 ⟨Nat.le_of_ble_eq_true rfl, Nat.le_of_ble_eq_true rfl⟩) hS (fun _ _ h9 => h9) (fun _ h9 => h9) (fun v u t H1 locs1 ht hvm hw hB hz1 hk1 hS => ?_)
  obtain ⟨hw1, hw2⟩ := hw
  have hw1 : z_1.1 = v := hw1.symm
  have hw2 : z_1.2 = u := hw2.symm
  subst hw1
  subst hw2
  obtain ⟨hP, hD⟩ := qm_bk ht hB
  refine lv_if_ne (tgt := 10) hx hb dX7_atMostUpTo_5 (by decide) (fun c_3 => ?_) (fun c_3 => ?_)
  · rw [if_neg c_3] at h
    refine lv_aload_n hx hb dX7_atMostUpTo_10 rfl (lv_at hl 0 rfl) ?_
    refine va_get (D := D) (ci := 7) (v := .ref (am 2)) (C := RX7) (T := TX7) (N := 11) hx hb hts (by decide +kernel) hown hK hP (pre.length + 0) mg_0 rfl 1 (by decide) (hts (.fieldLink RX7 13 "QueueMiddlesModel" "count" "[I") (by decide +kernel)) (fun _ h9 => h9) rfl dX7_atMostUpTo_11 ?_
    refine lv_iload_n hx hb dX7_atMostUpTo_14 rfl (lv_at hl 1 rfl) ?_
    obtain ⟨g_4, h⟩ := qm_gd_some h
    refine va_iald hx hb hK hP (pre.length + 2) 0 mg_2 rfl g_4 dX7_atMostUpTo_15 ?_
    refine lv_istore_n (lv' := [(3, .int ((z_1.2.1 1) p0.toNatClampNeg)), (0, .ref (am 0)), (1, .int p0), (2, .int p1)]) hx hb dX7_atMostUpTo_16 rfl hl (by decide) rfl (fun ls hl => ?_)
    refine lv_sipush (v := (600 : Int32)) hx hb dX7_atMostUpTo_17 (by decide) ?_
    refine lv_iload_n hx hb dX7_atMostUpTo_20 rfl (lv_at hl 2 rfl) ?_
    refine lv_imul hx hb dX7_atMostUpTo_21 ?_
    refine lv_aload_n hx hb dX7_atMostUpTo_22 rfl (lv_at hl 1 rfl) ?_
    refine va_get (D := D) (ci := 7) (v := .ref (am 3)) (C := RX7) (T := TX7) (N := 11) hx hb hts (by decide +kernel) hown hK hP (pre.length + 0) mg_0 rfl 2 (by decide) (hts (.fieldLink RX7 16 "QueueMiddlesModel" "marks" "[I") (by decide +kernel)) (fun _ h9 => h9) rfl dX7_atMostUpTo_23 ?_
    refine lv_iload_n hx hb dX7_atMostUpTo_26 rfl (lv_at hl 2 rfl) ?_
    obtain ⟨g_5, h⟩ := qm_gd_some h
    refine va_iald hx hb hK hP (pre.length + 3) 0 mg_3 rfl g_5 dX7_atMostUpTo_27 ?_
    refine lv_iadd hx hb dX7_atMostUpTo_28 ?_
    refine lv_iconst (v := (1 : Int32)) hx hb dX7_atMostUpTo_29 (by decide) ?_
    refine lv_isub hx hb dX7_atMostUpTo_30 ?_
    refine lv_istore (lv' := [(4, .int ((((600 : Int32) * p0) + ((z_1.2.1 2) p0.toNatClampNeg)) - (1 : Int32))), (3, .int ((z_1.2.1 1) p0.toNatClampNeg)), (0, .ref (am 0)), (1, .int p0), (2, .int p1)]) hx hb dX7_atMostUpTo_31 hl (by decide) rfl (fun ls hl => ?_)
    have loop_7 : ∀ (fuel : Nat) (v3_6 v4_6 : Int32) (z : Int32), fX7_atMostUpTo_L33 p0 p1 fuel v3_6 v4_6 z_1.2 = some z → ∀ (H : Heap) (locs : List Loc) (ls : Array Slot), va_P D vwCl (mm_W pre am cI z_1.2) H → va_D A (mm_W pre am cI z_1.2) → va_S A s.heap H locs → lv_has ls 5 [(0, .ref (am 0)), (1, .int p0), (2, .int p1), (3, .int v3_6), (4, .int v4_6)] → (∀ (H : Heap) (locs : List Loc) (ls : Array Slot), va_P D vwCl (mm_W pre am cI z_1.2) H → va_D A (mm_W pre am cI z_1.2) → va_S A s.heap H locs → lv_has ls 5 [(3, .int z)] → W p l e ({ frames := 3, cells := 0, slots := 0, locals := 63 } : Room) s m ([.ref (am 0), .int p0, .int p1] : List Value).toArray below meth c H locs 0 0 QX (F0 m 74 ls [])) → W p l e ({ frames := 3, cells := 0, slots := 0, locals := 63 } : Room) s m ([.ref (am 0), .int p0, .int p1] : List Value).toArray below meth c H locs 0 0 QX (F0 m 33 ls []) := by
      intro fuel
      induction fuel with
      | zero =>
        intro v3_6 v4_6 z h
        rw [fX7_atMostUpTo_L33] at h
        cases h
      | succ fuel ih =>
        intro v3_6 v4_6 z h H locs ls hP hD hS hl kex
        rw [fX7_atMostUpTo_L33] at h
        refine lv_iload hx hb dX7_atMostUpTo_33 (lv_at hl 4 rfl) ?_
        refine lv_sipush (v := (600 : Int32)) hx hb dX7_atMostUpTo_35 (by decide) ?_
        refine lv_iload_n hx hb dX7_atMostUpTo_38 rfl (lv_at hl 1 rfl) ?_
        refine lv_imul hx hb dX7_atMostUpTo_39 ?_
        refine lv_icmp_lt (tgt := 74) hx hb dX7_atMostUpTo_40 (by decide) (fun c_8 => ?_) (fun c_8 => ?_)
        · rw [if_pos c_8] at h
          have h := Option.some.inj h
          subst h
          exact kex _ _ _ hP hD hS (lv_sub hl [3] rfl)
        · rw [if_neg c_8] at h
          refine lv_aload_n hx hb dX7_atMostUpTo_43 rfl (lv_at hl 0 rfl) ?_
          refine va_get (D := D) (ci := 7) (v := .ref (am 5)) (C := RX7) (T := TX7) (N := 11) hx hb hts (by decide +kernel) hown hK hP (pre.length + 0) mg_0 rfl 4 (by decide) (hts (.fieldLink RX7 22 "QueueMiddlesModel" "value" "[I") (by decide +kernel)) (fun _ h9 => h9) rfl dX7_atMostUpTo_44 ?_
          refine lv_iload hx hb dX7_atMostUpTo_47 (lv_at hl 4 rfl) ?_
          obtain ⟨g_9, h⟩ := qm_gd_some h
          refine va_iald hx hb hK hP (pre.length + 5) 0 mg_5 rfl g_9 dX7_atMostUpTo_49 ?_
          refine lv_iload_n hx hb dX7_atMostUpTo_50 rfl (lv_at hl 2 rfl) ?_
          refine lv_icmp_le (tgt := 66) hx hb dX7_atMostUpTo_51 (by decide) (fun c_10 => ?_) (fun c_10 => ?_)
          · rw [if_pos c_10] at h
            refine lv_iload_n hx hb dX7_atMostUpTo_66 rfl (lv_at hl 3 rfl) ?_
            refine lv_istore_n (lv' := [(3, .int v3_6), (0, .ref (am 0)), (1, .int p0), (2, .int p1), (4, .int v4_6)]) hx hb dX7_atMostUpTo_67 rfl hl (by decide) rfl (fun ls hl => ?_)
            refine lv_iinc (v := v4_6 + (-1 : Int32)) (lv' := [(4, .int (v4_6 + (-1 : Int32))), (3, .int v3_6), (0, .ref (am 0)), (1, .int p0), (2, .int p1)]) hx hb dX7_atMostUpTo_68 hl (k := 4) rfl rfl (by decide) rfl (fun ls hl => ?_)
            refine lv_goto (tgt := 33) hx hb dX7_atMostUpTo_71 (by decide) ?_
            exact ih v3_6 (v4_6 + (-1 : Int32))  z h _ _ _ hP hD hS (lv_sub hl [2, 3, 4, 1, 0] rfl) kex
          · rw [if_neg c_10] at h
            refine lv_aload_n hx hb dX7_atMostUpTo_54 rfl (lv_at hl 0 rfl) ?_
            refine va_get (D := D) (ci := 7) (v := .ref (am 7)) (C := RX7) (T := TX7) (N := 11) hx hb hts (by decide +kernel) hown hK hP (pre.length + 0) mg_0 rfl 6 (by decide) (hts (.fieldLink RX7 28 "QueueMiddlesModel" "highest" "[I") (by decide +kernel)) (fun _ h9 => h9) rfl dX7_atMostUpTo_55 ?_
            refine lv_iload hx hb dX7_atMostUpTo_58 (lv_at hl 4 rfl) ?_
            obtain ⟨g_11, h⟩ := qm_gd_some h
            refine va_iald hx hb hK hP (pre.length + 7) 0 mg_7 rfl g_11 dX7_atMostUpTo_60 ?_
            refine lv_iconst (v := (1 : Int32)) hx hb dX7_atMostUpTo_61 (by decide) ?_
            refine lv_isub hx hb dX7_atMostUpTo_62 ?_
            refine lv_goto (tgt := 67) hx hb dX7_atMostUpTo_63 (by decide) ?_
            refine lv_istore_n (lv' := [(3, .int (((z_1.2.1 6) v4_6.toNatClampNeg) - (1 : Int32))), (0, .ref (am 0)), (1, .int p0), (2, .int p1), (4, .int v4_6)]) hx hb dX7_atMostUpTo_67 rfl hl (by decide) rfl (fun ls hl => ?_)
            refine lv_iinc (v := v4_6 + (-1 : Int32)) (lv' := [(4, .int (v4_6 + (-1 : Int32))), (3, .int (((z_1.2.1 6) v4_6.toNatClampNeg) - (1 : Int32))), (0, .ref (am 0)), (1, .int p0), (2, .int p1)]) hx hb dX7_atMostUpTo_68 hl (k := 4) rfl rfl (by decide) rfl (fun ls hl => ?_)
            refine lv_goto (tgt := 33) hx hb dX7_atMostUpTo_71 (by decide) ?_
            exact ih (((z_1.2.1 6) v4_6.toNatClampNeg) - (1 : Int32)) (v4_6 + (-1 : Int32))  z h _ _ _ hP hD hS (lv_sub hl [2, 3, 4, 1, 0] rfl) kex
    obtain ⟨z_12, hz_13, h⟩ := qm_bind h
    refine loop_7 qm_F ((z_1.2.1 1) p0.toNatClampNeg) ((((600 : Int32) * p0) + ((z_1.2.1 2) p0.toNatClampNeg)) - (1 : Int32)) z_12 hz_13 _ _ _ hP hD hS (lv_sub hl [2, 3, 4, 1, 0] rfl) (fun H locs ls hP hD hS hl => ?_)
    refine lv_iload_n hx hb dX7_atMostUpTo_74 rfl (lv_at hl 0 rfl) ?_
    have h := Option.some.inj h
    subst h
    rw [hQX]
    exact W.iret (v := z_12) hx hb hr (fun t ht hW => ⟨⟨z_12, z_1.2, rfl, ⟨rfl, rfl⟩, qm_en ht hP hD⟩, hS.F ht⟩) hS.2.2 dX7_atMostUpTo_75
  · rw [if_pos c_3] at h
    refine lv_iconst (v := (0 : Int32)) hx hb dX7_atMostUpTo_8 (by decide) ?_
    have h := Option.some.inj h
    subst h
    rw [hQX]
    exact W.iret (v := (0 : Int32)) hx hb hr (fun t ht hW => ⟨⟨(0 : Int32), z_1.2, rfl, ⟨rfl, rfl⟩, qm_en ht hP hD⟩, hS.F ht⟩) hS.2.2 dX7_atMostUpTo_9
noncomputable def fX7_reallyUpTo (S : mm_M) (p0 : Int32) (p1 : Int32) : Option (Int32 × mm_M) :=
  Option.bind (fX7_isThere S p0) (fun z_1 => (if z_1.1 = 0 then some ((0 : Int32), z_1.2) else Option.bind (fX7_upTo z_1.2 p0 p1) (fun z_4 => some (z_4, z_1.2))))
set_option maxHeartbeats 4000000 in
set_option maxRecDepth 100000 in
theorem kX7_reallyUpTo (l : Launch) (D : va_G) (A : Nat → Prop) (pre : va_W) (am : Nat → Nat) (cI : ClassId) (S : mm_M) (p0 : Int32) (p1 : Int32) (z : Int32 × mm_M) (h : fX7_reallyUpTo S p0 p1 = some z) : Met l yX7_reallyUpTo wsX7_reallyUpTo ({ frames := 3, cells := 0, slots := 0, locals := 63 }) (va_Pc [.ref (am 0), .int p0, .int p1] (qm_B D A (mm_T cI) (mm_W pre am cI S))) (qm_Qi D A (mm_W pre am cI) z) 0 0 A := by
  refine Met.ofW (cc := cX7_reallyUpTo) (maxL := 3) (ret := (some .int)) (by decide) rfl ?_
  intro p e s m args below meth c s₁ B hml hv
  obtain ⟨rfl, hA, hP, hK, hD⟩ := hv
  have hx := B.exec
  have hb := B.bytes
  have hr := B.returns
  have hts := atoms_spec (ws := wsX7_reallyUpTo) B.pre
  have hown : s.vm.findClass RX7 = some m.cls := findClass_of_methodNamed B.named
  have hlocks := B.notSynchronized
  have hS : va_S A s.heap s.heap [] := va_S.rf
  have hl := lv_entry ([.ref (am 0), .int p0, .int p1]) (n := 3) (Nat.le_of_ble_eq_true rfl)
  rw [lg_entry_eq]
  generalize (lg_sl ([.ref (am 0), .int p0, .int p1]) ++ List.replicate (3 - (lg_sl ([.ref (am 0), .int p0, .int p1])).length) Slot.unset).toArray = ls at hl ⊢
  have hl : lv_has ls 3 [(0, .ref (am 0)), (1, .int p0), (2, .int p1)] := hl
  rw [fX7_reallyUpTo] at h
  refine lv_aload_n hx hb dX7_reallyUpTo_0 rfl (lv_at hl 0 rfl) ?_
  refine lv_iload_n hx hb dX7_reallyUpTo_1 rfl (lv_at hl 1 rfl) ?_
  obtain ⟨z_1, hz_2, h⟩ := qm_bind h
  refine va_calli (va_runV (As := [.int p0]) (rest := []) ⟨hx, hb, hml, hown, hts⟩ (kX7_isThere l D A pre am cI S p0 z_1 hz_2) (cwV 1 hts gX7_reallyUpTo_X7_isThere rfl rfl rfl (by decide +kernel) ⟨Nat.le_of_ble_eq_true rfl, Nat.le_of_ble_eq_true rfl⟩) ⟨qm_blind, va_recv hK hP (ci := 7) (q0 := (pre.length + 0)) rfl mg_0, fun U hU hW => ⟨rfl, qm_go hA hS hP hK hD hU hW⟩⟩ rfl rfl hl.1 rfl (lv_room (Nat.le_of_ble_eq_true rfl)) dX7_reallyUpTo_2 ⟨Nat.le_of_ble_eq_true rfl, Nat.le_of_ble_eq_true rfl⟩) hS (fun _ _ h9 => h9) (fun _ h9 => h9) (fun v u t H1 locs1 ht hvm hw hB hz1 hk1 hS => ?_)
  obtain ⟨hw1, hw2⟩ := hw
  have hw1 : z_1.1 = v := hw1.symm
  have hw2 : z_1.2 = u := hw2.symm
  subst hw1
  subst hw2
  obtain ⟨hP, hD⟩ := qm_bk ht hB
  refine lv_if_eq (tgt := 17) hx hb dX7_reallyUpTo_5 (by decide) (fun c_3 => ?_) (fun c_3 => ?_)
  · rw [if_pos c_3] at h
    refine lv_iconst (v := (0 : Int32)) hx hb dX7_reallyUpTo_17 (by decide) ?_
    have h := Option.some.inj h
    subst h
    exact W.iret (v := (0 : Int32)) hx hb hr (fun t ht hW => ⟨⟨(0 : Int32), z_1.2, rfl, ⟨rfl, rfl⟩, qm_en ht hP hD⟩, hS.F ht⟩) hS.2.2 dX7_reallyUpTo_18
  · rw [if_neg c_3] at h
    refine lv_aload_n hx hb dX7_reallyUpTo_8 rfl (lv_at hl 0 rfl) ?_
    refine lv_iload_n hx hb dX7_reallyUpTo_9 rfl (lv_at hl 1 rfl) ?_
    refine lv_iload_n hx hb dX7_reallyUpTo_10 rfl (lv_at hl 2 rfl) ?_
    obtain ⟨z_4, hz_5, h⟩ := qm_bind h
    refine va_calli (va_runV (As := [.int p0, .int p1]) (rest := []) ⟨hx, hb, hml, hown, hts⟩ (kX7_upTo l D A pre am cI z_1.2 p0 p1 z_4 hz_5) (cwV 2 hts gX7_reallyUpTo_X7_upTo rfl rfl rfl (by decide +kernel) ⟨Nat.le_of_ble_eq_true rfl, Nat.le_of_ble_eq_true rfl⟩) ⟨qm_blind, va_recv hK hP (ci := 7) (q0 := (pre.length + 0)) rfl mg_0, fun U hU hW => ⟨rfl, qm_go hA hS hP hK hD hU hW⟩⟩ rfl rfl hl.1 rfl (lv_room (Nat.le_of_ble_eq_true rfl)) dX7_reallyUpTo_11 ⟨Nat.le_of_ble_eq_true rfl, Nat.le_of_ble_eq_true rfl⟩) hS (fun _ _ h9 => h9) (fun _ h9 => h9) (fun v u t H1 locs1 ht hvm hw hB hz1 hk1 hS => ?_)
    obtain ⟨hw1, hw2⟩ := hw
    have hw1 : z_4 = v := hw1.symm
    have hw2 : z_1.2 = u := hw2.symm
    subst hw1
    subst hw2
    obtain ⟨hP, hD⟩ := qm_bk ht hB
    refine lv_goto (tgt := 18) hx hb dX7_reallyUpTo_14 (by decide) ?_
    have h := Option.some.inj h
    subst h
    exact W.iret (v := z_4) hx hb hr (fun t ht hW => ⟨⟨z_4, z_1.2, rfl, ⟨rfl, rfl⟩, qm_en ht hP hD⟩, hS.F ht⟩) hS.2.2 dX7_reallyUpTo_18
noncomputable def fX7_middle (S : mm_M) (p0 : Int32) : Option (Int32 × mm_M) :=
  Option.bind (fX7_half S p0) (fun z_1 => some (z_1.1, z_1.2))
set_option maxHeartbeats 4000000 in
set_option maxRecDepth 100000 in
theorem kX7_middle (l : Launch) (D : va_G) (A : Nat → Prop) (pre : va_W) (am : Nat → Nat) (cI : ClassId) (S : mm_M) (p0 : Int32) (z : Int32 × mm_M) (h : fX7_middle S p0 = some z) : Met l yX7_middle wsX7_middle ({ frames := 3, cells := 0, slots := 0, locals := 63 }) (va_Pc [.ref (am 0), .int p0] (qm_B D A (mm_T cI) (mm_W pre am cI S))) (qm_Qi D A (mm_W pre am cI) z) 0 0 A := by
  refine Met.ofW (cc := cX7_middle) (maxL := 2) (ret := (some .int)) (by decide) rfl ?_
  intro p e s m args below meth c s₁ B hml hv
  obtain ⟨rfl, hA, hP, hK, hD⟩ := hv
  have hx := B.exec
  have hb := B.bytes
  have hr := B.returns
  have hts := atoms_spec (ws := wsX7_middle) B.pre
  have hown : s.vm.findClass RX7 = some m.cls := findClass_of_methodNamed B.named
  have hlocks := B.notSynchronized
  have hS : va_S A s.heap s.heap [] := va_S.rf
  have hl := lv_entry ([.ref (am 0), .int p0]) (n := 2) (Nat.le_of_ble_eq_true rfl)
  rw [lg_entry_eq]
  generalize (lg_sl ([.ref (am 0), .int p0]) ++ List.replicate (2 - (lg_sl ([.ref (am 0), .int p0])).length) Slot.unset).toArray = ls at hl ⊢
  have hl : lv_has ls 2 [(0, .ref (am 0)), (1, .int p0)] := hl
  rw [fX7_middle] at h
  refine lv_aload_n hx hb dX7_middle_0 rfl (lv_at hl 0 rfl) ?_
  refine lv_iload_n hx hb dX7_middle_1 rfl (lv_at hl 1 rfl) ?_
  obtain ⟨z_1, hz_2, h⟩ := qm_bind h
  refine va_calli (va_runV (As := [.int p0]) (rest := []) ⟨hx, hb, hml, hown, hts⟩ (kX7_half l D A pre am cI S p0 z_1 hz_2) (cwV 1 hts gX7_middle_X7_half rfl rfl rfl (by decide +kernel) ⟨Nat.le_of_ble_eq_true rfl, Nat.le_of_ble_eq_true rfl⟩) ⟨qm_blind, va_recv hK hP (ci := 7) (q0 := (pre.length + 0)) rfl mg_0, fun U hU hW => ⟨rfl, qm_go hA hS hP hK hD hU hW⟩⟩ rfl rfl hl.1 rfl (lv_room (Nat.le_of_ble_eq_true rfl)) dX7_middle_2 ⟨Nat.le_of_ble_eq_true rfl, Nat.le_of_ble_eq_true rfl⟩) hS (fun _ _ h9 => h9) (fun _ h9 => h9) (fun v u t H1 locs1 ht hvm hw hB hz1 hk1 hS => ?_)
  obtain ⟨hw1, hw2⟩ := hw
  have hw1 : z_1.1 = v := hw1.symm
  have hw2 : z_1.2 = u := hw2.symm
  subst hw1
  subst hw2
  obtain ⟨hP, hD⟩ := qm_bk ht hB
  have h := Option.some.inj h
  subst h
  exact W.iret (v := z_1.1) hx hb hr (fun t ht hW => ⟨⟨z_1.1, z_1.2, rfl, ⟨rfl, rfl⟩, qm_en ht hP hD⟩, hS.F ht⟩) hS.2.2 dX7_middle_5
noncomputable def fX7_middleByHeaps (S : mm_M) (p0 : Int32) : Option (Int32 × mm_M) :=
  Option.bind (fX7_half S p0) (fun z_1 => some (z_1.1, z_1.2))
set_option maxHeartbeats 4000000 in
set_option maxRecDepth 100000 in
theorem kX7_middleByHeaps (l : Launch) (D : va_G) (A : Nat → Prop) (pre : va_W) (am : Nat → Nat) (cI : ClassId) (S : mm_M) (p0 : Int32) (z : Int32 × mm_M) (h : fX7_middleByHeaps S p0 = some z) : Met l yX7_middleByHeaps wsX7_middleByHeaps ({ frames := 3, cells := 0, slots := 0, locals := 63 }) (va_Pc [.ref (am 0), .int p0] (qm_B D A (mm_T cI) (mm_W pre am cI S))) (qm_Qi D A (mm_W pre am cI) z) 0 0 A := by
  refine Met.ofW (cc := cX7_middleByHeaps) (maxL := 2) (ret := (some .int)) (by decide) rfl ?_
  intro p e s m args below meth c s₁ B hml hv
  obtain ⟨rfl, hA, hP, hK, hD⟩ := hv
  have hx := B.exec
  have hb := B.bytes
  have hr := B.returns
  have hts := atoms_spec (ws := wsX7_middleByHeaps) B.pre
  have hown : s.vm.findClass RX7 = some m.cls := findClass_of_methodNamed B.named
  have hlocks := B.notSynchronized
  have hS : va_S A s.heap s.heap [] := va_S.rf
  have hl := lv_entry ([.ref (am 0), .int p0]) (n := 2) (Nat.le_of_ble_eq_true rfl)
  rw [lg_entry_eq]
  generalize (lg_sl ([.ref (am 0), .int p0]) ++ List.replicate (2 - (lg_sl ([.ref (am 0), .int p0])).length) Slot.unset).toArray = ls at hl ⊢
  have hl : lv_has ls 2 [(0, .ref (am 0)), (1, .int p0)] := hl
  rw [fX7_middleByHeaps] at h
  refine lv_aload_n hx hb dX7_middleByHeaps_0 rfl (lv_at hl 0 rfl) ?_
  refine lv_iload_n hx hb dX7_middleByHeaps_1 rfl (lv_at hl 1 rfl) ?_
  obtain ⟨z_1, hz_2, h⟩ := qm_bind h
  refine va_calli (va_runV (As := [.int p0]) (rest := []) ⟨hx, hb, hml, hown, hts⟩ (kX7_half l D A pre am cI S p0 z_1 hz_2) (cwV 1 hts gX7_middleByHeaps_X7_half rfl rfl rfl (by decide +kernel) ⟨Nat.le_of_ble_eq_true rfl, Nat.le_of_ble_eq_true rfl⟩) ⟨qm_blind, va_recv hK hP (ci := 7) (q0 := (pre.length + 0)) rfl mg_0, fun U hU hW => ⟨rfl, qm_go hA hS hP hK hD hU hW⟩⟩ rfl rfl hl.1 rfl (lv_room (Nat.le_of_ble_eq_true rfl)) dX7_middleByHeaps_2 ⟨Nat.le_of_ble_eq_true rfl, Nat.le_of_ble_eq_true rfl⟩) hS (fun _ _ h9 => h9) (fun _ h9 => h9) (fun v u t H1 locs1 ht hvm hw hB hz1 hk1 hS => ?_)
  obtain ⟨hw1, hw2⟩ := hw
  have hw1 : z_1.1 = v := hw1.symm
  have hw2 : z_1.2 = u := hw2.symm
  subst hw1
  subst hw2
  obtain ⟨hP, hD⟩ := qm_bk ht hB
  have h := Option.some.inj h
  subst h
  exact W.iret (v := z_1.1) hx hb hr (fun t ht hW => ⟨⟨z_1.1, z_1.2, rfl, ⟨rfl, rfl⟩, qm_en ht hP hD⟩, hS.F ht⟩) hS.2.2 dX7_middleByHeaps_5
