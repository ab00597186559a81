noncomputable def fX6_count (S : qm_S) (p0 : Int32) : Option (Int32) :=
  Option.bind (fX6_counterAt S p0) (fun z_1 => qm_gd (z_1 < 4) (some (S.2.2 z_1)))
set_option maxHeartbeats 4000000 in
set_option maxRecDepth 100000 in
theorem kX6_count (l : Launch) (D : va_G) (A : Nat → Prop) (ad : Nat → Nat) (cI cQ : ClassId) (rest : va_W) (S : qm_S) (p0 : Int32) (z : Int32) (h : fX6_count S p0 = some z) : Met l yX6_count wsX6_count ({ frames := 1, cells := 0, slots := 0, locals := 21 }) (va_Pc [.ref (ad 0), .int p0] (qn_B D A (qm_T cI cQ) (qm_W ad cI cQ rest S))) (qm_Qi D A (qm_W ad cI cQ rest) (z, S)) 0 0 A := by
  refine Met.ofW (cc := cX6_count) (maxL := 2) (ret := (some .int)) (by decide) rfl ?_
  intro p e s m args below meth c s₁ B hml hv
  obtain ⟨rfl, ⟨hA, hP, hK, hD⟩, hZ⟩ := hv
  have hx := B.exec
  have hb := B.bytes
  have hr := B.returns
  have hts := atoms_spec (ws := wsX6_count) B.pre
  have hown : s.vm.findClass RX6 = some m.cls := findClass_of_methodNamed B.named
  have hlocks := B.notSynchronized
  have hS : va_S A s.heap s.heap [] := va_S.rf
  have hl := lv_entry ([.ref (ad 0), .int p0]) (n := 2) (Nat.le_of_ble_eq_true rfl)
  rw [lg_entry_eq]
  generalize (lg_sl ([.ref (ad 0), .int p0]) ++ List.replicate (2 - (lg_sl ([.ref (ad 0), .int p0])).length) Slot.unset).toArray = ls at hl ⊢
  have hl : lv_has ls 2 [(0, .ref (ad 0)), (1, .int p0)] := hl
  rw [fX6_count] at h
  refine lv_aload_n hx hb dX6_count_0 rfl (lv_at hl 0 rfl) ?_
  refine lv_iload_n hx hb dX6_count_1 rfl (lv_at hl 1 rfl) ?_
  obtain ⟨z_1, hz_2, h⟩ := qm_bind h
  refine va_callr (va_runV (As := [.int p0]) (rest := []) ⟨hx, hb, hml, hown, hts⟩ (kX6_counterAt l D A ad cI cQ rest S p0 z_1 hz_2) (cwV 1 hts gX6_count_X6_counterAt rfl rfl rfl (by decide +kernel) ⟨Nat.le_of_ble_eq_true rfl, Nat.le_of_ble_eq_true rfl⟩) ⟨qn_blind, va_recv hK hP (ci := 6) (q0 := 0) rfl qg_Q, fun U hU hW => ⟨rfl, qm_go hA hS hP hK hD hU hW, qn_go hZ hW⟩⟩ rfl rfl hl.1 rfl (lv_room (Nat.le_of_ble_eq_true rfl)) dX6_count_2 ⟨Nat.le_of_ble_eq_true rfl, Nat.le_of_ble_eq_true rfl⟩) hS (fun _ _ h9 => h9) (fun _ h9 => h9) (fun u ra t H1 locs1 ht hvm hw hB hz1 hk1 hS => ?_)
  obtain ⟨hra, hB⟩ := hB
  have hra : ad (2 + z_1) = ra := hra.symm
  have hw : S = u := hw.symm
  subst hra
  subst hw
  obtain ⟨hk_3, h⟩ := qm_gd_some h
  obtain ⟨hP, hD⟩ := qm_bk ht hB
  clear hB
  refine va_getN (D := D) (ci := 0) (v := .ref (ad (10 + z_1))) (C := RX0) (T := TX0) (N := 4) hx hb hts (by decide +kernel) hown hK hP (2 + z_1) (qg_C hk_3) rfl 1 (by decide) (va_Nw.use rfl (qz_fnumbers hZ)) (fun _ h9 => h9) rfl dX6_count_5 ?_
  refine va_calli (va_runV (As := []) (rest := []) ⟨hx, hb, hml, hown, hts⟩ (nX5_total l D A ad cI cQ rest S z_1 hk_3) (cwV 0 hts gX6_count_X5_total rfl rfl rfl (by decide +kernel) ⟨Nat.le_of_ble_eq_true rfl, Nat.le_of_ble_eq_true rfl⟩) ⟨qm_blind, va_recv hK hP (ci := 5) (q0 := (10 + z_1)) rfl (qg_T hk_3), fun U hU hW => ⟨rfl, qm_go hA hS hP hK hD hU hW⟩⟩ rfl rfl hl.1 rfl (lv_room (Nat.le_of_ble_eq_true rfl)) dX6_count_8 ⟨Nat.le_of_ble_eq_true rfl, Nat.le_of_ble_eq_true rfl⟩) hS (fun _ _ h9 => h9) (fun _ h9 => h9) (fun v u t H1 locs1 ht hvm hw hB hz1 hk1 hS => ?_)
  obtain ⟨hw1, hw2⟩ := hw
  have hw2 : S = u := hw2.symm
  have hw1 : (S.2.2 z_1) = v := hw1.symm
  subst hw1
  subst hw2
  obtain ⟨hP, hD⟩ := qm_bk ht hB
  clear hB
  have h := Option.some.inj h
  subst h
  exact W.iret (v := (S.2.2 z_1)) hx hb hr (fun t ht hW => ⟨⟨(S.2.2 z_1), S, rfl, ⟨rfl, rfl⟩, qm_en ht hP hD⟩, hS.F ht⟩) hS.2.2 dX6_count_11
noncomputable def fX6_bound (S : qm_S) (p0 : Int32) : Option (Int32) :=
  Option.bind (fX6_counterAt S p0) (fun z_1 => qm_gd (z_1 < 4) (some (S.2.1 z_1)))
set_option maxHeartbeats 4000000 in
set_option maxRecDepth 100000 in
theorem kX6_bound (l : Launch) (D : va_G) (A : Nat → Prop) (ad : Nat → Nat) (cI cQ : ClassId) (rest : va_W) (S : qm_S) (p0 : Int32) (z : Int32) (h : fX6_bound S p0 = some z) : Met l yX6_bound wsX6_bound ({ frames := 1, cells := 0, slots := 0, locals := 21 }) (va_Pc [.ref (ad 0), .int p0] (qn_B D A (qm_T cI cQ) (qm_W ad cI cQ rest S))) (qm_Qi D A (qm_W ad cI cQ rest) (z, S)) 0 0 A := by
  refine Met.ofW (cc := cX6_bound) (maxL := 2) (ret := (some .int)) (by decide) rfl ?_
  intro p e s m args below meth c s₁ B hml hv
  obtain ⟨rfl, ⟨hA, hP, hK, hD⟩, hZ⟩ := hv
  have hx := B.exec
  have hb := B.bytes
  have hr := B.returns
  have hts := atoms_spec (ws := wsX6_bound) B.pre
  have hown : s.vm.findClass RX6 = some m.cls := findClass_of_methodNamed B.named
  have hlocks := B.notSynchronized
  have hS : va_S A s.heap s.heap [] := va_S.rf
  have hl := lv_entry ([.ref (ad 0), .int p0]) (n := 2) (Nat.le_of_ble_eq_true rfl)
  rw [lg_entry_eq]
  generalize (lg_sl ([.ref (ad 0), .int p0]) ++ List.replicate (2 - (lg_sl ([.ref (ad 0), .int p0])).length) Slot.unset).toArray = ls at hl ⊢
  have hl : lv_has ls 2 [(0, .ref (ad 0)), (1, .int p0)] := hl
  rw [fX6_bound] at h
  refine lv_aload_n hx hb dX6_bound_0 rfl (lv_at hl 0 rfl) ?_
  refine lv_iload_n hx hb dX6_bound_1 rfl (lv_at hl 1 rfl) ?_
  obtain ⟨z_1, hz_2, h⟩ := qm_bind h
  refine va_callr (va_runV (As := [.int p0]) (rest := []) ⟨hx, hb, hml, hown, hts⟩ (kX6_counterAt l D A ad cI cQ rest S p0 z_1 hz_2) (cwV 1 hts gX6_bound_X6_counterAt rfl rfl rfl (by decide +kernel) ⟨Nat.le_of_ble_eq_true rfl, Nat.le_of_ble_eq_true rfl⟩) ⟨qn_blind, va_recv hK hP (ci := 6) (q0 := 0) rfl qg_Q, fun U hU hW => ⟨rfl, qm_go hA hS hP hK hD hU hW, qn_go hZ hW⟩⟩ rfl rfl hl.1 rfl (lv_room (Nat.le_of_ble_eq_true rfl)) dX6_bound_2 ⟨Nat.le_of_ble_eq_true rfl, Nat.le_of_ble_eq_true rfl⟩) hS (fun _ _ h9 => h9) (fun _ h9 => h9) (fun u ra t H1 locs1 ht hvm hw hB hz1 hk1 hS => ?_)
  obtain ⟨hra, hB⟩ := hB
  have hra : ad (2 + z_1) = ra := hra.symm
  have hw : S = u := hw.symm
  subst hra
  subst hw
  obtain ⟨hk_3, h⟩ := qm_gd_some h
  obtain ⟨hP, hD⟩ := qm_bk ht hB
  clear hB
  refine va_getN (D := D) (ci := 0) (v := .int (S.2.1 z_1)) (C := RX0) (T := TX0) (N := 4) hx hb hts (by decide +kernel) hown hK hP (2 + z_1) (qg_C hk_3) rfl 3 (by decide) (va_Nw.use rfl (qz_fthousandths hZ)) (fun _ h9 => h9) rfl dX6_bound_5 ?_
  have h := Option.some.inj h
  subst h
  exact W.iret (v := S.2.1 z_1) hx hb hr (fun t ht hW => ⟨⟨S.2.1 z_1, S, rfl, ⟨rfl, rfl⟩, qm_en ht hP hD⟩, hS.F ht⟩) hS.2.2 dX6_bound_8
noncomputable def fX6_allowance (S : qm_S) (p0 : Int32) : Option (Int32) :=
  Option.bind (fX6_counterAt S p0) (fun z_1 => qm_gd (z_1 < 4) (some ((((2 : Int32) * (S.2.1 z_1)) * (S.2.2 z_1)) / (1000 : Int32))))
set_option maxHeartbeats 4000000 in
set_option maxRecDepth 100000 in
theorem kX6_allowance (l : Launch) (D : va_G) (A : Nat → Prop) (ad : Nat → Nat) (cI cQ : ClassId) (rest : va_W) (S : qm_S) (p0 : Int32) (z : Int32) (h : fX6_allowance S p0 = some z) : Met l yX6_allowance wsX6_allowance ({ frames := 2, cells := 0, slots := 0, locals := 40 }) (va_Pc [.ref (ad 0), .int p0] (qn_B D A (qm_T cI cQ) (qm_W ad cI cQ rest S))) (qm_Qi D A (qm_W ad cI cQ rest) (z, S)) 0 0 A := by
  refine Met.ofW (cc := cX6_allowance) (maxL := 2) (ret := (some .int)) (by decide) rfl ?_
  intro p e s m args below meth c s₁ B hml hv
  obtain ⟨rfl, ⟨hA, hP, hK, hD⟩, hZ⟩ := hv
  have hx := B.exec
  have hb := B.bytes
  have hr := B.returns
  have hts := atoms_spec (ws := wsX6_allowance) B.pre
  have hown : s.vm.findClass RX6 = some m.cls := findClass_of_methodNamed B.named
  have hlocks := B.notSynchronized
  have hS : va_S A s.heap s.heap [] := va_S.rf
  have hl := lv_entry ([.ref (ad 0), .int p0]) (n := 2) (Nat.le_of_ble_eq_true rfl)
  rw [lg_entry_eq]
  generalize (lg_sl ([.ref (ad 0), .int p0]) ++ List.replicate (2 - (lg_sl ([.ref (ad 0), .int p0])).length) Slot.unset).toArray = ls at hl ⊢
  have hl : lv_has ls 2 [(0, .ref (ad 0)), (1, .int p0)] := hl
  rw [fX6_allowance] at h
  refine lv_aload_n hx hb dX6_allowance_0 rfl (lv_at hl 0 rfl) ?_
  refine lv_iload_n hx hb dX6_allowance_1 rfl (lv_at hl 1 rfl) ?_
  obtain ⟨z_1, hz_2, h⟩ := qm_bind h
  refine va_callr (va_runV (As := [.int p0]) (rest := []) ⟨hx, hb, hml, hown, hts⟩ (kX6_counterAt l D A ad cI cQ rest S p0 z_1 hz_2) (cwV 1 hts gX6_allowance_X6_counterAt rfl rfl rfl (by decide +kernel) ⟨Nat.le_of_ble_eq_true rfl, Nat.le_of_ble_eq_true rfl⟩) ⟨qn_blind, va_recv hK hP (ci := 6) (q0 := 0) rfl qg_Q, fun U hU hW => ⟨rfl, qm_go hA hS hP hK hD hU hW, qn_go hZ hW⟩⟩ rfl rfl hl.1 rfl (lv_room (Nat.le_of_ble_eq_true rfl)) dX6_allowance_2 ⟨Nat.le_of_ble_eq_true rfl, Nat.le_of_ble_eq_true rfl⟩) hS (fun _ _ h9 => h9) (fun _ h9 => h9) (fun u ra t H1 locs1 ht hvm hw hB hz1 hk1 hS => ?_)
  obtain ⟨hra, hB⟩ := hB
  have hra : ad (2 + z_1) = ra := hra.symm
  have hw : S = u := hw.symm
  subst hra
  subst hw
  obtain ⟨hk_3, h⟩ := qm_gd_some h
  obtain ⟨hP, hD⟩ := qm_bk ht hB
  clear hB
  refine va_calli (va_runV (As := []) (rest := []) ⟨hx, hb, hml, hown, hts⟩ (nX0_allowed l D A ad cI cQ rest S z_1 hk_3) (cwV 0 hts gX6_allowance_X0_allowed rfl rfl rfl (by decide +kernel) ⟨Nat.le_of_ble_eq_true rfl, Nat.le_of_ble_eq_true rfl⟩) ⟨qm_blind, va_recv hK hP (ci := 0) (q0 := (2 + z_1)) rfl (qg_C hk_3), fun U hU hW => ⟨rfl, qm_go hA hS hP hK hD hU hW⟩⟩ rfl rfl hl.1 rfl (lv_room (Nat.le_of_ble_eq_true rfl)) dX6_allowance_5 ⟨Nat.le_of_ble_eq_true rfl, Nat.le_of_ble_eq_true rfl⟩) hS (fun _ _ h9 => h9) (fun _ h9 => h9) (fun v u t H1 locs1 ht hvm hw hB hz1 hk1 hS => ?_)
  obtain ⟨hw1, hw2⟩ := hw
  have hw2 : S = u := hw2.symm
  have hw1 : ((((2 : Int32) * (S.2.1 z_1)) * (S.2.2 z_1)) / (1000 : Int32)) = v := hw1.symm
  subst hw1
  subst hw2
  obtain ⟨hP, hD⟩ := qm_bk ht hB
  clear hB
  have h := Option.some.inj h
  subst h
  exact W.iret (v := ((((2 : Int32) * (S.2.1 z_1)) * (S.2.2 z_1)) / (1000 : Int32))) hx hb hr (fun t ht hW => ⟨⟨((((2 : Int32) * (S.2.1 z_1)) * (S.2.2 z_1)) / (1000 : Int32)), S, rfl, ⟨rfl, rfl⟩, qm_en ht hP hD⟩, hS.F ht⟩) hS.2.2 dX6_allowance_8
noncomputable def fX6_marks (S : qm_S) (p0 : Int32) : Option (Int32) :=
  Option.bind (fX6_counterAt S p0) (fun z_1 => qm_gd (z_1 < 4) (some ((S.1 z_1).1)))
set_option maxHeartbeats 4000000 in
set_option maxRecDepth 100000 in
theorem kX6_marks (l : Launch) (D : va_G) (A : Nat → Prop) (ad : Nat → Nat) (cI cQ : ClassId) (rest : va_W) (S : qm_S) (p0 : Int32) (z : Int32) (h : fX6_marks S p0 = some z) : Met l yX6_marks wsX6_marks ({ frames := 2, cells := 0, slots := 0, locals := 40 }) (va_Pc [.ref (ad 0), .int p0] (qn_B D A (qm_T cI cQ) (qm_W ad cI cQ rest S))) (qm_Qi D A (qm_W ad cI cQ rest) (z, S)) 0 0 A := by
  refine Met.ofW (cc := cX6_marks) (maxL := 2) (ret := (some .int)) (by decide) rfl ?_
  intro p e s m args below meth c s₁ B hml hv
  obtain ⟨rfl, ⟨hA, hP, hK, hD⟩, hZ⟩ := hv
  have hx := B.exec
  have hb := B.bytes
  have hr := B.returns
  have hts := atoms_spec (ws := wsX6_marks) B.pre
  have hown : s.vm.findClass RX6 = some m.cls := findClass_of_methodNamed B.named
  have hlocks := B.notSynchronized
  have hS : va_S A s.heap s.heap [] := va_S.rf
  have hl := lv_entry ([.ref (ad 0), .int p0]) (n := 2) (Nat.le_of_ble_eq_true rfl)
  rw [lg_entry_eq]
  generalize (lg_sl ([.ref (ad 0), .int p0]) ++ List.replicate (2 - (lg_sl ([.ref (ad 0), .int p0])).length) Slot.unset).toArray = ls at hl ⊢
  have hl : lv_has ls 2 [(0, .ref (ad 0)), (1, .int p0)] := hl
  rw [fX6_marks] at h
  refine lv_aload_n hx hb dX6_marks_0 rfl (lv_at hl 0 rfl) ?_
  refine lv_iload_n hx hb dX6_marks_1 rfl (lv_at hl 1 rfl) ?_
  obtain ⟨z_1, hz_2, h⟩ := qm_bind h
  refine va_callr (va_runV (As := [.int p0]) (rest := []) ⟨hx, hb, hml, hown, hts⟩ (kX6_counterAt l D A ad cI cQ rest S p0 z_1 hz_2) (cwV 1 hts gX6_marks_X6_counterAt rfl rfl rfl (by decide +kernel) ⟨Nat.le_of_ble_eq_true rfl, Nat.le_of_ble_eq_true rfl⟩) ⟨qn_blind, va_recv hK hP (ci := 6) (q0 := 0) rfl qg_Q, fun U hU hW => ⟨rfl, qm_go hA hS hP hK hD hU hW, qn_go hZ hW⟩⟩ rfl rfl hl.1 rfl (lv_room (Nat.le_of_ble_eq_true rfl)) dX6_marks_2 ⟨Nat.le_of_ble_eq_true rfl, Nat.le_of_ble_eq_true rfl⟩) hS (fun _ _ h9 => h9) (fun _ h9 => h9) (fun u ra t H1 locs1 ht hvm hw hB hz1 hk1 hS => ?_)
  obtain ⟨hra, hB⟩ := hB
  have hra : ad (2 + z_1) = ra := hra.symm
  have hw : S = u := hw.symm
  subst hra
  subst hw
  obtain ⟨hk_3, h⟩ := qm_gd_some h
  obtain ⟨hP, hD⟩ := qm_bk ht hB
  clear hB
  refine va_getN (D := D) (ci := 0) (v := .ref (ad (6 + z_1))) (C := RX0) (T := TX0) (N := 4) hx hb hts (by decide +kernel) hown hK hP (2 + z_1) (qg_C hk_3) rfl 0 (by decide) (va_Nw.use rfl (qz_frow hZ)) (fun _ h9 => h9) rfl dX6_marks_5 ?_
  refine va_calli (va_runV (As := []) (rest := []) ⟨hx, hb, hml, hown, hts⟩ (nX3_length l D A ad cI cQ rest S z_1 hk_3) (cwV 0 hts gX6_marks_X3_length rfl rfl rfl (by decide +kernel) ⟨Nat.le_of_ble_eq_true rfl, Nat.le_of_ble_eq_true rfl⟩) ⟨qm_blind, va_recv hK hP (ci := 3) (q0 := (6 + z_1)) rfl (qg_M hk_3), fun U hU hW => ⟨rfl, qm_go hA hS hP hK hD hU hW⟩⟩ rfl rfl hl.1 rfl (lv_room (Nat.le_of_ble_eq_true rfl)) dX6_marks_8 ⟨Nat.le_of_ble_eq_true rfl, Nat.le_of_ble_eq_true rfl⟩) hS (fun _ _ h9 => h9) (fun _ h9 => h9) (fun v u t H1 locs1 ht hvm hw hB hz1 hk1 hS => ?_)
  obtain ⟨hw1, hw2⟩ := hw
  have hw2 : S = u := hw2.symm
  have hw1 : ((S.1 z_1).1) = v := hw1.symm
  subst hw1
  subst hw2
  obtain ⟨hP, hD⟩ := qm_bk ht hB
  clear hB
  have h := Option.some.inj h
  subst h
  exact W.iret (v := ((S.1 z_1).1)) hx hb hr (fun t ht hW => ⟨⟨((S.1 z_1).1), S, rfl, ⟨rfl, rfl⟩, qm_en ht hP hD⟩, hS.F ht⟩) hS.2.2 dX6_marks_11
noncomputable def fX6_value (S : qm_S) (p0 : Int32) (p1 : Int32) : Option (Int32) :=
  Option.bind (fX6_rowWith S p0 p1) (fun z_1 => qm_gd (z_1 < 4) (some (rw_at (S.1 z_1) p1)))
set_option maxHeartbeats 4000000 in
set_option maxRecDepth 100000 in
theorem kX6_value (l : Launch) (D : va_G) (A : Nat → Prop) (ad : Nat → Nat) (cI cQ : ClassId) (rest : va_W) (S : qm_S) (p0 : Int32) (p1 : Int32) (z : Int32) (h : fX6_value S p0 p1 = some z) : Met l yX6_value wsX6_value ({ frames := 3, cells := 0, slots := 0, locals := 63 }) (va_Pc [.ref (ad 0), .int p0, .int p1] (qn_B D A (qm_T cI cQ) (qm_W ad cI cQ rest S))) (qm_Qi D A (qm_W ad cI cQ rest) (z, S)) 0 0 A := by
  refine Met.ofW (cc := cX6_value) (maxL := 3) (ret := (some .int)) (by decide) rfl ?_
  intro p e s m args below meth c s₁ B hml hv
  obtain ⟨rfl, ⟨hA, hP, hK, hD⟩, hZ⟩ := hv
  have hx := B.exec
  have hb := B.bytes
  have hr := B.returns
  have hts := atoms_spec (ws := wsX6_value) B.pre
  have hown : s.vm.findClass RX6 = some m.cls := findClass_of_methodNamed B.named
  have hlocks := B.notSynchronized
  have hS : va_S A s.heap s.heap [] := va_S.rf
  have hl := lv_entry ([.ref (ad 0), .int p0, .int p1]) (n := 3) (Nat.le_of_ble_eq_true rfl)
  rw [lg_entry_eq]
  generalize (lg_sl ([.ref (ad 0), .int p0, .int p1]) ++ List.replicate (3 - (lg_sl ([.ref (ad 0), .int p0, .int p1])).length) Slot.unset).toArray = ls at hl ⊢
  have hl : lv_has ls 3 [(0, .ref (ad 0)), (1, .int p0), (2, .int p1)] := hl
  rw [fX6_value] at h
  refine lv_aload_n hx hb dX6_value_0 rfl (lv_at hl 0 rfl) ?_
  refine lv_iload_n hx hb dX6_value_1 rfl (lv_at hl 1 rfl) ?_
  refine lv_iload_n hx hb dX6_value_2 rfl (lv_at hl 2 rfl) ?_
  obtain ⟨z_1, hz_2, h⟩ := qm_bind h
  refine va_callr (va_runV (As := [.int p0, .int p1]) (rest := []) ⟨hx, hb, hml, hown, hts⟩ (kX6_rowWith l D A ad cI cQ rest S p0 p1 z_1 hz_2) (cwV 2 hts gX6_value_X6_rowWith rfl rfl rfl (by decide +kernel) ⟨Nat.le_of_ble_eq_true rfl, Nat.le_of_ble_eq_true rfl⟩) ⟨qn_blind, va_recv hK hP (ci := 6) (q0 := 0) rfl qg_Q, fun U hU hW => ⟨rfl, qm_go hA hS hP hK hD hU hW, qn_go hZ hW⟩⟩ rfl rfl hl.1 rfl (lv_room (Nat.le_of_ble_eq_true rfl)) dX6_value_3 ⟨Nat.le_of_ble_eq_true rfl, Nat.le_of_ble_eq_true rfl⟩) hS (fun _ _ h9 => h9) (fun _ h9 => h9) (fun u ra t H1 locs1 ht hvm hw hB hz1 hk1 hS => ?_)
  obtain ⟨hra, hB⟩ := hB
  have hra : ad (6 + z_1) = ra := hra.symm
  have hw : S = u := hw.symm
  subst hra
  subst hw
  obtain ⟨hk_3, h⟩ := qm_gd_some h
  obtain ⟨hP, hD⟩ := qm_bk ht hB
  clear hB
  refine lv_iload_n hx hb dX6_value_6 rfl (lv_at hl 2 rfl) ?_
  refine va_calli (va_runV (As := [.int p1]) (rest := []) ⟨hx, hb, hml, hown, hts⟩ (nX3_valueOf l D A ad cI cQ rest S z_1 hk_3 p1) (cwV 1 hts gX6_value_X3_valueOf rfl rfl rfl (by decide +kernel) ⟨Nat.le_of_ble_eq_true rfl, Nat.le_of_ble_eq_true rfl⟩) ⟨qm_blind, va_recv hK hP (ci := 3) (q0 := (6 + z_1)) rfl (qg_M hk_3), fun U hU hW => ⟨rfl, qm_go hA hS hP hK hD hU hW⟩⟩ rfl rfl hl.1 rfl (lv_room (Nat.le_of_ble_eq_true rfl)) dX6_value_7 ⟨Nat.le_of_ble_eq_true rfl, Nat.le_of_ble_eq_true rfl⟩) hS (fun _ _ h9 => h9) (fun _ h9 => h9) (fun v u t H1 locs1 ht hvm hw hB hz1 hk1 hS => ?_)
  obtain ⟨hw1, hw2⟩ := hw
  have hw2 : S = u := hw2.symm
  have hw1 : (rw_at (S.1 z_1) p1) = v := hw1.symm
  subst hw1
  subst hw2
  obtain ⟨hP, hD⟩ := qm_bk ht hB
  clear hB
  have h := Option.some.inj h
  subst h
  exact W.iret (v := (rw_at (S.1 z_1) p1)) hx hb hr (fun t ht hW => ⟨⟨(rw_at (S.1 z_1) p1), S, rfl, ⟨rfl, rfl⟩, qm_en ht hP hD⟩, hS.F ht⟩) hS.2.2 dX6_value_10
noncomputable def fX6_lowestRank (S : qm_S) (p0 : Int32) (p1 : Int32) : Option (Int32) :=
  Option.bind (fX6_rowWith S p0 p1) (fun z_1 => qm_gd (z_1 < 4) (Option.bind (fX3_rankFrom S z_1 p1) (fun z_4 => some z_4)))
set_option maxHeartbeats 4000000 in
set_option maxRecDepth 100000 in
theorem kX6_lowestRank (l : Launch) (D : va_G) (A : Nat → Prop) (ad : Nat → Nat) (cI cQ : ClassId) (rest : va_W) (S : qm_S) (p0 : Int32) (p1 : Int32) (z : Int32) (h : fX6_lowestRank S p0 p1 = some z) : Met l yX6_lowestRank wsX6_lowestRank ({ frames := 4, cells := 0, slots := 0, locals := 86 }) (va_Pc [.ref (ad 0), .int p0, .int p1] (qn_B D A (qm_T cI cQ) (qm_W ad cI cQ rest S))) (qm_Qi D A (qm_W ad cI cQ rest) (z, S)) 0 0 A := by
  refine Met.ofW (cc := cX6_lowestRank) (maxL := 3) (ret := (some .int)) (by decide) rfl ?_
  intro p e s m args below meth c s₁ B hml hv
  obtain ⟨rfl, ⟨hA, hP, hK, hD⟩, hZ⟩ := hv
  have hx := B.exec
  have hb := B.bytes
  have hr := B.returns
  have hts := atoms_spec (ws := wsX6_lowestRank) B.pre
  have hown : s.vm.findClass RX6 = some m.cls := findClass_of_methodNamed B.named
  have hlocks := B.notSynchronized
  have hS : va_S A s.heap s.heap [] := va_S.rf
  have hl := lv_entry ([.ref (ad 0), .int p0, .int p1]) (n := 3) (Nat.le_of_ble_eq_true rfl)
  rw [lg_entry_eq]
  generalize (lg_sl ([.ref (ad 0), .int p0, .int p1]) ++ List.replicate (3 - (lg_sl ([.ref (ad 0), .int p0, .int p1])).length) Slot.unset).toArray = ls at hl ⊢
  have hl : lv_has ls 3 [(0, .ref (ad 0)), (1, .int p0), (2, .int p1)] := hl
  rw [fX6_lowestRank] at h
  refine lv_aload_n hx hb dX6_lowestRank_0 rfl (lv_at hl 0 rfl) ?_
  refine lv_iload_n hx hb dX6_lowestRank_1 rfl (lv_at hl 1 rfl) ?_
  refine lv_iload_n hx hb dX6_lowestRank_2 rfl (lv_at hl 2 rfl) ?_
  obtain ⟨z_1, hz_2, h⟩ := qm_bind h
  refine va_callr (va_runV (As := [.int p0, .int p1]) (rest := []) ⟨hx, hb, hml, hown, hts⟩ (kX6_rowWith l D A ad cI cQ rest S p0 p1 z_1 hz_2) (cwV 2 hts gX6_lowestRank_X6_rowWith rfl rfl rfl (by decide +kernel) ⟨Nat.le_of_ble_eq_true rfl, Nat.le_of_ble_eq_true rfl⟩) ⟨qn_blind, va_recv hK hP (ci := 6) (q0 := 0) rfl qg_Q, fun U hU hW => ⟨rfl, qm_go hA hS hP hK hD hU hW, qn_go hZ hW⟩⟩ rfl rfl hl.1 rfl (lv_room (Nat.le_of_ble_eq_true rfl)) dX6_lowestRank_3 ⟨Nat.le_of_ble_eq_true rfl, Nat.le_of_ble_eq_true rfl⟩) hS (fun _ _ h9 => h9) (fun _ h9 => h9) (fun u ra t H1 locs1 ht hvm hw hB hz1 hk1 hS => ?_)
  obtain ⟨hra, hB⟩ := hB
  have hra : ad (6 + z_1) = ra := hra.symm
  have hw : S = u := hw.symm
  subst hra
  subst hw
  obtain ⟨hk_3, h⟩ := qm_gd_some h
  obtain ⟨hP, hD⟩ := qm_bk ht hB
  clear hB
  refine lv_iload_n hx hb dX6_lowestRank_6 rfl (lv_at hl 2 rfl) ?_
  obtain ⟨z_4, hz_5, h⟩ := qm_bind h
  refine va_calli (va_runV (As := [.int p1]) (rest := []) ⟨hx, hb, hml, hown, hts⟩ (kX3_rankFrom l D A ad cI cQ rest S z_1 hk_3 p1 z_4 hz_5) (cwV 1 hts gX6_lowestRank_X3_rankFrom rfl rfl rfl (by decide +kernel) ⟨Nat.le_of_ble_eq_true rfl, Nat.le_of_ble_eq_true rfl⟩) ⟨qm_blind, va_recv hK hP (ci := 3) (q0 := (6 + z_1)) rfl (qg_M hk_3), fun U hU hW => ⟨rfl, qm_go hA hS hP hK hD hU hW⟩⟩ rfl rfl hl.1 rfl (lv_room (Nat.le_of_ble_eq_true rfl)) dX6_lowestRank_7 ⟨Nat.le_of_ble_eq_true rfl, Nat.le_of_ble_eq_true rfl⟩) hS (fun _ _ h9 => h9) (fun _ h9 => h9) (fun v u t H1 locs1 ht hvm hw hB hz1 hk1 hS => ?_)
  obtain ⟨hw1, hw2⟩ := hw
  have hw2 : S = u := hw2.symm
  have hw1 : z_4 = v := hw1.symm
  subst hw1
  subst hw2
  obtain ⟨hP, hD⟩ := qm_bk ht hB
  clear hB
  have h := Option.some.inj h
  subst h
  exact W.iret (v := z_4) hx hb hr (fun t ht hW => ⟨⟨z_4, S, rfl, ⟨rfl, rfl⟩, qm_en ht hP hD⟩, hS.F ht⟩) hS.2.2 dX6_lowestRank_10
noncomputable def fX6_highestRank (S : qm_S) (p0 : Int32) (p1 : Int32) : Option (Int32) :=
  Option.bind (fX6_rowWith S p0 p1) (fun z_1 => qm_gd (z_1 < 4) (Option.bind (fX3_rankTo S z_1 p1) (fun z_4 => some z_4)))
set_option maxHeartbeats 4000000 in
set_option maxRecDepth 100000 in
theorem kX6_highestRank (l : Launch) (D : va_G) (A : Nat → Prop) (ad : Nat → Nat) (cI cQ : ClassId) (rest : va_W) (S : qm_S) (p0 : Int32) (p1 : Int32) (z : Int32) (h : fX6_highestRank S p0 p1 = some z) : Met l yX6_highestRank wsX6_highestRank ({ frames := 5, cells := 0, slots := 0, locals := 107 }) (va_Pc [.ref (ad 0), .int p0, .int p1] (qn_B D A (qm_T cI cQ) (qm_W ad cI cQ rest S))) (qm_Qi D A (qm_W ad cI cQ rest) (z, S)) 0 0 A := by
  refine Met.ofW (cc := cX6_highestRank) (maxL := 3) (ret := (some .int)) (by decide) rfl ?_
  intro p e s m args below meth c s₁ B hml hv
  obtain ⟨rfl, ⟨hA, hP, hK, hD⟩, hZ⟩ := hv
  have hx := B.exec
  have hb := B.bytes
  have hr := B.returns
  have hts := atoms_spec (ws := wsX6_highestRank) B.pre
  have hown : s.vm.findClass RX6 = some m.cls := findClass_of_methodNamed B.named
  have hlocks := B.notSynchronized
  have hS : va_S A s.heap s.heap [] := va_S.rf
  have hl := lv_entry ([.ref (ad 0), .int p0, .int p1]) (n := 3) (Nat.le_of_ble_eq_true rfl)
  rw [lg_entry_eq]
  generalize (lg_sl ([.ref (ad 0), .int p0, .int p1]) ++ List.replicate (3 - (lg_sl ([.ref (ad 0), .int p0, .int p1])).length) Slot.unset).toArray = ls at hl ⊢
  have hl : lv_has ls 3 [(0, .ref (ad 0)), (1, .int p0), (2, .int p1)] := hl
  rw [fX6_highestRank] at h
  refine lv_aload_n hx hb dX6_highestRank_0 rfl (lv_at hl 0 rfl) ?_
  refine lv_iload_n hx hb dX6_highestRank_1 rfl (lv_at hl 1 rfl) ?_
  refine lv_iload_n hx hb dX6_highestRank_2 rfl (lv_at hl 2 rfl) ?_
  obtain ⟨z_1, hz_2, h⟩ := qm_bind h
  refine va_callr (va_runV (As := [.int p0, .int p1]) (rest := []) ⟨hx, hb, hml, hown, hts⟩ (kX6_rowWith l D A ad cI cQ rest S p0 p1 z_1 hz_2) (cwV 2 hts gX6_highestRank_X6_rowWith rfl rfl rfl (by decide +kernel) ⟨Nat.le_of_ble_eq_true rfl, Nat.le_of_ble_eq_true rfl⟩) ⟨qn_blind, va_recv hK hP (ci := 6) (q0 := 0) rfl qg_Q, fun U hU hW => ⟨rfl, qm_go hA hS hP hK hD hU hW, qn_go hZ hW⟩⟩ rfl rfl hl.1 rfl (lv_room (Nat.le_of_ble_eq_true rfl)) dX6_highestRank_3 ⟨Nat.le_of_ble_eq_true rfl, Nat.le_of_ble_eq_true rfl⟩) hS (fun _ _ h9 => h9) (fun _ h9 => h9) (fun u ra t H1 locs1 ht hvm hw hB hz1 hk1 hS => ?_)
  obtain ⟨hra, hB⟩ := hB
  have hra : ad (6 + z_1) = ra := hra.symm
  have hw : S = u := hw.symm
  subst hra
  subst hw
  obtain ⟨hk_3, h⟩ := qm_gd_some h
  obtain ⟨hP, hD⟩ := qm_bk ht hB
  clear hB
  refine lv_iload_n hx hb dX6_highestRank_6 rfl (lv_at hl 2 rfl) ?_
  obtain ⟨z_4, hz_5, h⟩ := qm_bind h
  refine va_calli (va_runV (As := [.int p1]) (rest := []) ⟨hx, hb, hml, hown, hts⟩ (kX3_rankTo l D A ad cI cQ rest S z_1 hk_3 p1 z_4 hz_5) (cwV 1 hts gX6_highestRank_X3_rankTo rfl rfl rfl (by decide +kernel) ⟨Nat.le_of_ble_eq_true rfl, Nat.le_of_ble_eq_true rfl⟩) ⟨qm_blind, va_recv hK hP (ci := 3) (q0 := (6 + z_1)) rfl (qg_M hk_3), fun U hU hW => ⟨rfl, qm_go hA hS hP hK hD hU hW⟩⟩ rfl rfl hl.1 rfl (lv_room (Nat.le_of_ble_eq_true rfl)) dX6_highestRank_7 ⟨Nat.le_of_ble_eq_true rfl, Nat.le_of_ble_eq_true rfl⟩) hS (fun _ _ h9 => h9) (fun _ h9 => h9) (fun v u t H1 locs1 ht hvm hw hB hz1 hk1 hS => ?_)
  obtain ⟨hw1, hw2⟩ := hw
  have hw2 : S = u := hw2.symm
  have hw1 : z_4 = v := hw1.symm
  subst hw1
  subst hw2
  obtain ⟨hP, hD⟩ := qm_bk ht hB
  clear hB
  have h := Option.some.inj h
  subst h
  exact W.iret (v := z_4) hx hb hr (fun t ht hW => ⟨⟨z_4, S, rfl, ⟨rfl, rfl⟩, qm_en ht hP hD⟩, hS.F ht⟩) hS.2.2 dX6_highestRank_10
noncomputable def fX6_widest (S : qm_S) (p0 : Int32) : Option (Int32) :=
  Option.bind (fX6_counterAt S p0) (fun z_1 => qm_gd (z_1 < 4) (Option.bind (fX3_greatestWidth S z_1) (fun z_4 => some z_4)))
set_option maxHeartbeats 4000000 in
set_option maxRecDepth 100000 in
theorem kX6_widest (l : Launch) (D : va_G) (A : Nat → Prop) (ad : Nat → Nat) (cI cQ : ClassId) (rest : va_W) (S : qm_S) (p0 : Int32) (z : Int32) (h : fX6_widest S p0 = some z) : Met l yX6_widest wsX6_widest ({ frames := 4, cells := 0, slots := 0, locals := 85 }) (va_Pc [.ref (ad 0), .int p0] (qn_B D A (qm_T cI cQ) (qm_W ad cI cQ rest S))) (qm_Qi D A (qm_W ad cI cQ rest) (z, S)) 0 0 A := by
  refine Met.ofW (cc := cX6_widest) (maxL := 2) (ret := (some .int)) (by decide) rfl ?_
  intro p e s m args below meth c s₁ B hml hv
  obtain ⟨rfl, ⟨hA, hP, hK, hD⟩, hZ⟩ := hv
  have hx := B.exec
  have hb := B.bytes
  have hr := B.returns
  have hts := atoms_spec (ws := wsX6_widest) B.pre
  have hown : s.vm.findClass RX6 = some m.cls := findClass_of_methodNamed B.named
  have hlocks := B.notSynchronized
  have hS : va_S A s.heap s.heap [] := va_S.rf
  have hl := lv_entry ([.ref (ad 0), .int p0]) (n := 2) (Nat.le_of_ble_eq_true rfl)
  rw [lg_entry_eq]
  generalize (lg_sl ([.ref (ad 0), .int p0]) ++ List.replicate (2 - (lg_sl ([.ref (ad 0), .int p0])).length) Slot.unset).toArray = ls at hl ⊢
  have hl : lv_has ls 2 [(0, .ref (ad 0)), (1, .int p0)] := hl
  rw [fX6_widest] at h
  refine lv_aload_n hx hb dX6_widest_0 rfl (lv_at hl 0 rfl) ?_
  refine lv_iload_n hx hb dX6_widest_1 rfl (lv_at hl 1 rfl) ?_
  obtain ⟨z_1, hz_2, h⟩ := qm_bind h
  refine va_callr (va_runV (As := [.int p0]) (rest := []) ⟨hx, hb, hml, hown, hts⟩ (kX6_counterAt l D A ad cI cQ rest S p0 z_1 hz_2) (cwV 1 hts gX6_widest_X6_counterAt rfl rfl rfl (by decide +kernel) ⟨Nat.le_of_ble_eq_true rfl, Nat.le_of_ble_eq_true rfl⟩) ⟨qn_blind, va_recv hK hP (ci := 6) (q0 := 0) rfl qg_Q, fun U hU hW => ⟨rfl, qm_go hA hS hP hK hD hU hW, qn_go hZ hW⟩⟩ rfl rfl hl.1 rfl (lv_room (Nat.le_of_ble_eq_true rfl)) dX6_widest_2 ⟨Nat.le_of_ble_eq_true rfl, Nat.le_of_ble_eq_true rfl⟩) hS (fun _ _ h9 => h9) (fun _ h9 => h9) (fun u ra t H1 locs1 ht hvm hw hB hz1 hk1 hS => ?_)
  obtain ⟨hra, hB⟩ := hB
  have hra : ad (2 + z_1) = ra := hra.symm
  have hw : S = u := hw.symm
  subst hra
  subst hw
  obtain ⟨hk_3, h⟩ := qm_gd_some h
  obtain ⟨hP, hD⟩ := qm_bk ht hB
  clear hB
  refine va_getN (D := D) (ci := 0) (v := .ref (ad (6 + z_1))) (C := RX0) (T := TX0) (N := 4) hx hb hts (by decide +kernel) hown hK hP (2 + z_1) (qg_C hk_3) rfl 0 (by decide) (va_Nw.use rfl (qz_frow hZ)) (fun _ h9 => h9) rfl dX6_widest_5 ?_
  obtain ⟨z_4, hz_5, h⟩ := qm_bind h
  refine va_calli (va_runV (As := []) (rest := []) ⟨hx, hb, hml, hown, hts⟩ (kX3_greatestWidth l D A ad cI cQ rest S z_1 hk_3 z_4 hz_5) (cwV 0 hts gX6_widest_X3_greatestWidth rfl rfl rfl (by decide +kernel) ⟨Nat.le_of_ble_eq_true rfl, Nat.le_of_ble_eq_true rfl⟩) ⟨qm_blind, va_recv hK hP (ci := 3) (q0 := (6 + z_1)) rfl (qg_M hk_3), fun U hU hW => ⟨rfl, qm_go hA hS hP hK hD hU hW⟩⟩ rfl rfl hl.1 rfl (lv_room (Nat.le_of_ble_eq_true rfl)) dX6_widest_8 ⟨Nat.le_of_ble_eq_true rfl, Nat.le_of_ble_eq_true rfl⟩) hS (fun _ _ h9 => h9) (fun _ h9 => h9) (fun v u t H1 locs1 ht hvm hw hB hz1 hk1 hS => ?_)
  obtain ⟨hw1, hw2⟩ := hw
  have hw2 : S = u := hw2.symm
  have hw1 : z_4 = v := hw1.symm
  subst hw1
  subst hw2
  obtain ⟨hP, hD⟩ := qm_bk ht hB
  clear hB
  have h := Option.some.inj h
  subst h
  exact W.iret (v := z_4) hx hb hr (fun t ht hW => ⟨⟨z_4, S, rfl, ⟨rfl, rfl⟩, qm_en ht hP hD⟩, hS.F ht⟩) hS.2.2 dX6_widest_11
noncomputable def fX6_ask (S : qm_S) (p0 : Int32) (p1 : Int32) : Option (Int32) :=
  Option.bind (fX6_counterForShare S p0 p1) (fun z_1 => qm_gd (z_1 < 4) (Option.bind (fX3_answering S z_1 (if (1 : Int32) < ((((p1 * (S.2.2 z_1)) + (1000 : Int32)) - (1 : Int32)) / (1000 : Int32)) then (((p1 * (S.2.2 z_1)) + (1000 : Int32)) - (1 : Int32)) / (1000 : Int32) else (1 : Int32))) (fun z_4 => some (rw_at (S.1 z_1) z_4))))
set_option maxHeartbeats 4000000 in
set_option maxRecDepth 100000 in
theorem kX6_ask (l : Launch) (D : va_G) (A : Nat → Prop) (ad : Nat → Nat) (cI cQ : ClassId) (rest : va_W) (S : qm_S) (p0 : Int32) (p1 : Int32) (z : Int32) (h : fX6_ask S p0 p1 = some z) : Met l yX6_ask wsX6_ask ({ frames := 7, cells := 0, slots := 0, locals := 155 }) (va_Pc [.ref (ad 0), .int p0, .int p1] (qn_B D A (qm_T cI cQ) (qm_W ad cI cQ rest S))) (qm_Qi D A (qm_W ad cI cQ rest) (z, S)) 0 0 A := by
  refine Met.ofW (cc := cX6_ask) (maxL := 4) (ret := (some .int)) (by decide) rfl ?_
  intro p e s m args below meth c s₁ B hml hv
  obtain ⟨rfl, ⟨hA, hP, hK, hD⟩, hZ⟩ := hv
  have hx := B.exec
  have hb := B.bytes
  have hr := B.returns
  have hts := atoms_spec (ws := wsX6_ask) B.pre
  have hown : s.vm.findClass RX6 = some m.cls := findClass_of_methodNamed B.named
  have hlocks := B.notSynchronized
  have hS : va_S A s.heap s.heap [] := va_S.rf
  have hl := lv_entry ([.ref (ad 0), .int p0, .int p1]) (n := 4) (Nat.le_of_ble_eq_true rfl)
  rw [lg_entry_eq]
  generalize (lg_sl ([.ref (ad 0), .int p0, .int p1]) ++ List.replicate (4 - (lg_sl ([.ref (ad 0), .int p0, .int p1])).length) Slot.unset).toArray = ls at hl ⊢
  have hl : lv_has ls 4 [(0, .ref (ad 0)), (1, .int p0), (2, .int p1)] := hl
  rw [fX6_ask] at h
  refine lv_aload_n hx hb dX6_ask_0 rfl (lv_at hl 0 rfl) ?_
  refine lv_iload_n hx hb dX6_ask_1 rfl (lv_at hl 1 rfl) ?_
  refine lv_iload_n hx hb dX6_ask_2 rfl (lv_at hl 2 rfl) ?_
  obtain ⟨z_1, hz_2, h⟩ := qm_bind h
  refine va_callr (va_runV (As := [.int p0, .int p1]) (rest := []) ⟨hx, hb, hml, hown, hts⟩ (kX6_counterForShare l D A ad cI cQ rest S p0 p1 z_1 hz_2) (cwV 2 hts gX6_ask_X6_counterForShare rfl rfl rfl (by decide +kernel) ⟨Nat.le_of_ble_eq_true rfl, Nat.le_of_ble_eq_true rfl⟩) ⟨qn_blind, va_recv hK hP (ci := 6) (q0 := 0) rfl qg_Q, fun U hU hW => ⟨rfl, qm_go hA hS hP hK hD hU hW, qn_go hZ hW⟩⟩ rfl rfl hl.1 rfl (lv_room (Nat.le_of_ble_eq_true rfl)) dX6_ask_3 ⟨Nat.le_of_ble_eq_true rfl, Nat.le_of_ble_eq_true rfl⟩) hS (fun _ _ h9 => h9) (fun _ h9 => h9) (fun u ra t H1 locs1 ht hvm hw hB hz1 hk1 hS => ?_)
  obtain ⟨hra, hB⟩ := hB
  have hra : ad (2 + z_1) = ra := hra.symm
  have hw : S = u := hw.symm
  subst hra
  subst hw
  obtain ⟨hk_3, h⟩ := qm_gd_some h
  obtain ⟨hP, hD⟩ := qm_bk ht hB
  clear hB
  refine lv_astore_n (lv' := [(3, .ref (ad (2 + z_1))), (0, .ref (ad 0)), (1, .int p0), (2, .int p1)]) hx hb dX6_ask_6 rfl hl (by decide) rfl (fun ls hl => ?_)
  refine lv_aload_n hx hb dX6_ask_7 rfl (lv_at hl 0 rfl) ?_
  refine va_getN (D := D) (ci := 0) (v := .ref (ad (6 + z_1))) (C := RX0) (T := TX0) (N := 4) hx hb hts (by decide +kernel) hown hK hP (2 + z_1) (qg_C hk_3) rfl 0 (by decide) (va_Nw.use rfl (qz_frow hZ)) (fun _ h9 => h9) rfl dX6_ask_8 ?_
  refine lv_aload_n hx hb dX6_ask_11 rfl (lv_at hl 0 rfl) ?_
  refine va_getN (D := D) (ci := 0) (v := .ref (ad (6 + z_1))) (C := RX0) (T := TX0) (N := 4) hx hb hts (by decide +kernel) hown hK hP (2 + z_1) (qg_C hk_3) rfl 0 (by decide) (va_Nw.use rfl (qz_frow hZ)) (fun _ h9 => h9) rfl dX6_ask_12 ?_
  refine lv_aload_n hx hb dX6_ask_15 rfl (lv_at hl 0 rfl) ?_
  refine lv_iload_n hx hb dX6_ask_16 rfl (lv_at hl 3 rfl) ?_
  refine va_calli (va_runV (As := [.int p1]) (rest := [.ref (ad (6 + z_1)), .ref (ad (6 + z_1))]) ⟨hx, hb, hml, hown, hts⟩ (nX0_rankAt l D A ad cI cQ rest S z_1 hk_3 p1) (cwV 1 hts gX6_ask_X0_rankAt rfl rfl rfl (by decide +kernel) ⟨Nat.le_of_ble_eq_true rfl, Nat.le_of_ble_eq_true rfl⟩) ⟨qm_blind, va_recv hK hP (ci := 0) (q0 := (2 + z_1)) rfl (qg_C hk_3), fun U hU hW => ⟨rfl, qm_go hA hS hP hK hD hU hW⟩⟩ rfl rfl hl.1 rfl (lv_room (Nat.le_of_ble_eq_true rfl)) dX6_ask_17 ⟨Nat.le_of_ble_eq_true rfl, Nat.le_of_ble_eq_true rfl⟩) hS (fun _ _ h9 => h9) (fun _ h9 => h9) (fun v u t H1 locs1 ht hvm hw hB hz1 hk1 hS => ?_)
  obtain ⟨hw1, hw2⟩ := hw
  have hw2 : S = u := hw2.symm
  have hw1 : (if (1 : Int32) < ((((p1 * (S.2.2 z_1)) + (1000 : Int32)) - (1 : Int32)) / (1000 : Int32)) then (((p1 * (S.2.2 z_1)) + (1000 : Int32)) - (1 : Int32)) / (1000 : Int32) else (1 : Int32)) = v := hw1.symm
  subst hw1
  subst hw2
  obtain ⟨hP, hD⟩ := qm_bk ht hB
  clear hB
  obtain ⟨z_4, hz_5, h⟩ := qm_bind h
  refine va_calli (va_runV (As := [.int (if (1 : Int32) < ((((p1 * (S.2.2 z_1)) + (1000 : Int32)) - (1 : Int32)) / (1000 : Int32)) then (((p1 * (S.2.2 z_1)) + (1000 : Int32)) - (1 : Int32)) / (1000 : Int32) else (1 : Int32))]) (rest := [.ref (ad (6 + z_1))]) ⟨hx, hb, hml, hown, hts⟩ (kX3_answering l D A ad cI cQ rest S z_1 hk_3 (if (1 : Int32) < ((((p1 * (S.2.2 z_1)) + (1000 : Int32)) - (1 : Int32)) / (1000 : Int32)) then (((p1 * (S.2.2 z_1)) + (1000 : Int32)) - (1 : Int32)) / (1000 : Int32) else (1 : Int32)) z_4 hz_5) (cwV 1 hts gX6_ask_X3_answering rfl rfl rfl (by decide +kernel) ⟨Nat.le_of_ble_eq_true rfl, Nat.le_of_ble_eq_true rfl⟩) ⟨qm_blind, va_recv hK hP (ci := 3) (q0 := (6 + z_1)) rfl (qg_M hk_3), fun U hU hW => ⟨rfl, qm_go hA hS hP hK hD hU hW⟩⟩ rfl rfl hl.1 rfl (lv_room (Nat.le_of_ble_eq_true rfl)) dX6_ask_20 ⟨Nat.le_of_ble_eq_true rfl, Nat.le_of_ble_eq_true rfl⟩) hS (fun _ _ h9 => h9) (fun _ h9 => h9) (fun v u t H1 locs1 ht hvm hw hB hz1 hk1 hS => ?_)
  obtain ⟨hw1, hw2⟩ := hw
  have hw2 : S = u := hw2.symm
  have hw1 : z_4 = v := hw1.symm
  subst hw1
  subst hw2
  obtain ⟨hP, hD⟩ := qm_bk ht hB
  clear hB
  refine va_calli (va_runV (As := [.int z_4]) (rest := []) ⟨hx, hb, hml, hown, hts⟩ (nX3_valueOf l D A ad cI cQ rest S z_1 hk_3 z_4) (cwV 1 hts gX6_ask_X3_valueOf rfl rfl rfl (by decide +kernel) ⟨Nat.le_of_ble_eq_true rfl, Nat.le_of_ble_eq_true rfl⟩) ⟨qm_blind, va_recv hK hP (ci := 3) (q0 := (6 + z_1)) rfl (qg_M hk_3), fun U hU hW => ⟨rfl, qm_go hA hS hP hK hD hU hW⟩⟩ rfl rfl hl.1 rfl (lv_room (Nat.le_of_ble_eq_true rfl)) dX6_ask_23 ⟨Nat.le_of_ble_eq_true rfl, Nat.le_of_ble_eq_true rfl⟩) hS (fun _ _ h9 => h9) (fun _ h9 => h9) (fun v u t H1 locs1 ht hvm hw hB hz1 hk1 hS => ?_)
  obtain ⟨hw1, hw2⟩ := hw
  have hw2 : S = u := hw2.symm
  have hw1 : (rw_at (S.1 z_1) z_4) = v := hw1.symm
  subst hw1
  subst hw2
  obtain ⟨hP, hD⟩ := qm_bk ht hB
  clear hB
  have h := Option.some.inj h
  subst h
  exact W.iret (v := (rw_at (S.1 z_1) z_4)) hx hb hr (fun t ht hW => ⟨⟨(rw_at (S.1 z_1) z_4), S, rfl, ⟨rfl, rfl⟩, qm_en ht hP hD⟩, hS.F ht⟩) hS.2.2 dX6_ask_26
noncomputable def fX6_off (S : qm_S) (p0 : Int32) (p1 : Int32) : Option (Int32) :=
  Option.bind (fX6_counterForShare S p0 p1) (fun z_1 => qm_gd (z_1 < 4) (Option.bind (fX3_answering S z_1 (if (1 : Int32) < ((((p1 * (S.2.2 z_1)) + (1000 : Int32)) - (1 : Int32)) / (1000 : Int32)) then (((p1 * (S.2.2 z_1)) + (1000 : Int32)) - (1 : Int32)) / (1000 : Int32) else (1 : Int32))) (fun z_4 => Option.bind (fX3_offBy S z_1 z_4 (if (1 : Int32) < ((((p1 * (S.2.2 z_1)) + (1000 : Int32)) - (1 : Int32)) / (1000 : Int32)) then (((p1 * (S.2.2 z_1)) + (1000 : Int32)) - (1 : Int32)) / (1000 : Int32) else (1 : Int32))) (fun z_6 => some z_6))))
set_option maxHeartbeats 4000000 in
set_option maxRecDepth 100000 in
theorem kX6_off (l : Launch) (D : va_G) (A : Nat → Prop) (ad : Nat → Nat) (cI cQ : ClassId) (rest : va_W) (S : qm_S) (p0 : Int32) (p1 : Int32) (z : Int32) (h : fX6_off S p0 p1 = some z) : Met l yX6_off wsX6_off ({ frames := 7, cells := 0, slots := 0, locals := 155 }) (va_Pc [.ref (ad 0), .int p0, .int p1] (qn_B D A (qm_T cI cQ) (qm_W ad cI cQ rest S))) (qm_Qi D A (qm_W ad cI cQ rest) (z, S)) 0 0 A := by
  refine Met.ofW (cc := cX6_off) (maxL := 5) (ret := (some .int)) (by decide) rfl ?_
  intro p e s m args below meth c s₁ B hml hv
  obtain ⟨rfl, ⟨hA, hP, hK, hD⟩, hZ⟩ := hv
  have hx := B.exec
  have hb := B.bytes
  have hr := B.returns
  have hts := atoms_spec (ws := wsX6_off) B.pre
  have hown : s.vm.findClass RX6 = some m.cls := findClass_of_methodNamed B.named
  have hlocks := B.notSynchronized
  have hS : va_S A s.heap s.heap [] := va_S.rf
  have hl := lv_entry ([.ref (ad 0), .int p0, .int p1]) (n := 5) (Nat.le_of_ble_eq_true rfl)
  rw [lg_entry_eq]
  generalize (lg_sl ([.ref (ad 0), .int p0, .int p1]) ++ List.replicate (5 - (lg_sl ([.ref (ad 0), .int p0, .int p1])).length) Slot.unset).toArray = ls at hl ⊢
  have hl : lv_has ls 5 [(0, .ref (ad 0)), (1, .int p0), (2, .int p1)] := hl
  rw [fX6_off] at h
  refine lv_aload_n hx hb dX6_off_0 rfl (lv_at hl 0 rfl) ?_
  refine lv_iload_n hx hb dX6_off_1 rfl (lv_at hl 1 rfl) ?_
  refine lv_iload_n hx hb dX6_off_2 rfl (lv_at hl 2 rfl) ?_
  obtain ⟨z_1, hz_2, h⟩ := qm_bind h
  refine va_callr (va_runV (As := [.int p0, .int p1]) (rest := []) ⟨hx, hb, hml, hown, hts⟩ (kX6_counterForShare l D A ad cI cQ rest S p0 p1 z_1 hz_2) (cwV 2 hts gX6_off_X6_counterForShare rfl rfl rfl (by decide +kernel) ⟨Nat.le_of_ble_eq_true rfl, Nat.le_of_ble_eq_true rfl⟩) ⟨qn_blind, va_recv hK hP (ci := 6) (q0 := 0) rfl qg_Q, fun U hU hW => ⟨rfl, qm_go hA hS hP hK hD hU hW, qn_go hZ hW⟩⟩ rfl rfl hl.1 rfl (lv_room (Nat.le_of_ble_eq_true rfl)) dX6_off_3 ⟨Nat.le_of_ble_eq_true rfl, Nat.le_of_ble_eq_true rfl⟩) hS (fun _ _ h9 => h9) (fun _ h9 => h9) (fun u ra t H1 locs1 ht hvm hw hB hz1 hk1 hS => ?_)
  obtain ⟨hra, hB⟩ := hB
  have hra : ad (2 + z_1) = ra := hra.symm
  have hw : S = u := hw.symm
  subst hra
  subst hw
  obtain ⟨hk_3, h⟩ := qm_gd_some h
  obtain ⟨hP, hD⟩ := qm_bk ht hB
  clear hB
  refine lv_astore_n (lv' := [(3, .ref (ad (2 + z_1))), (0, .ref (ad 0)), (1, .int p0), (2, .int p1)]) hx hb dX6_off_6 rfl hl (by decide) rfl (fun ls hl => ?_)
  refine lv_aload_n hx hb dX6_off_7 rfl (lv_at hl 0 rfl) ?_
  refine lv_iload_n hx hb dX6_off_8 rfl (lv_at hl 3 rfl) ?_
  refine va_calli (va_runV (As := [.int p1]) (rest := []) ⟨hx, hb, hml, hown, hts⟩ (nX0_rankAt l D A ad cI cQ rest S z_1 hk_3 p1) (cwV 1 hts gX6_off_X0_rankAt rfl rfl rfl (by decide +kernel) ⟨Nat.le_of_ble_eq_true rfl, Nat.le_of_ble_eq_true rfl⟩) ⟨qm_blind, va_recv hK hP (ci := 0) (q0 := (2 + z_1)) rfl (qg_C hk_3), fun U hU hW => ⟨rfl, qm_go hA hS hP hK hD hU hW⟩⟩ rfl rfl hl.1 rfl (lv_room (Nat.le_of_ble_eq_true rfl)) dX6_off_9 ⟨Nat.le_of_ble_eq_true rfl, Nat.le_of_ble_eq_true rfl⟩) hS (fun _ _ h9 => h9) (fun _ h9 => h9) (fun v u t H1 locs1 ht hvm hw hB hz1 hk1 hS => ?_)
  obtain ⟨hw1, hw2⟩ := hw
  have hw2 : S = u := hw2.symm
  have hw1 : (if (1 : Int32) < ((((p1 * (S.2.2 z_1)) + (1000 : Int32)) - (1 : Int32)) / (1000 : Int32)) then (((p1 * (S.2.2 z_1)) + (1000 : Int32)) - (1 : Int32)) / (1000 : Int32) else (1 : Int32)) = v := hw1.symm
  subst hw1
  subst hw2
  obtain ⟨hP, hD⟩ := qm_bk ht hB
  clear hB
  refine lv_istore (lv' := [(4, .int (if (1 : Int32) < ((((p1 * (S.2.2 z_1)) + (1000 : Int32)) - (1 : Int32)) / (1000 : Int32)) then (((p1 * (S.2.2 z_1)) + (1000 : Int32)) - (1 : Int32)) / (1000 : Int32) else (1 : Int32))), (3, .ref (ad (2 + z_1))), (0, .ref (ad 0)), (1, .int p0), (2, .int p1)]) hx hb dX6_off_12 hl (by decide) rfl (fun ls hl => ?_)
  refine lv_aload_n hx hb dX6_off_14 rfl (lv_at hl 1 rfl) ?_
  refine va_getN (D := D) (ci := 0) (v := .ref (ad (6 + z_1))) (C := RX0) (T := TX0) (N := 4) hx hb hts (by decide +kernel) hown hK hP (2 + z_1) (qg_C hk_3) rfl 0 (by decide) (va_Nw.use rfl (qz_frow hZ)) (fun _ h9 => h9) rfl dX6_off_15 ?_
  refine lv_aload_n hx hb dX6_off_18 rfl (lv_at hl 1 rfl) ?_
  refine va_getN (D := D) (ci := 0) (v := .ref (ad (6 + z_1))) (C := RX0) (T := TX0) (N := 4) hx hb hts (by decide +kernel) hown hK hP (2 + z_1) (qg_C hk_3) rfl 0 (by decide) (va_Nw.use rfl (qz_frow hZ)) (fun _ h9 => h9) rfl dX6_off_19 ?_
  refine lv_iload hx hb dX6_off_22 (lv_at hl 0 rfl) ?_
  obtain ⟨z_4, hz_5, h⟩ := qm_bind h
  refine va_calli (va_runV (As := [.int (if (1 : Int32) < ((((p1 * (S.2.2 z_1)) + (1000 : Int32)) - (1 : Int32)) / (1000 : Int32)) then (((p1 * (S.2.2 z_1)) + (1000 : Int32)) - (1 : Int32)) / (1000 : Int32) else (1 : Int32))]) (rest := [.ref (ad (6 + z_1))]) ⟨hx, hb, hml, hown, hts⟩ (kX3_answering l D A ad cI cQ rest S z_1 hk_3 (if (1 : Int32) < ((((p1 * (S.2.2 z_1)) + (1000 : Int32)) - (1 : Int32)) / (1000 : Int32)) then (((p1 * (S.2.2 z_1)) + (1000 : Int32)) - (1 : Int32)) / (1000 : Int32) else (1 : Int32)) z_4 hz_5) (cwV 1 hts gX6_off_X3_answering rfl rfl rfl (by decide +kernel) ⟨Nat.le_of_ble_eq_true rfl, Nat.le_of_ble_eq_true rfl⟩) ⟨qm_blind, va_recv hK hP (ci := 3) (q0 := (6 + z_1)) rfl (qg_M hk_3), fun U hU hW => ⟨rfl, qm_go hA hS hP hK hD hU hW⟩⟩ rfl rfl hl.1 rfl (lv_room (Nat.le_of_ble_eq_true rfl)) dX6_off_24 ⟨Nat.le_of_ble_eq_true rfl, Nat.le_of_ble_eq_true rfl⟩) hS (fun _ _ h9 => h9) (fun _ h9 => h9) (fun v u t H1 locs1 ht hvm hw hB hz1 hk1 hS => ?_)
  obtain ⟨hw1, hw2⟩ := hw
  have hw2 : S = u := hw2.symm
  have hw1 : z_4 = v := hw1.symm
  subst hw1
  subst hw2
  obtain ⟨hP, hD⟩ := qm_bk ht hB
  clear hB
  refine lv_iload hx hb dX6_off_27 (lv_at hl 0 rfl) ?_
  obtain ⟨z_6, hz_7, h⟩ := qm_bind h
  refine va_calli (va_runV (As := [.int z_4, .int (if (1 : Int32) < ((((p1 * (S.2.2 z_1)) + (1000 : Int32)) - (1 : Int32)) / (1000 : Int32)) then (((p1 * (S.2.2 z_1)) + (1000 : Int32)) - (1 : Int32)) / (1000 : Int32) else (1 : Int32))]) (rest := []) ⟨hx, hb, hml, hown, hts⟩ (kX3_offBy l D A ad cI cQ rest S z_1 hk_3 z_4 (if (1 : Int32) < ((((p1 * (S.2.2 z_1)) + (1000 : Int32)) - (1 : Int32)) / (1000 : Int32)) then (((p1 * (S.2.2 z_1)) + (1000 : Int32)) - (1 : Int32)) / (1000 : Int32) else (1 : Int32)) z_6 hz_7) (cwV 2 hts gX6_off_X3_offBy rfl rfl rfl (by decide +kernel) ⟨Nat.le_of_ble_eq_true rfl, Nat.le_of_ble_eq_true rfl⟩) ⟨qm_blind, va_recv hK hP (ci := 3) (q0 := (6 + z_1)) rfl (qg_M hk_3), fun U hU hW => ⟨rfl, qm_go hA hS hP hK hD hU hW⟩⟩ rfl rfl hl.1 rfl (lv_room (Nat.le_of_ble_eq_true rfl)) dX6_off_29 ⟨Nat.le_of_ble_eq_true rfl, Nat.le_of_ble_eq_true rfl⟩) hS (fun _ _ h9 => h9) (fun _ h9 => h9) (fun v u t H1 locs1 ht hvm hw hB hz1 hk1 hS => ?_)
  obtain ⟨hw1, hw2⟩ := hw
  have hw2 : S = u := hw2.symm
  have hw1 : z_6 = v := hw1.symm
  subst hw1
  subst hw2
  obtain ⟨hP, hD⟩ := qm_bk ht hB
  clear hB
  have h := Option.some.inj h
  subst h
  exact W.iret (v := z_6) hx hb hr (fun t ht hW => ⟨⟨z_6, S, rfl, ⟨rfl, rfl⟩, qm_en ht hP hD⟩, hS.F ht⟩) hS.2.2 dX6_off_32
noncomputable def fX6_reallyOff (S : qm_S) (p0 : Int32) (p1 : Int32) : Option (Int32) :=
  Option.bind (fX6_counterForShare S p0 p1) (fun z_1 => qm_gd (z_1 < 4) (Option.bind (fX3_answering S z_1 (if (1 : Int32) < ((((p1 * (S.2.2 z_1)) + (1000 : Int32)) - (1 : Int32)) / (1000 : Int32)) then (((p1 * (S.2.2 z_1)) + (1000 : Int32)) - (1 : Int32)) / (1000 : Int32) else (1 : Int32))) (fun z_4 => Option.bind (fX5_notAbove S z_1 ((rw_at (S.1 z_1) z_4) - (1 : Int32))) (fun z_6 => Option.bind (fX5_notAbove S z_1 (rw_at (S.1 z_1) z_4)) (fun z_8 => (if (z_6 + (1 : Int32)) ≤ (if (1 : Int32) < ((((p1 * (S.2.2 z_1)) + (1000 : Int32)) - (1 : Int32)) / (1000 : Int32)) then (((p1 * (S.2.2 z_1)) + (1000 : Int32)) - (1 : Int32)) / (1000 : Int32) else (1 : Int32)) then (if (if (1 : Int32) < ((((p1 * (S.2.2 z_1)) + (1000 : Int32)) - (1 : Int32)) / (1000 : Int32)) then (((p1 * (S.2.2 z_1)) + (1000 : Int32)) - (1 : Int32)) / (1000 : Int32) else (1 : Int32)) ≤ z_8 then some (0 : Int32) else some ((if (1 : Int32) < ((((p1 * (S.2.2 z_1)) + (1000 : Int32)) - (1 : Int32)) / (1000 : Int32)) then (((p1 * (S.2.2 z_1)) + (1000 : Int32)) - (1 : Int32)) / (1000 : Int32) else (1 : Int32)) - z_8)) else some ((z_6 + (1 : Int32)) - (if (1 : Int32) < ((((p1 * (S.2.2 z_1)) + (1000 : Int32)) - (1 : Int32)) / (1000 : Int32)) then (((p1 * (S.2.2 z_1)) + (1000 : Int32)) - (1 : Int32)) / (1000 : Int32) else (1 : Int32)))))))))
set_option maxHeartbeats 4000000 in
set_option maxRecDepth 100000 in
theorem kX6_reallyOff (l : Launch) (D : va_G) (A : Nat → Prop) (ad : Nat → Nat) (cI cQ : ClassId) (rest : va_W) (S : qm_S) (p0 : Int32) (p1 : Int32) (z : Int32) (h : fX6_reallyOff S p0 p1 = some z) : Met l yX6_reallyOff wsX6_reallyOff ({ frames := 7, cells := 0, slots := 0, locals := 155 }) (va_Pc [.ref (ad 0), .int p0, .int p1] (qn_B D A (qm_T cI cQ) (qm_W ad cI cQ rest S))) (qm_Qi D A (qm_W ad cI cQ rest) (z, S)) 0 0 A := by
  refine Met.ofW (cc := cX6_reallyOff) (maxL := 8) (ret := (some .int)) (by decide) rfl ?_
  intro p e s m args below meth c s₁ B hml hv
  obtain ⟨rfl, ⟨hA, hP, hK, hD⟩, hZ⟩ := hv
  have hx := B.exec
  have hb := B.bytes
  have hr := B.returns
  have hts := atoms_spec (ws := wsX6_reallyOff) B.pre
  have hown : s.vm.findClass RX6 = some m.cls := findClass_of_methodNamed B.named
  have hlocks := B.notSynchronized
  have hS : va_S A s.heap s.heap [] := va_S.rf
  have hl := lv_entry ([.ref (ad 0), .int p0, .int p1]) (n := 8) (Nat.le_of_ble_eq_true rfl)
  rw [lg_entry_eq]
  generalize (lg_sl ([.ref (ad 0), .int p0, .int p1]) ++ List.replicate (8 - (lg_sl ([.ref (ad 0), .int p0, .int p1])).length) Slot.unset).toArray = ls at hl ⊢
  have hl : lv_has ls 8 [(0, .ref (ad 0)), (1, .int p0), (2, .int p1)] := hl
  rw [fX6_reallyOff] at h
  refine lv_aload_n hx hb dX6_reallyOff_0 rfl (lv_at hl 0 rfl) ?_
  refine lv_iload_n hx hb dX6_reallyOff_1 rfl (lv_at hl 1 rfl) ?_
  refine lv_iload_n hx hb dX6_reallyOff_2 rfl (lv_at hl 2 rfl) ?_
  obtain ⟨z_1, hz_2, h⟩ := qm_bind h
  refine va_callr (va_runV (As := [.int p0, .int p1]) (rest := []) ⟨hx, hb, hml, hown, hts⟩ (kX6_counterForShare l D A ad cI cQ rest S p0 p1 z_1 hz_2) (cwV 2 hts gX6_reallyOff_X6_counterForShare rfl rfl rfl (by decide +kernel) ⟨Nat.le_of_ble_eq_true rfl, Nat.le_of_ble_eq_true rfl⟩) ⟨qn_blind, va_recv hK hP (ci := 6) (q0 := 0) rfl qg_Q, fun U hU hW => ⟨rfl, qm_go hA hS hP hK hD hU hW, qn_go hZ hW⟩⟩ rfl rfl hl.1 rfl (lv_room (Nat.le_of_ble_eq_true rfl)) dX6_reallyOff_3 ⟨Nat.le_of_ble_eq_true rfl, Nat.le_of_ble_eq_true rfl⟩) hS (fun _ _ h9 => h9) (fun _ h9 => h9) (fun u ra t H1 locs1 ht hvm hw hB hz1 hk1 hS => ?_)
  obtain ⟨hra, hB⟩ := hB
  have hra : ad (2 + z_1) = ra := hra.symm
  have hw : S = u := hw.symm
  subst hra
  subst hw
  obtain ⟨hk_3, h⟩ := qm_gd_some h
  obtain ⟨hP, hD⟩ := qm_bk ht hB
  clear hB
  refine lv_astore_n (lv' := [(3, .ref (ad (2 + z_1))), (0, .ref (ad 0)), (1, .int p0), (2, .int p1)]) hx hb dX6_reallyOff_6 rfl hl (by decide) rfl (fun ls hl => ?_)
  refine lv_aload_n hx hb dX6_reallyOff_7 rfl (lv_at hl 0 rfl) ?_
  refine lv_iload_n hx hb dX6_reallyOff_8 rfl (lv_at hl 3 rfl) ?_
  refine va_calli (va_runV (As := [.int p1]) (rest := []) ⟨hx, hb, hml, hown, hts⟩ (nX0_rankAt l D A ad cI cQ rest S z_1 hk_3 p1) (cwV 1 hts gX6_reallyOff_X0_rankAt rfl rfl rfl (by decide +kernel) ⟨Nat.le_of_ble_eq_true rfl, Nat.le_of_ble_eq_true rfl⟩) ⟨qm_blind, va_recv hK hP (ci := 0) (q0 := (2 + z_1)) rfl (qg_C hk_3), fun U hU hW => ⟨rfl, qm_go hA hS hP hK hD hU hW⟩⟩ rfl rfl hl.1 rfl (lv_room (Nat.le_of_ble_eq_true rfl)) dX6_reallyOff_9 ⟨Nat.le_of_ble_eq_true rfl, Nat.le_of_ble_eq_true rfl⟩) hS (fun _ _ h9 => h9) (fun _ h9 => h9) (fun v u t H1 locs1 ht hvm hw hB hz1 hk1 hS => ?_)
  obtain ⟨hw1, hw2⟩ := hw
  have hw2 : S = u := hw2.symm
  have hw1 : (if (1 : Int32) < ((((p1 * (S.2.2 z_1)) + (1000 : Int32)) - (1 : Int32)) / (1000 : Int32)) then (((p1 * (S.2.2 z_1)) + (1000 : Int32)) - (1 : Int32)) / (1000 : Int32) else (1 : Int32)) = v := hw1.symm
  subst hw1
  subst hw2
  obtain ⟨hP, hD⟩ := qm_bk ht hB
  clear hB
  refine lv_istore (lv' := [(4, .int (if (1 : Int32) < ((((p1 * (S.2.2 z_1)) + (1000 : Int32)) - (1 : Int32)) / (1000 : Int32)) then (((p1 * (S.2.2 z_1)) + (1000 : Int32)) - (1 : Int32)) / (1000 : Int32) else (1 : Int32))), (3, .ref (ad (2 + z_1))), (0, .ref (ad 0)), (1, .int p0), (2, .int p1)]) hx hb dX6_reallyOff_12 hl (by decide) rfl (fun ls hl => ?_)
  refine lv_aload_n hx hb dX6_reallyOff_14 rfl (lv_at hl 1 rfl) ?_
  refine va_getN (D := D) (ci := 0) (v := .ref (ad (6 + z_1))) (C := RX0) (T := TX0) (N := 4) hx hb hts (by decide +kernel) hown hK hP (2 + z_1) (qg_C hk_3) rfl 0 (by decide) (va_Nw.use rfl (qz_frow hZ)) (fun _ h9 => h9) rfl dX6_reallyOff_15 ?_
  refine lv_aload_n hx hb dX6_reallyOff_18 rfl (lv_at hl 1 rfl) ?_
  refine va_getN (D := D) (ci := 0) (v := .ref (ad (6 + z_1))) (C := RX0) (T := TX0) (N := 4) hx hb hts (by decide +kernel) hown hK hP (2 + z_1) (qg_C hk_3) rfl 0 (by decide) (va_Nw.use rfl (qz_frow hZ)) (fun _ h9 => h9) rfl dX6_reallyOff_19 ?_
  refine lv_iload hx hb dX6_reallyOff_22 (lv_at hl 0 rfl) ?_
  obtain ⟨z_4, hz_5, h⟩ := qm_bind h
  refine va_calli (va_runV (As := [.int (if (1 : Int32) < ((((p1 * (S.2.2 z_1)) + (1000 : Int32)) - (1 : Int32)) / (1000 : Int32)) then (((p1 * (S.2.2 z_1)) + (1000 : Int32)) - (1 : Int32)) / (1000 : Int32) else (1 : Int32))]) (rest := [.ref (ad (6 + z_1))]) ⟨hx, hb, hml, hown, hts⟩ (kX3_answering l D A ad cI cQ rest S z_1 hk_3 (if (1 : Int32) < ((((p1 * (S.2.2 z_1)) + (1000 : Int32)) - (1 : Int32)) / (1000 : Int32)) then (((p1 * (S.2.2 z_1)) + (1000 : Int32)) - (1 : Int32)) / (1000 : Int32) else (1 : Int32)) z_4 hz_5) (cwV 1 hts gX6_reallyOff_X3_answering rfl rfl rfl (by decide +kernel) ⟨Nat.le_of_ble_eq_true rfl, Nat.le_of_ble_eq_true rfl⟩) ⟨qm_blind, va_recv hK hP (ci := 3) (q0 := (6 + z_1)) rfl (qg_M hk_3), fun U hU hW => ⟨rfl, qm_go hA hS hP hK hD hU hW⟩⟩ rfl rfl hl.1 rfl (lv_room (Nat.le_of_ble_eq_true rfl)) dX6_reallyOff_24 ⟨Nat.le_of_ble_eq_true rfl, Nat.le_of_ble_eq_true rfl⟩) hS (fun _ _ h9 => h9) (fun _ h9 => h9) (fun v u t H1 locs1 ht hvm hw hB hz1 hk1 hS => ?_)
  obtain ⟨hw1, hw2⟩ := hw
  have hw2 : S = u := hw2.symm
  have hw1 : z_4 = v := hw1.symm
  subst hw1
  subst hw2
  obtain ⟨hP, hD⟩ := qm_bk ht hB
  clear hB
  refine va_calli (va_runV (As := [.int z_4]) (rest := []) ⟨hx, hb, hml, hown, hts⟩ (nX3_valueOf l D A ad cI cQ rest S z_1 hk_3 z_4) (cwV 1 hts gX6_reallyOff_X3_valueOf rfl rfl rfl (by decide +kernel) ⟨Nat.le_of_ble_eq_true rfl, Nat.le_of_ble_eq_true rfl⟩) ⟨qm_blind, va_recv hK hP (ci := 3) (q0 := (6 + z_1)) rfl (qg_M hk_3), fun U hU hW => ⟨rfl, qm_go hA hS hP hK hD hU hW⟩⟩ rfl rfl hl.1 rfl (lv_room (Nat.le_of_ble_eq_true rfl)) dX6_reallyOff_27 ⟨Nat.le_of_ble_eq_true rfl, Nat.le_of_ble_eq_true rfl⟩) hS (fun _ _ h9 => h9) (fun _ h9 => h9) (fun v u t H1 locs1 ht hvm hw hB hz1 hk1 hS => ?_)
  obtain ⟨hw1, hw2⟩ := hw
  have hw2 : S = u := hw2.symm
  have hw1 : (rw_at (S.1 z_1) z_4) = v := hw1.symm
  subst hw1
  subst hw2
  obtain ⟨hP, hD⟩ := qm_bk ht hB
  clear hB
  refine lv_istore (lv' := [(5, .int (rw_at (S.1 z_1) z_4)), (4, .int (if (1 : Int32) < ((((p1 * (S.2.2 z_1)) + (1000 : Int32)) - (1 : Int32)) / (1000 : Int32)) then (((p1 * (S.2.2 z_1)) + (1000 : Int32)) - (1 : Int32)) / (1000 : Int32) else (1 : Int32))), (3, .ref (ad (2 + z_1))), (0, .ref (ad 0)), (1, .int p0), (2, .int p1)]) hx hb dX6_reallyOff_30 hl (by decide) rfl (fun ls hl => ?_)
  refine lv_aload_n hx hb dX6_reallyOff_32 rfl (lv_at hl 2 rfl) ?_
  refine va_getN (D := D) (ci := 0) (v := .ref (ad (10 + z_1))) (C := RX0) (T := TX0) (N := 4) hx hb hts (by decide +kernel) hown hK hP (2 + z_1) (qg_C hk_3) rfl 1 (by decide) (va_Nw.use rfl (qz_fnumbers hZ)) (fun _ h9 => h9) rfl dX6_reallyOff_33 ?_
  refine lv_iload hx hb dX6_reallyOff_36 (lv_at hl 0 rfl) ?_
  refine lv_iconst (v := (1 : Int32)) hx hb dX6_reallyOff_38 (by decide) ?_
  refine lv_isub hx hb dX6_reallyOff_39 ?_
  obtain ⟨z_6, hz_7, h⟩ := qm_bind h
  refine va_calli (va_runV (As := [.int ((rw_at (S.1 z_1) z_4) - (1 : Int32))]) (rest := []) ⟨hx, hb, hml, hown, hts⟩ (kX5_notAbove l D A ad cI cQ rest S z_1 hk_3 ((rw_at (S.1 z_1) z_4) - (1 : Int32)) z_6 hz_7) (cwV 1 hts gX6_reallyOff_X5_notAbove rfl rfl rfl (by decide +kernel) ⟨Nat.le_of_ble_eq_true rfl, Nat.le_of_ble_eq_true rfl⟩) ⟨qm_blind, va_recv hK hP (ci := 5) (q0 := (10 + z_1)) rfl (qg_T hk_3), fun U hU hW => ⟨rfl, qm_go hA hS hP hK hD hU hW⟩⟩ rfl rfl hl.1 rfl (lv_room (Nat.le_of_ble_eq_true rfl)) dX6_reallyOff_40 ⟨Nat.le_of_ble_eq_true rfl, Nat.le_of_ble_eq_true rfl⟩) hS (fun _ _ h9 => h9) (fun _ h9 => h9) (fun v u t H1 locs1 ht hvm hw hB hz1 hk1 hS => ?_)
  obtain ⟨hw1, hw2⟩ := hw
  have hw2 : S = u := hw2.symm
  have hw1 : z_6 = v := hw1.symm
  subst hw1
  subst hw2
  obtain ⟨hP, hD⟩ := qm_bk ht hB
  clear hB
  refine lv_iconst (v := (1 : Int32)) hx hb dX6_reallyOff_43 (by decide) ?_
  refine lv_iadd hx hb dX6_reallyOff_44 ?_
  refine lv_istore (lv' := [(6, .int (z_6 + (1 : Int32))), (5, .int (rw_at (S.1 z_1) z_4)), (4, .int (if (1 : Int32) < ((((p1 * (S.2.2 z_1)) + (1000 : Int32)) - (1 : Int32)) / (1000 : Int32)) then (((p1 * (S.2.2 z_1)) + (1000 : Int32)) - (1 : Int32)) / (1000 : Int32) else (1 : Int32))), (3, .ref (ad (2 + z_1))), (0, .ref (ad 0)), (1, .int p0), (2, .int p1)]) hx hb dX6_reallyOff_45 hl (by decide) rfl (fun ls hl => ?_)
  refine lv_aload_n hx hb dX6_reallyOff_47 rfl (lv_at hl 3 rfl) ?_
  refine va_getN (D := D) (ci := 0) (v := .ref (ad (10 + z_1))) (C := RX0) (T := TX0) (N := 4) hx hb hts (by decide +kernel) hown hK hP (2 + z_1) (qg_C hk_3) rfl 1 (by decide) (va_Nw.use rfl (qz_fnumbers hZ)) (fun _ h9 => h9) rfl dX6_reallyOff_48 ?_
  refine lv_iload hx hb dX6_reallyOff_51 (lv_at hl 1 rfl) ?_
  obtain ⟨z_8, hz_9, h⟩ := qm_bind h
  refine va_calli (va_runV (As := [.int (rw_at (S.1 z_1) z_4)]) (rest := []) ⟨hx, hb, hml, hown, hts⟩ (kX5_notAbove l D A ad cI cQ rest S z_1 hk_3 (rw_at (S.1 z_1) z_4) z_8 hz_9) (cwV 1 hts gX6_reallyOff_X5_notAbove rfl rfl rfl (by decide +kernel) ⟨Nat.le_of_ble_eq_true rfl, Nat.le_of_ble_eq_true rfl⟩) ⟨qm_blind, va_recv hK hP (ci := 5) (q0 := (10 + z_1)) rfl (qg_T hk_3), fun U hU hW => ⟨rfl, qm_go hA hS hP hK hD hU hW⟩⟩ rfl rfl hl.1 rfl (lv_room (Nat.le_of_ble_eq_true rfl)) dX6_reallyOff_53 ⟨Nat.le_of_ble_eq_true rfl, Nat.le_of_ble_eq_true rfl⟩) hS (fun _ _ h9 => h9) (fun _ h9 => h9) (fun v u t H1 locs1 ht hvm hw hB hz1 hk1 hS => ?_)
  obtain ⟨hw1, hw2⟩ := hw
  have hw2 : S = u := hw2.symm
  have hw1 : z_8 = v := hw1.symm
  subst hw1
  subst hw2
  obtain ⟨hP, hD⟩ := qm_bk ht hB
  clear hB
  refine lv_istore (lv' := [(7, .int z_8), (6, .int (z_6 + (1 : Int32))), (5, .int (rw_at (S.1 z_1) z_4)), (4, .int (if (1 : Int32) < ((((p1 * (S.2.2 z_1)) + (1000 : Int32)) - (1 : Int32)) / (1000 : Int32)) then (((p1 * (S.2.2 z_1)) + (1000 : Int32)) - (1 : Int32)) / (1000 : Int32) else (1 : Int32))), (3, .ref (ad (2 + z_1))), (0, .ref (ad 0)), (1, .int p0), (2, .int p1)]) hx hb dX6_reallyOff_56 hl (by decide) rfl (fun ls hl => ?_)
  refine lv_iload hx hb dX6_reallyOff_58 (lv_at hl 3 rfl) ?_
  refine lv_iload hx hb dX6_reallyOff_60 (lv_at hl 1 rfl) ?_
  refine lv_icmp_ge (tgt := 71) hx hb dX6_reallyOff_62 (by decide) (fun c_10 => ?_) (fun c_10 => ?_)
  · rw [if_pos c_10] at h
    refine lv_iload hx hb dX6_reallyOff_71 (lv_at hl 3 rfl) ?_
    refine lv_iload hx hb dX6_reallyOff_73 (lv_at hl 0 rfl) ?_
    refine lv_icmp_le (tgt := 86) hx hb dX6_reallyOff_75 (by decide) (fun c_11 => ?_) (fun c_11 => ?_)
    · rw [if_pos c_11] at h
      refine lv_iconst (v := (0 : Int32)) hx hb dX6_reallyOff_86 (by decide) ?_
      have h := Option.some.inj h
      subst h
      exact W.iret (v := (0 : Int32)) hx hb hr (fun t ht hW => ⟨⟨(0 : Int32), S, rfl, ⟨rfl, rfl⟩, qm_en ht hP hD⟩, hS.F ht⟩) hS.2.2 dX6_reallyOff_87
    · rw [if_neg c_11] at h
      refine lv_iload hx hb dX6_reallyOff_78 (lv_at hl 3 rfl) ?_
      refine lv_iload hx hb dX6_reallyOff_80 (lv_at hl 0 rfl) ?_
      refine lv_isub hx hb dX6_reallyOff_82 ?_
      refine lv_goto (tgt := 87) hx hb dX6_reallyOff_83 (by decide) ?_
      have h := Option.some.inj h
      subst h
      exact W.iret (v := (if (1 : Int32) < ((((p1 * (S.2.2 z_1)) + (1000 : Int32)) - (1 : Int32)) / (1000 : Int32)) then (((p1 * (S.2.2 z_1)) + (1000 : Int32)) - (1 : Int32)) / (1000 : Int32) else (1 : Int32)) - z_8) hx hb hr (fun t ht hW => ⟨⟨(if (1 : Int32) < ((((p1 * (S.2.2 z_1)) + (1000 : Int32)) - (1 : Int32)) / (1000 : Int32)) then (((p1 * (S.2.2 z_1)) + (1000 : Int32)) - (1 : Int32)) / (1000 : Int32) else (1 : Int32)) - z_8, S, rfl, ⟨rfl, rfl⟩, qm_en ht hP hD⟩, hS.F ht⟩) hS.2.2 dX6_reallyOff_87
  · rw [if_neg c_10] at h
    refine lv_iload hx hb dX6_reallyOff_65 (lv_at hl 1 rfl) ?_
    refine lv_iload hx hb dX6_reallyOff_67 (lv_at hl 3 rfl) ?_
    refine lv_isub hx hb dX6_reallyOff_69 ?_
    have h := Option.some.inj h
    subst h
    exact W.iret (v := (z_6 + (1 : Int32)) - (if (1 : Int32) < ((((p1 * (S.2.2 z_1)) + (1000 : Int32)) - (1 : Int32)) / (1000 : Int32)) then (((p1 * (S.2.2 z_1)) + (1000 : Int32)) - (1 : Int32)) / (1000 : Int32) else (1 : Int32))) hx hb hr (fun t ht hW => ⟨⟨(z_6 + (1 : Int32)) - (if (1 : Int32) < ((((p1 * (S.2.2 z_1)) + (1000 : Int32)) - (1 : Int32)) / (1000 : Int32)) then (((p1 * (S.2.2 z_1)) + (1000 : Int32)) - (1 : Int32)) / (1000 : Int32) else (1 : Int32)), S, rfl, ⟨rfl, rfl⟩, qm_en ht hP hD⟩, hS.F ht⟩) hS.2.2 dX6_reallyOff_70
noncomputable def fX6_atLeastUpTo (S : qm_S) (p0 : Int32) (p1 : Int32) : Option (Int32) :=
  Option.bind (fX6_counterAt S p0) (fun z_1 => qm_gd (z_1 < 4) (Option.bind (fX3_atLeastNotAbove S z_1 p1) (fun z_4 => some z_4)))
set_option maxHeartbeats 4000000 in
set_option maxRecDepth 100000 in
theorem kX6_atLeastUpTo (l : Launch) (D : va_G) (A : Nat → Prop) (ad : Nat → Nat) (cI cQ : ClassId) (rest : va_W) (S : qm_S) (p0 : Int32) (p1 : Int32) (z : Int32) (h : fX6_atLeastUpTo S p0 p1 = some z) : Met l yX6_atLeastUpTo wsX6_atLeastUpTo ({ frames := 4, cells := 0, slots := 0, locals := 87 }) (va_Pc [.ref (ad 0), .int p0, .int p1] (qn_B D A (qm_T cI cQ) (qm_W ad cI cQ rest S))) (qm_Qi D A (qm_W ad cI cQ rest) (z, S)) 0 0 A := by
  refine Met.ofW (cc := cX6_atLeastUpTo) (maxL := 3) (ret := (some .int)) (by decide) rfl ?_
  intro p e s m args below meth c s₁ B hml hv
  obtain ⟨rfl, ⟨hA, hP, hK, hD⟩, hZ⟩ := hv
  have hx := B.exec
  have hb := B.bytes
  have hr := B.returns
  have hts := atoms_spec (ws := wsX6_atLeastUpTo) B.pre
  have hown : s.vm.findClass RX6 = some m.cls := findClass_of_methodNamed B.named
  have hlocks := B.notSynchronized
  have hS : va_S A s.heap s.heap [] := va_S.rf
  have hl := lv_entry ([.ref (ad 0), .int p0, .int p1]) (n := 3) (Nat.le_of_ble_eq_true rfl)
  rw [lg_entry_eq]
  generalize (lg_sl ([.ref (ad 0), .int p0, .int p1]) ++ List.replicate (3 - (lg_sl ([.ref (ad 0), .int p0, .int p1])).length) Slot.unset).toArray = ls at hl ⊢
  have hl : lv_has ls 3 [(0, .ref (ad 0)), (1, .int p0), (2, .int p1)] := hl
  rw [fX6_atLeastUpTo] at h
  refine lv_aload_n hx hb dX6_atLeastUpTo_0 rfl (lv_at hl 0 rfl) ?_
  refine lv_iload_n hx hb dX6_atLeastUpTo_1 rfl (lv_at hl 1 rfl) ?_
  obtain ⟨z_1, hz_2, h⟩ := qm_bind h
  refine va_callr (va_runV (As := [.int p0]) (rest := []) ⟨hx, hb, hml, hown, hts⟩ (kX6_counterAt l D A ad cI cQ rest S p0 z_1 hz_2) (cwV 1 hts gX6_atLeastUpTo_X6_counterAt rfl rfl rfl (by decide +kernel) ⟨Nat.le_of_ble_eq_true rfl, Nat.le_of_ble_eq_true rfl⟩) ⟨qn_blind, va_recv hK hP (ci := 6) (q0 := 0) rfl qg_Q, fun U hU hW => ⟨rfl, qm_go hA hS hP hK hD hU hW, qn_go hZ hW⟩⟩ rfl rfl hl.1 rfl (lv_room (Nat.le_of_ble_eq_true rfl)) dX6_atLeastUpTo_2 ⟨Nat.le_of_ble_eq_true rfl, Nat.le_of_ble_eq_true rfl⟩) hS (fun _ _ h9 => h9) (fun _ h9 => h9) (fun u ra t H1 locs1 ht hvm hw hB hz1 hk1 hS => ?_)
  obtain ⟨hra, hB⟩ := hB
  have hra : ad (2 + z_1) = ra := hra.symm
  have hw : S = u := hw.symm
  subst hra
  subst hw
  obtain ⟨hk_3, h⟩ := qm_gd_some h
  obtain ⟨hP, hD⟩ := qm_bk ht hB
  clear hB
  refine va_getN (D := D) (ci := 0) (v := .ref (ad (6 + z_1))) (C := RX0) (T := TX0) (N := 4) hx hb hts (by decide +kernel) hown hK hP (2 + z_1) (qg_C hk_3) rfl 0 (by decide) (va_Nw.use rfl (qz_frow hZ)) (fun _ h9 => h9) rfl dX6_atLeastUpTo_5 ?_
  refine lv_iload_n hx hb dX6_atLeastUpTo_8 rfl (lv_at hl 2 rfl) ?_
  obtain ⟨z_4, hz_5, h⟩ := qm_bind h
  refine va_calli (va_runV (As := [.int p1]) (rest := []) ⟨hx, hb, hml, hown, hts⟩ (kX3_atLeastNotAbove l D A ad cI cQ rest S z_1 hk_3 p1 z_4 hz_5) (cwV 1 hts gX6_atLeastUpTo_X3_atLeastNotAbove rfl rfl rfl (by decide +kernel) ⟨Nat.le_of_ble_eq_true rfl, Nat.le_of_ble_eq_true rfl⟩) ⟨qm_blind, va_recv hK hP (ci := 3) (q0 := (6 + z_1)) rfl (qg_M hk_3), fun U hU hW => ⟨rfl, qm_go hA hS hP hK hD hU hW⟩⟩ rfl rfl hl.1 rfl (lv_room (Nat.le_of_ble_eq_true rfl)) dX6_atLeastUpTo_9 ⟨Nat.le_of_ble_eq_true rfl, Nat.le_of_ble_eq_true rfl⟩) hS (fun _ _ h9 => h9) (fun _ h9 => h9) (fun v u t H1 locs1 ht hvm hw hB hz1 hk1 hS => ?_)
  obtain ⟨hw1, hw2⟩ := hw
  have hw2 : S = u := hw2.symm
  have hw1 : z_4 = v := hw1.symm
  subst hw1
  subst hw2
  obtain ⟨hP, hD⟩ := qm_bk ht hB
  clear hB
  have h := Option.some.inj h
  subst h
  exact W.iret (v := z_4) hx hb hr (fun t ht hW => ⟨⟨z_4, S, rfl, ⟨rfl, rfl⟩, qm_en ht hP hD⟩, hS.F ht⟩) hS.2.2 dX6_atLeastUpTo_12
noncomputable def fX6_atMostUpTo (S : qm_S) (p0 : Int32) (p1 : Int32) : Option (Int32) :=
  Option.bind (fX6_counterAt S p0) (fun z_1 => qm_gd (z_1 < 4) (Option.bind (fX3_firstAbove S z_1 p1) (fun z_4 => (if ((S.1 z_1).1) ≤ z_4 then some (S.2.2 z_1) else Option.bind (fX3_rankTo S z_1 z_4) (fun z_7 => some (z_7 - (1 : Int32)))))))
set_option maxHeartbeats 4000000 in
set_option maxRecDepth 100000 in
theorem kX6_atMostUpTo (l : Launch) (D : va_G) (A : Nat → Prop) (ad : Nat → Nat) (cI cQ : ClassId) (rest : va_W) (S : qm_S) (p0 : Int32) (p1 : Int32) (z : Int32) (h : fX6_atMostUpTo S p0 p1 = some z) : Met l yX6_atMostUpTo wsX6_atMostUpTo ({ frames := 5, cells := 0, slots := 0, locals := 107 }) (va_Pc [.ref (ad 0), .int p0, .int p1] (qn_B D A (qm_T cI cQ) (qm_W ad cI cQ rest S))) (qm_Qi D A (qm_W ad cI cQ rest) (z, S)) 0 0 A := by
  refine Met.ofW (cc := cX6_atMostUpTo) (maxL := 5) (ret := (some .int)) (by decide) rfl ?_
  intro p e s m args below meth c s₁ B hml hv
  obtain ⟨rfl, ⟨hA, hP, hK, hD⟩, hZ⟩ := hv
  have hx := B.exec
  have hb := B.bytes
  have hr := B.returns
  have hts := atoms_spec (ws := wsX6_atMostUpTo) B.pre
  have hown : s.vm.findClass RX6 = some m.cls := findClass_of_methodNamed B.named
  have hlocks := B.notSynchronized
  have hS : va_S A s.heap s.heap [] := va_S.rf
  have hl := lv_entry ([.ref (ad 0), .int p0, .int p1]) (n := 5) (Nat.le_of_ble_eq_true rfl)
  rw [lg_entry_eq]
  generalize (lg_sl ([.ref (ad 0), .int p0, .int p1]) ++ List.replicate (5 - (lg_sl ([.ref (ad 0), .int p0, .int p1])).length) Slot.unset).toArray = ls at hl ⊢
  have hl : lv_has ls 5 [(0, .ref (ad 0)), (1, .int p0), (2, .int p1)] := hl
  rw [fX6_atMostUpTo] at h
  refine lv_aload_n hx hb dX6_atMostUpTo_0 rfl (lv_at hl 0 rfl) ?_
  refine lv_iload_n hx hb dX6_atMostUpTo_1 rfl (lv_at hl 1 rfl) ?_
  obtain ⟨z_1, hz_2, h⟩ := qm_bind h
  refine va_callr (va_runV (As := [.int p0]) (rest := []) ⟨hx, hb, hml, hown, hts⟩ (kX6_counterAt l D A ad cI cQ rest S p0 z_1 hz_2) (cwV 1 hts gX6_atMostUpTo_X6_counterAt rfl rfl rfl (by decide +kernel) ⟨Nat.le_of_ble_eq_true rfl, Nat.le_of_ble_eq_true rfl⟩) ⟨qn_blind, va_recv hK hP (ci := 6) (q0 := 0) rfl qg_Q, fun U hU hW => ⟨rfl, qm_go hA hS hP hK hD hU hW, qn_go hZ hW⟩⟩ rfl rfl hl.1 rfl (lv_room (Nat.le_of_ble_eq_true rfl)) dX6_atMostUpTo_2 ⟨Nat.le_of_ble_eq_true rfl, Nat.le_of_ble_eq_true rfl⟩) hS (fun _ _ h9 => h9) (fun _ h9 => h9) (fun u ra t H1 locs1 ht hvm hw hB hz1 hk1 hS => ?_)
  obtain ⟨hra, hB⟩ := hB
  have hra : ad (2 + z_1) = ra := hra.symm
  have hw : S = u := hw.symm
  subst hra
  subst hw
  obtain ⟨hk_3, h⟩ := qm_gd_some h
  obtain ⟨hP, hD⟩ := qm_bk ht hB
  clear hB
  refine lv_astore_n (lv' := [(3, .ref (ad (2 + z_1))), (0, .ref (ad 0)), (1, .int p0), (2, .int p1)]) hx hb dX6_atMostUpTo_5 rfl hl (by decide) rfl (fun ls hl => ?_)
  refine lv_aload_n hx hb dX6_atMostUpTo_6 rfl (lv_at hl 0 rfl) ?_
  refine va_getN (D := D) (ci := 0) (v := .ref (ad (6 + z_1))) (C := RX0) (T := TX0) (N := 4) hx hb hts (by decide +kernel) hown hK hP (2 + z_1) (qg_C hk_3) rfl 0 (by decide) (va_Nw.use rfl (qz_frow hZ)) (fun _ h9 => h9) rfl dX6_atMostUpTo_7 ?_
  refine lv_iload_n hx hb dX6_atMostUpTo_10 rfl (lv_at hl 3 rfl) ?_
  obtain ⟨z_4, hz_5, h⟩ := qm_bind h
  refine va_calli (va_runV (As := [.int p1]) (rest := []) ⟨hx, hb, hml, hown, hts⟩ (kX3_firstAbove l D A ad cI cQ rest S z_1 hk_3 p1 z_4 hz_5) (cwV 1 hts gX6_atMostUpTo_X3_firstAbove rfl rfl rfl (by decide +kernel) ⟨Nat.le_of_ble_eq_true rfl, Nat.le_of_ble_eq_true rfl⟩) ⟨qm_blind, va_recv hK hP (ci := 3) (q0 := (6 + z_1)) rfl (qg_M hk_3), fun U hU hW => ⟨rfl, qm_go hA hS hP hK hD hU hW⟩⟩ rfl rfl hl.1 rfl (lv_room (Nat.le_of_ble_eq_true rfl)) dX6_atMostUpTo_11 ⟨Nat.le_of_ble_eq_true rfl, Nat.le_of_ble_eq_true rfl⟩) hS (fun _ _ h9 => h9) (fun _ h9 => h9) (fun v u t H1 locs1 ht hvm hw hB hz1 hk1 hS => ?_)
  obtain ⟨hw1, hw2⟩ := hw
  have hw2 : S = u := hw2.symm
  have hw1 : z_4 = v := hw1.symm
  subst hw1
  subst hw2
  obtain ⟨hP, hD⟩ := qm_bk ht hB
  clear hB
  refine lv_istore (lv' := [(4, .int z_4), (3, .ref (ad (2 + z_1))), (0, .ref (ad 0)), (1, .int p0), (2, .int p1)]) hx hb dX6_atMostUpTo_14 hl (by decide) rfl (fun ls hl => ?_)
  refine lv_iload hx hb dX6_atMostUpTo_16 (lv_at hl 0 rfl) ?_
  refine lv_aload_n hx hb dX6_atMostUpTo_18 rfl (lv_at hl 1 rfl) ?_
  refine va_getN (D := D) (ci := 0) (v := .ref (ad (6 + z_1))) (C := RX0) (T := TX0) (N := 4) hx hb hts (by decide +kernel) hown hK hP (2 + z_1) (qg_C hk_3) rfl 0 (by decide) (va_Nw.use rfl (qz_frow hZ)) (fun _ h9 => h9) rfl dX6_atMostUpTo_19 ?_
  refine va_calli (va_runV (As := []) (rest := [.int z_4]) ⟨hx, hb, hml, hown, hts⟩ (nX3_length l D A ad cI cQ rest S z_1 hk_3) (cwV 0 hts gX6_atMostUpTo_X3_length rfl rfl rfl (by decide +kernel) ⟨Nat.le_of_ble_eq_true rfl, Nat.le_of_ble_eq_true rfl⟩) ⟨qm_blind, va_recv hK hP (ci := 3) (q0 := (6 + z_1)) rfl (qg_M hk_3), fun U hU hW => ⟨rfl, qm_go hA hS hP hK hD hU hW⟩⟩ rfl rfl hl.1 rfl (lv_room (Nat.le_of_ble_eq_true rfl)) dX6_atMostUpTo_22 ⟨Nat.le_of_ble_eq_true rfl, Nat.le_of_ble_eq_true rfl⟩) hS (fun _ _ h9 => h9) (fun _ h9 => h9) (fun v u t H1 locs1 ht hvm hw hB hz1 hk1 hS => ?_)
  obtain ⟨hw1, hw2⟩ := hw
  have hw2 : S = u := hw2.symm
  have hw1 : ((S.1 z_1).1) = v := hw1.symm
  subst hw1
  subst hw2
  obtain ⟨hP, hD⟩ := qm_bk ht hB
  clear hB
  refine lv_icmp_ge (tgt := 42) hx hb dX6_atMostUpTo_25 (by decide) (fun c_6 => ?_) (fun c_6 => ?_)
  · rw [if_pos c_6] at h
    refine lv_aload_n hx hb dX6_atMostUpTo_42 rfl (lv_at hl 1 rfl) ?_
    refine va_getN (D := D) (ci := 0) (v := .ref (ad (10 + z_1))) (C := RX0) (T := TX0) (N := 4) hx hb hts (by decide +kernel) hown hK hP (2 + z_1) (qg_C hk_3) rfl 1 (by decide) (va_Nw.use rfl (qz_fnumbers hZ)) (fun _ h9 => h9) rfl dX6_atMostUpTo_43 ?_
    refine va_calli (va_runV (As := []) (rest := []) ⟨hx, hb, hml, hown, hts⟩ (nX5_total l D A ad cI cQ rest S z_1 hk_3) (cwV 0 hts gX6_atMostUpTo_X5_total rfl rfl rfl (by decide +kernel) ⟨Nat.le_of_ble_eq_true rfl, Nat.le_of_ble_eq_true rfl⟩) ⟨qm_blind, va_recv hK hP (ci := 5) (q0 := (10 + z_1)) rfl (qg_T hk_3), fun U hU hW => ⟨rfl, qm_go hA hS hP hK hD hU hW⟩⟩ rfl rfl hl.1 rfl (lv_room (Nat.le_of_ble_eq_true rfl)) dX6_atMostUpTo_46 ⟨Nat.le_of_ble_eq_true rfl, Nat.le_of_ble_eq_true rfl⟩) hS (fun _ _ h9 => h9) (fun _ h9 => h9) (fun v u t H1 locs1 ht hvm hw hB hz1 hk1 hS => ?_)
    obtain ⟨hw1, hw2⟩ := hw
    have hw2 : S = u := hw2.symm
    have hw1 : (S.2.2 z_1) = v := hw1.symm
    subst hw1
    subst hw2
    obtain ⟨hP, hD⟩ := qm_bk ht hB
    clear hB
    have h := Option.some.inj h
    subst h
    exact W.iret (v := (S.2.2 z_1)) hx hb hr (fun t ht hW => ⟨⟨(S.2.2 z_1), S, rfl, ⟨rfl, rfl⟩, qm_en ht hP hD⟩, hS.F ht⟩) hS.2.2 dX6_atMostUpTo_49
  · rw [if_neg c_6] at h
    refine lv_aload_n hx hb dX6_atMostUpTo_28 rfl (lv_at hl 1 rfl) ?_
    refine va_getN (D := D) (ci := 0) (v := .ref (ad (6 + z_1))) (C := RX0) (T := TX0) (N := 4) hx hb hts (by decide +kernel) hown hK hP (2 + z_1) (qg_C hk_3) rfl 0 (by decide) (va_Nw.use rfl (qz_frow hZ)) (fun _ h9 => h9) rfl dX6_atMostUpTo_29 ?_
    refine lv_iload hx hb dX6_atMostUpTo_32 (lv_at hl 0 rfl) ?_
    obtain ⟨z_7, hz_8, h⟩ := qm_bind h
    refine va_calli (va_runV (As := [.int z_4]) (rest := []) ⟨hx, hb, hml, hown, hts⟩ (kX3_rankTo l D A ad cI cQ rest S z_1 hk_3 z_4 z_7 hz_8) (cwV 1 hts gX6_atMostUpTo_X3_rankTo rfl rfl rfl (by decide +kernel) ⟨Nat.le_of_ble_eq_true rfl, Nat.le_of_ble_eq_true rfl⟩) ⟨qm_blind, va_recv hK hP (ci := 3) (q0 := (6 + z_1)) rfl (qg_M hk_3), fun U hU hW => ⟨rfl, qm_go hA hS hP hK hD hU hW⟩⟩ rfl rfl hl.1 rfl (lv_room (Nat.le_of_ble_eq_true rfl)) dX6_atMostUpTo_34 ⟨Nat.le_of_ble_eq_true rfl, Nat.le_of_ble_eq_true rfl⟩) hS (fun _ _ h9 => h9) (fun _ h9 => h9) (fun v u t H1 locs1 ht hvm hw hB hz1 hk1 hS => ?_)
    obtain ⟨hw1, hw2⟩ := hw
    have hw2 : S = u := hw2.symm
    have hw1 : z_7 = v := hw1.symm
    subst hw1
    subst hw2
    obtain ⟨hP, hD⟩ := qm_bk ht hB
    clear hB
    refine lv_iconst (v := (1 : Int32)) hx hb dX6_atMostUpTo_37 (by decide) ?_
    refine lv_isub hx hb dX6_atMostUpTo_38 ?_
    refine lv_goto (tgt := 49) hx hb dX6_atMostUpTo_39 (by decide) ?_
    have h := Option.some.inj h
    subst h
    exact W.iret (v := z_7 - (1 : Int32)) hx hb hr (fun t ht hW => ⟨⟨z_7 - (1 : Int32), S, rfl, ⟨rfl, rfl⟩, qm_en ht hP hD⟩, hS.F ht⟩) hS.2.2 dX6_atMostUpTo_49
noncomputable def fX6_reallyUpTo (S : qm_S) (p0 : Int32) (p1 : Int32) : Option (Int32) :=
  Option.bind (fX6_counterAt S p0) (fun z_1 => qm_gd (z_1 < 4) (Option.bind (fX5_notAbove S z_1 p1) (fun z_4 => some z_4)))
set_option maxHeartbeats 4000000 in
set_option maxRecDepth 100000 in
theorem kX6_reallyUpTo (l : Launch) (D : va_G) (A : Nat → Prop) (ad : Nat → Nat) (cI cQ : ClassId) (rest : va_W) (S : qm_S) (p0 : Int32) (p1 : Int32) (z : Int32) (h : fX6_reallyUpTo S p0 p1 = some z) : Met l yX6_reallyUpTo wsX6_reallyUpTo ({ frames := 4, cells := 0, slots := 0, locals := 87 }) (va_Pc [.ref (ad 0), .int p0, .int p1] (qn_B D A (qm_T cI cQ) (qm_W ad cI cQ rest S))) (qm_Qi D A (qm_W ad cI cQ rest) (z, S)) 0 0 A := by
  refine Met.ofW (cc := cX6_reallyUpTo) (maxL := 3) (ret := (some .int)) (by decide) rfl ?_
  intro p e s m args below meth c s₁ B hml hv
  obtain ⟨rfl, ⟨hA, hP, hK, hD⟩, hZ⟩ := hv
  have hx := B.exec
  have hb := B.bytes
  have hr := B.returns
  have hts := atoms_spec (ws := wsX6_reallyUpTo) B.pre
  have hown : s.vm.findClass RX6 = some m.cls := findClass_of_methodNamed B.named
  have hlocks := B.notSynchronized
  have hS : va_S A s.heap s.heap [] := va_S.rf
  have hl := lv_entry ([.ref (ad 0), .int p0, .int p1]) (n := 3) (Nat.le_of_ble_eq_true rfl)
  rw [lg_entry_eq]
  generalize (lg_sl ([.ref (ad 0), .int p0, .int p1]) ++ List.replicate (3 - (lg_sl ([.ref (ad 0), .int p0, .int p1])).length) Slot.unset).toArray = ls at hl ⊢
  have hl : lv_has ls 3 [(0, .ref (ad 0)), (1, .int p0), (2, .int p1)] := hl
  rw [fX6_reallyUpTo] at h
  refine lv_aload_n hx hb dX6_reallyUpTo_0 rfl (lv_at hl 0 rfl) ?_
  refine lv_iload_n hx hb dX6_reallyUpTo_1 rfl (lv_at hl 1 rfl) ?_
  obtain ⟨z_1, hz_2, h⟩ := qm_bind h
  refine va_callr (va_runV (As := [.int p0]) (rest := []) ⟨hx, hb, hml, hown, hts⟩ (kX6_counterAt l D A ad cI cQ rest S p0 z_1 hz_2) (cwV 1 hts gX6_reallyUpTo_X6_counterAt rfl rfl rfl (by decide +kernel) ⟨Nat.le_of_ble_eq_true rfl, Nat.le_of_ble_eq_true rfl⟩) ⟨qn_blind, va_recv hK hP (ci := 6) (q0 := 0) rfl qg_Q, fun U hU hW => ⟨rfl, qm_go hA hS hP hK hD hU hW, qn_go hZ hW⟩⟩ rfl rfl hl.1 rfl (lv_room (Nat.le_of_ble_eq_true rfl)) dX6_reallyUpTo_2 ⟨Nat.le_of_ble_eq_true rfl, Nat.le_of_ble_eq_true rfl⟩) hS (fun _ _ h9 => h9) (fun _ h9 => h9) (fun u ra t H1 locs1 ht hvm hw hB hz1 hk1 hS => ?_)
  obtain ⟨hra, hB⟩ := hB
  have hra : ad (2 + z_1) = ra := hra.symm
  have hw : S = u := hw.symm
  subst hra
  subst hw
  obtain ⟨hk_3, h⟩ := qm_gd_some h
  obtain ⟨hP, hD⟩ := qm_bk ht hB
  clear hB
  refine va_getN (D := D) (ci := 0) (v := .ref (ad (10 + z_1))) (C := RX0) (T := TX0) (N := 4) hx hb hts (by decide +kernel) hown hK hP (2 + z_1) (qg_C hk_3) rfl 1 (by decide) (va_Nw.use rfl (qz_fnumbers hZ)) (fun _ h9 => h9) rfl dX6_reallyUpTo_5 ?_
  refine lv_iload_n hx hb dX6_reallyUpTo_8 rfl (lv_at hl 2 rfl) ?_
  obtain ⟨z_4, hz_5, h⟩ := qm_bind h
  refine va_calli (va_runV (As := [.int p1]) (rest := []) ⟨hx, hb, hml, hown, hts⟩ (kX5_notAbove l D A ad cI cQ rest S z_1 hk_3 p1 z_4 hz_5) (cwV 1 hts gX6_reallyUpTo_X5_notAbove rfl rfl rfl (by decide +kernel) ⟨Nat.le_of_ble_eq_true rfl, Nat.le_of_ble_eq_true rfl⟩) ⟨qm_blind, va_recv hK hP (ci := 5) (q0 := (10 + z_1)) rfl (qg_T hk_3), fun U hU hW => ⟨rfl, qm_go hA hS hP hK hD hU hW⟩⟩ rfl rfl hl.1 rfl (lv_room (Nat.le_of_ble_eq_true rfl)) dX6_reallyUpTo_9 ⟨Nat.le_of_ble_eq_true rfl, Nat.le_of_ble_eq_true rfl⟩) hS (fun _ _ h9 => h9) (fun _ h9 => h9) (fun v u t H1 locs1 ht hvm hw hB hz1 hk1 hS => ?_)
  obtain ⟨hw1, hw2⟩ := hw
  have hw2 : S = u := hw2.symm
  have hw1 : z_4 = v := hw1.symm
  subst hw1
  subst hw2
  obtain ⟨hP, hD⟩ := qm_bk ht hB
  clear hB
  have h := Option.some.inj h
  subst h
  exact W.iret (v := z_4) hx hb hr (fun t ht hW => ⟨⟨z_4, S, rfl, ⟨rfl, rfl⟩, qm_en ht hP hD⟩, hS.F ht⟩) hS.2.2 dX6_reallyUpTo_12
noncomputable def fX6_begin (S : qm_S) (p0 : Int32) (p1 : Int32) : Option (Int32 × qm_S) :=
  Option.bind (fX6_counterAt S p0) (fun z_1 => qm_gd (z_1 < 4) ((if p1 < (5 : Int32) then Option.bind (fX6_demandInRange S (0 : Int32)) (fun _ => some ((S.2.2 z_1), (ha_clr (ta_clr (mr_cut (qm_th S z_1 p1) z_1 (0 : Int32)) z_1) z_1))) else (if (200 : Int32) < p1 then Option.bind (fX6_demandInRange S (0 : Int32)) (fun _ => some ((S.2.2 z_1), (ha_clr (ta_clr (mr_cut (qm_th S z_1 p1) z_1 (0 : Int32)) z_1) z_1))) else Option.bind (fX6_demandInRange S (1 : Int32)) (fun _ => some ((S.2.2 z_1), (ha_clr (ta_clr (mr_cut (qm_th S z_1 p1) z_1 (0 : Int32)) z_1) z_1)))))))
set_option maxHeartbeats 4000000 in
set_option maxRecDepth 100000 in
theorem kX6_begin (l : Launch) (D : va_G) (A : Nat → Prop) (ad : Nat → Nat) (cI cQ : ClassId) (rest : va_W) (S : qm_S) (p0 : Int32) (p1 : Int32) (z : Int32 × qm_S) (h : fX6_begin S p0 p1 = some z) : Met l yX6_begin wsX6_begin ({ frames := 4, cells := 0, slots := 0, locals := 83 }) (va_Pc [.ref (ad 0), .int p0, .int p1] (qn_B D A (qm_T cI cQ) (qm_W ad cI cQ rest S))) (qm_Qi D A (qm_W ad cI cQ rest) z) 0 0 A := by
  refine Met.ofW (cc := cX6_begin) (maxL := 5) (ret := (some .int)) (by decide) rfl ?_
  intro p e s m args below meth c s₁ B hml hv
  obtain ⟨rfl, ⟨hA, hP, hK, hD⟩, hZ⟩ := hv
  have hx := B.exec
  have hb := B.bytes
  have hr := B.returns
  have hts := atoms_spec (ws := wsX6_begin) B.pre
  have hown : s.vm.findClass RX6 = some m.cls := findClass_of_methodNamed B.named
  have hlocks := B.notSynchronized
  have hS : va_S A s.heap s.heap [] := va_S.rf
  have hl := lv_entry ([.ref (ad 0), .int p0, .int p1]) (n := 5) (Nat.le_of_ble_eq_true rfl)
  rw [lg_entry_eq]
  generalize (lg_sl ([.ref (ad 0), .int p0, .int p1]) ++ List.replicate (5 - (lg_sl ([.ref (ad 0), .int p0, .int p1])).length) Slot.unset).toArray = ls at hl ⊢
  have hl : lv_has ls 5 [(0, .ref (ad 0)), (1, .int p0), (2, .int p1)] := hl
  rw [fX6_begin] at h
  refine lv_aload_n hx hb dX6_begin_0 rfl (lv_at hl 0 rfl) ?_
  refine lv_iload_n hx hb dX6_begin_1 rfl (lv_at hl 1 rfl) ?_
  obtain ⟨z_1, hz_2, h⟩ := qm_bind h
  refine va_callr (va_runV (As := [.int p0]) (rest := []) ⟨hx, hb, hml, hown, hts⟩ (kX6_counterAt l D A ad cI cQ rest S p0 z_1 hz_2) (cwV 1 hts gX6_begin_X6_counterAt rfl rfl rfl (by decide +kernel) ⟨Nat.le_of_ble_eq_true rfl, Nat.le_of_ble_eq_true rfl⟩) ⟨qn_blind, va_recv hK hP (ci := 6) (q0 := 0) rfl qg_Q, fun U hU hW => ⟨rfl, qm_go hA hS hP hK hD hU hW, qn_go hZ hW⟩⟩ rfl rfl hl.1 rfl (lv_room (Nat.le_of_ble_eq_true rfl)) dX6_begin_2 ⟨Nat.le_of_ble_eq_true rfl, Nat.le_of_ble_eq_true rfl⟩) hS (fun _ _ h9 => h9) (fun _ h9 => h9) (fun u ra t H1 locs1 ht hvm hw hB hz1 hk1 hS => ?_)
  obtain ⟨hra, hB⟩ := hB
  have hra : ad (2 + z_1) = ra := hra.symm
  have hw : S = u := hw.symm
  subst hra
  subst hw
  obtain ⟨hk_3, h⟩ := qm_gd_some h
  obtain ⟨hP, hD⟩ := qm_bk ht hB
  clear hB
  refine lv_astore_n (lv' := [(3, .ref (ad (2 + z_1))), (0, .ref (ad 0)), (1, .int p0), (2, .int p1)]) hx hb dX6_begin_5 rfl hl (by decide) rfl (fun ls hl => ?_)
  refine lv_iload_n hx hb dX6_begin_6 rfl (lv_at hl 3 rfl) ?_
  refine lv_iconst (v := (5 : Int32)) hx hb dX6_begin_7 (by decide) ?_
  refine lv_icmp_lt (tgt := 22) hx hb dX6_begin_8 (by decide) (fun c_4 => ?_) (fun c_4 => ?_)
  · rw [if_pos c_4] at h
    refine lv_iconst (v := (0 : Int32)) hx hb dX6_begin_22 (by decide) ?_
    obtain ⟨z_5, hz_6, h⟩ := qm_bind h
    refine va_callv (va_runS (As := [.int (0 : Int32)]) (rest := []) ⟨hx, hb, hml, hown, hts⟩ (kX6_demandInRange l D A ad cI cQ rest S (0 : Int32) z_5 hz_6) (va_cwS 1 hts gX6_begin_X6_demandInRange rfl rfl rfl (by decide +kernel) ⟨Nat.le_of_ble_eq_true rfl, Nat.le_of_ble_eq_true rfl⟩) ⟨qm_blind, fun U hU hW => ⟨rfl, qm_go hA hS hP hK hD hU hW⟩⟩ rfl rfl hl.1 rfl (lv_room (Nat.le_of_ble_eq_true rfl)) dX6_begin_23 ⟨Nat.le_of_ble_eq_true rfl, Nat.le_of_ble_eq_true rfl⟩) hS (fun _ _ h9 => h9) (fun _ h9 => h9) (fun u t H1 locs1 ht hvm hw hB hz1 hk1 hS => ?_)
    have hw : S = u := hw.symm
    subst hw
    obtain ⟨hP, hD⟩ := qm_bk ht hB
    clear hB
    refine lv_aload_n hx hb dX6_begin_26 rfl (lv_at hl 0 rfl) ?_
    refine va_getN (D := D) (ci := 0) (v := .ref (ad (10 + z_1))) (C := RX0) (T := TX0) (N := 4) hx hb hts (by decide +kernel) hown hK hP (2 + z_1) (qg_C hk_3) rfl 1 (by decide) (va_Nw.use rfl (qz_fnumbers hZ)) (fun _ h9 => h9) rfl dX6_begin_27 ?_
    refine va_calli (va_runV (As := []) (rest := []) ⟨hx, hb, hml, hown, hts⟩ (nX5_total l D A ad cI cQ rest S z_1 hk_3) (cwV 0 hts gX6_begin_X5_total rfl rfl rfl (by decide +kernel) ⟨Nat.le_of_ble_eq_true rfl, Nat.le_of_ble_eq_true rfl⟩) ⟨qm_blind, va_recv hK hP (ci := 5) (q0 := (10 + z_1)) rfl (qg_T hk_3), fun U hU hW => ⟨rfl, qm_go hA hS hP hK hD hU hW⟩⟩ rfl rfl hl.1 rfl (lv_room (Nat.le_of_ble_eq_true rfl)) dX6_begin_30 ⟨Nat.le_of_ble_eq_true rfl, Nat.le_of_ble_eq_true rfl⟩) hS (fun _ _ h9 => h9) (fun _ h9 => h9) (fun v u t H1 locs1 ht hvm hw hB hz1 hk1 hS => ?_)
    obtain ⟨hw1, hw2⟩ := hw
    have hw2 : S = u := hw2.symm
    have hw1 : (S.2.2 z_1) = v := hw1.symm
    subst hw1
    subst hw2
    obtain ⟨hP, hD⟩ := qm_bk ht hB
    clear hB
    refine lv_istore (lv' := [(4, .int (S.2.2 z_1)), (3, .ref (ad (2 + z_1))), (0, .ref (ad 0)), (1, .int p0), (2, .int p1)]) hx hb dX6_begin_33 hl (by decide) rfl (fun ls hl => ?_)
    refine lv_aload_n hx hb dX6_begin_35 rfl (lv_at hl 1 rfl) ?_
    refine lv_iload_n hx hb dX6_begin_36 rfl (lv_at hl 4 rfl) ?_
    refine va_callv (va_runV (As := [.int p1]) (rest := []) ⟨hx, hb, hml, hown, hts⟩ (nX0_beginAnew l D A ad cI cQ rest S z_1 hk_3 p1) (cwV 1 hts gX6_begin_X0_beginAnew rfl rfl rfl (by decide +kernel) ⟨Nat.le_of_ble_eq_true rfl, Nat.le_of_ble_eq_true rfl⟩) ⟨qm_blind, va_recv hK hP (ci := 0) (q0 := (2 + z_1)) rfl (qg_C hk_3), fun U hU hW => ⟨rfl, qm_go hA hS hP hK hD hU hW⟩⟩ rfl rfl hl.1 rfl (lv_room (Nat.le_of_ble_eq_true rfl)) dX6_begin_37 ⟨Nat.le_of_ble_eq_true rfl, Nat.le_of_ble_eq_true rfl⟩) hS (fun _ _ h9 => h9) (fun _ h9 => h9) (fun u t H1 locs1 ht hvm hw hB hz1 hk1 hS => ?_)
    have hw : (ha_clr (ta_clr (mr_cut (qm_th S z_1 p1) z_1 (0 : Int32)) z_1) z_1) = u := hw.symm
    subst hw
    obtain ⟨hP, hD⟩ := qm_bk ht hB
    clear hB
    refine lv_iload hx hb dX6_begin_40 (lv_at hl 0 rfl) ?_
    have h := Option.some.inj h
    subst h
    exact W.iret (v := (S.2.2 z_1)) hx hb hr (fun t ht hW => ⟨⟨(S.2.2 z_1), (ha_clr (ta_clr (mr_cut (qm_th S z_1 p1) z_1 (0 : Int32)) z_1) z_1), rfl, ⟨rfl, rfl⟩, qm_en ht hP hD⟩, hS.F ht⟩) hS.2.2 dX6_begin_42
  · rw [if_neg c_4] at h
    refine lv_iload_n hx hb dX6_begin_11 rfl (lv_at hl 3 rfl) ?_
    refine lv_sipush (v := (200 : Int32)) hx hb dX6_begin_12 (by decide) ?_
    refine lv_icmp_gt (tgt := 22) hx hb dX6_begin_15 (by decide) (fun c_7 => ?_) (fun c_7 => ?_)
    · rw [if_pos c_7] at h
      refine lv_iconst (v := (0 : Int32)) hx hb dX6_begin_22 (by decide) ?_
      obtain ⟨z_8, hz_9, h⟩ := qm_bind h
      refine va_callv (va_runS (As := [.int (0 : Int32)]) (rest := []) ⟨hx, hb, hml, hown, hts⟩ (kX6_demandInRange l D A ad cI cQ rest S (0 : Int32) z_8 hz_9) (va_cwS 1 hts gX6_begin_X6_demandInRange rfl rfl rfl (by decide +kernel) ⟨Nat.le_of_ble_eq_true rfl, Nat.le_of_ble_eq_true rfl⟩) ⟨qm_blind, fun U hU hW => ⟨rfl, qm_go hA hS hP hK hD hU hW⟩⟩ rfl rfl hl.1 rfl (lv_room (Nat.le_of_ble_eq_true rfl)) dX6_begin_23 ⟨Nat.le_of_ble_eq_true rfl, Nat.le_of_ble_eq_true rfl⟩) hS (fun _ _ h9 => h9) (fun _ h9 => h9) (fun u t H1 locs1 ht hvm hw hB hz1 hk1 hS => ?_)
      have hw : S = u := hw.symm
      subst hw
      obtain ⟨hP, hD⟩ := qm_bk ht hB
      clear hB
      refine lv_aload_n hx hb dX6_begin_26 rfl (lv_at hl 0 rfl) ?_
      refine va_getN (D := D) (ci := 0) (v := .ref (ad (10 + z_1))) (C := RX0) (T := TX0) (N := 4) hx hb hts (by decide +kernel) hown hK hP (2 + z_1) (qg_C hk_3) rfl 1 (by decide) (va_Nw.use rfl (qz_fnumbers hZ)) (fun _ h9 => h9) rfl dX6_begin_27 ?_
      refine va_calli (va_runV (As := []) (rest := []) ⟨hx, hb, hml, hown, hts⟩ (nX5_total l D A ad cI cQ rest S z_1 hk_3) (cwV 0 hts gX6_begin_X5_total rfl rfl rfl (by decide +kernel) ⟨Nat.le_of_ble_eq_true rfl, Nat.le_of_ble_eq_true rfl⟩) ⟨qm_blind, va_recv hK hP (ci := 5) (q0 := (10 + z_1)) rfl (qg_T hk_3), fun U hU hW => ⟨rfl, qm_go hA hS hP hK hD hU hW⟩⟩ rfl rfl hl.1 rfl (lv_room (Nat.le_of_ble_eq_true rfl)) dX6_begin_30 ⟨Nat.le_of_ble_eq_true rfl, Nat.le_of_ble_eq_true rfl⟩) hS (fun _ _ h9 => h9) (fun _ h9 => h9) (fun v u t H1 locs1 ht hvm hw hB hz1 hk1 hS => ?_)
      obtain ⟨hw1, hw2⟩ := hw
      have hw2 : S = u := hw2.symm
      have hw1 : (S.2.2 z_1) = v := hw1.symm
      subst hw1
      subst hw2
      obtain ⟨hP, hD⟩ := qm_bk ht hB
      clear hB
      refine lv_istore (lv' := [(4, .int (S.2.2 z_1)), (3, .ref (ad (2 + z_1))), (0, .ref (ad 0)), (1, .int p0), (2, .int p1)]) hx hb dX6_begin_33 hl (by decide) rfl (fun ls hl => ?_)
      refine lv_aload_n hx hb dX6_begin_35 rfl (lv_at hl 1 rfl) ?_
      refine lv_iload_n hx hb dX6_begin_36 rfl (lv_at hl 4 rfl) ?_
      refine va_callv (va_runV (As := [.int p1]) (rest := []) ⟨hx, hb, hml, hown, hts⟩ (nX0_beginAnew l D A ad cI cQ rest S z_1 hk_3 p1) (cwV 1 hts gX6_begin_X0_beginAnew rfl rfl rfl (by decide +kernel) ⟨Nat.le_of_ble_eq_true rfl, Nat.le_of_ble_eq_true rfl⟩) ⟨qm_blind, va_recv hK hP (ci := 0) (q0 := (2 + z_1)) rfl (qg_C hk_3), fun U hU hW => ⟨rfl, qm_go hA hS hP hK hD hU hW⟩⟩ rfl rfl hl.1 rfl (lv_room (Nat.le_of_ble_eq_true rfl)) dX6_begin_37 ⟨Nat.le_of_ble_eq_true rfl, Nat.le_of_ble_eq_true rfl⟩) hS (fun _ _ h9 => h9) (fun _ h9 => h9) (fun u t H1 locs1 ht hvm hw hB hz1 hk1 hS => ?_)
      have hw : (ha_clr (ta_clr (mr_cut (qm_th S z_1 p1) z_1 (0 : Int32)) z_1) z_1) = u := hw.symm
      subst hw
      obtain ⟨hP, hD⟩ := qm_bk ht hB
      clear hB
      refine lv_iload hx hb dX6_begin_40 (lv_at hl 0 rfl) ?_
      have h := Option.some.inj h
      subst h
      exact W.iret (v := (S.2.2 z_1)) hx hb hr (fun t ht hW => ⟨⟨(S.2.2 z_1), (ha_clr (ta_clr (mr_cut (qm_th S z_1 p1) z_1 (0 : Int32)) z_1) z_1), rfl, ⟨rfl, rfl⟩, qm_en ht hP hD⟩, hS.F ht⟩) hS.2.2 dX6_begin_42
    · rw [if_neg c_7] at h
      refine lv_iconst (v := (1 : Int32)) hx hb dX6_begin_18 (by decide) ?_
      refine lv_goto (tgt := 23) hx hb dX6_begin_19 (by decide) ?_
      obtain ⟨z_10, hz_11, h⟩ := qm_bind h
      refine va_callv (va_runS (As := [.int (1 : Int32)]) (rest := []) ⟨hx, hb, hml, hown, hts⟩ (kX6_demandInRange l D A ad cI cQ rest S (1 : Int32) z_10 hz_11) (va_cwS 1 hts gX6_begin_X6_demandInRange rfl rfl rfl (by decide +kernel) ⟨Nat.le_of_ble_eq_true rfl, Nat.le_of_ble_eq_true rfl⟩) ⟨qm_blind, fun U hU hW => ⟨rfl, qm_go hA hS hP hK hD hU hW⟩⟩ rfl rfl hl.1 rfl (lv_room (Nat.le_of_ble_eq_true rfl)) dX6_begin_23 ⟨Nat.le_of_ble_eq_true rfl, Nat.le_of_ble_eq_true rfl⟩) hS (fun _ _ h9 => h9) (fun _ h9 => h9) (fun u t H1 locs1 ht hvm hw hB hz1 hk1 hS => ?_)
      have hw : S = u := hw.symm
      subst hw
      obtain ⟨hP, hD⟩ := qm_bk ht hB
      clear hB
      refine lv_aload_n hx hb dX6_begin_26 rfl (lv_at hl 0 rfl) ?_
      refine va_getN (D := D) (ci := 0) (v := .ref (ad (10 + z_1))) (C := RX0) (T := TX0) (N := 4) hx hb hts (by decide +kernel) hown hK hP (2 + z_1) (qg_C hk_3) rfl 1 (by decide) (va_Nw.use rfl (qz_fnumbers hZ)) (fun _ h9 => h9) rfl dX6_begin_27 ?_
      refine va_calli (va_runV (As := []) (rest := []) ⟨hx, hb, hml, hown, hts⟩ (nX5_total l D A ad cI cQ rest S z_1 hk_3) (cwV 0 hts gX6_begin_X5_total rfl rfl rfl (by decide +kernel) ⟨Nat.le_of_ble_eq_true rfl, Nat.le_of_ble_eq_true rfl⟩) ⟨qm_blind, va_recv hK hP (ci := 5) (q0 := (10 + z_1)) rfl (qg_T hk_3), fun U hU hW => ⟨rfl, qm_go hA hS hP hK hD hU hW⟩⟩ rfl rfl hl.1 rfl (lv_room (Nat.le_of_ble_eq_true rfl)) dX6_begin_30 ⟨Nat.le_of_ble_eq_true rfl, Nat.le_of_ble_eq_true rfl⟩) hS (fun _ _ h9 => h9) (fun _ h9 => h9) (fun v u t H1 locs1 ht hvm hw hB hz1 hk1 hS => ?_)
      obtain ⟨hw1, hw2⟩ := hw
      have hw2 : S = u := hw2.symm
      have hw1 : (S.2.2 z_1) = v := hw1.symm
      subst hw1
      subst hw2
      obtain ⟨hP, hD⟩ := qm_bk ht hB
      clear hB
      refine lv_istore (lv' := [(4, .int (S.2.2 z_1)), (3, .ref (ad (2 + z_1))), (0, .ref (ad 0)), (1, .int p0), (2, .int p1)]) hx hb dX6_begin_33 hl (by decide) rfl (fun ls hl => ?_)
      refine lv_aload_n hx hb dX6_begin_35 rfl (lv_at hl 1 rfl) ?_
      refine lv_iload_n hx hb dX6_begin_36 rfl (lv_at hl 4 rfl) ?_
      refine va_callv (va_runV (As := [.int p1]) (rest := []) ⟨hx, hb, hml, hown, hts⟩ (nX0_beginAnew l D A ad cI cQ rest S z_1 hk_3 p1) (cwV 1 hts gX6_begin_X0_beginAnew rfl rfl rfl (by decide +kernel) ⟨Nat.le_of_ble_eq_true rfl, Nat.le_of_ble_eq_true rfl⟩) ⟨qm_blind, va_recv hK hP (ci := 0) (q0 := (2 + z_1)) rfl (qg_C hk_3), fun U hU hW => ⟨rfl, qm_go hA hS hP hK hD hU hW⟩⟩ rfl rfl hl.1 rfl (lv_room (Nat.le_of_ble_eq_true rfl)) dX6_begin_37 ⟨Nat.le_of_ble_eq_true rfl, Nat.le_of_ble_eq_true rfl⟩) hS (fun _ _ h9 => h9) (fun _ h9 => h9) (fun u t H1 locs1 ht hvm hw hB hz1 hk1 hS => ?_)
      have hw : (ha_clr (ta_clr (mr_cut (qm_th S z_1 p1) z_1 (0 : Int32)) z_1) z_1) = u := hw.symm
      subst hw
      obtain ⟨hP, hD⟩ := qm_bk ht hB
      clear hB
      refine lv_iload hx hb dX6_begin_40 (lv_at hl 0 rfl) ?_
      have h := Option.some.inj h
      subst h
      exact W.iret (v := (S.2.2 z_1)) hx hb hr (fun t ht hW => ⟨⟨(S.2.2 z_1), (ha_clr (ta_clr (mr_cut (qm_th S z_1 p1) z_1 (0 : Int32)) z_1) z_1), rfl, ⟨rfl, rfl⟩, qm_en ht hP hD⟩, hS.F ht⟩) hS.2.2 dX6_begin_42
noncomputable def fX6_show (S : qm_S) (p0 : Int32) (p1 : Int32) : Option (Int32 × qm_S) :=
  Option.bind (fX6_counterAt S p0) (fun z_1 => qm_gd (z_1 < 4) (Option.bind (fX6_isNumber S p1) (fun z_4 => Option.bind (fX6_demandInRange S z_4) (fun _ => Option.bind (fX0_demandRoomFor S z_1 (1 : Int32)) (fun _ => Option.bind (fX0_take S z_1 p1) (fun z_10 => some (((z_10.1 z_1).1), z_10)))))))
set_option maxHeartbeats 4000000 in
set_option maxRecDepth 100000 in
theorem kX6_show (l : Launch) (D : va_G) (A : Nat → Prop) (ad : Nat → Nat) (cI cQ : ClassId) (rest : va_W) (S : qm_S) (p0 : Int32) (p1 : Int32) (z : Int32 × qm_S) (h : fX6_show S p0 p1 = some z) : Met l yX6_show wsX6_show ({ frames := 6, cells := 0, slots := 0, locals := 147 }) (va_Pc [.ref (ad 0), .int p0, .int p1] (qn_B D A (qm_T cI cQ) (qm_W ad cI cQ rest S))) (qm_Qi D A (qm_W ad cI cQ rest) z) 0 0 A := by
  refine Met.ofW (cc := cX6_show) (maxL := 4) (ret := (some .int)) (by decide) rfl ?_
  intro p e s m args below meth c s₁ B hml hv
  obtain ⟨rfl, ⟨hA, hP, hK, hD⟩, hZ⟩ := hv
  have hx := B.exec
  have hb := B.bytes
  have hr := B.returns
  have hts := atoms_spec (ws := wsX6_show) B.pre
  have hown : s.vm.findClass RX6 = some m.cls := findClass_of_methodNamed B.named
  have hlocks := B.notSynchronized
  have hS : va_S A s.heap s.heap [] := va_S.rf
  have hl := lv_entry ([.ref (ad 0), .int p0, .int p1]) (n := 4) (Nat.le_of_ble_eq_true rfl)
  rw [lg_entry_eq]
  generalize (lg_sl ([.ref (ad 0), .int p0, .int p1]) ++ List.replicate (4 - (lg_sl ([.ref (ad 0), .int p0, .int p1])).length) Slot.unset).toArray = ls at hl ⊢
  have hl : lv_has ls 4 [(0, .ref (ad 0)), (1, .int p0), (2, .int p1)] := hl
  rw [fX6_show] at h
  refine lv_aload_n hx hb dX6_show_0 rfl (lv_at hl 0 rfl) ?_
  refine lv_iload_n hx hb dX6_show_1 rfl (lv_at hl 1 rfl) ?_
  obtain ⟨z_1, hz_2, h⟩ := qm_bind h
  refine va_callr (va_runV (As := [.int p0]) (rest := []) ⟨hx, hb, hml, hown, hts⟩ (kX6_counterAt l D A ad cI cQ rest S p0 z_1 hz_2) (cwV 1 hts gX6_show_X6_counterAt rfl rfl rfl (by decide +kernel) ⟨Nat.le_of_ble_eq_true rfl, Nat.le_of_ble_eq_true rfl⟩) ⟨qn_blind, va_recv hK hP (ci := 6) (q0 := 0) rfl qg_Q, fun U hU hW => ⟨rfl, qm_go hA hS hP hK hD hU hW, qn_go hZ hW⟩⟩ rfl rfl hl.1 rfl (lv_room (Nat.le_of_ble_eq_true rfl)) dX6_show_2 ⟨Nat.le_of_ble_eq_true rfl, Nat.le_of_ble_eq_true rfl⟩) hS (fun _ _ h9 => h9) (fun _ h9 => h9) (fun u ra t H1 locs1 ht hvm hw hB hz1 hk1 hS => ?_)
  obtain ⟨hra, hB⟩ := hB
  have hra : ad (2 + z_1) = ra := hra.symm
  have hw : S = u := hw.symm
  subst hra
  subst hw
  obtain ⟨hk_3, h⟩ := qm_gd_some h
  obtain ⟨hP, hD⟩ := qm_bk ht hB
  clear hB
  refine lv_astore_n (lv' := [(3, .ref (ad (2 + z_1))), (0, .ref (ad 0)), (1, .int p0), (2, .int p1)]) hx hb dX6_show_5 rfl hl (by decide) rfl (fun ls hl => ?_)
  refine lv_iload_n hx hb dX6_show_6 rfl (lv_at hl 3 rfl) ?_
  obtain ⟨z_4, hz_5, h⟩ := qm_bind h
  refine va_calli (va_runS (As := [.int p1]) (rest := []) ⟨hx, hb, hml, hown, hts⟩ (kX6_isNumber l D A ad cI cQ rest S p1 z_4 hz_5) (va_cwS 1 hts gX6_show_X6_isNumber rfl rfl rfl (by decide +kernel) ⟨Nat.le_of_ble_eq_true rfl, Nat.le_of_ble_eq_true rfl⟩) ⟨qm_blind, fun U hU hW => ⟨rfl, qm_go hA hS hP hK hD hU hW⟩⟩ rfl rfl hl.1 rfl (lv_room (Nat.le_of_ble_eq_true rfl)) dX6_show_7 ⟨Nat.le_of_ble_eq_true rfl, Nat.le_of_ble_eq_true rfl⟩) hS (fun _ _ h9 => h9) (fun _ h9 => h9) (fun v u t H1 locs1 ht hvm hw hB hz1 hk1 hS => ?_)
  obtain ⟨hw1, hw2⟩ := hw
  have hw2 : S = u := hw2.symm
  have hw1 : z_4 = v := hw1.symm
  subst hw1
  subst hw2
  obtain ⟨hP, hD⟩ := qm_bk ht hB
  clear hB
  obtain ⟨z_6, hz_7, h⟩ := qm_bind h
  refine va_callv (va_runS (As := [.int z_4]) (rest := []) ⟨hx, hb, hml, hown, hts⟩ (kX6_demandInRange l D A ad cI cQ rest S z_4 z_6 hz_7) (va_cwS 1 hts gX6_show_X6_demandInRange rfl rfl rfl (by decide +kernel) ⟨Nat.le_of_ble_eq_true rfl, Nat.le_of_ble_eq_true rfl⟩) ⟨qm_blind, fun U hU hW => ⟨rfl, qm_go hA hS hP hK hD hU hW⟩⟩ rfl rfl hl.1 rfl (lv_room (Nat.le_of_ble_eq_true rfl)) dX6_show_10 ⟨Nat.le_of_ble_eq_true rfl, Nat.le_of_ble_eq_true rfl⟩) hS (fun _ _ h9 => h9) (fun _ h9 => h9) (fun u t H1 locs1 ht hvm hw hB hz1 hk1 hS => ?_)
  have hw : S = u := hw.symm
  subst hw
  obtain ⟨hP, hD⟩ := qm_bk ht hB
  clear hB
  refine lv_aload_n hx hb dX6_show_13 rfl (lv_at hl 0 rfl) ?_
  refine lv_iconst (v := (1 : Int32)) hx hb dX6_show_14 (by decide) ?_
  obtain ⟨z_8, hz_9, h⟩ := qm_bind h
  refine va_callv (va_runV (As := [.int (1 : Int32)]) (rest := []) ⟨hx, hb, hml, hown, hts⟩ (kX0_demandRoomFor l D A ad cI cQ rest S z_1 hk_3 (1 : Int32) z_8 hz_9) (cwV 1 hts gX6_show_X0_demandRoomFor rfl rfl rfl (by decide +kernel) ⟨Nat.le_of_ble_eq_true rfl, Nat.le_of_ble_eq_true rfl⟩) ⟨qm_blind, va_recv hK hP (ci := 0) (q0 := (2 + z_1)) rfl (qg_C hk_3), fun U hU hW => ⟨rfl, qm_go hA hS hP hK hD hU hW⟩⟩ rfl rfl hl.1 rfl (lv_room (Nat.le_of_ble_eq_true rfl)) dX6_show_15 ⟨Nat.le_of_ble_eq_true rfl, Nat.le_of_ble_eq_true rfl⟩) hS (fun _ _ h9 => h9) (fun _ h9 => h9) (fun u t H1 locs1 ht hvm hw hB hz1 hk1 hS => ?_)
  have hw : S = u := hw.symm
  subst hw
  obtain ⟨hP, hD⟩ := qm_bk ht hB
  clear hB
  refine lv_aload_n hx hb dX6_show_18 rfl (lv_at hl 0 rfl) ?_
  refine lv_iload_n hx hb dX6_show_19 rfl (lv_at hl 3 rfl) ?_
  obtain ⟨z_10, hz_11, h⟩ := qm_bind h
  refine va_callv (va_runV (As := [.int p1]) (rest := []) ⟨hx, hb, hml, hown, hts⟩ (kX0_take l D A ad cI cQ rest S z_1 hk_3 p1 z_10 hz_11) (cwV 1 hts gX6_show_X0_take rfl rfl rfl (by decide +kernel) ⟨Nat.le_of_ble_eq_true rfl, Nat.le_of_ble_eq_true rfl⟩) ⟨qm_blind, va_recv hK hP (ci := 0) (q0 := (2 + z_1)) rfl (qg_C hk_3), fun U hU hW => ⟨rfl, qm_go hA hS hP hK hD hU hW⟩⟩ rfl rfl hl.1 rfl (lv_room (Nat.le_of_ble_eq_true rfl)) dX6_show_20 ⟨Nat.le_of_ble_eq_true rfl, Nat.le_of_ble_eq_true rfl⟩) hS (fun _ _ h9 => h9) (fun _ h9 => h9) (fun u t H1 locs1 ht hvm hw hB hz1 hk1 hS => ?_)
  have hw : z_10 = u := hw.symm
  subst hw
  obtain ⟨hP, hD⟩ := qm_bk ht hB
  clear hB
  refine lv_aload_n hx hb dX6_show_23 rfl (lv_at hl 0 rfl) ?_
  refine va_getN (D := D) (ci := 0) (v := .ref (ad (6 + z_1))) (C := RX0) (T := TX0) (N := 4) hx hb hts (by decide +kernel) hown hK hP (2 + z_1) (qg_C hk_3) rfl 0 (by decide) (va_Nw.use rfl (qz_frow hZ)) (fun _ h9 => h9) rfl dX6_show_24 ?_
  refine va_calli (va_runV (As := []) (rest := []) ⟨hx, hb, hml, hown, hts⟩ (nX3_length l D A ad cI cQ rest z_10 z_1 hk_3) (cwV 0 hts gX6_show_X3_length rfl rfl rfl (by decide +kernel) ⟨Nat.le_of_ble_eq_true rfl, Nat.le_of_ble_eq_true rfl⟩) ⟨qm_blind, va_recv hK hP (ci := 3) (q0 := (6 + z_1)) rfl (qg_M hk_3), fun U hU hW => ⟨rfl, qm_go hA hS hP hK hD hU hW⟩⟩ rfl rfl hl.1 rfl (lv_room (Nat.le_of_ble_eq_true rfl)) dX6_show_27 ⟨Nat.le_of_ble_eq_true rfl, Nat.le_of_ble_eq_true rfl⟩) hS (fun _ _ h9 => h9) (fun _ h9 => h9) (fun v u t H1 locs1 ht hvm hw hB hz1 hk1 hS => ?_)
  obtain ⟨hw1, hw2⟩ := hw
  have hw2 : z_10 = u := hw2.symm
  have hw1 : ((z_10.1 z_1).1) = v := hw1.symm
  subst hw1
  subst hw2
  obtain ⟨hP, hD⟩ := qm_bk ht hB
  clear hB
  have h := Option.some.inj h
  subst h
  exact W.iret (v := ((z_10.1 z_1).1)) hx hb hr (fun t ht hW => ⟨⟨((z_10.1 z_1).1), z_10, rfl, ⟨rfl, rfl⟩, qm_en ht hP hD⟩, hS.F ht⟩) hS.2.2 dX6_show_30
noncomputable def fX6_thinOut (S : qm_S) (p0 : Int32) : Option (Int32 × qm_S) :=
  Option.bind (fX6_counterAt S p0) (fun z_1 => qm_gd (z_1 < 4) (Option.bind (fX3_thin S z_1 ((((2 : Int32) * (S.2.1 z_1)) * (S.2.2 z_1)) / (1000 : Int32))) (fun z_4 => some (((S.1 z_1).1) - ((z_4.1 z_1).1), z_4))))
set_option maxHeartbeats 4000000 in
set_option maxRecDepth 100000 in
theorem kX6_thinOut (l : Launch) (D : va_G) (A : Nat → Prop) (ad : Nat → Nat) (cI cQ : ClassId) (rest : va_W) (S : qm_S) (p0 : Int32) (z : Int32 × qm_S) (h : fX6_thinOut S p0 = some z) : Met l yX6_thinOut wsX6_thinOut ({ frames := 5, cells := 0, slots := 0, locals := 112 }) (va_Pc [.ref (ad 0), .int p0] (qn_B D A (qm_T cI cQ) (qm_W ad cI cQ rest S))) (qm_Qi D A (qm_W ad cI cQ rest) z) 0 0 A := by
  refine Met.ofW (cc := cX6_thinOut) (maxL := 4) (ret := (some .int)) (by decide) rfl ?_
  intro p e s m args below meth c s₁ B hml hv
  obtain ⟨rfl, ⟨hA, hP, hK, hD⟩, hZ⟩ := hv
  have hx := B.exec
  have hb := B.bytes
  have hr := B.returns
  have hts := atoms_spec (ws := wsX6_thinOut) B.pre
  have hown : s.vm.findClass RX6 = some m.cls := findClass_of_methodNamed B.named
  have hlocks := B.notSynchronized
  have hS : va_S A s.heap s.heap [] := va_S.rf
  have hl := lv_entry ([.ref (ad 0), .int p0]) (n := 4) (Nat.le_of_ble_eq_true rfl)
  rw [lg_entry_eq]
  generalize (lg_sl ([.ref (ad 0), .int p0]) ++ List.replicate (4 - (lg_sl ([.ref (ad 0), .int p0])).length) Slot.unset).toArray = ls at hl ⊢
  have hl : lv_has ls 4 [(0, .ref (ad 0)), (1, .int p0)] := hl
  rw [fX6_thinOut] at h
  refine lv_aload_n hx hb dX6_thinOut_0 rfl (lv_at hl 0 rfl) ?_
  refine lv_iload_n hx hb dX6_thinOut_1 rfl (lv_at hl 1 rfl) ?_
  obtain ⟨z_1, hz_2, h⟩ := qm_bind h
  refine va_callr (va_runV (As := [.int p0]) (rest := []) ⟨hx, hb, hml, hown, hts⟩ (kX6_counterAt l D A ad cI cQ rest S p0 z_1 hz_2) (cwV 1 hts gX6_thinOut_X6_counterAt rfl rfl rfl (by decide +kernel) ⟨Nat.le_of_ble_eq_true rfl, Nat.le_of_ble_eq_true rfl⟩) ⟨qn_blind, va_recv hK hP (ci := 6) (q0 := 0) rfl qg_Q, fun U hU hW => ⟨rfl, qm_go hA hS hP hK hD hU hW, qn_go hZ hW⟩⟩ rfl rfl hl.1 rfl (lv_room (Nat.le_of_ble_eq_true rfl)) dX6_thinOut_2 ⟨Nat.le_of_ble_eq_true rfl, Nat.le_of_ble_eq_true rfl⟩) hS (fun _ _ h9 => h9) (fun _ h9 => h9) (fun u ra t H1 locs1 ht hvm hw hB hz1 hk1 hS => ?_)
  obtain ⟨hra, hB⟩ := hB
  have hra : ad (2 + z_1) = ra := hra.symm
  have hw : S = u := hw.symm
  subst hra
  subst hw
  obtain ⟨hk_3, h⟩ := qm_gd_some h
  obtain ⟨hP, hD⟩ := qm_bk ht hB
  clear hB
  refine lv_astore_n (lv' := [(2, .ref (ad (2 + z_1))), (0, .ref (ad 0)), (1, .int p0)]) hx hb dX6_thinOut_5 rfl hl (by decide) rfl (fun ls hl => ?_)
  refine lv_aload_n hx hb dX6_thinOut_6 rfl (lv_at hl 0 rfl) ?_
  refine va_getN (D := D) (ci := 0) (v := .ref (ad (6 + z_1))) (C := RX0) (T := TX0) (N := 4) hx hb hts (by decide +kernel) hown hK hP (2 + z_1) (qg_C hk_3) rfl 0 (by decide) (va_Nw.use rfl (qz_frow hZ)) (fun _ h9 => h9) rfl dX6_thinOut_7 ?_
  refine va_calli (va_runV (As := []) (rest := []) ⟨hx, hb, hml, hown, hts⟩ (nX3_length l D A ad cI cQ rest S z_1 hk_3) (cwV 0 hts gX6_thinOut_X3_length rfl rfl rfl (by decide +kernel) ⟨Nat.le_of_ble_eq_true rfl, Nat.le_of_ble_eq_true rfl⟩) ⟨qm_blind, va_recv hK hP (ci := 3) (q0 := (6 + z_1)) rfl (qg_M hk_3), fun U hU hW => ⟨rfl, qm_go hA hS hP hK hD hU hW⟩⟩ rfl rfl hl.1 rfl (lv_room (Nat.le_of_ble_eq_true rfl)) dX6_thinOut_10 ⟨Nat.le_of_ble_eq_true rfl, Nat.le_of_ble_eq_true rfl⟩) hS (fun _ _ h9 => h9) (fun _ h9 => h9) (fun v u t H1 locs1 ht hvm hw hB hz1 hk1 hS => ?_)
  obtain ⟨hw1, hw2⟩ := hw
  have hw2 : S = u := hw2.symm
  have hw1 : ((S.1 z_1).1) = v := hw1.symm
  subst hw1
  subst hw2
  obtain ⟨hP, hD⟩ := qm_bk ht hB
  clear hB
  refine lv_istore_n (lv' := [(3, .int ((S.1 z_1).1)), (2, .ref (ad (2 + z_1))), (0, .ref (ad 0)), (1, .int p0)]) hx hb dX6_thinOut_13 rfl hl (by decide) rfl (fun ls hl => ?_)
  refine lv_aload_n hx hb dX6_thinOut_14 rfl (lv_at hl 1 rfl) ?_
  refine va_getN (D := D) (ci := 0) (v := .ref (ad (6 + z_1))) (C := RX0) (T := TX0) (N := 4) hx hb hts (by decide +kernel) hown hK hP (2 + z_1) (qg_C hk_3) rfl 0 (by decide) (va_Nw.use rfl (qz_frow hZ)) (fun _ h9 => h9) rfl dX6_thinOut_15 ?_
  refine lv_aload_n hx hb dX6_thinOut_18 rfl (lv_at hl 1 rfl) ?_
  refine va_calli (va_runV (As := []) (rest := [.ref (ad (6 + z_1))]) ⟨hx, hb, hml, hown, hts⟩ (nX0_allowed l D A ad cI cQ rest S z_1 hk_3) (cwV 0 hts gX6_thinOut_X0_allowed rfl rfl rfl (by decide +kernel) ⟨Nat.le_of_ble_eq_true rfl, Nat.le_of_ble_eq_true rfl⟩) ⟨qm_blind, va_recv hK hP (ci := 0) (q0 := (2 + z_1)) rfl (qg_C hk_3), fun U hU hW => ⟨rfl, qm_go hA hS hP hK hD hU hW⟩⟩ rfl rfl hl.1 rfl (lv_room (Nat.le_of_ble_eq_true rfl)) dX6_thinOut_19 ⟨Nat.le_of_ble_eq_true rfl, Nat.le_of_ble_eq_true rfl⟩) hS (fun _ _ h9 => h9) (fun _ h9 => h9) (fun v u t H1 locs1 ht hvm hw hB hz1 hk1 hS => ?_)
  obtain ⟨hw1, hw2⟩ := hw
  have hw2 : S = u := hw2.symm
  have hw1 : ((((2 : Int32) * (S.2.1 z_1)) * (S.2.2 z_1)) / (1000 : Int32)) = v := hw1.symm
  subst hw1
  subst hw2
  obtain ⟨hP, hD⟩ := qm_bk ht hB
  clear hB
  obtain ⟨z_4, hz_5, h⟩ := qm_bind h
  refine va_callv (va_runV (As := [.int ((((2 : Int32) * (S.2.1 z_1)) * (S.2.2 z_1)) / (1000 : Int32))]) (rest := []) ⟨hx, hb, hml, hown, hts⟩ (kX3_thin l D A ad cI cQ rest S z_1 hk_3 ((((2 : Int32) * (S.2.1 z_1)) * (S.2.2 z_1)) / (1000 : Int32)) z_4 hz_5) (cwV 1 hts gX6_thinOut_X3_thin rfl rfl rfl (by decide +kernel) ⟨Nat.le_of_ble_eq_true rfl, Nat.le_of_ble_eq_true rfl⟩) ⟨qm_blind, va_recv hK hP (ci := 3) (q0 := (6 + z_1)) rfl (qg_M hk_3), fun U hU hW => ⟨rfl, qm_go hA hS hP hK hD hU hW⟩⟩ rfl rfl hl.1 rfl (lv_room (Nat.le_of_ble_eq_true rfl)) dX6_thinOut_22 ⟨Nat.le_of_ble_eq_true rfl, Nat.le_of_ble_eq_true rfl⟩) hS (fun _ _ h9 => h9) (fun _ h9 => h9) (fun u t H1 locs1 ht hvm hw hB hz1 hk1 hS => ?_)
  have hw : z_4 = u := hw.symm
  subst hw
  obtain ⟨hP, hD⟩ := qm_bk ht hB
  clear hB
  refine lv_iload_n hx hb dX6_thinOut_25 rfl (lv_at hl 0 rfl) ?_
  refine lv_aload_n hx hb dX6_thinOut_26 rfl (lv_at hl 1 rfl) ?_
  refine va_getN (D := D) (ci := 0) (v := .ref (ad (6 + z_1))) (C := RX0) (T := TX0) (N := 4) hx hb hts (by decide +kernel) hown hK hP (2 + z_1) (qg_C hk_3) rfl 0 (by decide) (va_Nw.use rfl (qz_frow hZ)) (fun _ h9 => h9) rfl dX6_thinOut_27 ?_
  refine va_calli (va_runV (As := []) (rest := [.int ((S.1 z_1).1)]) ⟨hx, hb, hml, hown, hts⟩ (nX3_length l D A ad cI cQ rest z_4 z_1 hk_3) (cwV 0 hts gX6_thinOut_X3_length rfl rfl rfl (by decide +kernel) ⟨Nat.le_of_ble_eq_true rfl, Nat.le_of_ble_eq_true rfl⟩) ⟨qm_blind, va_recv hK hP (ci := 3) (q0 := (6 + z_1)) rfl (qg_M hk_3), fun U hU hW => ⟨rfl, qm_go hA hS hP hK hD hU hW⟩⟩ rfl rfl hl.1 rfl (lv_room (Nat.le_of_ble_eq_true rfl)) dX6_thinOut_30 ⟨Nat.le_of_ble_eq_true rfl, Nat.le_of_ble_eq_true rfl⟩) hS (fun _ _ h9 => h9) (fun _ h9 => h9) (fun v u t H1 locs1 ht hvm hw hB hz1 hk1 hS => ?_)
  obtain ⟨hw1, hw2⟩ := hw
  have hw2 : z_4 = u := hw2.symm
  have hw1 : ((z_4.1 z_1).1) = v := hw1.symm
  subst hw1
  subst hw2
  obtain ⟨hP, hD⟩ := qm_bk ht hB
  clear hB
  refine lv_isub hx hb dX6_thinOut_33 ?_
  have h := Option.some.inj h
  subst h
  exact W.iret (v := ((S.1 z_1).1) - ((z_4.1 z_1).1)) hx hb hr (fun t ht hW => ⟨⟨((S.1 z_1).1) - ((z_4.1 z_1).1), z_4, rfl, ⟨rfl, rfl⟩, qm_en ht hP hD⟩, hS.F ht⟩) hS.2.2 dX6_thinOut_34
noncomputable def fX6_pour (S : qm_S) (p0 : Int32) (p1 : Int32) : Option (Int32 × qm_S) :=
  Option.bind (fX6_counterAt S p0) (fun z_1 => qm_gd (z_1 < 4) (Option.bind (fX6_counterAt S p1) (fun z_4 => qm_gd (z_4 < 4) ((if p0 = p1 then none else Option.bind (fX0_demandRoomFor S z_4 (S.2.2 z_1)) (fun _ => Option.bind (fX0_takeAll S z_4 z_1) (fun z_10 => some ((z_10.2.2 z_4), z_10))))))))
set_option maxHeartbeats 4000000 in
set_option maxRecDepth 100000 in
theorem kX6_pour (l : Launch) (D : va_G) (A : Nat → Prop) (ad : Nat → Nat) (cI cQ : ClassId) (rest : va_W) (S : qm_S) (p0 : Int32) (p1 : Int32) (z : Int32 × qm_S) (h : fX6_pour S p0 p1 = some z) : Met l yX6_pour wsX6_pour ({ frames := 6, cells := 0, slots := 0, locals := 151 }) (va_Pc [.ref (ad 0), .int p0, .int p1] (qn_B D A (qm_T cI cQ) (qm_W ad cI cQ rest S))) (qm_Qi D A (qm_W ad cI cQ rest) z) 0 0 A := by
  refine Met.ofW (cc := cX6_pour) (maxL := 5) (ret := (some .int)) (by decide) rfl ?_
  intro p e s m args below meth c s₁ B hml hv
  obtain ⟨rfl, ⟨hA, hP, hK, hD⟩, hZ⟩ := hv
  have hx := B.exec
  have hb := B.bytes
  have hr := B.returns
  have hts := atoms_spec (ws := wsX6_pour) B.pre
  have hown : s.vm.findClass RX6 = some m.cls := findClass_of_methodNamed B.named
  have hlocks := B.notSynchronized
  have hS : va_S A s.heap s.heap [] := va_S.rf
  have hl := lv_entry ([.ref (ad 0), .int p0, .int p1]) (n := 5) (Nat.le_of_ble_eq_true rfl)
  rw [lg_entry_eq]
  generalize (lg_sl ([.ref (ad 0), .int p0, .int p1]) ++ List.replicate (5 - (lg_sl ([.ref (ad 0), .int p0, .int p1])).length) Slot.unset).toArray = ls at hl ⊢
  have hl : lv_has ls 5 [(0, .ref (ad 0)), (1, .int p0), (2, .int p1)] := hl
  rw [fX6_pour] at h
  refine lv_aload_n hx hb dX6_pour_0 rfl (lv_at hl 0 rfl) ?_
  refine lv_iload_n hx hb dX6_pour_1 rfl (lv_at hl 1 rfl) ?_
  obtain ⟨z_1, hz_2, h⟩ := qm_bind h
  refine va_callr (va_runV (As := [.int p0]) (rest := []) ⟨hx, hb, hml, hown, hts⟩ (kX6_counterAt l D A ad cI cQ rest S p0 z_1 hz_2) (cwV 1 hts gX6_pour_X6_counterAt rfl rfl rfl (by decide +kernel) ⟨Nat.le_of_ble_eq_true rfl, Nat.le_of_ble_eq_true rfl⟩) ⟨qn_blind, va_recv hK hP (ci := 6) (q0 := 0) rfl qg_Q, fun U hU hW => ⟨rfl, qm_go hA hS hP hK hD hU hW, qn_go hZ hW⟩⟩ rfl rfl hl.1 rfl (lv_room (Nat.le_of_ble_eq_true rfl)) dX6_pour_2 ⟨Nat.le_of_ble_eq_true rfl, Nat.le_of_ble_eq_true rfl⟩) hS (fun _ _ h9 => h9) (fun _ h9 => h9) (fun u ra t H1 locs1 ht hvm hw hB hz1 hk1 hS => ?_)
  obtain ⟨hra, hB⟩ := hB
  have hra : ad (2 + z_1) = ra := hra.symm
  have hw : S = u := hw.symm
  subst hra
  subst hw
  obtain ⟨hk_3, h⟩ := qm_gd_some h
  obtain ⟨hP, hD⟩ := qm_bk ht hB
  clear hB
  refine lv_astore_n (lv' := [(3, .ref (ad (2 + z_1))), (0, .ref (ad 0)), (1, .int p0), (2, .int p1)]) hx hb dX6_pour_5 rfl hl (by decide) rfl (fun ls hl => ?_)
  refine lv_aload_n hx hb dX6_pour_6 rfl (lv_at hl 1 rfl) ?_
  refine lv_iload_n hx hb dX6_pour_7 rfl (lv_at hl 3 rfl) ?_
  obtain ⟨z_4, hz_5, h⟩ := qm_bind h
  refine va_callr (va_runV (As := [.int p1]) (rest := []) ⟨hx, hb, hml, hown, hts⟩ (kX6_counterAt l D A ad cI cQ rest S p1 z_4 hz_5) (cwV 1 hts gX6_pour_X6_counterAt rfl rfl rfl (by decide +kernel) ⟨Nat.le_of_ble_eq_true rfl, Nat.le_of_ble_eq_true rfl⟩) ⟨qn_blind, va_recv hK hP (ci := 6) (q0 := 0) rfl qg_Q, fun U hU hW => ⟨rfl, qm_go hA hS hP hK hD hU hW, qn_go hZ hW⟩⟩ rfl rfl hl.1 rfl (lv_room (Nat.le_of_ble_eq_true rfl)) dX6_pour_8 ⟨Nat.le_of_ble_eq_true rfl, Nat.le_of_ble_eq_true rfl⟩) hS (fun _ _ h9 => h9) (fun _ h9 => h9) (fun u ra t H1 locs1 ht hvm hw hB hz1 hk1 hS => ?_)
  obtain ⟨hra, hB⟩ := hB
  have hra : ad (2 + z_4) = ra := hra.symm
  have hw : S = u := hw.symm
  subst hra
  subst hw
  obtain ⟨hk_6, h⟩ := qm_gd_some h
  obtain ⟨hP, hD⟩ := qm_bk ht hB
  clear hB
  refine lv_astore (lv' := [(4, .ref (ad (2 + z_4))), (3, .ref (ad (2 + z_1))), (0, .ref (ad 0)), (1, .int p0), (2, .int p1)]) hx hb dX6_pour_11 hl (by decide) rfl (fun ls hl => ?_)
  refine lv_iload_n hx hb dX6_pour_13 rfl (lv_at hl 3 rfl) ?_
  refine lv_iload_n hx hb dX6_pour_14 rfl (lv_at hl 4 rfl) ?_
  refine lv_icmp_ne (tgt := 28) hx hb dX6_pour_15 (by decide) (fun c_7 => ?_) (fun c_7 => ?_)
  · rw [if_neg c_7] at h
    refine lv_aload hx hb dX6_pour_28 (lv_at hl 0 rfl) ?_
    refine lv_aload_n hx hb dX6_pour_30 rfl (lv_at hl 1 rfl) ?_
    refine va_getN (D := D) (ci := 0) (v := .ref (ad (10 + z_1))) (C := RX0) (T := TX0) (N := 4) hx hb hts (by decide +kernel) hown hK hP (2 + z_1) (qg_C hk_3) rfl 1 (by decide) (va_Nw.use rfl (qz_fnumbers hZ)) (fun _ h9 => h9) rfl dX6_pour_31 ?_
    refine va_calli (va_runV (As := []) (rest := [.ref (ad (2 + z_4))]) ⟨hx, hb, hml, hown, hts⟩ (nX5_total l D A ad cI cQ rest S z_1 hk_3) (cwV 0 hts gX6_pour_X5_total rfl rfl rfl (by decide +kernel) ⟨Nat.le_of_ble_eq_true rfl, Nat.le_of_ble_eq_true rfl⟩) ⟨qm_blind, va_recv hK hP (ci := 5) (q0 := (10 + z_1)) rfl (qg_T hk_3), fun U hU hW => ⟨rfl, qm_go hA hS hP hK hD hU hW⟩⟩ rfl rfl hl.1 rfl (lv_room (Nat.le_of_ble_eq_true rfl)) dX6_pour_34 ⟨Nat.le_of_ble_eq_true rfl, Nat.le_of_ble_eq_true rfl⟩) hS (fun _ _ h9 => h9) (fun _ h9 => h9) (fun v u t H1 locs1 ht hvm hw hB hz1 hk1 hS => ?_)
    obtain ⟨hw1, hw2⟩ := hw
    have hw2 : S = u := hw2.symm
    have hw1 : (S.2.2 z_1) = v := hw1.symm
    subst hw1
    subst hw2
    obtain ⟨hP, hD⟩ := qm_bk ht hB
    clear hB
    obtain ⟨z_8, hz_9, h⟩ := qm_bind h
    refine va_callv (va_runV (As := [.int (S.2.2 z_1)]) (rest := []) ⟨hx, hb, hml, hown, hts⟩ (kX0_demandRoomFor l D A ad cI cQ rest S z_4 hk_6 (S.2.2 z_1) z_8 hz_9) (cwV 1 hts gX6_pour_X0_demandRoomFor rfl rfl rfl (by decide +kernel) ⟨Nat.le_of_ble_eq_true rfl, Nat.le_of_ble_eq_true rfl⟩) ⟨qm_blind, va_recv hK hP (ci := 0) (q0 := (2 + z_4)) rfl (qg_C hk_6), fun U hU hW => ⟨rfl, qm_go hA hS hP hK hD hU hW⟩⟩ rfl rfl hl.1 rfl (lv_room (Nat.le_of_ble_eq_true rfl)) dX6_pour_37 ⟨Nat.le_of_ble_eq_true rfl, Nat.le_of_ble_eq_true rfl⟩) hS (fun _ _ h9 => h9) (fun _ h9 => h9) (fun u t H1 locs1 ht hvm hw hB hz1 hk1 hS => ?_)
    have hw : S = u := hw.symm
    subst hw
    obtain ⟨hP, hD⟩ := qm_bk ht hB
    clear hB
    refine lv_aload hx hb dX6_pour_40 (lv_at hl 0 rfl) ?_
    refine lv_aload_n hx hb dX6_pour_42 rfl (lv_at hl 1 rfl) ?_
    obtain ⟨z_10, hz_11, h⟩ := qm_bind h
    refine va_callv (va_runV (As := [.ref (ad (2 + z_1))]) (rest := []) ⟨hx, hb, hml, hown, hts⟩ (kX0_takeAll l D A ad cI cQ rest S z_4 hk_6 z_1 hk_3 z_10 hz_11) (cwV 1 hts gX6_pour_X0_takeAll rfl rfl rfl (by decide +kernel) ⟨Nat.le_of_ble_eq_true rfl, Nat.le_of_ble_eq_true rfl⟩) ⟨qm_blind, va_recv hK hP (ci := 0) (q0 := (2 + z_4)) rfl (qg_C hk_6), fun U hU hW => ⟨rfl, qm_go hA hS hP hK hD hU hW⟩⟩ rfl rfl hl.1 rfl (lv_room (Nat.le_of_ble_eq_true rfl)) dX6_pour_43 ⟨Nat.le_of_ble_eq_true rfl, Nat.le_of_ble_eq_true rfl⟩) hS (fun _ _ h9 => h9) (fun _ h9 => h9) (fun u t H1 locs1 ht hvm hw hB hz1 hk1 hS => ?_)
    have hw : z_10 = u := hw.symm
    subst hw
    obtain ⟨hP, hD⟩ := qm_bk ht hB
    clear hB
    refine lv_aload hx hb dX6_pour_46 (lv_at hl 0 rfl) ?_
    refine va_getN (D := D) (ci := 0) (v := .ref (ad (10 + z_4))) (C := RX0) (T := TX0) (N := 4) hx hb hts (by decide +kernel) hown hK hP (2 + z_4) (qg_C hk_6) rfl 1 (by decide) (va_Nw.use rfl (qz_fnumbers hZ)) (fun _ h9 => h9) rfl dX6_pour_48 ?_
    refine va_calli (va_runV (As := []) (rest := []) ⟨hx, hb, hml, hown, hts⟩ (nX5_total l D A ad cI cQ rest z_10 z_4 hk_6) (cwV 0 hts gX6_pour_X5_total rfl rfl rfl (by decide +kernel) ⟨Nat.le_of_ble_eq_true rfl, Nat.le_of_ble_eq_true rfl⟩) ⟨qm_blind, va_recv hK hP (ci := 5) (q0 := (10 + z_4)) rfl (qg_T hk_6), fun U hU hW => ⟨rfl, qm_go hA hS hP hK hD hU hW⟩⟩ rfl rfl hl.1 rfl (lv_room (Nat.le_of_ble_eq_true rfl)) dX6_pour_51 ⟨Nat.le_of_ble_eq_true rfl, Nat.le_of_ble_eq_true rfl⟩) hS (fun _ _ h9 => h9) (fun _ h9 => h9) (fun v u t H1 locs1 ht hvm hw hB hz1 hk1 hS => ?_)
    obtain ⟨hw1, hw2⟩ := hw
    have hw2 : z_10 = u := hw2.symm
    have hw1 : (z_10.2.2 z_4) = v := hw1.symm
    subst hw1
    subst hw2
    obtain ⟨hP, hD⟩ := qm_bk ht hB
    clear hB
    have h := Option.some.inj h
    subst h
    exact W.iret (v := (z_10.2.2 z_4)) hx hb hr (fun t ht hW => ⟨⟨(z_10.2.2 z_4), z_10, rfl, ⟨rfl, rfl⟩, qm_en ht hP hD⟩, hS.F ht⟩) hS.2.2 dX6_pour_54
  · rw [if_pos c_7] at h
    cases h
