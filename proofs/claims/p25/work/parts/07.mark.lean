noncomputable def fX3_length (S : qm_S) (k : Nat) : Option (Int32) :=
  some ((S.1 k).1)
set_option maxHeartbeats 4000000 in
set_option maxRecDepth 100000 in
theorem kX3_length (l : Launch) (D : va_G) (A : Nat → Prop) (ad : Nat → Nat) (cI cQ : ClassId) (rest : va_W) (S : qm_S) (k : Nat) (hix : k < 4) (z : Int32) (h : fX3_length S k = some z) : Met l yX3_length wsX3_length ({ frames := 1, cells := 0, slots := 0, locals := 20 }) (va_Pc [.ref (ad (6 + k))] (qm_B D A (qm_T cI cQ) (qm_W ad cI cQ rest S))) (qm_Qi D A (qm_W ad cI cQ rest) (z, S)) 0 0 A := by
  refine Met.ofW (cc := cX3_length) (maxL := 1) (ret := (some .int)) (by decide) rfl ?_
  intro p e s m args below meth c s₁ B hml hv
  obtain ⟨rfl, hA, hP, hK, hD⟩ := hv
  have hx := B.exec
  have hb := B.bytes
  have hr := B.returns
  have hts := atoms_spec (ws := wsX3_length) B.pre
  have hown : s.vm.findClass RX3 = some m.cls := findClass_of_methodNamed B.named
  have hlocks := B.notSynchronized
  have hS : va_S A s.heap s.heap [] := va_S.rf
  have hl := lv_entry ([.ref (ad (6 + k))]) (n := 1) (Nat.le_of_ble_eq_true rfl)
  rw [lg_entry_eq]
  generalize (lg_sl ([.ref (ad (6 + k))]) ++ List.replicate (1 - (lg_sl ([.ref (ad (6 + k))])).length) Slot.unset).toArray = ls at hl ⊢
  have hl : lv_has ls 1 [(0, .ref (ad (6 + k)))] := hl
  rw [fX3_length] at h
  refine lv_aload_n hx hb dX3_length_0 rfl (lv_at hl 0 rfl) ?_
  refine va_get (D := D) (ci := 3) (v := .ref (ad (26 + k))) (C := RX3) (T := TX3) (N := 3) hx hb hts (by decide +kernel) hown hK hP (6 + k) (qg_M hix) rfl 0 (by decide) (hts (.fieldLink RX3 10 "QueueMiddles$MarkRow" "values" "LQueueMiddles$Row;") (by decide +kernel)) (fun _ h9 => h9) rfl dX3_length_1 ?_
  refine va_calli (va_runV (As := []) (rest := []) ⟨hx, hb, hml, hown, hts⟩ (nX4_size l D A ad cI cQ rest S k (qb_0 hix)) (cwV 0 hts gX3_length_X4_size rfl rfl rfl (by decide +kernel) ⟨Nat.le_of_ble_eq_true rfl, Nat.le_of_ble_eq_true rfl⟩) ⟨qm_blind, va_recv hK hP (ci := 4) (q0 := (26 + k)) rfl (qg_R (qb_0 hix)), fun U hU hW => ⟨rfl, qm_go hA hS hP hK hD hU hW⟩⟩ rfl rfl hl.1 rfl (lv_room (Nat.le_of_ble_eq_true rfl)) dX3_length_4 ⟨Nat.le_of_ble_eq_true rfl, Nat.le_of_ble_eq_true rfl⟩) hS (fun _ _ h9 => h9) (fun _ h9 => h9) (fun v u t H1 locs1 ht hvm hw hB hz1 hk1 hS => ?_)
  obtain ⟨hw1, hw2⟩ := hw
  have hw1 : (S.1 k).1 = v := hw1.symm
  have hw2 : S = u := hw2.symm
  subst hw1
  subst hw2
  obtain ⟨hP, hD⟩ := qm_bk ht hB
  have h := Option.some.inj h
  subst h
  exact W.iret (v := (S.1 k).1) hx hb hr (fun t ht hW => ⟨⟨(S.1 k).1, S, rfl, ⟨rfl, rfl⟩, qm_en ht hP hD⟩, hS.F ht⟩) hS.2.2 dX3_length_7
theorem eX3_length (S : qm_S) (k : Nat) : fX3_length S k = some ((S.1 k).1) := by
  rfl
theorem nX3_length (l : Launch) (D : va_G) (A : Nat → Prop) (ad : Nat → Nat) (cI cQ : ClassId) (rest : va_W) (S : qm_S) (k : Nat) (hix : k < 4) : Met l yX3_length wsX3_length ({ frames := 1, cells := 0, slots := 0, locals := 20 }) (va_Pc [.ref (ad (6 + k))] (qm_B D A (qm_T cI cQ) (qm_W ad cI cQ rest S))) (qm_Qi D A (qm_W ad cI cQ rest) (((S.1 k).1), S)) 0 0 A :=
  kX3_length l D A ad cI cQ rest S k hix _ (eX3_length S k)
noncomputable def fX3_cutTo (S : qm_S) (k : Nat) (p0 : Int32) : Option (qm_S) :=
  some (qm_row (qm_row (qm_row S k (rw_cut (S.1 k) p0)) (4 + k) (rw_cut ((qm_row S k (rw_cut (S.1 k) p0)).1 (4 + k)) p0)) (8 + k) (rw_cut ((qm_row (qm_row S k (rw_cut (S.1 k) p0)) (4 + k) (rw_cut ((qm_row S k (rw_cut (S.1 k) p0)).1 (4 + k)) p0)).1 (8 + k)) p0))
def mr_cut (S : qm_S) (k : Nat) (p : Int32) : qm_S := qm_row (qm_row (qm_row S k (rw_cut (S.1 k) p)) (4 + k) (rw_cut (S.1 (4 + k)) p)) (8 + k) (rw_cut (S.1 (8 + k)) p)
set_option maxHeartbeats 4000000 in
set_option maxRecDepth 100000 in
theorem kX3_cutTo (l : Launch) (D : va_G) (A : Nat → Prop) (ad : Nat → Nat) (cI cQ : ClassId) (rest : va_W) (S : qm_S) (k : Nat) (hix : k < 4) (p0 : Int32) (z : qm_S) (h : fX3_cutTo S k p0 = some z) : Met l yX3_cutTo wsX3_cutTo ({ frames := 1, cells := 0, slots := 0, locals := 21 }) (va_Pc [.ref (ad (6 + k)), .int p0] (qm_B D A (qm_T cI cQ) (qm_W ad cI cQ rest S))) (qm_Qv D A (qm_W ad cI cQ rest) z) 0 0 A := by
  refine Met.ofW (cc := cX3_cutTo) (maxL := 2) (ret := none) (by decide) rfl ?_
  intro p e s m args below meth c s₁ B hml hv
  obtain ⟨rfl, hA, hP, hK, hD⟩ := hv
  have hx := B.exec
  have hb := B.bytes
  have hr := B.returns
  have hts := atoms_spec (ws := wsX3_cutTo) B.pre
  have hown : s.vm.findClass RX3 = some m.cls := findClass_of_methodNamed B.named
  have hlocks := B.notSynchronized
  have hS : va_S A s.heap s.heap [] := va_S.rf
  have hl := lv_entry ([.ref (ad (6 + k)), .int p0]) (n := 2) (Nat.le_of_ble_eq_true rfl)
  rw [lg_entry_eq]
  generalize (lg_sl ([.ref (ad (6 + k)), .int p0]) ++ List.replicate (2 - (lg_sl ([.ref (ad (6 + k)), .int p0])).length) Slot.unset).toArray = ls at hl ⊢
  have hl : lv_has ls 2 [(0, .ref (ad (6 + k))), (1, .int p0)] := hl
  rw [fX3_cutTo] at h
  refine lv_aload_n hx hb dX3_cutTo_0 rfl (lv_at hl 0 rfl) ?_
  refine va_get (D := D) (ci := 3) (v := .ref (ad (26 + k))) (C := RX3) (T := TX3) (N := 3) hx hb hts (by decide +kernel) hown hK hP (6 + k) (qg_M hix) rfl 0 (by decide) (hts (.fieldLink RX3 10 "QueueMiddles$MarkRow" "values" "LQueueMiddles$Row;") (by decide +kernel)) (fun _ h9 => h9) rfl dX3_cutTo_1 ?_
  refine lv_iload_n hx hb dX3_cutTo_4 rfl (lv_at hl 1 rfl) ?_
  refine va_callv (va_runV (As := [.int p0]) (rest := []) ⟨hx, hb, hml, hown, hts⟩ (nX4_cutTo l D A ad cI cQ rest S k (qb_0 hix) p0) (cwV 1 hts gX3_cutTo_X4_cutTo rfl rfl rfl (by decide +kernel) ⟨Nat.le_of_ble_eq_true rfl, Nat.le_of_ble_eq_true rfl⟩) ⟨qm_blind, va_recv hK hP (ci := 4) (q0 := (26 + k)) rfl (qg_R (qb_0 hix)), fun U hU hW => ⟨rfl, qm_go hA hS hP hK hD hU hW⟩⟩ rfl rfl hl.1 rfl (lv_room (Nat.le_of_ble_eq_true rfl)) dX3_cutTo_5 ⟨Nat.le_of_ble_eq_true rfl, Nat.le_of_ble_eq_true rfl⟩) hS (fun _ _ h9 => h9) (fun _ h9 => h9) (fun u t H1 locs1 ht hvm hw hB hz1 hk1 hS => ?_)
  have hw : qm_row S k (rw_cut (S.1 k) p0) = u := hw.symm
  subst hw
  obtain ⟨hP, hD⟩ := qm_bk ht hB
  refine lv_aload_n hx hb dX3_cutTo_8 rfl (lv_at hl 0 rfl) ?_
  refine va_get (D := D) (ci := 3) (v := .ref (ad (26 + (4 + k)))) (C := RX3) (T := TX3) (N := 3) hx hb hts (by decide +kernel) hown hK hP (6 + k) (qg_M hix) rfl 1 (by decide) (hts (.fieldLink RX3 16 "QueueMiddles$MarkRow" "gaps" "LQueueMiddles$Row;") (by decide +kernel)) (fun _ h9 => h9) rfl dX3_cutTo_9 ?_
  refine lv_iload_n hx hb dX3_cutTo_12 rfl (lv_at hl 1 rfl) ?_
  refine va_callv (va_runV (As := [.int p0]) (rest := []) ⟨hx, hb, hml, hown, hts⟩ (nX4_cutTo l D A ad cI cQ rest (qm_row S k (rw_cut (S.1 k) p0)) (4 + k) (qb_4 hix) p0) (cwV 1 hts gX3_cutTo_X4_cutTo rfl rfl rfl (by decide +kernel) ⟨Nat.le_of_ble_eq_true rfl, Nat.le_of_ble_eq_true rfl⟩) ⟨qm_blind, va_recv hK hP (ci := 4) (q0 := (26 + (4 + k))) rfl (qg_R (qb_4 hix)), fun U hU hW => ⟨rfl, qm_go hA hS hP hK hD hU hW⟩⟩ rfl rfl hl.1 rfl (lv_room (Nat.le_of_ble_eq_true rfl)) dX3_cutTo_13 ⟨Nat.le_of_ble_eq_true rfl, Nat.le_of_ble_eq_true rfl⟩) hS (fun _ _ h9 => h9) (fun _ h9 => h9) (fun u t H1 locs1 ht hvm hw hB hz1 hk1 hS => ?_)
  have hw : qm_row (qm_row S k (rw_cut (S.1 k) p0)) (4 + k) (rw_cut ((qm_row S k (rw_cut (S.1 k) p0)).1 (4 + k)) p0) = u := hw.symm
  subst hw
  obtain ⟨hP, hD⟩ := qm_bk ht hB
  refine lv_aload_n hx hb dX3_cutTo_16 rfl (lv_at hl 0 rfl) ?_
  refine va_get (D := D) (ci := 3) (v := .ref (ad (26 + (8 + k)))) (C := RX3) (T := TX3) (N := 3) hx hb hts (by decide +kernel) hown hK hP (6 + k) (qg_M hix) rfl 2 (by decide) (hts (.fieldLink RX3 19 "QueueMiddles$MarkRow" "spreads" "LQueueMiddles$Row;") (by decide +kernel)) (fun _ h9 => h9) rfl dX3_cutTo_17 ?_
  refine lv_iload_n hx hb dX3_cutTo_20 rfl (lv_at hl 1 rfl) ?_
  refine va_callv (va_runV (As := [.int p0]) (rest := []) ⟨hx, hb, hml, hown, hts⟩ (nX4_cutTo l D A ad cI cQ rest (qm_row (qm_row S k (rw_cut (S.1 k) p0)) (4 + k) (rw_cut ((qm_row S k (rw_cut (S.1 k) p0)).1 (4 + k)) p0)) (8 + k) (qb_8 hix) p0) (cwV 1 hts gX3_cutTo_X4_cutTo rfl rfl rfl (by decide +kernel) ⟨Nat.le_of_ble_eq_true rfl, Nat.le_of_ble_eq_true rfl⟩) ⟨qm_blind, va_recv hK hP (ci := 4) (q0 := (26 + (8 + k))) rfl (qg_R (qb_8 hix)), fun U hU hW => ⟨rfl, qm_go hA hS hP hK hD hU hW⟩⟩ rfl rfl hl.1 rfl (lv_room (Nat.le_of_ble_eq_true rfl)) dX3_cutTo_21 ⟨Nat.le_of_ble_eq_true rfl, Nat.le_of_ble_eq_true rfl⟩) hS (fun _ _ h9 => h9) (fun _ h9 => h9) (fun u t H1 locs1 ht hvm hw hB hz1 hk1 hS => ?_)
  have hw : qm_row (qm_row (qm_row S k (rw_cut (S.1 k) p0)) (4 + k) (rw_cut ((qm_row S k (rw_cut (S.1 k) p0)).1 (4 + k)) p0)) (8 + k) (rw_cut ((qm_row (qm_row S k (rw_cut (S.1 k) p0)) (4 + k) (rw_cut ((qm_row S k (rw_cut (S.1 k) p0)).1 (4 + k)) p0)).1 (8 + k)) p0) = u := hw.symm
  subst hw
  obtain ⟨hP, hD⟩ := qm_bk ht hB
  have h := Option.some.inj h
  subst h
  exact W.vret hx hb hr (fun t ht hW => ⟨⟨qm_row (qm_row (qm_row S k (rw_cut (S.1 k) p0)) (4 + k) (rw_cut ((qm_row S k (rw_cut (S.1 k) p0)).1 (4 + k)) p0)) (8 + k) (rw_cut ((qm_row (qm_row S k (rw_cut (S.1 k) p0)) (4 + k) (rw_cut ((qm_row S k (rw_cut (S.1 k) p0)).1 (4 + k)) p0)).1 (8 + k)) p0), rfl, rfl, qm_en ht hP hD⟩, hS.F ht⟩) hS.2.2 dX3_cutTo_24
theorem eX3_cutTo (S : qm_S) (k : Nat) (p0 : Int32) : fX3_cutTo S k p0 = some (mr_cut S k p0) := by
  unfold fX3_cutTo mr_cut
  rw [qm_row_ne _ _ (show 4 + k ≠ k by omega), qm_row_ne _ _ (show 8 + k ≠ 4 + k by omega), qm_row_ne _ _ (show 8 + k ≠ k by omega)]
theorem nX3_cutTo (l : Launch) (D : va_G) (A : Nat → Prop) (ad : Nat → Nat) (cI cQ : ClassId) (rest : va_W) (S : qm_S) (k : Nat) (hix : k < 4) (p0 : Int32) : Met l yX3_cutTo wsX3_cutTo ({ frames := 1, cells := 0, slots := 0, locals := 21 }) (va_Pc [.ref (ad (6 + k)), .int p0] (qm_B D A (qm_T cI cQ) (qm_W ad cI cQ rest S))) (qm_Qv D A (qm_W ad cI cQ rest) (mr_cut S k p0)) 0 0 A :=
  kX3_cutTo l D A ad cI cQ rest S k hix p0 _ (eX3_cutTo S k p0)
noncomputable def fX3_growTo (S : qm_S) (k : Nat) (p0 : Int32) : Option (qm_S) :=
  some (qm_row (qm_row (qm_row S k (rw_gro (S.1 k) p0)) (4 + k) (rw_gro ((qm_row S k (rw_gro (S.1 k) p0)).1 (4 + k)) p0)) (8 + k) (rw_gro ((qm_row (qm_row S k (rw_gro (S.1 k) p0)) (4 + k) (rw_gro ((qm_row S k (rw_gro (S.1 k) p0)).1 (4 + k)) p0)).1 (8 + k)) p0))
def mr_gro (S : qm_S) (k : Nat) (p : Int32) : qm_S := qm_row (qm_row (qm_row S k (rw_gro (S.1 k) p)) (4 + k) (rw_gro (S.1 (4 + k)) p)) (8 + k) (rw_gro (S.1 (8 + k)) p)
set_option maxHeartbeats 4000000 in
set_option maxRecDepth 100000 in
theorem kX3_growTo (l : Launch) (D : va_G) (A : Nat → Prop) (ad : Nat → Nat) (cI cQ : ClassId) (rest : va_W) (S : qm_S) (k : Nat) (hix : k < 4) (p0 : Int32) (z : qm_S) (h : fX3_growTo S k p0 = some z) : Met l yX3_growTo wsX3_growTo ({ frames := 1, cells := 0, slots := 0, locals := 21 }) (va_Pc [.ref (ad (6 + k)), .int p0] (qm_B D A (qm_T cI cQ) (qm_W ad cI cQ rest S))) (qm_Qv D A (qm_W ad cI cQ rest) z) 0 0 A := by
  refine Met.ofW (cc := cX3_growTo) (maxL := 2) (ret := none) (by decide) rfl ?_
  intro p e s m args below meth c s₁ B hml hv
  obtain ⟨rfl, hA, hP, hK, hD⟩ := hv
  have hx := B.exec
  have hb := B.bytes
  have hr := B.returns
  have hts := atoms_spec (ws := wsX3_growTo) B.pre
  have hown : s.vm.findClass RX3 = some m.cls := findClass_of_methodNamed B.named
  have hlocks := B.notSynchronized
  have hS : va_S A s.heap s.heap [] := va_S.rf
  have hl := lv_entry ([.ref (ad (6 + k)), .int p0]) (n := 2) (Nat.le_of_ble_eq_true rfl)
  rw [lg_entry_eq]
  generalize (lg_sl ([.ref (ad (6 + k)), .int p0]) ++ List.replicate (2 - (lg_sl ([.ref (ad (6 + k)), .int p0])).length) Slot.unset).toArray = ls at hl ⊢
  have hl : lv_has ls 2 [(0, .ref (ad (6 + k))), (1, .int p0)] := hl
  rw [fX3_growTo] at h
  refine lv_aload_n hx hb dX3_growTo_0 rfl (lv_at hl 0 rfl) ?_
  refine va_get (D := D) (ci := 3) (v := .ref (ad (26 + k))) (C := RX3) (T := TX3) (N := 3) hx hb hts (by decide +kernel) hown hK hP (6 + k) (qg_M hix) rfl 0 (by decide) (hts (.fieldLink RX3 10 "QueueMiddles$MarkRow" "values" "LQueueMiddles$Row;") (by decide +kernel)) (fun _ h9 => h9) rfl dX3_growTo_1 ?_
  refine lv_iload_n hx hb dX3_growTo_4 rfl (lv_at hl 1 rfl) ?_
  refine va_callv (va_runV (As := [.int p0]) (rest := []) ⟨hx, hb, hml, hown, hts⟩ (nX4_growTo l D A ad cI cQ rest S k (qb_0 hix) p0) (cwV 1 hts gX3_growTo_X4_growTo rfl rfl rfl (by decide +kernel) ⟨Nat.le_of_ble_eq_true rfl, Nat.le_of_ble_eq_true rfl⟩) ⟨qm_blind, va_recv hK hP (ci := 4) (q0 := (26 + k)) rfl (qg_R (qb_0 hix)), fun U hU hW => ⟨rfl, qm_go hA hS hP hK hD hU hW⟩⟩ rfl rfl hl.1 rfl (lv_room (Nat.le_of_ble_eq_true rfl)) dX3_growTo_5 ⟨Nat.le_of_ble_eq_true rfl, Nat.le_of_ble_eq_true rfl⟩) hS (fun _ _ h9 => h9) (fun _ h9 => h9) (fun u t H1 locs1 ht hvm hw hB hz1 hk1 hS => ?_)
  have hw : qm_row S k (rw_gro (S.1 k) p0) = u := hw.symm
  subst hw
  obtain ⟨hP, hD⟩ := qm_bk ht hB
  refine lv_aload_n hx hb dX3_growTo_8 rfl (lv_at hl 0 rfl) ?_
  refine va_get (D := D) (ci := 3) (v := .ref (ad (26 + (4 + k)))) (C := RX3) (T := TX3) (N := 3) hx hb hts (by decide +kernel) hown hK hP (6 + k) (qg_M hix) rfl 1 (by decide) (hts (.fieldLink RX3 16 "QueueMiddles$MarkRow" "gaps" "LQueueMiddles$Row;") (by decide +kernel)) (fun _ h9 => h9) rfl dX3_growTo_9 ?_
  refine lv_iload_n hx hb dX3_growTo_12 rfl (lv_at hl 1 rfl) ?_
  refine va_callv (va_runV (As := [.int p0]) (rest := []) ⟨hx, hb, hml, hown, hts⟩ (nX4_growTo l D A ad cI cQ rest (qm_row S k (rw_gro (S.1 k) p0)) (4 + k) (qb_4 hix) p0) (cwV 1 hts gX3_growTo_X4_growTo rfl rfl rfl (by decide +kernel) ⟨Nat.le_of_ble_eq_true rfl, Nat.le_of_ble_eq_true rfl⟩) ⟨qm_blind, va_recv hK hP (ci := 4) (q0 := (26 + (4 + k))) rfl (qg_R (qb_4 hix)), fun U hU hW => ⟨rfl, qm_go hA hS hP hK hD hU hW⟩⟩ rfl rfl hl.1 rfl (lv_room (Nat.le_of_ble_eq_true rfl)) dX3_growTo_13 ⟨Nat.le_of_ble_eq_true rfl, Nat.le_of_ble_eq_true rfl⟩) hS (fun _ _ h9 => h9) (fun _ h9 => h9) (fun u t H1 locs1 ht hvm hw hB hz1 hk1 hS => ?_)
  have hw : qm_row (qm_row S k (rw_gro (S.1 k) p0)) (4 + k) (rw_gro ((qm_row S k (rw_gro (S.1 k) p0)).1 (4 + k)) p0) = u := hw.symm
  subst hw
  obtain ⟨hP, hD⟩ := qm_bk ht hB
  refine lv_aload_n hx hb dX3_growTo_16 rfl (lv_at hl 0 rfl) ?_
  refine va_get (D := D) (ci := 3) (v := .ref (ad (26 + (8 + k)))) (C := RX3) (T := TX3) (N := 3) hx hb hts (by decide +kernel) hown hK hP (6 + k) (qg_M hix) rfl 2 (by decide) (hts (.fieldLink RX3 19 "QueueMiddles$MarkRow" "spreads" "LQueueMiddles$Row;") (by decide +kernel)) (fun _ h9 => h9) rfl dX3_growTo_17 ?_
  refine lv_iload_n hx hb dX3_growTo_20 rfl (lv_at hl 1 rfl) ?_
  refine va_callv (va_runV (As := [.int p0]) (rest := []) ⟨hx, hb, hml, hown, hts⟩ (nX4_growTo l D A ad cI cQ rest (qm_row (qm_row S k (rw_gro (S.1 k) p0)) (4 + k) (rw_gro ((qm_row S k (rw_gro (S.1 k) p0)).1 (4 + k)) p0)) (8 + k) (qb_8 hix) p0) (cwV 1 hts gX3_growTo_X4_growTo rfl rfl rfl (by decide +kernel) ⟨Nat.le_of_ble_eq_true rfl, Nat.le_of_ble_eq_true rfl⟩) ⟨qm_blind, va_recv hK hP (ci := 4) (q0 := (26 + (8 + k))) rfl (qg_R (qb_8 hix)), fun U hU hW => ⟨rfl, qm_go hA hS hP hK hD hU hW⟩⟩ rfl rfl hl.1 rfl (lv_room (Nat.le_of_ble_eq_true rfl)) dX3_growTo_21 ⟨Nat.le_of_ble_eq_true rfl, Nat.le_of_ble_eq_true rfl⟩) hS (fun _ _ h9 => h9) (fun _ h9 => h9) (fun u t H1 locs1 ht hvm hw hB hz1 hk1 hS => ?_)
  have hw : qm_row (qm_row (qm_row S k (rw_gro (S.1 k) p0)) (4 + k) (rw_gro ((qm_row S k (rw_gro (S.1 k) p0)).1 (4 + k)) p0)) (8 + k) (rw_gro ((qm_row (qm_row S k (rw_gro (S.1 k) p0)) (4 + k) (rw_gro ((qm_row S k (rw_gro (S.1 k) p0)).1 (4 + k)) p0)).1 (8 + k)) p0) = u := hw.symm
  subst hw
  obtain ⟨hP, hD⟩ := qm_bk ht hB
  have h := Option.some.inj h
  subst h
  exact W.vret hx hb hr (fun t ht hW => ⟨⟨qm_row (qm_row (qm_row S k (rw_gro (S.1 k) p0)) (4 + k) (rw_gro ((qm_row S k (rw_gro (S.1 k) p0)).1 (4 + k)) p0)) (8 + k) (rw_gro ((qm_row (qm_row S k (rw_gro (S.1 k) p0)) (4 + k) (rw_gro ((qm_row S k (rw_gro (S.1 k) p0)).1 (4 + k)) p0)).1 (8 + k)) p0), rfl, rfl, qm_en ht hP hD⟩, hS.F ht⟩) hS.2.2 dX3_growTo_24
theorem eX3_growTo (S : qm_S) (k : Nat) (p0 : Int32) : fX3_growTo S k p0 = some (mr_gro S k p0) := by
  unfold fX3_growTo mr_gro
  rw [qm_row_ne _ _ (show 4 + k ≠ k by omega), qm_row_ne _ _ (show 8 + k ≠ 4 + k by omega), qm_row_ne _ _ (show 8 + k ≠ k by omega)]
theorem nX3_growTo (l : Launch) (D : va_G) (A : Nat → Prop) (ad : Nat → Nat) (cI cQ : ClassId) (rest : va_W) (S : qm_S) (k : Nat) (hix : k < 4) (p0 : Int32) : Met l yX3_growTo wsX3_growTo ({ frames := 1, cells := 0, slots := 0, locals := 21 }) (va_Pc [.ref (ad (6 + k)), .int p0] (qm_B D A (qm_T cI cQ) (qm_W ad cI cQ rest S))) (qm_Qv D A (qm_W ad cI cQ rest) (mr_gro S k p0)) 0 0 A :=
  kX3_growTo l D A ad cI cQ rest S k hix p0 _ (eX3_growTo S k p0)
noncomputable def fX3_clear (S : qm_S) (k : Nat) : Option (qm_S) :=
  some (mr_cut S k (0 : Int32))
set_option maxHeartbeats 4000000 in
set_option maxRecDepth 100000 in
theorem kX3_clear (l : Launch) (D : va_G) (A : Nat → Prop) (ad : Nat → Nat) (cI cQ : ClassId) (rest : va_W) (S : qm_S) (k : Nat) (hix : k < 4) (z : qm_S) (h : fX3_clear S k = some z) : Met l yX3_clear wsX3_clear ({ frames := 2, cells := 0, slots := 0, locals := 42 }) (va_Pc [.ref (ad (6 + k))] (qm_B D A (qm_T cI cQ) (qm_W ad cI cQ rest S))) (qm_Qv D A (qm_W ad cI cQ rest) z) 0 0 A := by
  refine Met.ofW (cc := cX3_clear) (maxL := 1) (ret := none) (by decide) rfl ?_
  intro p e s m args below meth c s₁ B hml hv
  obtain ⟨rfl, hA, hP, hK, hD⟩ := hv
  have hx := B.exec
  have hb := B.bytes
  have hr := B.returns
  have hts := atoms_spec (ws := wsX3_clear) B.pre
  have hown : s.vm.findClass RX3 = some m.cls := findClass_of_methodNamed B.named
  have hlocks := B.notSynchronized
  have hS : va_S A s.heap s.heap [] := va_S.rf
  have hl := lv_entry ([.ref (ad (6 + k))]) (n := 1) (Nat.le_of_ble_eq_true rfl)
  rw [lg_entry_eq]
  generalize (lg_sl ([.ref (ad (6 + k))]) ++ List.replicate (1 - (lg_sl ([.ref (ad (6 + k))])).length) Slot.unset).toArray = ls at hl ⊢
  have hl : lv_has ls 1 [(0, .ref (ad (6 + k)))] := hl
  rw [fX3_clear] at h
  refine lv_aload_n hx hb dX3_clear_0 rfl (lv_at hl 0 rfl) ?_
  refine lv_iconst (v := (0 : Int32)) hx hb dX3_clear_1 (by decide) ?_
  refine va_callv (va_runV (As := [.int (0 : Int32)]) (rest := []) ⟨hx, hb, hml, hown, hts⟩ (nX3_cutTo l D A ad cI cQ rest S k hix (0 : Int32)) (cwV 1 hts gX3_clear_X3_cutTo rfl rfl rfl (by decide +kernel) ⟨Nat.le_of_ble_eq_true rfl, Nat.le_of_ble_eq_true rfl⟩) ⟨qm_blind, va_recv hK hP (ci := 3) (q0 := (6 + k)) rfl (qg_M hix), fun U hU hW => ⟨rfl, qm_go hA hS hP hK hD hU hW⟩⟩ rfl rfl hl.1 rfl (lv_room (Nat.le_of_ble_eq_true rfl)) dX3_clear_2 ⟨Nat.le_of_ble_eq_true rfl, Nat.le_of_ble_eq_true rfl⟩) hS (fun _ _ h9 => h9) (fun _ h9 => h9) (fun u t H1 locs1 ht hvm hw hB hz1 hk1 hS => ?_)
  have hw : mr_cut S k (0 : Int32) = u := hw.symm
  subst hw
  obtain ⟨hP, hD⟩ := qm_bk ht hB
  have h := Option.some.inj h
  subst h
  exact W.vret hx hb hr (fun t ht hW => ⟨⟨mr_cut S k (0 : Int32), rfl, rfl, qm_en ht hP hD⟩, hS.F ht⟩) hS.2.2 dX3_clear_5
theorem eX3_clear (S : qm_S) (k : Nat) : fX3_clear S k = some (mr_cut S k (0 : Int32)) := by
  rfl
theorem nX3_clear (l : Launch) (D : va_G) (A : Nat → Prop) (ad : Nat → Nat) (cI cQ : ClassId) (rest : va_W) (S : qm_S) (k : Nat) (hix : k < 4) : Met l yX3_clear wsX3_clear ({ frames := 2, cells := 0, slots := 0, locals := 42 }) (va_Pc [.ref (ad (6 + k))] (qm_B D A (qm_T cI cQ) (qm_W ad cI cQ rest S))) (qm_Qv D A (qm_W ad cI cQ rest) (mr_cut S k (0 : Int32))) 0 0 A :=
  kX3_clear l D A ad cI cQ rest S k hix _ (eX3_clear S k)
noncomputable def fX3_valueOf (S : qm_S) (k : Nat) (p0 : Int32) : Option (Int32) :=
  some (rw_at (S.1 k) p0)
set_option maxHeartbeats 4000000 in
set_option maxRecDepth 100000 in
theorem kX3_valueOf (l : Launch) (D : va_G) (A : Nat → Prop) (ad : Nat → Nat) (cI cQ : ClassId) (rest : va_W) (S : qm_S) (k : Nat) (hix : k < 4) (p0 : Int32) (z : Int32) (h : fX3_valueOf S k p0 = some z) : Met l yX3_valueOf wsX3_valueOf ({ frames := 2, cells := 0, slots := 0, locals := 42 }) (va_Pc [.ref (ad (6 + k)), .int p0] (qm_B D A (qm_T cI cQ) (qm_W ad cI cQ rest S))) (qm_Qi D A (qm_W ad cI cQ rest) (z, S)) 0 0 A := by
  refine Met.ofW (cc := cX3_valueOf) (maxL := 2) (ret := (some .int)) (by decide) rfl ?_
  intro p e s m args below meth c s₁ B hml hv
  obtain ⟨rfl, hA, hP, hK, hD⟩ := hv
  have hx := B.exec
  have hb := B.bytes
  have hr := B.returns
  have hts := atoms_spec (ws := wsX3_valueOf) B.pre
  have hown : s.vm.findClass RX3 = some m.cls := findClass_of_methodNamed B.named
  have hlocks := B.notSynchronized
  have hS : va_S A s.heap s.heap [] := va_S.rf
  have hl := lv_entry ([.ref (ad (6 + k)), .int p0]) (n := 2) (Nat.le_of_ble_eq_true rfl)
  rw [lg_entry_eq]
  generalize (lg_sl ([.ref (ad (6 + k)), .int p0]) ++ List.replicate (2 - (lg_sl ([.ref (ad (6 + k)), .int p0])).length) Slot.unset).toArray = ls at hl ⊢
  have hl : lv_has ls 2 [(0, .ref (ad (6 + k))), (1, .int p0)] := hl
  rw [fX3_valueOf] at h
  refine lv_aload_n hx hb dX3_valueOf_0 rfl (lv_at hl 0 rfl) ?_
  refine va_get (D := D) (ci := 3) (v := .ref (ad (26 + k))) (C := RX3) (T := TX3) (N := 3) hx hb hts (by decide +kernel) hown hK hP (6 + k) (qg_M hix) rfl 0 (by decide) (hts (.fieldLink RX3 10 "QueueMiddles$MarkRow" "values" "LQueueMiddles$Row;") (by decide +kernel)) (fun _ h9 => h9) rfl dX3_valueOf_1 ?_
  refine lv_iload_n hx hb dX3_valueOf_4 rfl (lv_at hl 1 rfl) ?_
  refine va_calli (va_runV (As := [.int p0]) (rest := []) ⟨hx, hb, hml, hown, hts⟩ (nX4_at l D A ad cI cQ rest S k (qb_0 hix) p0) (cwV 1 hts gX3_valueOf_X4_at rfl rfl rfl (by decide +kernel) ⟨Nat.le_of_ble_eq_true rfl, Nat.le_of_ble_eq_true rfl⟩) ⟨qm_blind, va_recv hK hP (ci := 4) (q0 := (26 + k)) rfl (qg_R (qb_0 hix)), fun U hU hW => ⟨rfl, qm_go hA hS hP hK hD hU hW⟩⟩ rfl rfl hl.1 rfl (lv_room (Nat.le_of_ble_eq_true rfl)) dX3_valueOf_5 ⟨Nat.le_of_ble_eq_true rfl, Nat.le_of_ble_eq_true rfl⟩) hS (fun _ _ h9 => h9) (fun _ h9 => h9) (fun v u t H1 locs1 ht hvm hw hB hz1 hk1 hS => ?_)
  obtain ⟨hw1, hw2⟩ := hw
  have hw1 : rw_at (S.1 k) p0 = v := hw1.symm
  have hw2 : S = u := hw2.symm
  subst hw1
  subst hw2
  obtain ⟨hP, hD⟩ := qm_bk ht hB
  have h := Option.some.inj h
  subst h
  exact W.iret (v := rw_at (S.1 k) p0) hx hb hr (fun t ht hW => ⟨⟨rw_at (S.1 k) p0, S, rfl, ⟨rfl, rfl⟩, qm_en ht hP hD⟩, hS.F ht⟩) hS.2.2 dX3_valueOf_8
theorem eX3_valueOf (S : qm_S) (k : Nat) (p0 : Int32) : fX3_valueOf S k p0 = some (rw_at (S.1 k) p0) := by
  rfl
theorem nX3_valueOf (l : Launch) (D : va_G) (A : Nat → Prop) (ad : Nat → Nat) (cI cQ : ClassId) (rest : va_W) (S : qm_S) (k : Nat) (hix : k < 4) (p0 : Int32) : Met l yX3_valueOf wsX3_valueOf ({ frames := 2, cells := 0, slots := 0, locals := 42 }) (va_Pc [.ref (ad (6 + k)), .int p0] (qm_B D A (qm_T cI cQ) (qm_W ad cI cQ rest S))) (qm_Qi D A (qm_W ad cI cQ rest) ((rw_at (S.1 k) p0), S)) 0 0 A :=
  kX3_valueOf l D A ad cI cQ rest S k hix p0 _ (eX3_valueOf S k p0)
noncomputable def fX3_rankFrom (S : qm_S) (k : Nat) (p0 : Int32) : Option (Int32) :=
  Option.bind (fX4_sumOfFirst S (4 + k) (p0 + (1 : Int32))) (fun z_1 => some z_1)
set_option maxHeartbeats 4000000 in
set_option maxRecDepth 100000 in
theorem kX3_rankFrom (l : Launch) (D : va_G) (A : Nat → Prop) (ad : Nat → Nat) (cI cQ : ClassId) (rest : va_W) (S : qm_S) (k : Nat) (hix : k < 4) (p0 : Int32) (z : Int32) (h : fX3_rankFrom S k p0 = some z) : Met l yX3_rankFrom wsX3_rankFrom ({ frames := 3, cells := 0, slots := 0, locals := 65 }) (va_Pc [.ref (ad (6 + k)), .int p0] (qm_B D A (qm_T cI cQ) (qm_W ad cI cQ rest S))) (qm_Qi D A (qm_W ad cI cQ rest) (z, S)) 0 0 A := by
  refine Met.ofW (cc := cX3_rankFrom) (maxL := 2) (ret := (some .int)) (by decide) rfl ?_
  intro p e s m args below meth c s₁ B hml hv
  obtain ⟨rfl, hA, hP, hK, hD⟩ := hv
  have hx := B.exec
  have hb := B.bytes
  have hr := B.returns
  have hts := atoms_spec (ws := wsX3_rankFrom) B.pre
  have hown : s.vm.findClass RX3 = some m.cls := findClass_of_methodNamed B.named
  have hlocks := B.notSynchronized
  have hS : va_S A s.heap s.heap [] := va_S.rf
  have hl := lv_entry ([.ref (ad (6 + k)), .int p0]) (n := 2) (Nat.le_of_ble_eq_true rfl)
  rw [lg_entry_eq]
  generalize (lg_sl ([.ref (ad (6 + k)), .int p0]) ++ List.replicate (2 - (lg_sl ([.ref (ad (6 + k)), .int p0])).length) Slot.unset).toArray = ls at hl ⊢
  have hl : lv_has ls 2 [(0, .ref (ad (6 + k))), (1, .int p0)] := hl
  rw [fX3_rankFrom] at h
  refine lv_aload_n hx hb dX3_rankFrom_0 rfl (lv_at hl 0 rfl) ?_
  refine va_get (D := D) (ci := 3) (v := .ref (ad (26 + (4 + k)))) (C := RX3) (T := TX3) (N := 3) hx hb hts (by decide +kernel) hown hK hP (6 + k) (qg_M hix) rfl 1 (by decide) (hts (.fieldLink RX3 16 "QueueMiddles$MarkRow" "gaps" "LQueueMiddles$Row;") (by decide +kernel)) (fun _ h9 => h9) rfl dX3_rankFrom_1 ?_
  refine lv_iload_n hx hb dX3_rankFrom_4 rfl (lv_at hl 1 rfl) ?_
  refine lv_iconst (v := (1 : Int32)) hx hb dX3_rankFrom_5 (by decide) ?_
  refine lv_iadd hx hb dX3_rankFrom_6 ?_
  obtain ⟨z_1, hz_2, h⟩ := qm_bind h
  refine va_calli (va_runV (As := [.int (p0 + (1 : Int32))]) (rest := []) ⟨hx, hb, hml, hown, hts⟩ (kX4_sumOfFirst l D A ad cI cQ rest S (4 + k) (qb_4 hix) (p0 + (1 : Int32)) z_1 hz_2) (cwV 1 hts gX3_rankFrom_X4_sumOfFirst rfl rfl rfl (by decide +kernel) ⟨Nat.le_of_ble_eq_true rfl, Nat.le_of_ble_eq_true rfl⟩) ⟨qm_blind, va_recv hK hP (ci := 4) (q0 := (26 + (4 + k))) rfl (qg_R (qb_4 hix)), fun U hU hW => ⟨rfl, qm_go hA hS hP hK hD hU hW⟩⟩ rfl rfl hl.1 rfl (lv_room (Nat.le_of_ble_eq_true rfl)) dX3_rankFrom_7 ⟨Nat.le_of_ble_eq_true rfl, Nat.le_of_ble_eq_true rfl⟩) hS (fun _ _ h9 => h9) (fun _ h9 => h9) (fun v u t H1 locs1 ht hvm hw hB hz1 hk1 hS => ?_)
  obtain ⟨hw1, hw2⟩ := hw
  have hw1 : z_1 = v := hw1.symm
  have hw2 : S = u := hw2.symm
  subst hw1
  subst hw2
  obtain ⟨hP, hD⟩ := qm_bk ht hB
  have h := Option.some.inj h
  subst h
  exact W.iret (v := z_1) hx hb hr (fun t ht hW => ⟨⟨z_1, S, rfl, ⟨rfl, rfl⟩, qm_en ht hP hD⟩, hS.F ht⟩) hS.2.2 dX3_rankFrom_10
noncomputable def fX3_rankTo (S : qm_S) (k : Nat) (p0 : Int32) : Option (Int32) :=
  Option.bind (fX3_rankFrom S k p0) (fun z_1 => some (z_1 + (rw_at (S.1 (8 + k)) p0)))
set_option maxHeartbeats 4000000 in
set_option maxRecDepth 100000 in
theorem kX3_rankTo (l : Launch) (D : va_G) (A : Nat → Prop) (ad : Nat → Nat) (cI cQ : ClassId) (rest : va_W) (S : qm_S) (k : Nat) (hix : k < 4) (p0 : Int32) (z : Int32) (h : fX3_rankTo S k p0 = some z) : Met l yX3_rankTo wsX3_rankTo ({ frames := 4, cells := 0, slots := 0, locals := 86 }) (va_Pc [.ref (ad (6 + k)), .int p0] (qm_B D A (qm_T cI cQ) (qm_W ad cI cQ rest S))) (qm_Qi D A (qm_W ad cI cQ rest) (z, S)) 0 0 A := by
  refine Met.ofW (cc := cX3_rankTo) (maxL := 2) (ret := (some .int)) (by decide) rfl ?_
  intro p e s m args below meth c s₁ B hml hv
  obtain ⟨rfl, hA, hP, hK, hD⟩ := hv
  have hx := B.exec
  have hb := B.bytes
  have hr := B.returns
  have hts := atoms_spec (ws := wsX3_rankTo) B.pre
  have hown : s.vm.findClass RX3 = some m.cls := findClass_of_methodNamed B.named
  have hlocks := B.notSynchronized
  have hS : va_S A s.heap s.heap [] := va_S.rf
  have hl := lv_entry ([.ref (ad (6 + k)), .int p0]) (n := 2) (Nat.le_of_ble_eq_true rfl)
  rw [lg_entry_eq]
  generalize (lg_sl ([.ref (ad (6 + k)), .int p0]) ++ List.replicate (2 - (lg_sl ([.ref (ad (6 + k)), .int p0])).length) Slot.unset).toArray = ls at hl ⊢
  have hl : lv_has ls 2 [(0, .ref (ad (6 + k))), (1, .int p0)] := hl
  rw [fX3_rankTo] at h
  refine lv_aload_n hx hb dX3_rankTo_0 rfl (lv_at hl 0 rfl) ?_
  refine lv_iload_n hx hb dX3_rankTo_1 rfl (lv_at hl 1 rfl) ?_
  obtain ⟨z_1, hz_2, h⟩ := qm_bind h
  refine va_calli (va_runV (As := [.int p0]) (rest := []) ⟨hx, hb, hml, hown, hts⟩ (kX3_rankFrom l D A ad cI cQ rest S k hix p0 z_1 hz_2) (cwV 1 hts gX3_rankTo_X3_rankFrom rfl rfl rfl (by decide +kernel) ⟨Nat.le_of_ble_eq_true rfl, Nat.le_of_ble_eq_true rfl⟩) ⟨qm_blind, va_recv hK hP (ci := 3) (q0 := (6 + k)) rfl (qg_M hix), fun U hU hW => ⟨rfl, qm_go hA hS hP hK hD hU hW⟩⟩ rfl rfl hl.1 rfl (lv_room (Nat.le_of_ble_eq_true rfl)) dX3_rankTo_2 ⟨Nat.le_of_ble_eq_true rfl, Nat.le_of_ble_eq_true rfl⟩) hS (fun _ _ h9 => h9) (fun _ h9 => h9) (fun v u t H1 locs1 ht hvm hw hB hz1 hk1 hS => ?_)
  obtain ⟨hw1, hw2⟩ := hw
  have hw1 : z_1 = v := hw1.symm
  have hw2 : S = u := hw2.symm
  subst hw1
  subst hw2
  obtain ⟨hP, hD⟩ := qm_bk ht hB
  refine lv_aload_n hx hb dX3_rankTo_5 rfl (lv_at hl 0 rfl) ?_
  refine va_get (D := D) (ci := 3) (v := .ref (ad (26 + (8 + k)))) (C := RX3) (T := TX3) (N := 3) hx hb hts (by decide +kernel) hown hK hP (6 + k) (qg_M hix) rfl 2 (by decide) (hts (.fieldLink RX3 19 "QueueMiddles$MarkRow" "spreads" "LQueueMiddles$Row;") (by decide +kernel)) (fun _ h9 => h9) rfl dX3_rankTo_6 ?_
  refine lv_iload_n hx hb dX3_rankTo_9 rfl (lv_at hl 1 rfl) ?_
  refine va_calli (va_runV (As := [.int p0]) (rest := [.int z_1]) ⟨hx, hb, hml, hown, hts⟩ (nX4_at l D A ad cI cQ rest S (8 + k) (qb_8 hix) p0) (cwV 1 hts gX3_rankTo_X4_at rfl rfl rfl (by decide +kernel) ⟨Nat.le_of_ble_eq_true rfl, Nat.le_of_ble_eq_true rfl⟩) ⟨qm_blind, va_recv hK hP (ci := 4) (q0 := (26 + (8 + k))) rfl (qg_R (qb_8 hix)), fun U hU hW => ⟨rfl, qm_go hA hS hP hK hD hU hW⟩⟩ rfl rfl hl.1 rfl (lv_room (Nat.le_of_ble_eq_true rfl)) dX3_rankTo_10 ⟨Nat.le_of_ble_eq_true rfl, Nat.le_of_ble_eq_true rfl⟩) hS (fun _ _ h9 => h9) (fun _ h9 => h9) (fun v u t H1 locs1 ht hvm hw hB hz1 hk1 hS => ?_)
  obtain ⟨hw1, hw2⟩ := hw
  have hw1 : rw_at (S.1 (8 + k)) p0 = v := hw1.symm
  have hw2 : S = u := hw2.symm
  subst hw1
  subst hw2
  obtain ⟨hP, hD⟩ := qm_bk ht hB
  refine lv_iadd hx hb dX3_rankTo_13 ?_
  have h := Option.some.inj h
  subst h
  exact W.iret (v := z_1 + (rw_at (S.1 (8 + k)) p0)) hx hb hr (fun t ht hW => ⟨⟨z_1 + (rw_at (S.1 (8 + k)) p0), S, rfl, ⟨rfl, rfl⟩, qm_en ht hP hD⟩, hS.F ht⟩) hS.2.2 dX3_rankTo_14
noncomputable def fX3_widthOf (S : qm_S) (k : Nat) (p0 : Int32) : Option (Int32) :=
  some ((rw_at (S.1 (4 + k)) p0) + (rw_at (S.1 (8 + k)) p0))
set_option maxHeartbeats 4000000 in
set_option maxRecDepth 100000 in
theorem kX3_widthOf (l : Launch) (D : va_G) (A : Nat → Prop) (ad : Nat → Nat) (cI cQ : ClassId) (rest : va_W) (S : qm_S) (k : Nat) (hix : k < 4) (p0 : Int32) (z : Int32) (h : fX3_widthOf S k p0 = some z) : Met l yX3_widthOf wsX3_widthOf ({ frames := 2, cells := 0, slots := 0, locals := 42 }) (va_Pc [.ref (ad (6 + k)), .int p0] (qm_B D A (qm_T cI cQ) (qm_W ad cI cQ rest S))) (qm_Qi D A (qm_W ad cI cQ rest) (z, S)) 0 0 A := by
  refine Met.ofW (cc := cX3_widthOf) (maxL := 2) (ret := (some .int)) (by decide) rfl ?_
  intro p e s m args below meth c s₁ B hml hv
  obtain ⟨rfl, hA, hP, hK, hD⟩ := hv
  have hx := B.exec
  have hb := B.bytes
  have hr := B.returns
  have hts := atoms_spec (ws := wsX3_widthOf) B.pre
  have hown : s.vm.findClass RX3 = some m.cls := findClass_of_methodNamed B.named
  have hlocks := B.notSynchronized
  have hS : va_S A s.heap s.heap [] := va_S.rf
  have hl := lv_entry ([.ref (ad (6 + k)), .int p0]) (n := 2) (Nat.le_of_ble_eq_true rfl)
  rw [lg_entry_eq]
  generalize (lg_sl ([.ref (ad (6 + k)), .int p0]) ++ List.replicate (2 - (lg_sl ([.ref (ad (6 + k)), .int p0])).length) Slot.unset).toArray = ls at hl ⊢
  have hl : lv_has ls 2 [(0, .ref (ad (6 + k))), (1, .int p0)] := hl
  rw [fX3_widthOf] at h
  refine lv_aload_n hx hb dX3_widthOf_0 rfl (lv_at hl 0 rfl) ?_
  refine va_get (D := D) (ci := 3) (v := .ref (ad (26 + (4 + k)))) (C := RX3) (T := TX3) (N := 3) hx hb hts (by decide +kernel) hown hK hP (6 + k) (qg_M hix) rfl 1 (by decide) (hts (.fieldLink RX3 16 "QueueMiddles$MarkRow" "gaps" "LQueueMiddles$Row;") (by decide +kernel)) (fun _ h9 => h9) rfl dX3_widthOf_1 ?_
  refine lv_iload_n hx hb dX3_widthOf_4 rfl (lv_at hl 1 rfl) ?_
  refine va_calli (va_runV (As := [.int p0]) (rest := []) ⟨hx, hb, hml, hown, hts⟩ (nX4_at l D A ad cI cQ rest S (4 + k) (qb_4 hix) p0) (cwV 1 hts gX3_widthOf_X4_at rfl rfl rfl (by decide +kernel) ⟨Nat.le_of_ble_eq_true rfl, Nat.le_of_ble_eq_true rfl⟩) ⟨qm_blind, va_recv hK hP (ci := 4) (q0 := (26 + (4 + k))) rfl (qg_R (qb_4 hix)), fun U hU hW => ⟨rfl, qm_go hA hS hP hK hD hU hW⟩⟩ rfl rfl hl.1 rfl (lv_room (Nat.le_of_ble_eq_true rfl)) dX3_widthOf_5 ⟨Nat.le_of_ble_eq_true rfl, Nat.le_of_ble_eq_true rfl⟩) hS (fun _ _ h9 => h9) (fun _ h9 => h9) (fun v u t H1 locs1 ht hvm hw hB hz1 hk1 hS => ?_)
  obtain ⟨hw1, hw2⟩ := hw
  have hw1 : rw_at (S.1 (4 + k)) p0 = v := hw1.symm
  have hw2 : S = u := hw2.symm
  subst hw1
  subst hw2
  obtain ⟨hP, hD⟩ := qm_bk ht hB
  refine lv_aload_n hx hb dX3_widthOf_8 rfl (lv_at hl 0 rfl) ?_
  refine va_get (D := D) (ci := 3) (v := .ref (ad (26 + (8 + k)))) (C := RX3) (T := TX3) (N := 3) hx hb hts (by decide +kernel) hown hK hP (6 + k) (qg_M hix) rfl 2 (by decide) (hts (.fieldLink RX3 19 "QueueMiddles$MarkRow" "spreads" "LQueueMiddles$Row;") (by decide +kernel)) (fun _ h9 => h9) rfl dX3_widthOf_9 ?_
  refine lv_iload_n hx hb dX3_widthOf_12 rfl (lv_at hl 1 rfl) ?_
  refine va_calli (va_runV (As := [.int p0]) (rest := [.int (rw_at (S.1 (4 + k)) p0)]) ⟨hx, hb, hml, hown, hts⟩ (nX4_at l D A ad cI cQ rest S (8 + k) (qb_8 hix) p0) (cwV 1 hts gX3_widthOf_X4_at rfl rfl rfl (by decide +kernel) ⟨Nat.le_of_ble_eq_true rfl, Nat.le_of_ble_eq_true rfl⟩) ⟨qm_blind, va_recv hK hP (ci := 4) (q0 := (26 + (8 + k))) rfl (qg_R (qb_8 hix)), fun U hU hW => ⟨rfl, qm_go hA hS hP hK hD hU hW⟩⟩ rfl rfl hl.1 rfl (lv_room (Nat.le_of_ble_eq_true rfl)) dX3_widthOf_13 ⟨Nat.le_of_ble_eq_true rfl, Nat.le_of_ble_eq_true rfl⟩) hS (fun _ _ h9 => h9) (fun _ h9 => h9) (fun v u t H1 locs1 ht hvm hw hB hz1 hk1 hS => ?_)
  obtain ⟨hw1, hw2⟩ := hw
  have hw1 : rw_at (S.1 (8 + k)) p0 = v := hw1.symm
  have hw2 : S = u := hw2.symm
  subst hw1
  subst hw2
  obtain ⟨hP, hD⟩ := qm_bk ht hB
  refine lv_iadd hx hb dX3_widthOf_16 ?_
  have h := Option.some.inj h
  subst h
  exact W.iret (v := (rw_at (S.1 (4 + k)) p0) + (rw_at (S.1 (8 + k)) p0)) hx hb hr (fun t ht hW => ⟨⟨(rw_at (S.1 (4 + k)) p0) + (rw_at (S.1 (8 + k)) p0), S, rfl, ⟨rfl, rfl⟩, qm_en ht hP hD⟩, hS.F ht⟩) hS.2.2 dX3_widthOf_17
theorem eX3_widthOf (S : qm_S) (k : Nat) (p0 : Int32) : fX3_widthOf S k p0 = some ((rw_at (S.1 (4 + k)) p0) + (rw_at (S.1 (8 + k)) p0)) := by
  rfl
theorem nX3_widthOf (l : Launch) (D : va_G) (A : Nat → Prop) (ad : Nat → Nat) (cI cQ : ClassId) (rest : va_W) (S : qm_S) (k : Nat) (hix : k < 4) (p0 : Int32) : Met l yX3_widthOf wsX3_widthOf ({ frames := 2, cells := 0, slots := 0, locals := 42 }) (va_Pc [.ref (ad (6 + k)), .int p0] (qm_B D A (qm_T cI cQ) (qm_W ad cI cQ rest S))) (qm_Qi D A (qm_W ad cI cQ rest) (((rw_at (S.1 (4 + k)) p0) + (rw_at (S.1 (8 + k)) p0)), S)) 0 0 A :=
  kX3_widthOf l D A ad cI cQ rest S k hix p0 _ (eX3_widthOf S k p0)
noncomputable def fX3_greatestWidth_L4 (n0 : Nat) : Nat → Int32 → Int32 → qm_S → Option (Int32)
  | 0, _, _, _ => none
  | fuel + 1, v1, v2, S =>
    (if ((S.1 n0).1) ≤ v2 then some v1 else fX3_greatestWidth_L4 n0 fuel (if v1 < ((rw_at (S.1 (4 + n0)) v2) + (rw_at (S.1 (8 + n0)) v2)) then ((rw_at (S.1 (4 + n0)) v2) + (rw_at (S.1 (8 + n0)) v2)) else v1) (v2 + (1 : Int32)) S)
noncomputable def fX3_greatestWidth (S : qm_S) (k : Nat) : Option (Int32) :=
  Option.bind (fX3_greatestWidth_L4 k qm_F (0 : Int32) (0 : Int32) S) (fun z_4 => some z_4)
set_option maxHeartbeats 4000000 in
set_option maxRecDepth 100000 in
theorem kX3_greatestWidth (l : Launch) (D : va_G) (A : Nat → Prop) (ad : Nat → Nat) (cI cQ : ClassId) (rest : va_W) (S : qm_S) (k : Nat) (hix : k < 4) (z : Int32) (h : fX3_greatestWidth S k = some z) : Met l yX3_greatestWidth wsX3_greatestWidth ({ frames := 3, cells := 0, slots := 0, locals := 63 }) (va_Pc [.ref (ad (6 + k))] (qm_B D A (qm_T cI cQ) (qm_W ad cI cQ rest S))) (qm_Qi D A (qm_W ad cI cQ rest) (z, S)) 0 0 A := by
  refine Met.ofW (cc := cX3_greatestWidth) (maxL := 3) (ret := (some .int)) (by decide) rfl ?_
  intro p e s m args below meth c s₁ B hml hv
  obtain ⟨rfl, hA, hP, hK, hD⟩ := hv
  have hx := B.exec
  have hb := B.bytes
  have hr := B.returns
  have hts := atoms_spec (ws := wsX3_greatestWidth) B.pre
  have hown : s.vm.findClass RX3 = some m.cls := findClass_of_methodNamed B.named
  have hlocks := B.notSynchronized
  have hS : va_S A s.heap s.heap [] := va_S.rf
  have hl := lv_entry ([.ref (ad (6 + k))]) (n := 3) (Nat.le_of_ble_eq_true rfl)
  rw [lg_entry_eq]
  generalize (lg_sl ([.ref (ad (6 + k))]) ++ List.replicate (3 - (lg_sl ([.ref (ad (6 + k))])).length) Slot.unset).toArray = ls at hl ⊢
  have hl : lv_has ls 3 [(0, .ref (ad (6 + k)))] := hl
  obtain ⟨QX, hQX⟩ : ∃ q, q = MQ below (qm_Qi D A (qm_W ad cI cQ rest) (z, S)) ([.ref (ad (6 + k))] : List Value).toArray s 0 0 A := ⟨_, rfl⟩
  rw [← hQX]
  rw [fX3_greatestWidth] at h
  refine lv_iconst (v := (0 : Int32)) hx hb dX3_greatestWidth_0 (by decide) ?_
  refine lv_istore_n (lv' := [(1, .int (0 : Int32)), (0, .ref (ad (6 + k)))]) hx hb dX3_greatestWidth_1 rfl hl (by decide) rfl (fun ls hl => ?_)
  refine lv_iconst (v := (0 : Int32)) hx hb dX3_greatestWidth_2 (by decide) ?_
  refine lv_istore_n (lv' := [(2, .int (0 : Int32)), (1, .int (0 : Int32)), (0, .ref (ad (6 + k)))]) hx hb dX3_greatestWidth_3 rfl hl (by decide) rfl (fun ls hl => ?_)
  have loop_2 : ∀ (fuel : Nat) (v1_1 v2_1 : Int32) (z : Int32), fX3_greatestWidth_L4 k fuel v1_1 v2_1 S = some z → ∀ (H : Heap) (locs : List Loc) (ls : Array Slot), va_P D vwCl (qm_W ad cI cQ rest S) H → va_D A (qm_W ad cI cQ rest S) → va_S A s.heap H locs → lv_has ls 3 [(0, .ref (ad (6 + k))), (1, .int v1_1), (2, .int v2_1)] → (∀ (H : Heap) (locs : List Loc) (ls : Array Slot), va_P D vwCl (qm_W ad cI cQ rest S) H → va_D A (qm_W ad cI cQ rest S) → va_S A s.heap H locs → lv_has ls 3 [(1, .int z)] → W p l e ({ frames := 3, cells := 0, slots := 0, locals := 63 } : Room) s m ([.ref (ad (6 + k))] : List Value).toArray below meth c H locs 0 0 QX (F0 m 28 ls [])) → W p l e ({ frames := 3, cells := 0, slots := 0, locals := 63 } : Room) s m ([.ref (ad (6 + k))] : List Value).toArray below meth c H locs 0 0 QX (F0 m 4 ls []) := by
    intro fuel
    induction fuel with
    | zero =>
      intro v1_1 v2_1 z h
      rw [fX3_greatestWidth_L4] at h
      cases h
    | succ fuel ih =>
      intro v1_1 v2_1 z h H locs ls hP hD hS hl kex
      rw [fX3_greatestWidth_L4] at h
      refine lv_iload_n hx hb dX3_greatestWidth_4 rfl (lv_at hl 2 rfl) ?_
      refine lv_aload_n hx hb dX3_greatestWidth_5 rfl (lv_at hl 0 rfl) ?_
      refine va_calli (va_runV (As := []) (rest := [.int v2_1]) ⟨hx, hb, hml, hown, hts⟩ (nX3_length l D A ad cI cQ rest S k hix) (cwV 0 hts gX3_greatestWidth_X3_length rfl rfl rfl (by decide +kernel) ⟨Nat.le_of_ble_eq_true rfl, Nat.le_of_ble_eq_true rfl⟩) ⟨qm_blind, va_recv hK hP (ci := 3) (q0 := (6 + k)) rfl (qg_M hix), fun U hU hW => ⟨rfl, qm_go hA hS hP hK hD hU hW⟩⟩ rfl rfl hl.1 rfl (lv_room (Nat.le_of_ble_eq_true rfl)) dX3_greatestWidth_6 ⟨Nat.le_of_ble_eq_true rfl, Nat.le_of_ble_eq_true rfl⟩) hS (fun _ _ h9 => h9) (fun _ h9 => h9) (fun v u t H1 locs1 ht hvm hw hB hz1 hk1 hS => ?_)
      obtain ⟨hw1, hw2⟩ := hw
      have hw1 : ((S.1 k).1) = v := hw1.symm
      have hw2 : S = u := hw2.symm
      subst hw1
      subst hw2
      obtain ⟨hP, hD⟩ := qm_bk ht hB
      refine lv_icmp_ge (tgt := 28) hx hb dX3_greatestWidth_9 (by decide) (fun c_3 => ?_) (fun c_3 => ?_)
      · rw [if_pos c_3] at h
        have h := Option.some.inj h
        subst h
        exact kex _ _ _ hP hD hS (lv_sub hl [1] rfl)
      · rw [if_neg c_3] at h
        refine lv_iload_n hx hb dX3_greatestWidth_12 rfl (lv_at hl 1 rfl) ?_
        refine lv_aload_n hx hb dX3_greatestWidth_13 rfl (lv_at hl 0 rfl) ?_
        refine lv_iload_n hx hb dX3_greatestWidth_14 rfl (lv_at hl 2 rfl) ?_
        refine va_calli (va_runV (As := [.int v2_1]) (rest := [.int v1_1]) ⟨hx, hb, hml, hown, hts⟩ (nX3_widthOf l D A ad cI cQ rest S k hix v2_1) (cwV 1 hts gX3_greatestWidth_X3_widthOf rfl rfl rfl (by decide +kernel) ⟨Nat.le_of_ble_eq_true rfl, Nat.le_of_ble_eq_true rfl⟩) ⟨qm_blind, va_recv hK hP (ci := 3) (q0 := (6 + k)) rfl (qg_M hix), fun U hU hW => ⟨rfl, qm_go hA hS hP hK hD hU hW⟩⟩ rfl rfl hl.1 rfl (lv_room (Nat.le_of_ble_eq_true rfl)) dX3_greatestWidth_15 ⟨Nat.le_of_ble_eq_true rfl, Nat.le_of_ble_eq_true rfl⟩) hS (fun _ _ h9 => h9) (fun _ h9 => h9) (fun v u t H1 locs1 ht hvm hw hB hz1 hk1 hS => ?_)
        obtain ⟨hw1, hw2⟩ := hw
        have hw1 : ((rw_at (S.1 (4 + k)) v2_1) + (rw_at (S.1 (8 + k)) v2_1)) = v := hw1.symm
        have hw2 : S = u := hw2.symm
        subst hw1
        subst hw2
        obtain ⟨hP, hD⟩ := qm_bk ht hB
        refine va_mmax hx hb (hml.trans hl.1.symm) hown (hts (.methodLink RX3 46 Lib.Math.max.name) (by decide +kernel)) (hts (.static Lib.Math.max.name) (by decide +kernel)) (hts (.initialized "java/lang/Math") (by decide +kernel)) (hts (.code Lib.Math.max.name Lib.Math.max.code 2 (some .int)) (by decide +kernel)) (Nat.le_of_ble_eq_true rfl) (Nat.le_of_ble_eq_true rfl) (Nat.le_of_ble_eq_true rfl) (Nat.le_of_ble_eq_true rfl) dX3_greatestWidth_18 ?_
        refine lv_istore_n (lv' := [(1, .int (if v1_1 < ((rw_at (S.1 (4 + k)) v2_1) + (rw_at (S.1 (8 + k)) v2_1)) then ((rw_at (S.1 (4 + k)) v2_1) + (rw_at (S.1 (8 + k)) v2_1)) else v1_1)), (0, .ref (ad (6 + k))), (2, .int v2_1)]) hx hb dX3_greatestWidth_21 rfl hl (by decide) rfl (fun ls hl => ?_)
        refine lv_iinc (v := v2_1 + (1 : Int32)) (lv' := [(2, .int (v2_1 + (1 : Int32))), (1, .int (if v1_1 < ((rw_at (S.1 (4 + k)) v2_1) + (rw_at (S.1 (8 + k)) v2_1)) then ((rw_at (S.1 (4 + k)) v2_1) + (rw_at (S.1 (8 + k)) v2_1)) else v1_1)), (0, .ref (ad (6 + k)))]) hx hb dX3_greatestWidth_22 hl (k := 2) rfl rfl (by decide) rfl (fun ls hl => ?_)
        refine lv_goto (tgt := 4) hx hb dX3_greatestWidth_25 (by decide) ?_
        exact ih (if v1_1 < ((rw_at (S.1 (4 + k)) v2_1) + (rw_at (S.1 (8 + k)) v2_1)) then ((rw_at (S.1 (4 + k)) v2_1) + (rw_at (S.1 (8 + k)) v2_1)) else v1_1) (v2_1 + (1 : Int32))  z h _ _ _ hP hD hS (lv_sub hl [2, 1, 0] rfl) kex
  obtain ⟨z_4, hz_5, h⟩ := qm_bind h
  refine loop_2 qm_F (0 : Int32) (0 : Int32) z_4 hz_5 _ _ _ hP hD hS (lv_sub hl [2, 1, 0] rfl) (fun H locs ls hP hD hS hl => ?_)
  refine lv_iload_n hx hb dX3_greatestWidth_28 rfl (lv_at hl 0 rfl) ?_
  have h := Option.some.inj h
  subst h
  rw [hQX]
  exact W.iret (v := z_4) hx hb hr (fun t ht hW => ⟨⟨z_4, S, rfl, ⟨rfl, rfl⟩, qm_en ht hP hD⟩, hS.F ht⟩) hS.2.2 dX3_greatestWidth_29
noncomputable def fX3_firstAbove (S : qm_S) (k : Nat) (p0 : Int32) : Option (Int32) :=
  Option.bind (fX4_notAbove S k p0) (fun z_1 => some z_1)
set_option maxHeartbeats 4000000 in
set_option maxRecDepth 100000 in
theorem kX3_firstAbove (l : Launch) (D : va_G) (A : Nat → Prop) (ad : Nat → Nat) (cI cQ : ClassId) (rest : va_W) (S : qm_S) (k : Nat) (hix : k < 4) (p0 : Int32) (z : Int32) (h : fX3_firstAbove S k p0 = some z) : Met l yX3_firstAbove wsX3_firstAbove ({ frames := 3, cells := 0, slots := 0, locals := 66 }) (va_Pc [.ref (ad (6 + k)), .int p0] (qm_B D A (qm_T cI cQ) (qm_W ad cI cQ rest S))) (qm_Qi D A (qm_W ad cI cQ rest) (z, S)) 0 0 A := by
  refine Met.ofW (cc := cX3_firstAbove) (maxL := 2) (ret := (some .int)) (by decide) rfl ?_
  intro p e s m args below meth c s₁ B hml hv
  obtain ⟨rfl, hA, hP, hK, hD⟩ := hv
  have hx := B.exec
  have hb := B.bytes
  have hr := B.returns
  have hts := atoms_spec (ws := wsX3_firstAbove) B.pre
  have hown : s.vm.findClass RX3 = some m.cls := findClass_of_methodNamed B.named
  have hlocks := B.notSynchronized
  have hS : va_S A s.heap s.heap [] := va_S.rf
  have hl := lv_entry ([.ref (ad (6 + k)), .int p0]) (n := 2) (Nat.le_of_ble_eq_true rfl)
  rw [lg_entry_eq]
  generalize (lg_sl ([.ref (ad (6 + k)), .int p0]) ++ List.replicate (2 - (lg_sl ([.ref (ad (6 + k)), .int p0])).length) Slot.unset).toArray = ls at hl ⊢
  have hl : lv_has ls 2 [(0, .ref (ad (6 + k))), (1, .int p0)] := hl
  rw [fX3_firstAbove] at h
  refine lv_aload_n hx hb dX3_firstAbove_0 rfl (lv_at hl 0 rfl) ?_
  refine va_get (D := D) (ci := 3) (v := .ref (ad (26 + k))) (C := RX3) (T := TX3) (N := 3) hx hb hts (by decide +kernel) hown hK hP (6 + k) (qg_M hix) rfl 0 (by decide) (hts (.fieldLink RX3 10 "QueueMiddles$MarkRow" "values" "LQueueMiddles$Row;") (by decide +kernel)) (fun _ h9 => h9) rfl dX3_firstAbove_1 ?_
  refine lv_iload_n hx hb dX3_firstAbove_4 rfl (lv_at hl 1 rfl) ?_
  obtain ⟨z_1, hz_2, h⟩ := qm_bind h
  refine va_calli (va_runV (As := [.int p0]) (rest := []) ⟨hx, hb, hml, hown, hts⟩ (kX4_notAbove l D A ad cI cQ rest S k (qb_0 hix) p0 z_1 hz_2) (cwV 1 hts gX3_firstAbove_X4_notAbove rfl rfl rfl (by decide +kernel) ⟨Nat.le_of_ble_eq_true rfl, Nat.le_of_ble_eq_true rfl⟩) ⟨qm_blind, va_recv hK hP (ci := 4) (q0 := (26 + k)) rfl (qg_R (qb_0 hix)), fun U hU hW => ⟨rfl, qm_go hA hS hP hK hD hU hW⟩⟩ rfl rfl hl.1 rfl (lv_room (Nat.le_of_ble_eq_true rfl)) dX3_firstAbove_5 ⟨Nat.le_of_ble_eq_true rfl, Nat.le_of_ble_eq_true rfl⟩) hS (fun _ _ h9 => h9) (fun _ h9 => h9) (fun v u t H1 locs1 ht hvm hw hB hz1 hk1 hS => ?_)
  obtain ⟨hw1, hw2⟩ := hw
  have hw1 : z_1 = v := hw1.symm
  have hw2 : S = u := hw2.symm
  subst hw1
  subst hw2
  obtain ⟨hP, hD⟩ := qm_bk ht hB
  have h := Option.some.inj h
  subst h
  exact W.iret (v := z_1) hx hb hr (fun t ht hW => ⟨⟨z_1, S, rfl, ⟨rfl, rfl⟩, qm_en ht hP hD⟩, hS.F ht⟩) hS.2.2 dX3_firstAbove_8
noncomputable def fX3_atLeastNotAbove (S : qm_S) (k : Nat) (p0 : Int32) : Option (Int32) :=
  Option.bind (fX4_notAbove S k p0) (fun z_1 => Option.bind (fX4_sumOfFirst S (4 + k) z_1) (fun z_3 => some z_3))
set_option maxHeartbeats 4000000 in
set_option maxRecDepth 100000 in
theorem kX3_atLeastNotAbove (l : Launch) (D : va_G) (A : Nat → Prop) (ad : Nat → Nat) (cI cQ : ClassId) (rest : va_W) (S : qm_S) (k : Nat) (hix : k < 4) (p0 : Int32) (z : Int32) (h : fX3_atLeastNotAbove S k p0 = some z) : Met l yX3_atLeastNotAbove wsX3_atLeastNotAbove ({ frames := 3, cells := 0, slots := 0, locals := 66 }) (va_Pc [.ref (ad (6 + k)), .int p0] (qm_B D A (qm_T cI cQ) (qm_W ad cI cQ rest S))) (qm_Qi D A (qm_W ad cI cQ rest) (z, S)) 0 0 A := by
  refine Met.ofW (cc := cX3_atLeastNotAbove) (maxL := 2) (ret := (some .int)) (by decide) rfl ?_
  intro p e s m args below meth c s₁ B hml hv
  obtain ⟨rfl, hA, hP, hK, hD⟩ := hv
  have hx := B.exec
  have hb := B.bytes
  have hr := B.returns
  have hts := atoms_spec (ws := wsX3_atLeastNotAbove) B.pre
  have hown : s.vm.findClass RX3 = some m.cls := findClass_of_methodNamed B.named
  have hlocks := B.notSynchronized
  have hS : va_S A s.heap s.heap [] := va_S.rf
  have hl := lv_entry ([.ref (ad (6 + k)), .int p0]) (n := 2) (Nat.le_of_ble_eq_true rfl)
  rw [lg_entry_eq]
  generalize (lg_sl ([.ref (ad (6 + k)), .int p0]) ++ List.replicate (2 - (lg_sl ([.ref (ad (6 + k)), .int p0])).length) Slot.unset).toArray = ls at hl ⊢
  have hl : lv_has ls 2 [(0, .ref (ad (6 + k))), (1, .int p0)] := hl
  rw [fX3_atLeastNotAbove] at h
  refine lv_aload_n hx hb dX3_atLeastNotAbove_0 rfl (lv_at hl 0 rfl) ?_
  refine va_get (D := D) (ci := 3) (v := .ref (ad (26 + (4 + k)))) (C := RX3) (T := TX3) (N := 3) hx hb hts (by decide +kernel) hown hK hP (6 + k) (qg_M hix) rfl 1 (by decide) (hts (.fieldLink RX3 16 "QueueMiddles$MarkRow" "gaps" "LQueueMiddles$Row;") (by decide +kernel)) (fun _ h9 => h9) rfl dX3_atLeastNotAbove_1 ?_
  refine lv_aload_n hx hb dX3_atLeastNotAbove_4 rfl (lv_at hl 0 rfl) ?_
  refine va_get (D := D) (ci := 3) (v := .ref (ad (26 + k))) (C := RX3) (T := TX3) (N := 3) hx hb hts (by decide +kernel) hown hK hP (6 + k) (qg_M hix) rfl 0 (by decide) (hts (.fieldLink RX3 10 "QueueMiddles$MarkRow" "values" "LQueueMiddles$Row;") (by decide +kernel)) (fun _ h9 => h9) rfl dX3_atLeastNotAbove_5 ?_
  refine lv_iload_n hx hb dX3_atLeastNotAbove_8 rfl (lv_at hl 1 rfl) ?_
  obtain ⟨z_1, hz_2, h⟩ := qm_bind h
  refine va_calli (va_runV (As := [.int p0]) (rest := [.ref (ad (26 + (4 + k)))]) ⟨hx, hb, hml, hown, hts⟩ (kX4_notAbove l D A ad cI cQ rest S k (qb_0 hix) p0 z_1 hz_2) (cwV 1 hts gX3_atLeastNotAbove_X4_notAbove rfl rfl rfl (by decide +kernel) ⟨Nat.le_of_ble_eq_true rfl, Nat.le_of_ble_eq_true rfl⟩) ⟨qm_blind, va_recv hK hP (ci := 4) (q0 := (26 + k)) rfl (qg_R (qb_0 hix)), fun U hU hW => ⟨rfl, qm_go hA hS hP hK hD hU hW⟩⟩ rfl rfl hl.1 rfl (lv_room (Nat.le_of_ble_eq_true rfl)) dX3_atLeastNotAbove_9 ⟨Nat.le_of_ble_eq_true rfl, Nat.le_of_ble_eq_true rfl⟩) hS (fun _ _ h9 => h9) (fun _ h9 => h9) (fun v u t H1 locs1 ht hvm hw hB hz1 hk1 hS => ?_)
  obtain ⟨hw1, hw2⟩ := hw
  have hw1 : z_1 = v := hw1.symm
  have hw2 : S = u := hw2.symm
  subst hw1
  subst hw2
  obtain ⟨hP, hD⟩ := qm_bk ht hB
  obtain ⟨z_3, hz_4, h⟩ := qm_bind h
  refine va_calli (va_runV (As := [.int z_1]) (rest := []) ⟨hx, hb, hml, hown, hts⟩ (kX4_sumOfFirst l D A ad cI cQ rest S (4 + k) (qb_4 hix) z_1 z_3 hz_4) (cwV 1 hts gX3_atLeastNotAbove_X4_sumOfFirst rfl rfl rfl (by decide +kernel) ⟨Nat.le_of_ble_eq_true rfl, Nat.le_of_ble_eq_true rfl⟩) ⟨qm_blind, va_recv hK hP (ci := 4) (q0 := (26 + (4 + k))) rfl (qg_R (qb_4 hix)), fun U hU hW => ⟨rfl, qm_go hA hS hP hK hD hU hW⟩⟩ rfl rfl hl.1 rfl (lv_room (Nat.le_of_ble_eq_true rfl)) dX3_atLeastNotAbove_12 ⟨Nat.le_of_ble_eq_true rfl, Nat.le_of_ble_eq_true rfl⟩) hS (fun _ _ h9 => h9) (fun _ h9 => h9) (fun v u t H1 locs1 ht hvm hw hB hz1 hk1 hS => ?_)
  obtain ⟨hw1, hw2⟩ := hw
  have hw1 : z_3 = v := hw1.symm
  have hw2 : S = u := hw2.symm
  subst hw1
  subst hw2
  obtain ⟨hP, hD⟩ := qm_bk ht hB
  have h := Option.some.inj h
  subst h
  exact W.iret (v := z_3) hx hb hr (fun t ht hW => ⟨⟨z_3, S, rfl, ⟨rfl, rfl⟩, qm_en ht hP hD⟩, hS.F ht⟩) hS.2.2 dX3_atLeastNotAbove_15
noncomputable def fX3_offBy (S : qm_S) (k : Nat) (p0 : Int32) (p1 : Int32) : Option (Int32) :=
  Option.bind (fX3_rankFrom S k p0) (fun z_1 => Option.bind (fX3_rankTo S k p0) (fun z_3 => some (if (p1 - z_1) < (z_3 - p1) then z_3 - p1 else p1 - z_1)))
set_option maxHeartbeats 4000000 in
set_option maxRecDepth 100000 in
theorem kX3_offBy (l : Launch) (D : va_G) (A : Nat → Prop) (ad : Nat → Nat) (cI cQ : ClassId) (rest : va_W) (S : qm_S) (k : Nat) (hix : k < 4) (p0 : Int32) (p1 : Int32) (z : Int32) (h : fX3_offBy S k p0 p1 = some z) : Met l yX3_offBy wsX3_offBy ({ frames := 5, cells := 0, slots := 0, locals := 107 }) (va_Pc [.ref (ad (6 + k)), .int p0, .int p1] (qm_B D A (qm_T cI cQ) (qm_W ad cI cQ rest S))) (qm_Qi D A (qm_W ad cI cQ rest) (z, S)) 0 0 A := by
  refine Met.ofW (cc := cX3_offBy) (maxL := 3) (ret := (some .int)) (by decide) rfl ?_
  intro p e s m args below meth c s₁ B hml hv
  obtain ⟨rfl, hA, hP, hK, hD⟩ := hv
  have hx := B.exec
  have hb := B.bytes
  have hr := B.returns
  have hts := atoms_spec (ws := wsX3_offBy) B.pre
  have hown : s.vm.findClass RX3 = some m.cls := findClass_of_methodNamed B.named
  have hlocks := B.notSynchronized
  have hS : va_S A s.heap s.heap [] := va_S.rf
  have hl := lv_entry ([.ref (ad (6 + k)), .int p0, .int p1]) (n := 3) (Nat.le_of_ble_eq_true rfl)
  rw [lg_entry_eq]
  generalize (lg_sl ([.ref (ad (6 + k)), .int p0, .int p1]) ++ List.replicate (3 - (lg_sl ([.ref (ad (6 + k)), .int p0, .int p1])).length) Slot.unset).toArray = ls at hl ⊢
  have hl : lv_has ls 3 [(0, .ref (ad (6 + k))), (1, .int p0), (2, .int p1)] := hl
  rw [fX3_offBy] at h
  refine lv_iload_n hx hb dX3_offBy_0 rfl (lv_at hl 2 rfl) ?_
  refine lv_aload_n hx hb dX3_offBy_1 rfl (lv_at hl 0 rfl) ?_
  refine lv_iload_n hx hb dX3_offBy_2 rfl (lv_at hl 1 rfl) ?_
  obtain ⟨z_1, hz_2, h⟩ := qm_bind h
  refine va_calli (va_runV (As := [.int p0]) (rest := [.int p1]) ⟨hx, hb, hml, hown, hts⟩ (kX3_rankFrom l D A ad cI cQ rest S k hix p0 z_1 hz_2) (cwV 1 hts gX3_offBy_X3_rankFrom rfl rfl rfl (by decide +kernel) ⟨Nat.le_of_ble_eq_true rfl, Nat.le_of_ble_eq_true rfl⟩) ⟨qm_blind, va_recv hK hP (ci := 3) (q0 := (6 + k)) rfl (qg_M hix), fun U hU hW => ⟨rfl, qm_go hA hS hP hK hD hU hW⟩⟩ rfl rfl hl.1 rfl (lv_room (Nat.le_of_ble_eq_true rfl)) dX3_offBy_3 ⟨Nat.le_of_ble_eq_true rfl, Nat.le_of_ble_eq_true rfl⟩) hS (fun _ _ h9 => h9) (fun _ h9 => h9) (fun v u t H1 locs1 ht hvm hw hB hz1 hk1 hS => ?_)
  obtain ⟨hw1, hw2⟩ := hw
  have hw1 : z_1 = v := hw1.symm
  have hw2 : S = u := hw2.symm
  subst hw1
  subst hw2
  obtain ⟨hP, hD⟩ := qm_bk ht hB
  refine lv_isub hx hb dX3_offBy_6 ?_
  refine lv_aload_n hx hb dX3_offBy_7 rfl (lv_at hl 0 rfl) ?_
  refine lv_iload_n hx hb dX3_offBy_8 rfl (lv_at hl 1 rfl) ?_
  obtain ⟨z_3, hz_4, h⟩ := qm_bind h
  refine va_calli (va_runV (As := [.int p0]) (rest := [.int (p1 - z_1)]) ⟨hx, hb, hml, hown, hts⟩ (kX3_rankTo l D A ad cI cQ rest S k hix p0 z_3 hz_4) (cwV 1 hts gX3_offBy_X3_rankTo rfl rfl rfl (by decide +kernel) ⟨Nat.le_of_ble_eq_true rfl, Nat.le_of_ble_eq_true rfl⟩) ⟨qm_blind, va_recv hK hP (ci := 3) (q0 := (6 + k)) rfl (qg_M hix), fun U hU hW => ⟨rfl, qm_go hA hS hP hK hD hU hW⟩⟩ rfl rfl hl.1 rfl (lv_room (Nat.le_of_ble_eq_true rfl)) dX3_offBy_9 ⟨Nat.le_of_ble_eq_true rfl, Nat.le_of_ble_eq_true rfl⟩) hS (fun _ _ h9 => h9) (fun _ h9 => h9) (fun v u t H1 locs1 ht hvm hw hB hz1 hk1 hS => ?_)
  obtain ⟨hw1, hw2⟩ := hw
  have hw1 : z_3 = v := hw1.symm
  have hw2 : S = u := hw2.symm
  subst hw1
  subst hw2
  obtain ⟨hP, hD⟩ := qm_bk ht hB
  refine lv_iload_n hx hb dX3_offBy_12 rfl (lv_at hl 2 rfl) ?_
  refine lv_isub hx hb dX3_offBy_13 ?_
  refine va_mmax hx hb (hml.trans hl.1.symm) hown (hts (.methodLink RX3 46 Lib.Math.max.name) (by decide +kernel)) (hts (.static Lib.Math.max.name) (by decide +kernel)) (hts (.initialized "java/lang/Math") (by decide +kernel)) (hts (.code Lib.Math.max.name Lib.Math.max.code 2 (some .int)) (by decide +kernel)) (Nat.le_of_ble_eq_true rfl) (Nat.le_of_ble_eq_true rfl) (Nat.le_of_ble_eq_true rfl) (Nat.le_of_ble_eq_true rfl) dX3_offBy_14 ?_
  have h := Option.some.inj h
  subst h
  exact W.iret (v := if (p1 - z_1) < (z_3 - p1) then z_3 - p1 else p1 - z_1) hx hb hr (fun t ht hW => ⟨⟨if (p1 - z_1) < (z_3 - p1) then z_3 - p1 else p1 - z_1, S, rfl, ⟨rfl, rfl⟩, qm_en ht hP hD⟩, hS.F ht⟩) hS.2.2 dX3_offBy_17
noncomputable def fX3_answering_L19 (n0 : Nat) (x1 : Int32) : Nat → Int32 → Int32 → Int32 → Int32 → qm_S → Option (Int32)
  | 0, _, _, _, _, _ => none
  | fuel + 1, v2, v3, v4, v5, S =>
    (if ((S.1 n0).1) ≤ v5 then some v2 else (if v3 ≤ (if (x1 - (v4 + (rw_at (S.1 (4 + n0)) v5))) < (((v4 + (rw_at (S.1 (4 + n0)) v5)) + (rw_at (S.1 (8 + n0)) v5)) - x1) then ((v4 + (rw_at (S.1 (4 + n0)) v5)) + (rw_at (S.1 (8 + n0)) v5)) - x1 else x1 - (v4 + (rw_at (S.1 (4 + n0)) v5))) then fX3_answering_L19 n0 x1 fuel v2 v3 (v4 + (rw_at (S.1 (4 + n0)) v5)) (v5 + (1 : Int32)) S else fX3_answering_L19 n0 x1 fuel v5 (if (x1 - (v4 + (rw_at (S.1 (4 + n0)) v5))) < (((v4 + (rw_at (S.1 (4 + n0)) v5)) + (rw_at (S.1 (8 + n0)) v5)) - x1) then ((v4 + (rw_at (S.1 (4 + n0)) v5)) + (rw_at (S.1 (8 + n0)) v5)) - x1 else x1 - (v4 + (rw_at (S.1 (4 + n0)) v5))) (v4 + (rw_at (S.1 (4 + n0)) v5)) (v5 + (1 : Int32)) S))
noncomputable def fX3_answering (S : qm_S) (k : Nat) (p0 : Int32) : Option (Int32) :=
  Option.bind (fX3_offBy S k (0 : Int32) p0) (fun z_1 => Option.bind (fX3_rankFrom S k (0 : Int32)) (fun z_3 => Option.bind (fX3_answering_L19 k p0 qm_F (0 : Int32) z_1 z_3 (1 : Int32) S) (fun z_9 => some z_9)))
set_option maxHeartbeats 4000000 in
set_option maxRecDepth 100000 in
theorem kX3_answering (l : Launch) (D : va_G) (A : Nat → Prop) (ad : Nat → Nat) (cI cQ : ClassId) (rest : va_W) (S : qm_S) (k : Nat) (hix : k < 4) (p0 : Int32) (z : Int32) (h : fX3_answering S k p0 = some z) : Met l yX3_answering wsX3_answering ({ frames := 6, cells := 0, slots := 0, locals := 129 }) (va_Pc [.ref (ad (6 + k)), .int p0] (qm_B D A (qm_T cI cQ) (qm_W ad cI cQ rest S))) (qm_Qi D A (qm_W ad cI cQ rest) (z, S)) 0 0 A := by
  refine Met.ofW (cc := cX3_answering) (maxL := 7) (ret := (some .int)) (by decide) rfl ?_
  intro p e s m args below meth c s₁ B hml hv
  obtain ⟨rfl, hA, hP, hK, hD⟩ := hv
  have hx := B.exec
  have hb := B.bytes
  have hr := B.returns
  have hts := atoms_spec (ws := wsX3_answering) B.pre
  have hown : s.vm.findClass RX3 = some m.cls := findClass_of_methodNamed B.named
  have hlocks := B.notSynchronized
  have hS : va_S A s.heap s.heap [] := va_S.rf
  have hl := lv_entry ([.ref (ad (6 + k)), .int p0]) (n := 7) (Nat.le_of_ble_eq_true rfl)
  rw [lg_entry_eq]
  generalize (lg_sl ([.ref (ad (6 + k)), .int p0]) ++ List.replicate (7 - (lg_sl ([.ref (ad (6 + k)), .int p0])).length) Slot.unset).toArray = ls at hl ⊢
  have hl : lv_has ls 7 [(0, .ref (ad (6 + k))), (1, .int p0)] := hl
  obtain ⟨QX, hQX⟩ : ∃ q, q = MQ below (qm_Qi D A (qm_W ad cI cQ rest) (z, S)) ([.ref (ad (6 + k)), .int p0] : List Value).toArray s 0 0 A := ⟨_, rfl⟩
  rw [← hQX]
  rw [fX3_answering] at h
  refine lv_iconst (v := (0 : Int32)) hx hb dX3_answering_0 (by decide) ?_
  refine lv_istore_n (lv' := [(2, .int (0 : Int32)), (0, .ref (ad (6 + k))), (1, .int p0)]) hx hb dX3_answering_1 rfl hl (by decide) rfl (fun ls hl => ?_)
  refine lv_aload_n hx hb dX3_answering_2 rfl (lv_at hl 1 rfl) ?_
  refine lv_iconst (v := (0 : Int32)) hx hb dX3_answering_3 (by decide) ?_
  refine lv_iload_n hx hb dX3_answering_4 rfl (lv_at hl 2 rfl) ?_
  obtain ⟨z_1, hz_2, h⟩ := qm_bind h
  refine va_calli (va_runV (As := [.int (0 : Int32), .int p0]) (rest := []) ⟨hx, hb, hml, hown, hts⟩ (kX3_offBy l D A ad cI cQ rest S k hix (0 : Int32) p0 z_1 hz_2) (cwV 2 hts gX3_answering_X3_offBy rfl rfl rfl (by decide +kernel) ⟨Nat.le_of_ble_eq_true rfl, Nat.le_of_ble_eq_true rfl⟩) ⟨qm_blind, va_recv hK hP (ci := 3) (q0 := (6 + k)) rfl (qg_M hix), fun U hU hW => ⟨rfl, qm_go hA hS hP hK hD hU hW⟩⟩ rfl rfl hl.1 rfl (lv_room (Nat.le_of_ble_eq_true rfl)) dX3_answering_5 ⟨Nat.le_of_ble_eq_true rfl, Nat.le_of_ble_eq_true rfl⟩) hS (fun _ _ h9 => h9) (fun _ h9 => h9) (fun v u t H1 locs1 ht hvm hw hB hz1 hk1 hS => ?_)
  obtain ⟨hw1, hw2⟩ := hw
  have hw1 : z_1 = v := hw1.symm
  have hw2 : S = u := hw2.symm
  subst hw1
  subst hw2
  obtain ⟨hP, hD⟩ := qm_bk ht hB
  refine lv_istore_n (lv' := [(3, .int z_1), (2, .int (0 : Int32)), (0, .ref (ad (6 + k))), (1, .int p0)]) hx hb dX3_answering_8 rfl hl (by decide) rfl (fun ls hl => ?_)
  refine lv_aload_n hx hb dX3_answering_9 rfl (lv_at hl 2 rfl) ?_
  refine lv_iconst (v := (0 : Int32)) hx hb dX3_answering_10 (by decide) ?_
  obtain ⟨z_3, hz_4, h⟩ := qm_bind h
  refine va_calli (va_runV (As := [.int (0 : Int32)]) (rest := []) ⟨hx, hb, hml, hown, hts⟩ (kX3_rankFrom l D A ad cI cQ rest S k hix (0 : Int32) z_3 hz_4) (cwV 1 hts gX3_answering_X3_rankFrom rfl rfl rfl (by decide +kernel) ⟨Nat.le_of_ble_eq_true rfl, Nat.le_of_ble_eq_true rfl⟩) ⟨qm_blind, va_recv hK hP (ci := 3) (q0 := (6 + k)) rfl (qg_M hix), fun U hU hW => ⟨rfl, qm_go hA hS hP hK hD hU hW⟩⟩ rfl rfl hl.1 rfl (lv_room (Nat.le_of_ble_eq_true rfl)) dX3_answering_11 ⟨Nat.le_of_ble_eq_true rfl, Nat.le_of_ble_eq_true rfl⟩) hS (fun _ _ h9 => h9) (fun _ h9 => h9) (fun v u t H1 locs1 ht hvm hw hB hz1 hk1 hS => ?_)
  obtain ⟨hw1, hw2⟩ := hw
  have hw1 : z_3 = v := hw1.symm
  have hw2 : S = u := hw2.symm
  subst hw1
  subst hw2
  obtain ⟨hP, hD⟩ := qm_bk ht hB
  refine lv_istore (lv' := [(4, .int z_3), (3, .int z_1), (2, .int (0 : Int32)), (0, .ref (ad (6 + k))), (1, .int p0)]) hx hb dX3_answering_14 hl (by decide) rfl (fun ls hl => ?_)
  refine lv_iconst (v := (1 : Int32)) hx hb dX3_answering_16 (by decide) ?_
  refine lv_istore (lv' := [(5, .int (1 : Int32)), (4, .int z_3), (3, .int z_1), (2, .int (0 : Int32)), (0, .ref (ad (6 + k))), (1, .int p0)]) hx hb dX3_answering_17 hl (by decide) rfl (fun ls hl => ?_)
  have loop_6 : ∀ (fuel : Nat) (v2_5 v3_5 v4_5 v5_5 : Int32) (z : Int32), fX3_answering_L19 k p0 fuel v2_5 v3_5 v4_5 v5_5 S = some z → ∀ (H : Heap) (locs : List Loc) (ls : Array Slot), va_P D vwCl (qm_W ad cI cQ rest S) H → va_D A (qm_W ad cI cQ rest S) → va_S A s.heap H locs → lv_has ls 7 [(0, .ref (ad (6 + k))), (1, .int p0), (2, .int v2_5), (3, .int v3_5), (4, .int v4_5), (5, .int v5_5)] → (∀ (H : Heap) (locs : List Loc) (ls : Array Slot), va_P D vwCl (qm_W ad cI cQ rest S) H → va_D A (qm_W ad cI cQ rest S) → va_S A s.heap H locs → lv_has ls 7 [(2, .int z)] → W p l e ({ frames := 6, cells := 0, slots := 0, locals := 129 } : Room) s m ([.ref (ad (6 + k)), .int p0] : List Value).toArray below meth c H locs 0 0 QX (F0 m 83 ls [])) → W p l e ({ frames := 6, cells := 0, slots := 0, locals := 129 } : Room) s m ([.ref (ad (6 + k)), .int p0] : List Value).toArray below meth c H locs 0 0 QX (F0 m 19 ls []) := by
    intro fuel
    induction fuel with
    | zero =>
      intro v2_5 v3_5 v4_5 v5_5 z h
      rw [fX3_answering_L19] at h
      cases h
    | succ fuel ih =>
      intro v2_5 v3_5 v4_5 v5_5 z h H locs ls hP hD hS hl kex
      rw [fX3_answering_L19] at h
      refine lv_iload hx hb dX3_answering_19 (lv_at hl 5 rfl) ?_
      refine lv_aload_n hx hb dX3_answering_21 rfl (lv_at hl 0 rfl) ?_
      refine va_calli (va_runV (As := []) (rest := [.int v5_5]) ⟨hx, hb, hml, hown, hts⟩ (nX3_length l D A ad cI cQ rest S k hix) (cwV 0 hts gX3_answering_X3_length rfl rfl rfl (by decide +kernel) ⟨Nat.le_of_ble_eq_true rfl, Nat.le_of_ble_eq_true rfl⟩) ⟨qm_blind, va_recv hK hP (ci := 3) (q0 := (6 + k)) rfl (qg_M hix), fun U hU hW => ⟨rfl, qm_go hA hS hP hK hD hU hW⟩⟩ rfl rfl hl.1 rfl (lv_room (Nat.le_of_ble_eq_true rfl)) dX3_answering_22 ⟨Nat.le_of_ble_eq_true rfl, Nat.le_of_ble_eq_true rfl⟩) hS (fun _ _ h9 => h9) (fun _ h9 => h9) (fun v u t H1 locs1 ht hvm hw hB hz1 hk1 hS => ?_)
      obtain ⟨hw1, hw2⟩ := hw
      have hw1 : ((S.1 k).1) = v := hw1.symm
      have hw2 : S = u := hw2.symm
      subst hw1
      subst hw2
      obtain ⟨hP, hD⟩ := qm_bk ht hB
      refine lv_icmp_ge (tgt := 83) hx hb dX3_answering_25 (by decide) (fun c_7 => ?_) (fun c_7 => ?_)
      · rw [if_pos c_7] at h
        have h := Option.some.inj h
        subst h
        exact kex _ _ _ hP hD hS (lv_sub hl [2] rfl)
      · rw [if_neg c_7] at h
        refine lv_iload hx hb dX3_answering_28 (lv_at hl 4 rfl) ?_
        refine lv_aload_n hx hb dX3_answering_30 rfl (lv_at hl 0 rfl) ?_
        refine va_get (D := D) (ci := 3) (v := .ref (ad (26 + (4 + k)))) (C := RX3) (T := TX3) (N := 3) hx hb hts (by decide +kernel) hown hK hP (6 + k) (qg_M hix) rfl 1 (by decide) (hts (.fieldLink RX3 16 "QueueMiddles$MarkRow" "gaps" "LQueueMiddles$Row;") (by decide +kernel)) (fun _ h9 => h9) rfl dX3_answering_31 ?_
        refine lv_iload hx hb dX3_answering_34 (lv_at hl 5 rfl) ?_
        refine va_calli (va_runV (As := [.int v5_5]) (rest := [.int v4_5]) ⟨hx, hb, hml, hown, hts⟩ (nX4_at l D A ad cI cQ rest S (4 + k) (qb_4 hix) v5_5) (cwV 1 hts gX3_answering_X4_at rfl rfl rfl (by decide +kernel) ⟨Nat.le_of_ble_eq_true rfl, Nat.le_of_ble_eq_true rfl⟩) ⟨qm_blind, va_recv hK hP (ci := 4) (q0 := (26 + (4 + k))) rfl (qg_R (qb_4 hix)), fun U hU hW => ⟨rfl, qm_go hA hS hP hK hD hU hW⟩⟩ rfl rfl hl.1 rfl (lv_room (Nat.le_of_ble_eq_true rfl)) dX3_answering_36 ⟨Nat.le_of_ble_eq_true rfl, Nat.le_of_ble_eq_true rfl⟩) hS (fun _ _ h9 => h9) (fun _ h9 => h9) (fun v u t H1 locs1 ht hvm hw hB hz1 hk1 hS => ?_)
        obtain ⟨hw1, hw2⟩ := hw
        have hw1 : rw_at (S.1 (4 + k)) v5_5 = v := hw1.symm
        have hw2 : S = u := hw2.symm
        subst hw1
        subst hw2
        obtain ⟨hP, hD⟩ := qm_bk ht hB
        refine lv_iadd hx hb dX3_answering_39 ?_
        refine lv_istore (lv' := [(4, .int (v4_5 + (rw_at (S.1 (4 + k)) v5_5))), (0, .ref (ad (6 + k))), (1, .int p0), (2, .int v2_5), (3, .int v3_5), (5, .int v5_5)]) hx hb dX3_answering_40 hl (by decide) rfl (fun ls hl => ?_)
        refine lv_iload_n hx hb dX3_answering_42 rfl (lv_at hl 2 rfl) ?_
        refine lv_iload hx hb dX3_answering_43 (lv_at hl 0 rfl) ?_
        refine lv_isub hx hb dX3_answering_45 ?_
        refine lv_iload hx hb dX3_answering_46 (lv_at hl 0 rfl) ?_
        refine lv_aload_n hx hb dX3_answering_48 rfl (lv_at hl 1 rfl) ?_
        refine va_get (D := D) (ci := 3) (v := .ref (ad (26 + (8 + k)))) (C := RX3) (T := TX3) (N := 3) hx hb hts (by decide +kernel) hown hK hP (6 + k) (qg_M hix) rfl 2 (by decide) (hts (.fieldLink RX3 19 "QueueMiddles$MarkRow" "spreads" "LQueueMiddles$Row;") (by decide +kernel)) (fun _ h9 => h9) rfl dX3_answering_49 ?_
        refine lv_iload hx hb dX3_answering_52 (lv_at hl 5 rfl) ?_
        refine va_calli (va_runV (As := [.int v5_5]) (rest := [.int (v4_5 + (rw_at (S.1 (4 + k)) v5_5)), .int (p0 - (v4_5 + (rw_at (S.1 (4 + k)) v5_5)))]) ⟨hx, hb, hml, hown, hts⟩ (nX4_at l D A ad cI cQ rest S (8 + k) (qb_8 hix) v5_5) (cwV 1 hts gX3_answering_X4_at rfl rfl rfl (by decide +kernel) ⟨Nat.le_of_ble_eq_true rfl, Nat.le_of_ble_eq_true rfl⟩) ⟨qm_blind, va_recv hK hP (ci := 4) (q0 := (26 + (8 + k))) rfl (qg_R (qb_8 hix)), fun U hU hW => ⟨rfl, qm_go hA hS hP hK hD hU hW⟩⟩ rfl rfl hl.1 rfl (lv_room (Nat.le_of_ble_eq_true rfl)) dX3_answering_54 ⟨Nat.le_of_ble_eq_true rfl, Nat.le_of_ble_eq_true rfl⟩) hS (fun _ _ h9 => h9) (fun _ h9 => h9) (fun v u t H1 locs1 ht hvm hw hB hz1 hk1 hS => ?_)
        obtain ⟨hw1, hw2⟩ := hw
        have hw1 : rw_at (S.1 (8 + k)) v5_5 = v := hw1.symm
        have hw2 : S = u := hw2.symm
        subst hw1
        subst hw2
        obtain ⟨hP, hD⟩ := qm_bk ht hB
        refine lv_iadd hx hb dX3_answering_57 ?_
        refine lv_iload_n hx hb dX3_answering_58 rfl (lv_at hl 2 rfl) ?_
        refine lv_isub hx hb dX3_answering_59 ?_
        refine va_mmax hx hb (hml.trans hl.1.symm) hown (hts (.methodLink RX3 46 Lib.Math.max.name) (by decide +kernel)) (hts (.static Lib.Math.max.name) (by decide +kernel)) (hts (.initialized "java/lang/Math") (by decide +kernel)) (hts (.code Lib.Math.max.name Lib.Math.max.code 2 (some .int)) (by decide +kernel)) (Nat.le_of_ble_eq_true rfl) (Nat.le_of_ble_eq_true rfl) (Nat.le_of_ble_eq_true rfl) (Nat.le_of_ble_eq_true rfl) dX3_answering_60 ?_
        refine lv_istore (lv' := [(6, .int (if (p0 - (v4_5 + (rw_at (S.1 (4 + k)) v5_5))) < (((v4_5 + (rw_at (S.1 (4 + k)) v5_5)) + (rw_at (S.1 (8 + k)) v5_5)) - p0) then ((v4_5 + (rw_at (S.1 (4 + k)) v5_5)) + (rw_at (S.1 (8 + k)) v5_5)) - p0 else p0 - (v4_5 + (rw_at (S.1 (4 + k)) v5_5)))), (4, .int (v4_5 + (rw_at (S.1 (4 + k)) v5_5))), (0, .ref (ad (6 + k))), (1, .int p0), (2, .int v2_5), (3, .int v3_5), (5, .int v5_5)]) hx hb dX3_answering_63 hl (by decide) rfl (fun ls hl => ?_)
        refine lv_iload hx hb dX3_answering_65 (lv_at hl 0 rfl) ?_
        refine lv_iload_n hx hb dX3_answering_67 rfl (lv_at hl 5 rfl) ?_
        refine lv_icmp_ge (tgt := 77) hx hb dX3_answering_68 (by decide) (fun c_8 => ?_) (fun c_8 => ?_)
        · rw [if_pos c_8] at h
          refine lv_iinc (v := v5_5 + (1 : Int32)) (lv' := [(5, .int (v5_5 + (1 : Int32))), (6, .int (if (p0 - (v4_5 + (rw_at (S.1 (4 + k)) v5_5))) < (((v4_5 + (rw_at (S.1 (4 + k)) v5_5)) + (rw_at (S.1 (8 + k)) v5_5)) - p0) then ((v4_5 + (rw_at (S.1 (4 + k)) v5_5)) + (rw_at (S.1 (8 + k)) v5_5)) - p0 else p0 - (v4_5 + (rw_at (S.1 (4 + k)) v5_5)))), (4, .int (v4_5 + (rw_at (S.1 (4 + k)) v5_5))), (0, .ref (ad (6 + k))), (1, .int p0), (2, .int v2_5), (3, .int v3_5)]) hx hb dX3_answering_77 hl (k := 6) rfl rfl (by decide) rfl (fun ls hl => ?_)
          refine lv_goto (tgt := 19) hx hb dX3_answering_80 (by decide) ?_
          exact ih v2_5 v3_5 (v4_5 + (rw_at (S.1 (4 + k)) v5_5)) (v5_5 + (1 : Int32))  z h _ _ _ hP hD hS (lv_sub hl [3, 4, 5, 6, 2, 0] rfl) kex
        · rw [if_neg c_8] at h
          refine lv_iload hx hb dX3_answering_71 (lv_at hl 0 rfl) ?_
          refine lv_istore_n (lv' := [(3, .int (if (p0 - (v4_5 + (rw_at (S.1 (4 + k)) v5_5))) < (((v4_5 + (rw_at (S.1 (4 + k)) v5_5)) + (rw_at (S.1 (8 + k)) v5_5)) - p0) then ((v4_5 + (rw_at (S.1 (4 + k)) v5_5)) + (rw_at (S.1 (8 + k)) v5_5)) - p0 else p0 - (v4_5 + (rw_at (S.1 (4 + k)) v5_5)))), (6, .int (if (p0 - (v4_5 + (rw_at (S.1 (4 + k)) v5_5))) < (((v4_5 + (rw_at (S.1 (4 + k)) v5_5)) + (rw_at (S.1 (8 + k)) v5_5)) - p0) then ((v4_5 + (rw_at (S.1 (4 + k)) v5_5)) + (rw_at (S.1 (8 + k)) v5_5)) - p0 else p0 - (v4_5 + (rw_at (S.1 (4 + k)) v5_5)))), (4, .int (v4_5 + (rw_at (S.1 (4 + k)) v5_5))), (0, .ref (ad (6 + k))), (1, .int p0), (2, .int v2_5), (5, .int v5_5)]) hx hb dX3_answering_73 rfl hl (by decide) rfl (fun ls hl => ?_)
          refine lv_iload hx hb dX3_answering_74 (lv_at hl 6 rfl) ?_
          refine lv_istore_n (lv' := [(2, .int v5_5), (3, .int (if (p0 - (v4_5 + (rw_at (S.1 (4 + k)) v5_5))) < (((v4_5 + (rw_at (S.1 (4 + k)) v5_5)) + (rw_at (S.1 (8 + k)) v5_5)) - p0) then ((v4_5 + (rw_at (S.1 (4 + k)) v5_5)) + (rw_at (S.1 (8 + k)) v5_5)) - p0 else p0 - (v4_5 + (rw_at (S.1 (4 + k)) v5_5)))), (6, .int (if (p0 - (v4_5 + (rw_at (S.1 (4 + k)) v5_5))) < (((v4_5 + (rw_at (S.1 (4 + k)) v5_5)) + (rw_at (S.1 (8 + k)) v5_5)) - p0) then ((v4_5 + (rw_at (S.1 (4 + k)) v5_5)) + (rw_at (S.1 (8 + k)) v5_5)) - p0 else p0 - (v4_5 + (rw_at (S.1 (4 + k)) v5_5)))), (4, .int (v4_5 + (rw_at (S.1 (4 + k)) v5_5))), (0, .ref (ad (6 + k))), (1, .int p0), (5, .int v5_5)]) hx hb dX3_answering_76 rfl hl (by decide) rfl (fun ls hl => ?_)
          refine lv_iinc (v := v5_5 + (1 : Int32)) (lv' := [(5, .int (v5_5 + (1 : Int32))), (2, .int v5_5), (3, .int (if (p0 - (v4_5 + (rw_at (S.1 (4 + k)) v5_5))) < (((v4_5 + (rw_at (S.1 (4 + k)) v5_5)) + (rw_at (S.1 (8 + k)) v5_5)) - p0) then ((v4_5 + (rw_at (S.1 (4 + k)) v5_5)) + (rw_at (S.1 (8 + k)) v5_5)) - p0 else p0 - (v4_5 + (rw_at (S.1 (4 + k)) v5_5)))), (6, .int (if (p0 - (v4_5 + (rw_at (S.1 (4 + k)) v5_5))) < (((v4_5 + (rw_at (S.1 (4 + k)) v5_5)) + (rw_at (S.1 (8 + k)) v5_5)) - p0) then ((v4_5 + (rw_at (S.1 (4 + k)) v5_5)) + (rw_at (S.1 (8 + k)) v5_5)) - p0 else p0 - (v4_5 + (rw_at (S.1 (4 + k)) v5_5)))), (4, .int (v4_5 + (rw_at (S.1 (4 + k)) v5_5))), (0, .ref (ad (6 + k))), (1, .int p0)]) hx hb dX3_answering_77 hl (k := 6) rfl rfl (by decide) rfl (fun ls hl => ?_)
          refine lv_goto (tgt := 19) hx hb dX3_answering_80 (by decide) ?_
          exact ih v5_5 (if (p0 - (v4_5 + (rw_at (S.1 (4 + k)) v5_5))) < (((v4_5 + (rw_at (S.1 (4 + k)) v5_5)) + (rw_at (S.1 (8 + k)) v5_5)) - p0) then ((v4_5 + (rw_at (S.1 (4 + k)) v5_5)) + (rw_at (S.1 (8 + k)) v5_5)) - p0 else p0 - (v4_5 + (rw_at (S.1 (4 + k)) v5_5))) (v4_5 + (rw_at (S.1 (4 + k)) v5_5)) (v5_5 + (1 : Int32))  z h _ _ _ hP hD hS (lv_sub hl [5, 6, 1, 2, 4, 0] rfl) kex
  obtain ⟨z_9, hz_10, h⟩ := qm_bind h
  refine loop_6 qm_F (0 : Int32) z_1 z_3 (1 : Int32) z_9 hz_10 _ _ _ hP hD hS (lv_sub hl [4, 5, 3, 2, 1, 0] rfl) (fun H locs ls hP hD hS hl => ?_)
  refine lv_iload_n hx hb dX3_answering_83 rfl (lv_at hl 0 rfl) ?_
  have h := Option.some.inj h
  subst h
  rw [hQX]
  exact W.iret (v := z_9) hx hb hr (fun t ht hW => ⟨⟨z_9, S, rfl, ⟨rfl, rfl⟩, qm_en ht hP hD⟩, hS.F ht⟩) hS.2.2 dX3_answering_84
noncomputable def fX3_add (S : qm_S) (k : Nat) (p0 : Int32) : Option (qm_S) :=
  Option.bind (fX3_firstAbove S k p0) (fun z_1 => (if ((S.1 k).1) ≤ z_1 then some (qm_row (qm_row (qm_row S k (rw_ins (S.1 k) z_1 p0)) (4 + k) (rw_ins ((qm_row S k (rw_ins (S.1 k) z_1 p0)).1 (4 + k)) z_1 (1 : Int32))) (8 + k) (rw_ins ((qm_row (qm_row S k (rw_ins (S.1 k) z_1 p0)) (4 + k) (rw_ins ((qm_row S k (rw_ins (S.1 k) z_1 p0)).1 (4 + k)) z_1 (1 : Int32))).1 (8 + k)) z_1 (0 : Int32))) else some (qm_row (qm_row (qm_row S k (rw_ins (S.1 k) z_1 p0)) (4 + k) (rw_ins ((qm_row S k (rw_ins (S.1 k) z_1 p0)).1 (4 + k)) z_1 (1 : Int32))) (8 + k) (rw_ins ((qm_row (qm_row S k (rw_ins (S.1 k) z_1 p0)) (4 + k) (rw_ins ((qm_row S k (rw_ins (S.1 k) z_1 p0)).1 (4 + k)) z_1 (1 : Int32))).1 (8 + k)) z_1 (((rw_at (S.1 (4 + k)) z_1) + (rw_at (S.1 (8 + k)) z_1)) - (1 : Int32))))))
set_option maxHeartbeats 4000000 in
set_option maxRecDepth 100000 in
theorem kX3_add (l : Launch) (D : va_G) (A : Nat → Prop) (ad : Nat → Nat) (cI cQ : ClassId) (rest : va_W) (S : qm_S) (k : Nat) (hix : k < 4) (p0 : Int32) (z : qm_S) (h : fX3_add S k p0 = some z) : Met l yX3_add wsX3_add ({ frames := 4, cells := 0, slots := 0, locals := 87 }) (va_Pc [.ref (ad (6 + k)), .int p0] (qm_B D A (qm_T cI cQ) (qm_W ad cI cQ rest S))) (qm_Qv D A (qm_W ad cI cQ rest) z) 0 0 A := by
  refine Met.ofW (cc := cX3_add) (maxL := 4) (ret := none) (by decide) rfl ?_
  intro p e s m args below meth c s₁ B hml hv
  obtain ⟨rfl, hA, hP, hK, hD⟩ := hv
  have hx := B.exec
  have hb := B.bytes
  have hr := B.returns
  have hts := atoms_spec (ws := wsX3_add) B.pre
  have hown : s.vm.findClass RX3 = some m.cls := findClass_of_methodNamed B.named
  have hlocks := B.notSynchronized
  have hS : va_S A s.heap s.heap [] := va_S.rf
  have hl := lv_entry ([.ref (ad (6 + k)), .int p0]) (n := 4) (Nat.le_of_ble_eq_true rfl)
  rw [lg_entry_eq]
  generalize (lg_sl ([.ref (ad (6 + k)), .int p0]) ++ List.replicate (4 - (lg_sl ([.ref (ad (6 + k)), .int p0])).length) Slot.unset).toArray = ls at hl ⊢
  have hl : lv_has ls 4 [(0, .ref (ad (6 + k))), (1, .int p0)] := hl
  rw [fX3_add] at h
  refine lv_aload_n hx hb dX3_add_0 rfl (lv_at hl 0 rfl) ?_
  refine lv_iload_n hx hb dX3_add_1 rfl (lv_at hl 1 rfl) ?_
  obtain ⟨z_1, hz_2, h⟩ := qm_bind h
  refine va_calli (va_runV (As := [.int p0]) (rest := []) ⟨hx, hb, hml, hown, hts⟩ (kX3_firstAbove l D A ad cI cQ rest S k hix p0 z_1 hz_2) (cwV 1 hts gX3_add_X3_firstAbove rfl rfl rfl (by decide +kernel) ⟨Nat.le_of_ble_eq_true rfl, Nat.le_of_ble_eq_true rfl⟩) ⟨qm_blind, va_recv hK hP (ci := 3) (q0 := (6 + k)) rfl (qg_M hix), fun U hU hW => ⟨rfl, qm_go hA hS hP hK hD hU hW⟩⟩ rfl rfl hl.1 rfl (lv_room (Nat.le_of_ble_eq_true rfl)) dX3_add_2 ⟨Nat.le_of_ble_eq_true rfl, Nat.le_of_ble_eq_true rfl⟩) hS (fun _ _ h9 => h9) (fun _ h9 => h9) (fun v u t H1 locs1 ht hvm hw hB hz1 hk1 hS => ?_)
  obtain ⟨hw1, hw2⟩ := hw
  have hw1 : z_1 = v := hw1.symm
  have hw2 : S = u := hw2.symm
  subst hw1
  subst hw2
  obtain ⟨hP, hD⟩ := qm_bk ht hB
  refine lv_istore_n (lv' := [(2, .int z_1), (0, .ref (ad (6 + k))), (1, .int p0)]) hx hb dX3_add_5 rfl hl (by decide) rfl (fun ls hl => ?_)
  refine lv_iload_n hx hb dX3_add_6 rfl (lv_at hl 0 rfl) ?_
  refine lv_aload_n hx hb dX3_add_7 rfl (lv_at hl 1 rfl) ?_
  refine va_calli (va_runV (As := []) (rest := [.int z_1]) ⟨hx, hb, hml, hown, hts⟩ (nX3_length l D A ad cI cQ rest S k hix) (cwV 0 hts gX3_add_X3_length rfl rfl rfl (by decide +kernel) ⟨Nat.le_of_ble_eq_true rfl, Nat.le_of_ble_eq_true rfl⟩) ⟨qm_blind, va_recv hK hP (ci := 3) (q0 := (6 + k)) rfl (qg_M hix), fun U hU hW => ⟨rfl, qm_go hA hS hP hK hD hU hW⟩⟩ rfl rfl hl.1 rfl (lv_room (Nat.le_of_ble_eq_true rfl)) dX3_add_8 ⟨Nat.le_of_ble_eq_true rfl, Nat.le_of_ble_eq_true rfl⟩) hS (fun _ _ h9 => h9) (fun _ h9 => h9) (fun v u t H1 locs1 ht hvm hw hB hz1 hk1 hS => ?_)
  obtain ⟨hw1, hw2⟩ := hw
  have hw1 : ((S.1 k).1) = v := hw1.symm
  have hw2 : S = u := hw2.symm
  subst hw1
  subst hw2
  obtain ⟨hP, hD⟩ := qm_bk ht hB
  refine lv_icmp_ge (tgt := 24) hx hb dX3_add_11 (by decide) (fun c_3 => ?_) (fun c_3 => ?_)
  · rw [if_pos c_3] at h
    refine lv_iconst (v := (0 : Int32)) hx hb dX3_add_24 (by decide) ?_
    refine lv_istore_n (lv' := [(3, .int (0 : Int32)), (2, .int z_1), (0, .ref (ad (6 + k))), (1, .int p0)]) hx hb dX3_add_25 rfl hl (by decide) rfl (fun ls hl => ?_)
    refine lv_aload_n hx hb dX3_add_26 rfl (lv_at hl 2 rfl) ?_
    refine va_get (D := D) (ci := 3) (v := .ref (ad (26 + k))) (C := RX3) (T := TX3) (N := 3) hx hb hts (by decide +kernel) hown hK hP (6 + k) (qg_M hix) rfl 0 (by decide) (hts (.fieldLink RX3 10 "QueueMiddles$MarkRow" "values" "LQueueMiddles$Row;") (by decide +kernel)) (fun _ h9 => h9) rfl dX3_add_27 ?_
    refine lv_iload_n hx hb dX3_add_30 rfl (lv_at hl 1 rfl) ?_
    refine lv_iload_n hx hb dX3_add_31 rfl (lv_at hl 3 rfl) ?_
    refine va_callv (va_runV (As := [.int z_1, .int p0]) (rest := []) ⟨hx, hb, hml, hown, hts⟩ (nX4_insert l D A ad cI cQ rest S k (qb_0 hix) z_1 p0) (cwV 2 hts gX3_add_X4_insert rfl rfl rfl (by decide +kernel) ⟨Nat.le_of_ble_eq_true rfl, Nat.le_of_ble_eq_true rfl⟩) ⟨qm_blind, va_recv hK hP (ci := 4) (q0 := (26 + k)) rfl (qg_R (qb_0 hix)), fun U hU hW => ⟨rfl, qm_go hA hS hP hK hD hU hW⟩⟩ rfl rfl hl.1 rfl (lv_room (Nat.le_of_ble_eq_true rfl)) dX3_add_32 ⟨Nat.le_of_ble_eq_true rfl, Nat.le_of_ble_eq_true rfl⟩) hS (fun _ _ h9 => h9) (fun _ h9 => h9) (fun u t H1 locs1 ht hvm hw hB hz1 hk1 hS => ?_)
    have hw : qm_row S k (rw_ins (S.1 k) z_1 p0) = u := hw.symm
    subst hw
    obtain ⟨hP, hD⟩ := qm_bk ht hB
    refine lv_aload_n hx hb dX3_add_35 rfl (lv_at hl 2 rfl) ?_
    refine va_get (D := D) (ci := 3) (v := .ref (ad (26 + (4 + k)))) (C := RX3) (T := TX3) (N := 3) hx hb hts (by decide +kernel) hown hK hP (6 + k) (qg_M hix) rfl 1 (by decide) (hts (.fieldLink RX3 16 "QueueMiddles$MarkRow" "gaps" "LQueueMiddles$Row;") (by decide +kernel)) (fun _ h9 => h9) rfl dX3_add_36 ?_
    refine lv_iload_n hx hb dX3_add_39 rfl (lv_at hl 1 rfl) ?_
    refine lv_iconst (v := (1 : Int32)) hx hb dX3_add_40 (by decide) ?_
    refine va_callv (va_runV (As := [.int z_1, .int (1 : Int32)]) (rest := []) ⟨hx, hb, hml, hown, hts⟩ (nX4_insert l D A ad cI cQ rest (qm_row S k (rw_ins (S.1 k) z_1 p0)) (4 + k) (qb_4 hix) z_1 (1 : Int32)) (cwV 2 hts gX3_add_X4_insert rfl rfl rfl (by decide +kernel) ⟨Nat.le_of_ble_eq_true rfl, Nat.le_of_ble_eq_true rfl⟩) ⟨qm_blind, va_recv hK hP (ci := 4) (q0 := (26 + (4 + k))) rfl (qg_R (qb_4 hix)), fun U hU hW => ⟨rfl, qm_go hA hS hP hK hD hU hW⟩⟩ rfl rfl hl.1 rfl (lv_room (Nat.le_of_ble_eq_true rfl)) dX3_add_41 ⟨Nat.le_of_ble_eq_true rfl, Nat.le_of_ble_eq_true rfl⟩) hS (fun _ _ h9 => h9) (fun _ h9 => h9) (fun u t H1 locs1 ht hvm hw hB hz1 hk1 hS => ?_)
    have hw : qm_row (qm_row S k (rw_ins (S.1 k) z_1 p0)) (4 + k) (rw_ins ((qm_row S k (rw_ins (S.1 k) z_1 p0)).1 (4 + k)) z_1 (1 : Int32)) = u := hw.symm
    subst hw
    obtain ⟨hP, hD⟩ := qm_bk ht hB
    refine lv_aload_n hx hb dX3_add_44 rfl (lv_at hl 2 rfl) ?_
    refine va_get (D := D) (ci := 3) (v := .ref (ad (26 + (8 + k)))) (C := RX3) (T := TX3) (N := 3) hx hb hts (by decide +kernel) hown hK hP (6 + k) (qg_M hix) rfl 2 (by decide) (hts (.fieldLink RX3 19 "QueueMiddles$MarkRow" "spreads" "LQueueMiddles$Row;") (by decide +kernel)) (fun _ h9 => h9) rfl dX3_add_45 ?_
    refine lv_iload_n hx hb dX3_add_48 rfl (lv_at hl 1 rfl) ?_
    refine lv_iload_n hx hb dX3_add_49 rfl (lv_at hl 0 rfl) ?_
    refine va_callv (va_runV (As := [.int z_1, .int (0 : Int32)]) (rest := []) ⟨hx, hb, hml, hown, hts⟩ (nX4_insert l D A ad cI cQ rest (qm_row (qm_row S k (rw_ins (S.1 k) z_1 p0)) (4 + k) (rw_ins ((qm_row S k (rw_ins (S.1 k) z_1 p0)).1 (4 + k)) z_1 (1 : Int32))) (8 + k) (qb_8 hix) z_1 (0 : Int32)) (cwV 2 hts gX3_add_X4_insert rfl rfl rfl (by decide +kernel) ⟨Nat.le_of_ble_eq_true rfl, Nat.le_of_ble_eq_true rfl⟩) ⟨qm_blind, va_recv hK hP (ci := 4) (q0 := (26 + (8 + k))) rfl (qg_R (qb_8 hix)), fun U hU hW => ⟨rfl, qm_go hA hS hP hK hD hU hW⟩⟩ rfl rfl hl.1 rfl (lv_room (Nat.le_of_ble_eq_true rfl)) dX3_add_50 ⟨Nat.le_of_ble_eq_true rfl, Nat.le_of_ble_eq_true rfl⟩) hS (fun _ _ h9 => h9) (fun _ h9 => h9) (fun u t H1 locs1 ht hvm hw hB hz1 hk1 hS => ?_)
    have hw : qm_row (qm_row (qm_row S k (rw_ins (S.1 k) z_1 p0)) (4 + k) (rw_ins ((qm_row S k (rw_ins (S.1 k) z_1 p0)).1 (4 + k)) z_1 (1 : Int32))) (8 + k) (rw_ins ((qm_row (qm_row S k (rw_ins (S.1 k) z_1 p0)) (4 + k) (rw_ins ((qm_row S k (rw_ins (S.1 k) z_1 p0)).1 (4 + k)) z_1 (1 : Int32))).1 (8 + k)) z_1 (0 : Int32)) = u := hw.symm
    subst hw
    obtain ⟨hP, hD⟩ := qm_bk ht hB
    have h := Option.some.inj h
    subst h
    exact W.vret hx hb hr (fun t ht hW => ⟨⟨qm_row (qm_row (qm_row S k (rw_ins (S.1 k) z_1 p0)) (4 + k) (rw_ins ((qm_row S k (rw_ins (S.1 k) z_1 p0)).1 (4 + k)) z_1 (1 : Int32))) (8 + k) (rw_ins ((qm_row (qm_row S k (rw_ins (S.1 k) z_1 p0)) (4 + k) (rw_ins ((qm_row S k (rw_ins (S.1 k) z_1 p0)).1 (4 + k)) z_1 (1 : Int32))).1 (8 + k)) z_1 (0 : Int32)), rfl, rfl, qm_en ht hP hD⟩, hS.F ht⟩) hS.2.2 dX3_add_53
  · rw [if_neg c_3] at h
    refine lv_aload_n hx hb dX3_add_14 rfl (lv_at hl 1 rfl) ?_
    refine lv_iload_n hx hb dX3_add_15 rfl (lv_at hl 0 rfl) ?_
    refine va_calli (va_runV (As := [.int z_1]) (rest := []) ⟨hx, hb, hml, hown, hts⟩ (nX3_widthOf l D A ad cI cQ rest S k hix z_1) (cwV 1 hts gX3_add_X3_widthOf rfl rfl rfl (by decide +kernel) ⟨Nat.le_of_ble_eq_true rfl, Nat.le_of_ble_eq_true rfl⟩) ⟨qm_blind, va_recv hK hP (ci := 3) (q0 := (6 + k)) rfl (qg_M hix), fun U hU hW => ⟨rfl, qm_go hA hS hP hK hD hU hW⟩⟩ rfl rfl hl.1 rfl (lv_room (Nat.le_of_ble_eq_true rfl)) dX3_add_16 ⟨Nat.le_of_ble_eq_true rfl, Nat.le_of_ble_eq_true rfl⟩) hS (fun _ _ h9 => h9) (fun _ h9 => h9) (fun v u t H1 locs1 ht hvm hw hB hz1 hk1 hS => ?_)
    obtain ⟨hw1, hw2⟩ := hw
    have hw1 : ((rw_at (S.1 (4 + k)) z_1) + (rw_at (S.1 (8 + k)) z_1)) = v := hw1.symm
    have hw2 : S = u := hw2.symm
    subst hw1
    subst hw2
    obtain ⟨hP, hD⟩ := qm_bk ht hB
    refine lv_iconst (v := (1 : Int32)) hx hb dX3_add_19 (by decide) ?_
    refine lv_isub hx hb dX3_add_20 ?_
    refine lv_goto (tgt := 25) hx hb dX3_add_21 (by decide) ?_
    refine lv_istore_n (lv' := [(3, .int (((rw_at (S.1 (4 + k)) z_1) + (rw_at (S.1 (8 + k)) z_1)) - (1 : Int32))), (2, .int z_1), (0, .ref (ad (6 + k))), (1, .int p0)]) hx hb dX3_add_25 rfl hl (by decide) rfl (fun ls hl => ?_)
    refine lv_aload_n hx hb dX3_add_26 rfl (lv_at hl 2 rfl) ?_
    refine va_get (D := D) (ci := 3) (v := .ref (ad (26 + k))) (C := RX3) (T := TX3) (N := 3) hx hb hts (by decide +kernel) hown hK hP (6 + k) (qg_M hix) rfl 0 (by decide) (hts (.fieldLink RX3 10 "QueueMiddles$MarkRow" "values" "LQueueMiddles$Row;") (by decide +kernel)) (fun _ h9 => h9) rfl dX3_add_27 ?_
    refine lv_iload_n hx hb dX3_add_30 rfl (lv_at hl 1 rfl) ?_
    refine lv_iload_n hx hb dX3_add_31 rfl (lv_at hl 3 rfl) ?_
    refine va_callv (va_runV (As := [.int z_1, .int p0]) (rest := []) ⟨hx, hb, hml, hown, hts⟩ (nX4_insert l D A ad cI cQ rest S k (qb_0 hix) z_1 p0) (cwV 2 hts gX3_add_X4_insert rfl rfl rfl (by decide +kernel) ⟨Nat.le_of_ble_eq_true rfl, Nat.le_of_ble_eq_true rfl⟩) ⟨qm_blind, va_recv hK hP (ci := 4) (q0 := (26 + k)) rfl (qg_R (qb_0 hix)), fun U hU hW => ⟨rfl, qm_go hA hS hP hK hD hU hW⟩⟩ rfl rfl hl.1 rfl (lv_room (Nat.le_of_ble_eq_true rfl)) dX3_add_32 ⟨Nat.le_of_ble_eq_true rfl, Nat.le_of_ble_eq_true rfl⟩) hS (fun _ _ h9 => h9) (fun _ h9 => h9) (fun u t H1 locs1 ht hvm hw hB hz1 hk1 hS => ?_)
    have hw : qm_row S k (rw_ins (S.1 k) z_1 p0) = u := hw.symm
    subst hw
    obtain ⟨hP, hD⟩ := qm_bk ht hB
    refine lv_aload_n hx hb dX3_add_35 rfl (lv_at hl 2 rfl) ?_
    refine va_get (D := D) (ci := 3) (v := .ref (ad (26 + (4 + k)))) (C := RX3) (T := TX3) (N := 3) hx hb hts (by decide +kernel) hown hK hP (6 + k) (qg_M hix) rfl 1 (by decide) (hts (.fieldLink RX3 16 "QueueMiddles$MarkRow" "gaps" "LQueueMiddles$Row;") (by decide +kernel)) (fun _ h9 => h9) rfl dX3_add_36 ?_
    refine lv_iload_n hx hb dX3_add_39 rfl (lv_at hl 1 rfl) ?_
    refine lv_iconst (v := (1 : Int32)) hx hb dX3_add_40 (by decide) ?_
    refine va_callv (va_runV (As := [.int z_1, .int (1 : Int32)]) (rest := []) ⟨hx, hb, hml, hown, hts⟩ (nX4_insert l D A ad cI cQ rest (qm_row S k (rw_ins (S.1 k) z_1 p0)) (4 + k) (qb_4 hix) z_1 (1 : Int32)) (cwV 2 hts gX3_add_X4_insert rfl rfl rfl (by decide +kernel) ⟨Nat.le_of_ble_eq_true rfl, Nat.le_of_ble_eq_true rfl⟩) ⟨qm_blind, va_recv hK hP (ci := 4) (q0 := (26 + (4 + k))) rfl (qg_R (qb_4 hix)), fun U hU hW => ⟨rfl, qm_go hA hS hP hK hD hU hW⟩⟩ rfl rfl hl.1 rfl (lv_room (Nat.le_of_ble_eq_true rfl)) dX3_add_41 ⟨Nat.le_of_ble_eq_true rfl, Nat.le_of_ble_eq_true rfl⟩) hS (fun _ _ h9 => h9) (fun _ h9 => h9) (fun u t H1 locs1 ht hvm hw hB hz1 hk1 hS => ?_)
    have hw : qm_row (qm_row S k (rw_ins (S.1 k) z_1 p0)) (4 + k) (rw_ins ((qm_row S k (rw_ins (S.1 k) z_1 p0)).1 (4 + k)) z_1 (1 : Int32)) = u := hw.symm
    subst hw
    obtain ⟨hP, hD⟩ := qm_bk ht hB
    refine lv_aload_n hx hb dX3_add_44 rfl (lv_at hl 2 rfl) ?_
    refine va_get (D := D) (ci := 3) (v := .ref (ad (26 + (8 + k)))) (C := RX3) (T := TX3) (N := 3) hx hb hts (by decide +kernel) hown hK hP (6 + k) (qg_M hix) rfl 2 (by decide) (hts (.fieldLink RX3 19 "QueueMiddles$MarkRow" "spreads" "LQueueMiddles$Row;") (by decide +kernel)) (fun _ h9 => h9) rfl dX3_add_45 ?_
    refine lv_iload_n hx hb dX3_add_48 rfl (lv_at hl 1 rfl) ?_
    refine lv_iload_n hx hb dX3_add_49 rfl (lv_at hl 0 rfl) ?_
    refine va_callv (va_runV (As := [.int z_1, .int (((rw_at (S.1 (4 + k)) z_1) + (rw_at (S.1 (8 + k)) z_1)) - (1 : Int32))]) (rest := []) ⟨hx, hb, hml, hown, hts⟩ (nX4_insert l D A ad cI cQ rest (qm_row (qm_row S k (rw_ins (S.1 k) z_1 p0)) (4 + k) (rw_ins ((qm_row S k (rw_ins (S.1 k) z_1 p0)).1 (4 + k)) z_1 (1 : Int32))) (8 + k) (qb_8 hix) z_1 (((rw_at (S.1 (4 + k)) z_1) + (rw_at (S.1 (8 + k)) z_1)) - (1 : Int32))) (cwV 2 hts gX3_add_X4_insert rfl rfl rfl (by decide +kernel) ⟨Nat.le_of_ble_eq_true rfl, Nat.le_of_ble_eq_true rfl⟩) ⟨qm_blind, va_recv hK hP (ci := 4) (q0 := (26 + (8 + k))) rfl (qg_R (qb_8 hix)), fun U hU hW => ⟨rfl, qm_go hA hS hP hK hD hU hW⟩⟩ rfl rfl hl.1 rfl (lv_room (Nat.le_of_ble_eq_true rfl)) dX3_add_50 ⟨Nat.le_of_ble_eq_true rfl, Nat.le_of_ble_eq_true rfl⟩) hS (fun _ _ h9 => h9) (fun _ h9 => h9) (fun u t H1 locs1 ht hvm hw hB hz1 hk1 hS => ?_)
    have hw : qm_row (qm_row (qm_row S k (rw_ins (S.1 k) z_1 p0)) (4 + k) (rw_ins ((qm_row S k (rw_ins (S.1 k) z_1 p0)).1 (4 + k)) z_1 (1 : Int32))) (8 + k) (rw_ins ((qm_row (qm_row S k (rw_ins (S.1 k) z_1 p0)) (4 + k) (rw_ins ((qm_row S k (rw_ins (S.1 k) z_1 p0)).1 (4 + k)) z_1 (1 : Int32))).1 (8 + k)) z_1 (((rw_at (S.1 (4 + k)) z_1) + (rw_at (S.1 (8 + k)) z_1)) - (1 : Int32))) = u := hw.symm
    subst hw
    obtain ⟨hP, hD⟩ := qm_bk ht hB
    have h := Option.some.inj h
    subst h
    exact W.vret hx hb hr (fun t ht hW => ⟨⟨qm_row (qm_row (qm_row S k (rw_ins (S.1 k) z_1 p0)) (4 + k) (rw_ins ((qm_row S k (rw_ins (S.1 k) z_1 p0)).1 (4 + k)) z_1 (1 : Int32))) (8 + k) (rw_ins ((qm_row (qm_row S k (rw_ins (S.1 k) z_1 p0)) (4 + k) (rw_ins ((qm_row S k (rw_ins (S.1 k) z_1 p0)).1 (4 + k)) z_1 (1 : Int32))).1 (8 + k)) z_1 (((rw_at (S.1 (4 + k)) z_1) + (rw_at (S.1 (8 + k)) z_1)) - (1 : Int32))), rfl, rfl, qm_en ht hP hD⟩, hS.F ht⟩) hS.2.2 dX3_add_53
noncomputable def fX3_write (S : qm_S) (k : Nat) (p0 : Int32) (p1 : Int32) (p2 : Int32) (p3 : Int32) : Option (qm_S) :=
  some (qm_row (qm_row (qm_row S k (rw_put (S.1 k) p0 p1)) (4 + k) (rw_put ((qm_row S k (rw_put (S.1 k) p0 p1)).1 (4 + k)) p0 p2)) (8 + k) (rw_put ((qm_row (qm_row S k (rw_put (S.1 k) p0 p1)) (4 + k) (rw_put ((qm_row S k (rw_put (S.1 k) p0 p1)).1 (4 + k)) p0 p2)).1 (8 + k)) p0 p3))
def mr_wr (S : qm_S) (k : Nat) (p v g s : Int32) : qm_S := qm_row (qm_row (qm_row S k (rw_put (S.1 k) p v)) (4 + k) (rw_put (S.1 (4 + k)) p g)) (8 + k) (rw_put (S.1 (8 + k)) p s)
set_option maxHeartbeats 4000000 in
set_option maxRecDepth 100000 in
theorem kX3_write (l : Launch) (D : va_G) (A : Nat → Prop) (ad : Nat → Nat) (cI cQ : ClassId) (rest : va_W) (S : qm_S) (k : Nat) (hix : k < 4) (p0 : Int32) (p1 : Int32) (p2 : Int32) (p3 : Int32) (z : qm_S) (h : fX3_write S k p0 p1 p2 p3 = some z) : Met l yX3_write wsX3_write ({ frames := 2, cells := 0, slots := 0, locals := 43 }) (va_Pc [.ref (ad (6 + k)), .int p0, .int p1, .int p2, .int p3] (qm_B D A (qm_T cI cQ) (qm_W ad cI cQ rest S))) (qm_Qv D A (qm_W ad cI cQ rest) z) 0 0 A := by
  refine Met.ofW (cc := cX3_write) (maxL := 5) (ret := none) (by decide) rfl ?_
  intro p e s m args below meth c s₁ B hml hv
  obtain ⟨rfl, hA, hP, hK, hD⟩ := hv
  have hx := B.exec
  have hb := B.bytes
  have hr := B.returns
  have hts := atoms_spec (ws := wsX3_write) B.pre
  have hown : s.vm.findClass RX3 = some m.cls := findClass_of_methodNamed B.named
  have hlocks := B.notSynchronized
  have hS : va_S A s.heap s.heap [] := va_S.rf
  have hl := lv_entry ([.ref (ad (6 + k)), .int p0, .int p1, .int p2, .int p3]) (n := 5) (Nat.le_of_ble_eq_true rfl)
  rw [lg_entry_eq]
  generalize (lg_sl ([.ref (ad (6 + k)), .int p0, .int p1, .int p2, .int p3]) ++ List.replicate (5 - (lg_sl ([.ref (ad (6 + k)), .int p0, .int p1, .int p2, .int p3])).length) Slot.unset).toArray = ls at hl ⊢
  have hl : lv_has ls 5 [(0, .ref (ad (6 + k))), (1, .int p0), (2, .int p1), (3, .int p2), (4, .int p3)] := hl
  rw [fX3_write] at h
  refine lv_aload_n hx hb dX3_write_0 rfl (lv_at hl 0 rfl) ?_
  refine va_get (D := D) (ci := 3) (v := .ref (ad (26 + k))) (C := RX3) (T := TX3) (N := 3) hx hb hts (by decide +kernel) hown hK hP (6 + k) (qg_M hix) rfl 0 (by decide) (hts (.fieldLink RX3 10 "QueueMiddles$MarkRow" "values" "LQueueMiddles$Row;") (by decide +kernel)) (fun _ h9 => h9) rfl dX3_write_1 ?_
  refine lv_iload_n hx hb dX3_write_4 rfl (lv_at hl 1 rfl) ?_
  refine lv_iload_n hx hb dX3_write_5 rfl (lv_at hl 2 rfl) ?_
  refine va_callv (va_runV (As := [.int p0, .int p1]) (rest := []) ⟨hx, hb, hml, hown, hts⟩ (nX4_put l D A ad cI cQ rest S k (qb_0 hix) p0 p1) (cwV 2 hts gX3_write_X4_put rfl rfl rfl (by decide +kernel) ⟨Nat.le_of_ble_eq_true rfl, Nat.le_of_ble_eq_true rfl⟩) ⟨qm_blind, va_recv hK hP (ci := 4) (q0 := (26 + k)) rfl (qg_R (qb_0 hix)), fun U hU hW => ⟨rfl, qm_go hA hS hP hK hD hU hW⟩⟩ rfl rfl hl.1 rfl (lv_room (Nat.le_of_ble_eq_true rfl)) dX3_write_6 ⟨Nat.le_of_ble_eq_true rfl, Nat.le_of_ble_eq_true rfl⟩) hS (fun _ _ h9 => h9) (fun _ h9 => h9) (fun u t H1 locs1 ht hvm hw hB hz1 hk1 hS => ?_)
  have hw : qm_row S k (rw_put (S.1 k) p0 p1) = u := hw.symm
  subst hw
  obtain ⟨hP, hD⟩ := qm_bk ht hB
  refine lv_aload_n hx hb dX3_write_9 rfl (lv_at hl 0 rfl) ?_
  refine va_get (D := D) (ci := 3) (v := .ref (ad (26 + (4 + k)))) (C := RX3) (T := TX3) (N := 3) hx hb hts (by decide +kernel) hown hK hP (6 + k) (qg_M hix) rfl 1 (by decide) (hts (.fieldLink RX3 16 "QueueMiddles$MarkRow" "gaps" "LQueueMiddles$Row;") (by decide +kernel)) (fun _ h9 => h9) rfl dX3_write_10 ?_
  refine lv_iload_n hx hb dX3_write_13 rfl (lv_at hl 1 rfl) ?_
  refine lv_iload_n hx hb dX3_write_14 rfl (lv_at hl 3 rfl) ?_
  refine va_callv (va_runV (As := [.int p0, .int p2]) (rest := []) ⟨hx, hb, hml, hown, hts⟩ (nX4_put l D A ad cI cQ rest (qm_row S k (rw_put (S.1 k) p0 p1)) (4 + k) (qb_4 hix) p0 p2) (cwV 2 hts gX3_write_X4_put rfl rfl rfl (by decide +kernel) ⟨Nat.le_of_ble_eq_true rfl, Nat.le_of_ble_eq_true rfl⟩) ⟨qm_blind, va_recv hK hP (ci := 4) (q0 := (26 + (4 + k))) rfl (qg_R (qb_4 hix)), fun U hU hW => ⟨rfl, qm_go hA hS hP hK hD hU hW⟩⟩ rfl rfl hl.1 rfl (lv_room (Nat.le_of_ble_eq_true rfl)) dX3_write_15 ⟨Nat.le_of_ble_eq_true rfl, Nat.le_of_ble_eq_true rfl⟩) hS (fun _ _ h9 => h9) (fun _ h9 => h9) (fun u t H1 locs1 ht hvm hw hB hz1 hk1 hS => ?_)
  have hw : qm_row (qm_row S k (rw_put (S.1 k) p0 p1)) (4 + k) (rw_put ((qm_row S k (rw_put (S.1 k) p0 p1)).1 (4 + k)) p0 p2) = u := hw.symm
  subst hw
  obtain ⟨hP, hD⟩ := qm_bk ht hB
  refine lv_aload_n hx hb dX3_write_18 rfl (lv_at hl 0 rfl) ?_
  refine va_get (D := D) (ci := 3) (v := .ref (ad (26 + (8 + k)))) (C := RX3) (T := TX3) (N := 3) hx hb hts (by decide +kernel) hown hK hP (6 + k) (qg_M hix) rfl 2 (by decide) (hts (.fieldLink RX3 19 "QueueMiddles$MarkRow" "spreads" "LQueueMiddles$Row;") (by decide +kernel)) (fun _ h9 => h9) rfl dX3_write_19 ?_
  refine lv_iload_n hx hb dX3_write_22 rfl (lv_at hl 1 rfl) ?_
  refine lv_iload hx hb dX3_write_23 (lv_at hl 4 rfl) ?_
  refine va_callv (va_runV (As := [.int p0, .int p3]) (rest := []) ⟨hx, hb, hml, hown, hts⟩ (nX4_put l D A ad cI cQ rest (qm_row (qm_row S k (rw_put (S.1 k) p0 p1)) (4 + k) (rw_put ((qm_row S k (rw_put (S.1 k) p0 p1)).1 (4 + k)) p0 p2)) (8 + k) (qb_8 hix) p0 p3) (cwV 2 hts gX3_write_X4_put rfl rfl rfl (by decide +kernel) ⟨Nat.le_of_ble_eq_true rfl, Nat.le_of_ble_eq_true rfl⟩) ⟨qm_blind, va_recv hK hP (ci := 4) (q0 := (26 + (8 + k))) rfl (qg_R (qb_8 hix)), fun U hU hW => ⟨rfl, qm_go hA hS hP hK hD hU hW⟩⟩ rfl rfl hl.1 rfl (lv_room (Nat.le_of_ble_eq_true rfl)) dX3_write_25 ⟨Nat.le_of_ble_eq_true rfl, Nat.le_of_ble_eq_true rfl⟩) hS (fun _ _ h9 => h9) (fun _ h9 => h9) (fun u t H1 locs1 ht hvm hw hB hz1 hk1 hS => ?_)
  have hw : qm_row (qm_row (qm_row S k (rw_put (S.1 k) p0 p1)) (4 + k) (rw_put ((qm_row S k (rw_put (S.1 k) p0 p1)).1 (4 + k)) p0 p2)) (8 + k) (rw_put ((qm_row (qm_row S k (rw_put (S.1 k) p0 p1)) (4 + k) (rw_put ((qm_row S k (rw_put (S.1 k) p0 p1)).1 (4 + k)) p0 p2)).1 (8 + k)) p0 p3) = u := hw.symm
  subst hw
  obtain ⟨hP, hD⟩ := qm_bk ht hB
  have h := Option.some.inj h
  subst h
  exact W.vret hx hb hr (fun t ht hW => ⟨⟨qm_row (qm_row (qm_row S k (rw_put (S.1 k) p0 p1)) (4 + k) (rw_put ((qm_row S k (rw_put (S.1 k) p0 p1)).1 (4 + k)) p0 p2)) (8 + k) (rw_put ((qm_row (qm_row S k (rw_put (S.1 k) p0 p1)) (4 + k) (rw_put ((qm_row S k (rw_put (S.1 k) p0 p1)).1 (4 + k)) p0 p2)).1 (8 + k)) p0 p3), rfl, rfl, qm_en ht hP hD⟩, hS.F ht⟩) hS.2.2 dX3_write_28
theorem eX3_write (S : qm_S) (k : Nat) (p0 : Int32) (p1 : Int32) (p2 : Int32) (p3 : Int32) : fX3_write S k p0 p1 p2 p3 = some (mr_wr S k p0 p1 p2 p3) := by
  unfold fX3_write mr_wr
  rw [qm_row_ne _ _ (show 4 + k ≠ k by omega), qm_row_ne _ _ (show 8 + k ≠ 4 + k by omega), qm_row_ne _ _ (show 8 + k ≠ k by omega)]
theorem nX3_write (l : Launch) (D : va_G) (A : Nat → Prop) (ad : Nat → Nat) (cI cQ : ClassId) (rest : va_W) (S : qm_S) (k : Nat) (hix : k < 4) (p0 : Int32) (p1 : Int32) (p2 : Int32) (p3 : Int32) : Met l yX3_write wsX3_write ({ frames := 2, cells := 0, slots := 0, locals := 43 }) (va_Pc [.ref (ad (6 + k)), .int p0, .int p1, .int p2, .int p3] (qm_B D A (qm_T cI cQ) (qm_W ad cI cQ rest S))) (qm_Qv D A (qm_W ad cI cQ rest) (mr_wr S k p0 p1 p2 p3)) 0 0 A :=
  kX3_write l D A ad cI cQ rest S k hix p0 p1 p2 p3 _ (eX3_write S k p0 p1 p2 p3)
noncomputable def fX3_dropWithoutGap_L4 (n0 : Nat) : Nat → Int32 → Int32 → qm_S → Option (Int32 × qm_S)
  | 0, _, _, _ => none
  | fuel + 1, v1, v2, S =>
    (if ((S.1 n0).1) ≤ v2 then some (v1, S) else (if (rw_at (S.1 (4 + n0)) v2) ≤ 0 then fX3_dropWithoutGap_L4 n0 fuel v1 (v2 + (1 : Int32)) S else fX3_dropWithoutGap_L4 n0 fuel (v1 + (1 : Int32)) (v2 + (1 : Int32)) (mr_wr S n0 v1 (rw_at (S.1 n0) v2) (rw_at (S.1 (4 + n0)) v2) (rw_at (S.1 (8 + n0)) v2))))
noncomputable def fX3_dropWithoutGap (S : qm_S) (k : Nat) : Option (qm_S) :=
  Option.bind (fX3_dropWithoutGap_L4 k qm_F (0 : Int32) (0 : Int32) S) (fun z_5 => some (mr_cut z_5.2 k z_5.1))
set_option maxHeartbeats 4000000 in
set_option maxRecDepth 100000 in
theorem kX3_dropWithoutGap (l : Launch) (D : va_G) (A : Nat → Prop) (ad : Nat → Nat) (cI cQ : ClassId) (rest : va_W) (S : qm_S) (k : Nat) (hix : k < 4) (z : qm_S) (h : fX3_dropWithoutGap S k = some z) : Met l yX3_dropWithoutGap wsX3_dropWithoutGap ({ frames := 3, cells := 0, slots := 0, locals := 67 }) (va_Pc [.ref (ad (6 + k))] (qm_B D A (qm_T cI cQ) (qm_W ad cI cQ rest S))) (qm_Qv D A (qm_W ad cI cQ rest) z) 0 0 A := by
  refine Met.ofW (cc := cX3_dropWithoutGap) (maxL := 3) (ret := none) (by decide) rfl ?_
  intro p e s m args below meth c s₁ B hml hv
  obtain ⟨rfl, hA, hP, hK, hD⟩ := hv
  have hx := B.exec
  have hb := B.bytes
  have hr := B.returns
  have hts := atoms_spec (ws := wsX3_dropWithoutGap) B.pre
  have hown : s.vm.findClass RX3 = some m.cls := findClass_of_methodNamed B.named
  have hlocks := B.notSynchronized
  have hS : va_S A s.heap s.heap [] := va_S.rf
  have hl := lv_entry ([.ref (ad (6 + k))]) (n := 3) (Nat.le_of_ble_eq_true rfl)
  rw [lg_entry_eq]
  generalize (lg_sl ([.ref (ad (6 + k))]) ++ List.replicate (3 - (lg_sl ([.ref (ad (6 + k))])).length) Slot.unset).toArray = ls at hl ⊢
  have hl : lv_has ls 3 [(0, .ref (ad (6 + k)))] := hl
  obtain ⟨QX, hQX⟩ : ∃ q, q = MQ below (qm_Qv D A (qm_W ad cI cQ rest) z) ([.ref (ad (6 + k))] : List Value).toArray s 0 0 A := ⟨_, rfl⟩
  rw [← hQX]
  rw [fX3_dropWithoutGap] at h
  refine lv_iconst (v := (0 : Int32)) hx hb dX3_dropWithoutGap_0 (by decide) ?_
  refine lv_istore_n (lv' := [(1, .int (0 : Int32)), (0, .ref (ad (6 + k)))]) hx hb dX3_dropWithoutGap_1 rfl hl (by decide) rfl (fun ls hl => ?_)
  refine lv_iconst (v := (0 : Int32)) hx hb dX3_dropWithoutGap_2 (by decide) ?_
  refine lv_istore_n (lv' := [(2, .int (0 : Int32)), (1, .int (0 : Int32)), (0, .ref (ad (6 + k)))]) hx hb dX3_dropWithoutGap_3 rfl hl (by decide) rfl (fun ls hl => ?_)
  have loop_2 : ∀ (fuel : Nat) (v1_1 v2_1 : Int32) (S_1 : qm_S) (z : Int32 × qm_S), fX3_dropWithoutGap_L4 k fuel v1_1 v2_1 S_1 = some z → ∀ (H : Heap) (locs : List Loc) (ls : Array Slot), va_P D vwCl (qm_W ad cI cQ rest S_1) H → va_D A (qm_W ad cI cQ rest S_1) → va_S A s.heap H locs → lv_has ls 3 [(0, .ref (ad (6 + k))), (1, .int v1_1), (2, .int v2_1)] → (∀ (H : Heap) (locs : List Loc) (ls : Array Slot), va_P D vwCl (qm_W ad cI cQ rest z.2) H → va_D A (qm_W ad cI cQ rest z.2) → va_S A s.heap H locs → lv_has ls 3 [(0, .ref (ad (6 + k))), (1, .int z.1)] → W p l e ({ frames := 3, cells := 0, slots := 0, locals := 67 } : Room) s m ([.ref (ad (6 + k))] : List Value).toArray below meth c H locs 0 0 QX (F0 m 61 ls [])) → W p l e ({ frames := 3, cells := 0, slots := 0, locals := 67 } : Room) s m ([.ref (ad (6 + k))] : List Value).toArray below meth c H locs 0 0 QX (F0 m 4 ls []) := by
    intro fuel
    induction fuel with
    | zero =>
      intro v1_1 v2_1 S_1 z h
      rw [fX3_dropWithoutGap_L4] at h
      cases h
    | succ fuel ih =>
      intro v1_1 v2_1 S_1 z h H locs ls hP hD hS hl kex
      rw [fX3_dropWithoutGap_L4] at h
      refine lv_iload_n hx hb dX3_dropWithoutGap_4 rfl (lv_at hl 2 rfl) ?_
      refine lv_aload_n hx hb dX3_dropWithoutGap_5 rfl (lv_at hl 0 rfl) ?_
      refine va_calli (va_runV (As := []) (rest := [.int v2_1]) ⟨hx, hb, hml, hown, hts⟩ (nX3_length l D A ad cI cQ rest S_1 k hix) (cwV 0 hts gX3_dropWithoutGap_X3_length rfl rfl rfl (by decide +kernel) ⟨Nat.le_of_ble_eq_true rfl, Nat.le_of_ble_eq_true rfl⟩) ⟨qm_blind, va_recv hK hP (ci := 3) (q0 := (6 + k)) rfl (qg_M hix), fun U hU hW => ⟨rfl, qm_go hA hS hP hK hD hU hW⟩⟩ rfl rfl hl.1 rfl (lv_room (Nat.le_of_ble_eq_true rfl)) dX3_dropWithoutGap_6 ⟨Nat.le_of_ble_eq_true rfl, Nat.le_of_ble_eq_true rfl⟩) hS (fun _ _ h9 => h9) (fun _ h9 => h9) (fun v u t H1 locs1 ht hvm hw hB hz1 hk1 hS => ?_)
      obtain ⟨hw1, hw2⟩ := hw
      have hw1 : ((S_1.1 k).1) = v := hw1.symm
      have hw2 : S_1 = u := hw2.symm
      subst hw1
      subst hw2
      obtain ⟨hP, hD⟩ := qm_bk ht hB
      refine lv_icmp_ge (tgt := 61) hx hb dX3_dropWithoutGap_9 (by decide) (fun c_3 => ?_) (fun c_3 => ?_)
      · rw [if_pos c_3] at h
        have h := Option.some.inj h
        subst h
        exact kex _ _ _ hP hD hS (lv_sub hl [0, 1] rfl)
      · rw [if_neg c_3] at h
        refine lv_aload_n hx hb dX3_dropWithoutGap_12 rfl (lv_at hl 0 rfl) ?_
        refine va_get (D := D) (ci := 3) (v := .ref (ad (26 + (4 + k)))) (C := RX3) (T := TX3) (N := 3) hx hb hts (by decide +kernel) hown hK hP (6 + k) (qg_M hix) rfl 1 (by decide) (hts (.fieldLink RX3 16 "QueueMiddles$MarkRow" "gaps" "LQueueMiddles$Row;") (by decide +kernel)) (fun _ h9 => h9) rfl dX3_dropWithoutGap_13 ?_
        refine lv_iload_n hx hb dX3_dropWithoutGap_16 rfl (lv_at hl 2 rfl) ?_
        refine va_calli (va_runV (As := [.int v2_1]) (rest := []) ⟨hx, hb, hml, hown, hts⟩ (nX4_at l D A ad cI cQ rest S_1 (4 + k) (qb_4 hix) v2_1) (cwV 1 hts gX3_dropWithoutGap_X4_at rfl rfl rfl (by decide +kernel) ⟨Nat.le_of_ble_eq_true rfl, Nat.le_of_ble_eq_true rfl⟩) ⟨qm_blind, va_recv hK hP (ci := 4) (q0 := (26 + (4 + k))) rfl (qg_R (qb_4 hix)), fun U hU hW => ⟨rfl, qm_go hA hS hP hK hD hU hW⟩⟩ rfl rfl hl.1 rfl (lv_room (Nat.le_of_ble_eq_true rfl)) dX3_dropWithoutGap_17 ⟨Nat.le_of_ble_eq_true rfl, Nat.le_of_ble_eq_true rfl⟩) hS (fun _ _ h9 => h9) (fun _ h9 => h9) (fun v u t H1 locs1 ht hvm hw hB hz1 hk1 hS => ?_)
        obtain ⟨hw1, hw2⟩ := hw
        have hw1 : rw_at (S_1.1 (4 + k)) v2_1 = v := hw1.symm
        have hw2 : S_1 = u := hw2.symm
        subst hw1
        subst hw2
        obtain ⟨hP, hD⟩ := qm_bk ht hB
        refine lv_if_le (tgt := 55) hx hb dX3_dropWithoutGap_20 (by decide) (fun c_4 => ?_) (fun c_4 => ?_)
        · rw [if_pos c_4] at h
          refine lv_iinc (v := v2_1 + (1 : Int32)) (lv' := [(2, .int (v2_1 + (1 : Int32))), (0, .ref (ad (6 + k))), (1, .int v1_1)]) hx hb dX3_dropWithoutGap_55 hl (k := 2) rfl rfl (by decide) rfl (fun ls hl => ?_)
          refine lv_goto (tgt := 4) hx hb dX3_dropWithoutGap_58 (by decide) ?_
          exact ih v1_1 (v2_1 + (1 : Int32)) S_1 z h _ _ _ hP hD hS (lv_sub hl [1, 2, 0] rfl) kex
        · rw [if_neg c_4] at h
          refine lv_aload_n hx hb dX3_dropWithoutGap_23 rfl (lv_at hl 0 rfl) ?_
          refine lv_iload_n hx hb dX3_dropWithoutGap_24 rfl (lv_at hl 1 rfl) ?_
          refine lv_aload_n hx hb dX3_dropWithoutGap_25 rfl (lv_at hl 0 rfl) ?_
          refine va_get (D := D) (ci := 3) (v := .ref (ad (26 + k))) (C := RX3) (T := TX3) (N := 3) hx hb hts (by decide +kernel) hown hK hP (6 + k) (qg_M hix) rfl 0 (by decide) (hts (.fieldLink RX3 10 "QueueMiddles$MarkRow" "values" "LQueueMiddles$Row;") (by decide +kernel)) (fun _ h9 => h9) rfl dX3_dropWithoutGap_26 ?_
          refine lv_iload_n hx hb dX3_dropWithoutGap_29 rfl (lv_at hl 2 rfl) ?_
          refine va_calli (va_runV (As := [.int v2_1]) (rest := [.int v1_1, .ref (ad (6 + k))]) ⟨hx, hb, hml, hown, hts⟩ (nX4_at l D A ad cI cQ rest S_1 k (qb_0 hix) v2_1) (cwV 1 hts gX3_dropWithoutGap_X4_at rfl rfl rfl (by decide +kernel) ⟨Nat.le_of_ble_eq_true rfl, Nat.le_of_ble_eq_true rfl⟩) ⟨qm_blind, va_recv hK hP (ci := 4) (q0 := (26 + k)) rfl (qg_R (qb_0 hix)), fun U hU hW => ⟨rfl, qm_go hA hS hP hK hD hU hW⟩⟩ rfl rfl hl.1 rfl (lv_room (Nat.le_of_ble_eq_true rfl)) dX3_dropWithoutGap_30 ⟨Nat.le_of_ble_eq_true rfl, Nat.le_of_ble_eq_true rfl⟩) hS (fun _ _ h9 => h9) (fun _ h9 => h9) (fun v u t H1 locs1 ht hvm hw hB hz1 hk1 hS => ?_)
          obtain ⟨hw1, hw2⟩ := hw
          have hw1 : rw_at (S_1.1 k) v2_1 = v := hw1.symm
          have hw2 : S_1 = u := hw2.symm
          subst hw1
          subst hw2
          obtain ⟨hP, hD⟩ := qm_bk ht hB
          refine lv_aload_n hx hb dX3_dropWithoutGap_33 rfl (lv_at hl 0 rfl) ?_
          refine va_get (D := D) (ci := 3) (v := .ref (ad (26 + (4 + k)))) (C := RX3) (T := TX3) (N := 3) hx hb hts (by decide +kernel) hown hK hP (6 + k) (qg_M hix) rfl 1 (by decide) (hts (.fieldLink RX3 16 "QueueMiddles$MarkRow" "gaps" "LQueueMiddles$Row;") (by decide +kernel)) (fun _ h9 => h9) rfl dX3_dropWithoutGap_34 ?_
          refine lv_iload_n hx hb dX3_dropWithoutGap_37 rfl (lv_at hl 2 rfl) ?_
          refine va_calli (va_runV (As := [.int v2_1]) (rest := [.int (rw_at (S_1.1 k) v2_1), .int v1_1, .ref (ad (6 + k))]) ⟨hx, hb, hml, hown, hts⟩ (nX4_at l D A ad cI cQ rest S_1 (4 + k) (qb_4 hix) v2_1) (cwV 1 hts gX3_dropWithoutGap_X4_at rfl rfl rfl (by decide +kernel) ⟨Nat.le_of_ble_eq_true rfl, Nat.le_of_ble_eq_true rfl⟩) ⟨qm_blind, va_recv hK hP (ci := 4) (q0 := (26 + (4 + k))) rfl (qg_R (qb_4 hix)), fun U hU hW => ⟨rfl, qm_go hA hS hP hK hD hU hW⟩⟩ rfl rfl hl.1 rfl (lv_room (Nat.le_of_ble_eq_true rfl)) dX3_dropWithoutGap_38 ⟨Nat.le_of_ble_eq_true rfl, Nat.le_of_ble_eq_true rfl⟩) hS (fun _ _ h9 => h9) (fun _ h9 => h9) (fun v u t H1 locs1 ht hvm hw hB hz1 hk1 hS => ?_)
          obtain ⟨hw1, hw2⟩ := hw
          have hw1 : rw_at (S_1.1 (4 + k)) v2_1 = v := hw1.symm
          have hw2 : S_1 = u := hw2.symm
          subst hw1
          subst hw2
          obtain ⟨hP, hD⟩ := qm_bk ht hB
          refine lv_aload_n hx hb dX3_dropWithoutGap_41 rfl (lv_at hl 0 rfl) ?_
          refine va_get (D := D) (ci := 3) (v := .ref (ad (26 + (8 + k)))) (C := RX3) (T := TX3) (N := 3) hx hb hts (by decide +kernel) hown hK hP (6 + k) (qg_M hix) rfl 2 (by decide) (hts (.fieldLink RX3 19 "QueueMiddles$MarkRow" "spreads" "LQueueMiddles$Row;") (by decide +kernel)) (fun _ h9 => h9) rfl dX3_dropWithoutGap_42 ?_
          refine lv_iload_n hx hb dX3_dropWithoutGap_45 rfl (lv_at hl 2 rfl) ?_
          refine va_calli (va_runV (As := [.int v2_1]) (rest := [.int (rw_at (S_1.1 (4 + k)) v2_1), .int (rw_at (S_1.1 k) v2_1), .int v1_1, .ref (ad (6 + k))]) ⟨hx, hb, hml, hown, hts⟩ (nX4_at l D A ad cI cQ rest S_1 (8 + k) (qb_8 hix) v2_1) (cwV 1 hts gX3_dropWithoutGap_X4_at rfl rfl rfl (by decide +kernel) ⟨Nat.le_of_ble_eq_true rfl, Nat.le_of_ble_eq_true rfl⟩) ⟨qm_blind, va_recv hK hP (ci := 4) (q0 := (26 + (8 + k))) rfl (qg_R (qb_8 hix)), fun U hU hW => ⟨rfl, qm_go hA hS hP hK hD hU hW⟩⟩ rfl rfl hl.1 rfl (lv_room (Nat.le_of_ble_eq_true rfl)) dX3_dropWithoutGap_46 ⟨Nat.le_of_ble_eq_true rfl, Nat.le_of_ble_eq_true rfl⟩) hS (fun _ _ h9 => h9) (fun _ h9 => h9) (fun v u t H1 locs1 ht hvm hw hB hz1 hk1 hS => ?_)
          obtain ⟨hw1, hw2⟩ := hw
          have hw1 : rw_at (S_1.1 (8 + k)) v2_1 = v := hw1.symm
          have hw2 : S_1 = u := hw2.symm
          subst hw1
          subst hw2
          obtain ⟨hP, hD⟩ := qm_bk ht hB
          refine va_callv (va_runV (As := [.int v1_1, .int (rw_at (S_1.1 k) v2_1), .int (rw_at (S_1.1 (4 + k)) v2_1), .int (rw_at (S_1.1 (8 + k)) v2_1)]) (rest := []) ⟨hx, hb, hml, hown, hts⟩ (nX3_write l D A ad cI cQ rest S_1 k hix v1_1 (rw_at (S_1.1 k) v2_1) (rw_at (S_1.1 (4 + k)) v2_1) (rw_at (S_1.1 (8 + k)) v2_1)) (cwV 4 hts gX3_dropWithoutGap_X3_write rfl rfl rfl (by decide +kernel) ⟨Nat.le_of_ble_eq_true rfl, Nat.le_of_ble_eq_true rfl⟩) ⟨qm_blind, va_recv hK hP (ci := 3) (q0 := (6 + k)) rfl (qg_M hix), fun U hU hW => ⟨rfl, qm_go hA hS hP hK hD hU hW⟩⟩ rfl rfl hl.1 rfl (lv_room (Nat.le_of_ble_eq_true rfl)) dX3_dropWithoutGap_49 ⟨Nat.le_of_ble_eq_true rfl, Nat.le_of_ble_eq_true rfl⟩) hS (fun _ _ h9 => h9) (fun _ h9 => h9) (fun u t H1 locs1 ht hvm hw hB hz1 hk1 hS => ?_)
          have hw : mr_wr S_1 k v1_1 (rw_at (S_1.1 k) v2_1) (rw_at (S_1.1 (4 + k)) v2_1) (rw_at (S_1.1 (8 + k)) v2_1) = u := hw.symm
          subst hw
          obtain ⟨hP, hD⟩ := qm_bk ht hB
          refine lv_iinc (v := v1_1 + (1 : Int32)) (lv' := [(1, .int (v1_1 + (1 : Int32))), (0, .ref (ad (6 + k))), (2, .int v2_1)]) hx hb dX3_dropWithoutGap_52 hl (k := 1) rfl rfl (by decide) rfl (fun ls hl => ?_)
          refine lv_iinc (v := v2_1 + (1 : Int32)) (lv' := [(2, .int (v2_1 + (1 : Int32))), (1, .int (v1_1 + (1 : Int32))), (0, .ref (ad (6 + k)))]) hx hb dX3_dropWithoutGap_55 hl (k := 2) rfl rfl (by decide) rfl (fun ls hl => ?_)
          refine lv_goto (tgt := 4) hx hb dX3_dropWithoutGap_58 (by decide) ?_
          exact ih (v1_1 + (1 : Int32)) (v2_1 + (1 : Int32)) (mr_wr S_1 k v1_1 (rw_at (S_1.1 k) v2_1) (rw_at (S_1.1 (4 + k)) v2_1) (rw_at (S_1.1 (8 + k)) v2_1)) z h _ _ _ hP hD hS (lv_sub hl [2, 1, 0] rfl) kex
  obtain ⟨z_5, hz_6, h⟩ := qm_bind h
  refine loop_2 qm_F (0 : Int32) (0 : Int32) S z_5 hz_6 _ _ _ hP hD hS (lv_sub hl [2, 1, 0] rfl) (fun H locs ls hP hD hS hl => ?_)
  refine lv_aload_n hx hb dX3_dropWithoutGap_61 rfl (lv_at hl 0 rfl) ?_
  refine lv_iload_n hx hb dX3_dropWithoutGap_62 rfl (lv_at hl 1 rfl) ?_
  refine va_callv (va_runV (As := [.int z_5.1]) (rest := []) ⟨hx, hb, hml, hown, hts⟩ (nX3_cutTo l D A ad cI cQ rest z_5.2 k hix z_5.1) (cwV 1 hts gX3_dropWithoutGap_X3_cutTo rfl rfl rfl (by decide +kernel) ⟨Nat.le_of_ble_eq_true rfl, Nat.le_of_ble_eq_true rfl⟩) ⟨qm_blind, va_recv hK hP (ci := 3) (q0 := (6 + k)) rfl (qg_M hix), fun U hU hW => ⟨rfl, qm_go hA hS hP hK hD hU hW⟩⟩ rfl rfl hl.1 rfl (lv_room (Nat.le_of_ble_eq_true rfl)) dX3_dropWithoutGap_63 ⟨Nat.le_of_ble_eq_true rfl, Nat.le_of_ble_eq_true rfl⟩) hS (fun _ _ h9 => h9) (fun _ h9 => h9) (fun u t H1 locs1 ht hvm hw hB hz1 hk1 hS => ?_)
  have hw : mr_cut z_5.2 k z_5.1 = u := hw.symm
  subst hw
  obtain ⟨hP, hD⟩ := qm_bk ht hB
  have h := Option.some.inj h
  subst h
  rw [hQX]
  exact W.vret hx hb hr (fun t ht hW => ⟨⟨mr_cut z_5.2 k z_5.1, rfl, rfl, qm_en ht hP hD⟩, hS.F ht⟩) hS.2.2 dX3_dropWithoutGap_66
noncomputable def fX3_thin_L14 (n0 : Nat) (x1 : Int32) : Nat → Int32 → Int32 → qm_S → Option (qm_S)
  | 0, _, _, _ => none
  | fuel + 1, v2, v3, S =>
    (if v3 < (1 : Int32) then some S else (if x1 < ((rw_at (S.1 (4 + n0)) v3) + ((rw_at (S.1 (4 + n0)) v2) + (rw_at (S.1 (8 + n0)) v2))) then fX3_thin_L14 n0 x1 fuel v3 (v3 + (-1 : Int32)) S else fX3_thin_L14 n0 x1 fuel v2 (v3 + (-1 : Int32)) (qm_row (qm_row S (4 + n0) (rw_put (S.1 (4 + n0)) v2 ((rw_at (S.1 (4 + n0)) v2) + (rw_at (S.1 (4 + n0)) v3)))) (4 + n0) (rw_put ((qm_row S (4 + n0) (rw_put (S.1 (4 + n0)) v2 ((rw_at (S.1 (4 + n0)) v2) + (rw_at (S.1 (4 + n0)) v3)))).1 (4 + n0)) v3 (0 : Int32)))))
noncomputable def fX3_thin (S : qm_S) (k : Nat) (p0 : Int32) : Option (qm_S) :=
  Option.bind (fX3_thin_L14 k p0 qm_F (((S.1 k).1) - (1 : Int32)) (((S.1 k).1) - (2 : Int32)) S) (fun z_5 => Option.bind (fX3_dropWithoutGap z_5 k) (fun z_7 => some z_7))
set_option maxHeartbeats 4000000 in
set_option maxRecDepth 100000 in
theorem kX3_thin (l : Launch) (D : va_G) (A : Nat → Prop) (ad : Nat → Nat) (cI cQ : ClassId) (rest : va_W) (S : qm_S) (k : Nat) (hix : k < 4) (p0 : Int32) (z : qm_S) (h : fX3_thin S k p0 = some z) : Met l yX3_thin wsX3_thin ({ frames := 4, cells := 0, slots := 0, locals := 89 }) (va_Pc [.ref (ad (6 + k)), .int p0] (qm_B D A (qm_T cI cQ) (qm_W ad cI cQ rest S))) (qm_Qv D A (qm_W ad cI cQ rest) z) 0 0 A := by
  refine Met.ofW (cc := cX3_thin) (maxL := 4) (ret := none) (by decide) rfl ?_
  intro p e s m args below meth c s₁ B hml hv
  obtain ⟨rfl, hA, hP, hK, hD⟩ := hv
  have hx := B.exec
  have hb := B.bytes
  have hr := B.returns
  have hts := atoms_spec (ws := wsX3_thin) B.pre
  have hown : s.vm.findClass RX3 = some m.cls := findClass_of_methodNamed B.named
  have hlocks := B.notSynchronized
  have hS : va_S A s.heap s.heap [] := va_S.rf
  have hl := lv_entry ([.ref (ad (6 + k)), .int p0]) (n := 4) (Nat.le_of_ble_eq_true rfl)
  rw [lg_entry_eq]
  generalize (lg_sl ([.ref (ad (6 + k)), .int p0]) ++ List.replicate (4 - (lg_sl ([.ref (ad (6 + k)), .int p0])).length) Slot.unset).toArray = ls at hl ⊢
  have hl : lv_has ls 4 [(0, .ref (ad (6 + k))), (1, .int p0)] := hl
  obtain ⟨QX, hQX⟩ : ∃ q, q = MQ below (qm_Qv D A (qm_W ad cI cQ rest) z) ([.ref (ad (6 + k)), .int p0] : List Value).toArray s 0 0 A := ⟨_, rfl⟩
  rw [← hQX]
  rw [fX3_thin] at h
  refine lv_aload_n hx hb dX3_thin_0 rfl (lv_at hl 0 rfl) ?_
  refine va_calli (va_runV (As := []) (rest := []) ⟨hx, hb, hml, hown, hts⟩ (nX3_length l D A ad cI cQ rest S k hix) (cwV 0 hts gX3_thin_X3_length rfl rfl rfl (by decide +kernel) ⟨Nat.le_of_ble_eq_true rfl, Nat.le_of_ble_eq_true rfl⟩) ⟨qm_blind, va_recv hK hP (ci := 3) (q0 := (6 + k)) rfl (qg_M hix), fun U hU hW => ⟨rfl, qm_go hA hS hP hK hD hU hW⟩⟩ rfl rfl hl.1 rfl (lv_room (Nat.le_of_ble_eq_true rfl)) dX3_thin_1 ⟨Nat.le_of_ble_eq_true rfl, Nat.le_of_ble_eq_true rfl⟩) hS (fun _ _ h9 => h9) (fun _ h9 => h9) (fun v u t H1 locs1 ht hvm hw hB hz1 hk1 hS => ?_)
  obtain ⟨hw1, hw2⟩ := hw
  have hw1 : ((S.1 k).1) = v := hw1.symm
  have hw2 : S = u := hw2.symm
  subst hw1
  subst hw2
  obtain ⟨hP, hD⟩ := qm_bk ht hB
  refine lv_iconst (v := (1 : Int32)) hx hb dX3_thin_4 (by decide) ?_
  refine lv_isub hx hb dX3_thin_5 ?_
  refine lv_istore_n (lv' := [(2, .int (((S.1 k).1) - (1 : Int32))), (0, .ref (ad (6 + k))), (1, .int p0)]) hx hb dX3_thin_6 rfl hl (by decide) rfl (fun ls hl => ?_)
  refine lv_aload_n hx hb dX3_thin_7 rfl (lv_at hl 1 rfl) ?_
  refine va_calli (va_runV (As := []) (rest := []) ⟨hx, hb, hml, hown, hts⟩ (nX3_length l D A ad cI cQ rest S k hix) (cwV 0 hts gX3_thin_X3_length rfl rfl rfl (by decide +kernel) ⟨Nat.le_of_ble_eq_true rfl, Nat.le_of_ble_eq_true rfl⟩) ⟨qm_blind, va_recv hK hP (ci := 3) (q0 := (6 + k)) rfl (qg_M hix), fun U hU hW => ⟨rfl, qm_go hA hS hP hK hD hU hW⟩⟩ rfl rfl hl.1 rfl (lv_room (Nat.le_of_ble_eq_true rfl)) dX3_thin_8 ⟨Nat.le_of_ble_eq_true rfl, Nat.le_of_ble_eq_true rfl⟩) hS (fun _ _ h9 => h9) (fun _ h9 => h9) (fun v u t H1 locs1 ht hvm hw hB hz1 hk1 hS => ?_)
  obtain ⟨hw1, hw2⟩ := hw
  have hw1 : ((S.1 k).1) = v := hw1.symm
  have hw2 : S = u := hw2.symm
  subst hw1
  subst hw2
  obtain ⟨hP, hD⟩ := qm_bk ht hB
  refine lv_iconst (v := (2 : Int32)) hx hb dX3_thin_11 (by decide) ?_
  refine lv_isub hx hb dX3_thin_12 ?_
  refine lv_istore_n (lv' := [(3, .int (((S.1 k).1) - (2 : Int32))), (2, .int (((S.1 k).1) - (1 : Int32))), (0, .ref (ad (6 + k))), (1, .int p0)]) hx hb dX3_thin_13 rfl hl (by decide) rfl (fun ls hl => ?_)
  have loop_2 : ∀ (fuel : Nat) (v2_1 v3_1 : Int32) (S_1 : qm_S) (z : qm_S), fX3_thin_L14 k p0 fuel v2_1 v3_1 S_1 = some z → ∀ (H : Heap) (locs : List Loc) (ls : Array Slot), va_P D vwCl (qm_W ad cI cQ rest S_1) H → va_D A (qm_W ad cI cQ rest S_1) → va_S A s.heap H locs → lv_has ls 4 [(0, .ref (ad (6 + k))), (1, .int p0), (2, .int v2_1), (3, .int v3_1)] → (∀ (H : Heap) (locs : List Loc) (ls : Array Slot), va_P D vwCl (qm_W ad cI cQ rest z) H → va_D A (qm_W ad cI cQ rest z) → va_S A s.heap H locs → lv_has ls 4 [(0, .ref (ad (6 + k)))] → W p l e ({ frames := 4, cells := 0, slots := 0, locals := 89 } : Room) s m ([.ref (ad (6 + k)), .int p0] : List Value).toArray below meth c H locs 0 0 QX (F0 m 82 ls [])) → W p l e ({ frames := 4, cells := 0, slots := 0, locals := 89 } : Room) s m ([.ref (ad (6 + k)), .int p0] : List Value).toArray below meth c H locs 0 0 QX (F0 m 14 ls []) := by
    intro fuel
    induction fuel with
    | zero =>
      intro v2_1 v3_1 S_1 z h
      rw [fX3_thin_L14] at h
      cases h
    | succ fuel ih =>
      intro v2_1 v3_1 S_1 z h H locs ls hP hD hS hl kex
      rw [fX3_thin_L14] at h
      refine lv_iload_n hx hb dX3_thin_14 rfl (lv_at hl 3 rfl) ?_
      refine lv_iconst (v := (1 : Int32)) hx hb dX3_thin_15 (by decide) ?_
      refine lv_icmp_lt (tgt := 82) hx hb dX3_thin_16 (by decide) (fun c_3 => ?_) (fun c_3 => ?_)
      · rw [if_pos c_3] at h
        have h := Option.some.inj h
        subst h
        exact kex _ _ _ hP hD hS (lv_sub hl [0] rfl)
      · rw [if_neg c_3] at h
        refine lv_aload_n hx hb dX3_thin_19 rfl (lv_at hl 0 rfl) ?_
        refine va_get (D := D) (ci := 3) (v := .ref (ad (26 + (4 + k)))) (C := RX3) (T := TX3) (N := 3) hx hb hts (by decide +kernel) hown hK hP (6 + k) (qg_M hix) rfl 1 (by decide) (hts (.fieldLink RX3 16 "QueueMiddles$MarkRow" "gaps" "LQueueMiddles$Row;") (by decide +kernel)) (fun _ h9 => h9) rfl dX3_thin_20 ?_
        refine lv_iload_n hx hb dX3_thin_23 rfl (lv_at hl 3 rfl) ?_
        refine va_calli (va_runV (As := [.int v3_1]) (rest := []) ⟨hx, hb, hml, hown, hts⟩ (nX4_at l D A ad cI cQ rest S_1 (4 + k) (qb_4 hix) v3_1) (cwV 1 hts gX3_thin_X4_at rfl rfl rfl (by decide +kernel) ⟨Nat.le_of_ble_eq_true rfl, Nat.le_of_ble_eq_true rfl⟩) ⟨qm_blind, va_recv hK hP (ci := 4) (q0 := (26 + (4 + k))) rfl (qg_R (qb_4 hix)), fun U hU hW => ⟨rfl, qm_go hA hS hP hK hD hU hW⟩⟩ rfl rfl hl.1 rfl (lv_room (Nat.le_of_ble_eq_true rfl)) dX3_thin_24 ⟨Nat.le_of_ble_eq_true rfl, Nat.le_of_ble_eq_true rfl⟩) hS (fun _ _ h9 => h9) (fun _ h9 => h9) (fun v u t H1 locs1 ht hvm hw hB hz1 hk1 hS => ?_)
        obtain ⟨hw1, hw2⟩ := hw
        have hw1 : rw_at (S_1.1 (4 + k)) v3_1 = v := hw1.symm
        have hw2 : S_1 = u := hw2.symm
        subst hw1
        subst hw2
        obtain ⟨hP, hD⟩ := qm_bk ht hB
        refine lv_aload_n hx hb dX3_thin_27 rfl (lv_at hl 0 rfl) ?_
        refine lv_iload_n hx hb dX3_thin_28 rfl (lv_at hl 2 rfl) ?_
        refine va_calli (va_runV (As := [.int v2_1]) (rest := [.int (rw_at (S_1.1 (4 + k)) v3_1)]) ⟨hx, hb, hml, hown, hts⟩ (nX3_widthOf l D A ad cI cQ rest S_1 k hix v2_1) (cwV 1 hts gX3_thin_X3_widthOf rfl rfl rfl (by decide +kernel) ⟨Nat.le_of_ble_eq_true rfl, Nat.le_of_ble_eq_true rfl⟩) ⟨qm_blind, va_recv hK hP (ci := 3) (q0 := (6 + k)) rfl (qg_M hix), fun U hU hW => ⟨rfl, qm_go hA hS hP hK hD hU hW⟩⟩ rfl rfl hl.1 rfl (lv_room (Nat.le_of_ble_eq_true rfl)) dX3_thin_29 ⟨Nat.le_of_ble_eq_true rfl, Nat.le_of_ble_eq_true rfl⟩) hS (fun _ _ h9 => h9) (fun _ h9 => h9) (fun v u t H1 locs1 ht hvm hw hB hz1 hk1 hS => ?_)
        obtain ⟨hw1, hw2⟩ := hw
        have hw1 : ((rw_at (S_1.1 (4 + k)) v2_1) + (rw_at (S_1.1 (8 + k)) v2_1)) = v := hw1.symm
        have hw2 : S_1 = u := hw2.symm
        subst hw1
        subst hw2
        obtain ⟨hP, hD⟩ := qm_bk ht hB
        refine lv_iadd hx hb dX3_thin_32 ?_
        refine lv_iload_n hx hb dX3_thin_33 rfl (lv_at hl 1 rfl) ?_
        refine lv_icmp_gt (tgt := 74) hx hb dX3_thin_34 (by decide) (fun c_4 => ?_) (fun c_4 => ?_)
        · rw [if_pos c_4] at h
          refine lv_iload_n hx hb dX3_thin_74 rfl (lv_at hl 3 rfl) ?_
          refine lv_istore_n (lv' := [(2, .int v3_1), (0, .ref (ad (6 + k))), (1, .int p0), (3, .int v3_1)]) hx hb dX3_thin_75 rfl hl (by decide) rfl (fun ls hl => ?_)
          refine lv_iinc (v := v3_1 + (-1 : Int32)) (lv' := [(3, .int (v3_1 + (-1 : Int32))), (2, .int v3_1), (0, .ref (ad (6 + k))), (1, .int p0)]) hx hb dX3_thin_76 hl (k := 3) rfl rfl (by decide) rfl (fun ls hl => ?_)
          refine lv_goto (tgt := 14) hx hb dX3_thin_79 (by decide) ?_
          exact ih v3_1 (v3_1 + (-1 : Int32)) S_1 z h _ _ _ hP hD hS (lv_sub hl [2, 3, 1, 0] rfl) kex
        · rw [if_neg c_4] at h
          refine lv_aload_n hx hb dX3_thin_37 rfl (lv_at hl 0 rfl) ?_
          refine va_get (D := D) (ci := 3) (v := .ref (ad (26 + (4 + k)))) (C := RX3) (T := TX3) (N := 3) hx hb hts (by decide +kernel) hown hK hP (6 + k) (qg_M hix) rfl 1 (by decide) (hts (.fieldLink RX3 16 "QueueMiddles$MarkRow" "gaps" "LQueueMiddles$Row;") (by decide +kernel)) (fun _ h9 => h9) rfl dX3_thin_38 ?_
          refine lv_iload_n hx hb dX3_thin_41 rfl (lv_at hl 2 rfl) ?_
          refine lv_aload_n hx hb dX3_thin_42 rfl (lv_at hl 0 rfl) ?_
          refine va_get (D := D) (ci := 3) (v := .ref (ad (26 + (4 + k)))) (C := RX3) (T := TX3) (N := 3) hx hb hts (by decide +kernel) hown hK hP (6 + k) (qg_M hix) rfl 1 (by decide) (hts (.fieldLink RX3 16 "QueueMiddles$MarkRow" "gaps" "LQueueMiddles$Row;") (by decide +kernel)) (fun _ h9 => h9) rfl dX3_thin_43 ?_
          refine lv_iload_n hx hb dX3_thin_46 rfl (lv_at hl 2 rfl) ?_
          refine va_calli (va_runV (As := [.int v2_1]) (rest := [.int v2_1, .ref (ad (26 + (4 + k)))]) ⟨hx, hb, hml, hown, hts⟩ (nX4_at l D A ad cI cQ rest S_1 (4 + k) (qb_4 hix) v2_1) (cwV 1 hts gX3_thin_X4_at rfl rfl rfl (by decide +kernel) ⟨Nat.le_of_ble_eq_true rfl, Nat.le_of_ble_eq_true rfl⟩) ⟨qm_blind, va_recv hK hP (ci := 4) (q0 := (26 + (4 + k))) rfl (qg_R (qb_4 hix)), fun U hU hW => ⟨rfl, qm_go hA hS hP hK hD hU hW⟩⟩ rfl rfl hl.1 rfl (lv_room (Nat.le_of_ble_eq_true rfl)) dX3_thin_47 ⟨Nat.le_of_ble_eq_true rfl, Nat.le_of_ble_eq_true rfl⟩) hS (fun _ _ h9 => h9) (fun _ h9 => h9) (fun v u t H1 locs1 ht hvm hw hB hz1 hk1 hS => ?_)
          obtain ⟨hw1, hw2⟩ := hw
          have hw1 : rw_at (S_1.1 (4 + k)) v2_1 = v := hw1.symm
          have hw2 : S_1 = u := hw2.symm
          subst hw1
          subst hw2
          obtain ⟨hP, hD⟩ := qm_bk ht hB
          refine lv_aload_n hx hb dX3_thin_50 rfl (lv_at hl 0 rfl) ?_
          refine va_get (D := D) (ci := 3) (v := .ref (ad (26 + (4 + k)))) (C := RX3) (T := TX3) (N := 3) hx hb hts (by decide +kernel) hown hK hP (6 + k) (qg_M hix) rfl 1 (by decide) (hts (.fieldLink RX3 16 "QueueMiddles$MarkRow" "gaps" "LQueueMiddles$Row;") (by decide +kernel)) (fun _ h9 => h9) rfl dX3_thin_51 ?_
          refine lv_iload_n hx hb dX3_thin_54 rfl (lv_at hl 3 rfl) ?_
          refine va_calli (va_runV (As := [.int v3_1]) (rest := [.int (rw_at (S_1.1 (4 + k)) v2_1), .int v2_1, .ref (ad (26 + (4 + k)))]) ⟨hx, hb, hml, hown, hts⟩ (nX4_at l D A ad cI cQ rest S_1 (4 + k) (qb_4 hix) v3_1) (cwV 1 hts gX3_thin_X4_at rfl rfl rfl (by decide +kernel) ⟨Nat.le_of_ble_eq_true rfl, Nat.le_of_ble_eq_true rfl⟩) ⟨qm_blind, va_recv hK hP (ci := 4) (q0 := (26 + (4 + k))) rfl (qg_R (qb_4 hix)), fun U hU hW => ⟨rfl, qm_go hA hS hP hK hD hU hW⟩⟩ rfl rfl hl.1 rfl (lv_room (Nat.le_of_ble_eq_true rfl)) dX3_thin_55 ⟨Nat.le_of_ble_eq_true rfl, Nat.le_of_ble_eq_true rfl⟩) hS (fun _ _ h9 => h9) (fun _ h9 => h9) (fun v u t H1 locs1 ht hvm hw hB hz1 hk1 hS => ?_)
          obtain ⟨hw1, hw2⟩ := hw
          have hw1 : rw_at (S_1.1 (4 + k)) v3_1 = v := hw1.symm
          have hw2 : S_1 = u := hw2.symm
          subst hw1
          subst hw2
          obtain ⟨hP, hD⟩ := qm_bk ht hB
          refine lv_iadd hx hb dX3_thin_58 ?_
          refine va_callv (va_runV (As := [.int v2_1, .int ((rw_at (S_1.1 (4 + k)) v2_1) + (rw_at (S_1.1 (4 + k)) v3_1))]) (rest := []) ⟨hx, hb, hml, hown, hts⟩ (nX4_put l D A ad cI cQ rest S_1 (4 + k) (qb_4 hix) v2_1 ((rw_at (S_1.1 (4 + k)) v2_1) + (rw_at (S_1.1 (4 + k)) v3_1))) (cwV 2 hts gX3_thin_X4_put rfl rfl rfl (by decide +kernel) ⟨Nat.le_of_ble_eq_true rfl, Nat.le_of_ble_eq_true rfl⟩) ⟨qm_blind, va_recv hK hP (ci := 4) (q0 := (26 + (4 + k))) rfl (qg_R (qb_4 hix)), fun U hU hW => ⟨rfl, qm_go hA hS hP hK hD hU hW⟩⟩ rfl rfl hl.1 rfl (lv_room (Nat.le_of_ble_eq_true rfl)) dX3_thin_59 ⟨Nat.le_of_ble_eq_true rfl, Nat.le_of_ble_eq_true rfl⟩) hS (fun _ _ h9 => h9) (fun _ h9 => h9) (fun u t H1 locs1 ht hvm hw hB hz1 hk1 hS => ?_)
          have hw : qm_row S_1 (4 + k) (rw_put (S_1.1 (4 + k)) v2_1 ((rw_at (S_1.1 (4 + k)) v2_1) + (rw_at (S_1.1 (4 + k)) v3_1))) = u := hw.symm
          subst hw
          obtain ⟨hP, hD⟩ := qm_bk ht hB
          refine lv_aload_n hx hb dX3_thin_62 rfl (lv_at hl 0 rfl) ?_
          refine va_get (D := D) (ci := 3) (v := .ref (ad (26 + (4 + k)))) (C := RX3) (T := TX3) (N := 3) hx hb hts (by decide +kernel) hown hK hP (6 + k) (qg_M hix) rfl 1 (by decide) (hts (.fieldLink RX3 16 "QueueMiddles$MarkRow" "gaps" "LQueueMiddles$Row;") (by decide +kernel)) (fun _ h9 => h9) rfl dX3_thin_63 ?_
          refine lv_iload_n hx hb dX3_thin_66 rfl (lv_at hl 3 rfl) ?_
          refine lv_iconst (v := (0 : Int32)) hx hb dX3_thin_67 (by decide) ?_
          refine va_callv (va_runV (As := [.int v3_1, .int (0 : Int32)]) (rest := []) ⟨hx, hb, hml, hown, hts⟩ (nX4_put l D A ad cI cQ rest (qm_row S_1 (4 + k) (rw_put (S_1.1 (4 + k)) v2_1 ((rw_at (S_1.1 (4 + k)) v2_1) + (rw_at (S_1.1 (4 + k)) v3_1)))) (4 + k) (qb_4 hix) v3_1 (0 : Int32)) (cwV 2 hts gX3_thin_X4_put rfl rfl rfl (by decide +kernel) ⟨Nat.le_of_ble_eq_true rfl, Nat.le_of_ble_eq_true rfl⟩) ⟨qm_blind, va_recv hK hP (ci := 4) (q0 := (26 + (4 + k))) rfl (qg_R (qb_4 hix)), fun U hU hW => ⟨rfl, qm_go hA hS hP hK hD hU hW⟩⟩ rfl rfl hl.1 rfl (lv_room (Nat.le_of_ble_eq_true rfl)) dX3_thin_68 ⟨Nat.le_of_ble_eq_true rfl, Nat.le_of_ble_eq_true rfl⟩) hS (fun _ _ h9 => h9) (fun _ h9 => h9) (fun u t H1 locs1 ht hvm hw hB hz1 hk1 hS => ?_)
          have hw : qm_row (qm_row S_1 (4 + k) (rw_put (S_1.1 (4 + k)) v2_1 ((rw_at (S_1.1 (4 + k)) v2_1) + (rw_at (S_1.1 (4 + k)) v3_1)))) (4 + k) (rw_put ((qm_row S_1 (4 + k) (rw_put (S_1.1 (4 + k)) v2_1 ((rw_at (S_1.1 (4 + k)) v2_1) + (rw_at (S_1.1 (4 + k)) v3_1)))).1 (4 + k)) v3_1 (0 : Int32)) = u := hw.symm
          subst hw
          obtain ⟨hP, hD⟩ := qm_bk ht hB
          refine lv_goto (tgt := 76) hx hb dX3_thin_71 (by decide) ?_
          refine lv_iinc (v := v3_1 + (-1 : Int32)) (lv' := [(3, .int (v3_1 + (-1 : Int32))), (0, .ref (ad (6 + k))), (1, .int p0), (2, .int v2_1)]) hx hb dX3_thin_76 hl (k := 3) rfl rfl (by decide) rfl (fun ls hl => ?_)
          refine lv_goto (tgt := 14) hx hb dX3_thin_79 (by decide) ?_
          exact ih v2_1 (v3_1 + (-1 : Int32)) (qm_row (qm_row S_1 (4 + k) (rw_put (S_1.1 (4 + k)) v2_1 ((rw_at (S_1.1 (4 + k)) v2_1) + (rw_at (S_1.1 (4 + k)) v3_1)))) (4 + k) (rw_put ((qm_row S_1 (4 + k) (rw_put (S_1.1 (4 + k)) v2_1 ((rw_at (S_1.1 (4 + k)) v2_1) + (rw_at (S_1.1 (4 + k)) v3_1)))).1 (4 + k)) v3_1 (0 : Int32))) z h _ _ _ hP hD hS (lv_sub hl [1, 2, 3, 0] rfl) kex
  obtain ⟨z_5, hz_6, h⟩ := qm_bind h
  refine loop_2 qm_F (((S.1 k).1) - (1 : Int32)) (((S.1 k).1) - (2 : Int32)) S z_5 hz_6 _ _ _ hP hD hS (lv_sub hl [2, 3, 1, 0] rfl) (fun H locs ls hP hD hS hl => ?_)
  refine lv_aload_n hx hb dX3_thin_82 rfl (lv_at hl 0 rfl) ?_
  obtain ⟨z_7, hz_8, h⟩ := qm_bind h
  refine va_callv (va_runV (As := []) (rest := []) ⟨hx, hb, hml, hown, hts⟩ (kX3_dropWithoutGap l D A ad cI cQ rest z_5 k hix z_7 hz_8) (cwV 0 hts gX3_thin_X3_dropWithoutGap rfl rfl rfl (by decide +kernel) ⟨Nat.le_of_ble_eq_true rfl, Nat.le_of_ble_eq_true rfl⟩) ⟨qm_blind, va_recv hK hP (ci := 3) (q0 := (6 + k)) rfl (qg_M hix), fun U hU hW => ⟨rfl, qm_go hA hS hP hK hD hU hW⟩⟩ rfl rfl hl.1 rfl (lv_room (Nat.le_of_ble_eq_true rfl)) dX3_thin_83 ⟨Nat.le_of_ble_eq_true rfl, Nat.le_of_ble_eq_true rfl⟩) hS (fun _ _ h9 => h9) (fun _ h9 => h9) (fun u t H1 locs1 ht hvm hw hB hz1 hk1 hS => ?_)
  have hw : z_7 = u := hw.symm
  subst hw
  obtain ⟨hP, hD⟩ := qm_bk ht hB
  have h := Option.some.inj h
  subst h
  rw [hQX]
  exact W.vret hx hb hr (fun t ht hW => ⟨⟨z_7, rfl, rfl, qm_en ht hP hD⟩, hS.F ht⟩) hS.2.2 dX3_thin_86
noncomputable def fX3_mergeWith_L55 (n0 : Nat) (n1 : Nat) : Nat → Int32 → Int32 → Int32 → Int32 → Int32 → qm_S → Option (qm_S)
  | 0, _, _, _, _, _, _ => none
  | fuel + 1, v2, v3, v4, v5, v6, S =>
    (if v6 < 0 then some S else (if v3 < 0 then fX3_mergeWith_L55 n0 n1 fuel (v2 + (-1 : Int32)) v3 (((rw_at (S.1 (4 + n0)) v2) + (rw_at (S.1 (8 + n0)) v2)) - (1 : Int32)) v5 (v6 + (-1 : Int32)) (mr_wr S n0 v6 (rw_at (S.1 n0) v2) (rw_at (S.1 (4 + n0)) v2) ((rw_at (S.1 (8 + n0)) v2) + v5)) else (if v2 < 0 then fX3_mergeWith_L55 n0 n1 fuel v2 (v3 + (-1 : Int32)) v4 (((rw_at ((mr_wr S n0 v6 (rw_at (S.1 n1) v3) (rw_at (S.1 (4 + n1)) v3) ((rw_at (S.1 (8 + n1)) v3) + v4)).1 (4 + n1)) v3) + (rw_at ((mr_wr S n0 v6 (rw_at (S.1 n1) v3) (rw_at (S.1 (4 + n1)) v3) ((rw_at (S.1 (8 + n1)) v3) + v4)).1 (8 + n1)) v3)) - (1 : Int32)) (v6 + (-1 : Int32)) (mr_wr S n0 v6 (rw_at (S.1 n1) v3) (rw_at (S.1 (4 + n1)) v3) ((rw_at (S.1 (8 + n1)) v3) + v4)) else (if (rw_at (S.1 n1) v3) < (rw_at (S.1 n0) v2) then fX3_mergeWith_L55 n0 n1 fuel (v2 + (-1 : Int32)) v3 (((rw_at (S.1 (4 + n0)) v2) + (rw_at (S.1 (8 + n0)) v2)) - (1 : Int32)) v5 (v6 + (-1 : Int32)) (mr_wr S n0 v6 (rw_at (S.1 n0) v2) (rw_at (S.1 (4 + n0)) v2) ((rw_at (S.1 (8 + n0)) v2) + v5)) else fX3_mergeWith_L55 n0 n1 fuel v2 (v3 + (-1 : Int32)) v4 (((rw_at ((mr_wr S n0 v6 (rw_at (S.1 n1) v3) (rw_at (S.1 (4 + n1)) v3) ((rw_at (S.1 (8 + n1)) v3) + v4)).1 (4 + n1)) v3) + (rw_at ((mr_wr S n0 v6 (rw_at (S.1 n1) v3) (rw_at (S.1 (4 + n1)) v3) ((rw_at (S.1 (8 + n1)) v3) + v4)).1 (8 + n1)) v3)) - (1 : Int32)) (v6 + (-1 : Int32)) (mr_wr S n0 v6 (rw_at (S.1 n1) v3) (rw_at (S.1 (4 + n1)) v3) ((rw_at (S.1 (8 + n1)) v3) + v4))))))
noncomputable def fX3_mergeWith (S : qm_S) (k : Nat) (o0 : Nat) : Option (qm_S) :=
  Option.bind (fX3_mergeWith_L55 k o0 qm_F (((S.1 k).1) - (1 : Int32)) (((S.1 o0).1) - (1 : Int32)) (rw_at (S.1 (8 + k)) (((S.1 k).1) - (1 : Int32))) (rw_at (S.1 (8 + o0)) (((S.1 o0).1) - (1 : Int32))) ((((mr_gro S k (((S.1 k).1) + ((S.1 o0).1))).1 k).1) - (1 : Int32)) (mr_gro S k (((S.1 k).1) + ((S.1 o0).1)))) (fun z_7 => some z_7)
set_option maxHeartbeats 4000000 in
set_option maxRecDepth 100000 in
theorem kX3_mergeWith (l : Launch) (D : va_G) (A : Nat → Prop) (ad : Nat → Nat) (cI cQ : ClassId) (rest : va_W) (S : qm_S) (k : Nat) (hix : k < 4) (o0 : Nat) (ho0 : o0 < 4) (z : qm_S) (h : fX3_mergeWith S k o0 = some z) : Met l yX3_mergeWith wsX3_mergeWith ({ frames := 3, cells := 0, slots := 0, locals := 67 }) (va_Pc [.ref (ad (6 + k)), .ref (ad (6 + o0))] (qm_B D A (qm_T cI cQ) (qm_W ad cI cQ rest S))) (qm_Qv D A (qm_W ad cI cQ rest) z) 0 0 A := by
  refine Met.ofW (cc := cX3_mergeWith) (maxL := 8) (ret := none) (by decide) rfl ?_
  intro p e s m args below meth c s₁ B hml hv
  obtain ⟨rfl, hA, hP, hK, hD⟩ := hv
  have hx := B.exec
  have hb := B.bytes
  have hr := B.returns
  have hts := atoms_spec (ws := wsX3_mergeWith) B.pre
  have hown : s.vm.findClass RX3 = some m.cls := findClass_of_methodNamed B.named
  have hlocks := B.notSynchronized
  have hS : va_S A s.heap s.heap [] := va_S.rf
  have hl := lv_entry ([.ref (ad (6 + k)), .ref (ad (6 + o0))]) (n := 8) (Nat.le_of_ble_eq_true rfl)
  rw [lg_entry_eq]
  generalize (lg_sl ([.ref (ad (6 + k)), .ref (ad (6 + o0))]) ++ List.replicate (8 - (lg_sl ([.ref (ad (6 + k)), .ref (ad (6 + o0))])).length) Slot.unset).toArray = ls at hl ⊢
  have hl : lv_has ls 8 [(0, .ref (ad (6 + k))), (1, .ref (ad (6 + o0)))] := hl
  obtain ⟨QX, hQX⟩ : ∃ q, q = MQ below (qm_Qv D A (qm_W ad cI cQ rest) z) ([.ref (ad (6 + k)), .ref (ad (6 + o0))] : List Value).toArray s 0 0 A := ⟨_, rfl⟩
  rw [← hQX]
  rw [fX3_mergeWith] at h
  refine lv_aload_n hx hb dX3_mergeWith_0 rfl (lv_at hl 0 rfl) ?_
  refine va_calli (va_runV (As := []) (rest := []) ⟨hx, hb, hml, hown, hts⟩ (nX3_length l D A ad cI cQ rest S k hix) (cwV 0 hts gX3_mergeWith_X3_length rfl rfl rfl (by decide +kernel) ⟨Nat.le_of_ble_eq_true rfl, Nat.le_of_ble_eq_true rfl⟩) ⟨qm_blind, va_recv hK hP (ci := 3) (q0 := (6 + k)) rfl (qg_M hix), fun U hU hW => ⟨rfl, qm_go hA hS hP hK hD hU hW⟩⟩ rfl rfl hl.1 rfl (lv_room (Nat.le_of_ble_eq_true rfl)) dX3_mergeWith_1 ⟨Nat.le_of_ble_eq_true rfl, Nat.le_of_ble_eq_true rfl⟩) hS (fun _ _ h9 => h9) (fun _ h9 => h9) (fun v u t H1 locs1 ht hvm hw hB hz1 hk1 hS => ?_)
  obtain ⟨hw1, hw2⟩ := hw
  have hw1 : ((S.1 k).1) = v := hw1.symm
  have hw2 : S = u := hw2.symm
  subst hw1
  subst hw2
  obtain ⟨hP, hD⟩ := qm_bk ht hB
  refine lv_iconst (v := (1 : Int32)) hx hb dX3_mergeWith_4 (by decide) ?_
  refine lv_isub hx hb dX3_mergeWith_5 ?_
  refine lv_istore_n (lv' := [(2, .int (((S.1 k).1) - (1 : Int32))), (0, .ref (ad (6 + k))), (1, .ref (ad (6 + o0)))]) hx hb dX3_mergeWith_6 rfl hl (by decide) rfl (fun ls hl => ?_)
  refine lv_aload_n hx hb dX3_mergeWith_7 rfl (lv_at hl 2 rfl) ?_
  refine va_calli (va_runV (As := []) (rest := []) ⟨hx, hb, hml, hown, hts⟩ (nX3_length l D A ad cI cQ rest S o0 ho0) (cwV 0 hts gX3_mergeWith_X3_length rfl rfl rfl (by decide +kernel) ⟨Nat.le_of_ble_eq_true rfl, Nat.le_of_ble_eq_true rfl⟩) ⟨qm_blind, va_recv hK hP (ci := 3) (q0 := (6 + o0)) rfl (qg_M ho0), fun U hU hW => ⟨rfl, qm_go hA hS hP hK hD hU hW⟩⟩ rfl rfl hl.1 rfl (lv_room (Nat.le_of_ble_eq_true rfl)) dX3_mergeWith_8 ⟨Nat.le_of_ble_eq_true rfl, Nat.le_of_ble_eq_true rfl⟩) hS (fun _ _ h9 => h9) (fun _ h9 => h9) (fun v u t H1 locs1 ht hvm hw hB hz1 hk1 hS => ?_)
  obtain ⟨hw1, hw2⟩ := hw
  have hw1 : ((S.1 o0).1) = v := hw1.symm
  have hw2 : S = u := hw2.symm
  subst hw1
  subst hw2
  obtain ⟨hP, hD⟩ := qm_bk ht hB
  refine lv_iconst (v := (1 : Int32)) hx hb dX3_mergeWith_11 (by decide) ?_
  refine lv_isub hx hb dX3_mergeWith_12 ?_
  refine lv_istore_n (lv' := [(3, .int (((S.1 o0).1) - (1 : Int32))), (2, .int (((S.1 k).1) - (1 : Int32))), (0, .ref (ad (6 + k))), (1, .ref (ad (6 + o0)))]) hx hb dX3_mergeWith_13 rfl hl (by decide) rfl (fun ls hl => ?_)
  refine lv_aload_n hx hb dX3_mergeWith_14 rfl (lv_at hl 2 rfl) ?_
  refine va_get (D := D) (ci := 3) (v := .ref (ad (26 + (8 + k)))) (C := RX3) (T := TX3) (N := 3) hx hb hts (by decide +kernel) hown hK hP (6 + k) (qg_M hix) rfl 2 (by decide) (hts (.fieldLink RX3 19 "QueueMiddles$MarkRow" "spreads" "LQueueMiddles$Row;") (by decide +kernel)) (fun _ h9 => h9) rfl dX3_mergeWith_15 ?_
  refine lv_iload_n hx hb dX3_mergeWith_18 rfl (lv_at hl 1 rfl) ?_
  refine va_calli (va_runV (As := [.int (((S.1 k).1) - (1 : Int32))]) (rest := []) ⟨hx, hb, hml, hown, hts⟩ (nX4_at l D A ad cI cQ rest S (8 + k) (qb_8 hix) (((S.1 k).1) - (1 : Int32))) (cwV 1 hts gX3_mergeWith_X4_at rfl rfl rfl (by decide +kernel) ⟨Nat.le_of_ble_eq_true rfl, Nat.le_of_ble_eq_true rfl⟩) ⟨qm_blind, va_recv hK hP (ci := 4) (q0 := (26 + (8 + k))) rfl (qg_R (qb_8 hix)), fun U hU hW => ⟨rfl, qm_go hA hS hP hK hD hU hW⟩⟩ rfl rfl hl.1 rfl (lv_room (Nat.le_of_ble_eq_true rfl)) dX3_mergeWith_19 ⟨Nat.le_of_ble_eq_true rfl, Nat.le_of_ble_eq_true rfl⟩) hS (fun _ _ h9 => h9) (fun _ h9 => h9) (fun v u t H1 locs1 ht hvm hw hB hz1 hk1 hS => ?_)
  obtain ⟨hw1, hw2⟩ := hw
  have hw1 : rw_at (S.1 (8 + k)) (((S.1 k).1) - (1 : Int32)) = v := hw1.symm
  have hw2 : S = u := hw2.symm
  subst hw1
  subst hw2
  obtain ⟨hP, hD⟩ := qm_bk ht hB
  refine lv_istore (lv' := [(4, .int (rw_at (S.1 (8 + k)) (((S.1 k).1) - (1 : Int32)))), (3, .int (((S.1 o0).1) - (1 : Int32))), (2, .int (((S.1 k).1) - (1 : Int32))), (0, .ref (ad (6 + k))), (1, .ref (ad (6 + o0)))]) hx hb dX3_mergeWith_22 hl (by decide) rfl (fun ls hl => ?_)
  refine lv_aload_n hx hb dX3_mergeWith_24 rfl (lv_at hl 4 rfl) ?_
  refine va_get (D := D) (ci := 3) (v := .ref (ad (26 + (8 + o0)))) (C := RX3) (T := TX3) (N := 3) hx hb hts (by decide +kernel) hown hK hP (6 + o0) (qg_M ho0) rfl 2 (by decide) (hts (.fieldLink RX3 19 "QueueMiddles$MarkRow" "spreads" "LQueueMiddles$Row;") (by decide +kernel)) (fun _ h9 => h9) rfl dX3_mergeWith_25 ?_
  refine lv_iload_n hx hb dX3_mergeWith_28 rfl (lv_at hl 1 rfl) ?_
  refine va_calli (va_runV (As := [.int (((S.1 o0).1) - (1 : Int32))]) (rest := []) ⟨hx, hb, hml, hown, hts⟩ (nX4_at l D A ad cI cQ rest S (8 + o0) (qb_8 ho0) (((S.1 o0).1) - (1 : Int32))) (cwV 1 hts gX3_mergeWith_X4_at rfl rfl rfl (by decide +kernel) ⟨Nat.le_of_ble_eq_true rfl, Nat.le_of_ble_eq_true rfl⟩) ⟨qm_blind, va_recv hK hP (ci := 4) (q0 := (26 + (8 + o0))) rfl (qg_R (qb_8 ho0)), fun U hU hW => ⟨rfl, qm_go hA hS hP hK hD hU hW⟩⟩ rfl rfl hl.1 rfl (lv_room (Nat.le_of_ble_eq_true rfl)) dX3_mergeWith_29 ⟨Nat.le_of_ble_eq_true rfl, Nat.le_of_ble_eq_true rfl⟩) hS (fun _ _ h9 => h9) (fun _ h9 => h9) (fun v u t H1 locs1 ht hvm hw hB hz1 hk1 hS => ?_)
  obtain ⟨hw1, hw2⟩ := hw
  have hw1 : rw_at (S.1 (8 + o0)) (((S.1 o0).1) - (1 : Int32)) = v := hw1.symm
  have hw2 : S = u := hw2.symm
  subst hw1
  subst hw2
  obtain ⟨hP, hD⟩ := qm_bk ht hB
  refine lv_istore (lv' := [(5, .int (rw_at (S.1 (8 + o0)) (((S.1 o0).1) - (1 : Int32)))), (4, .int (rw_at (S.1 (8 + k)) (((S.1 k).1) - (1 : Int32)))), (3, .int (((S.1 o0).1) - (1 : Int32))), (2, .int (((S.1 k).1) - (1 : Int32))), (0, .ref (ad (6 + k))), (1, .ref (ad (6 + o0)))]) hx hb dX3_mergeWith_32 hl (by decide) rfl (fun ls hl => ?_)
  refine lv_aload_n hx hb dX3_mergeWith_34 rfl (lv_at hl 4 rfl) ?_
  refine lv_aload_n hx hb dX3_mergeWith_35 rfl (lv_at hl 4 rfl) ?_
  refine va_calli (va_runV (As := []) (rest := [.ref (ad (6 + k))]) ⟨hx, hb, hml, hown, hts⟩ (nX3_length l D A ad cI cQ rest S k hix) (cwV 0 hts gX3_mergeWith_X3_length rfl rfl rfl (by decide +kernel) ⟨Nat.le_of_ble_eq_true rfl, Nat.le_of_ble_eq_true rfl⟩) ⟨qm_blind, va_recv hK hP (ci := 3) (q0 := (6 + k)) rfl (qg_M hix), fun U hU hW => ⟨rfl, qm_go hA hS hP hK hD hU hW⟩⟩ rfl rfl hl.1 rfl (lv_room (Nat.le_of_ble_eq_true rfl)) dX3_mergeWith_36 ⟨Nat.le_of_ble_eq_true rfl, Nat.le_of_ble_eq_true rfl⟩) hS (fun _ _ h9 => h9) (fun _ h9 => h9) (fun v u t H1 locs1 ht hvm hw hB hz1 hk1 hS => ?_)
  obtain ⟨hw1, hw2⟩ := hw
  have hw1 : ((S.1 k).1) = v := hw1.symm
  have hw2 : S = u := hw2.symm
  subst hw1
  subst hw2
  obtain ⟨hP, hD⟩ := qm_bk ht hB
  refine lv_aload_n hx hb dX3_mergeWith_39 rfl (lv_at hl 5 rfl) ?_
  refine va_calli (va_runV (As := []) (rest := [.int ((S.1 k).1), .ref (ad (6 + k))]) ⟨hx, hb, hml, hown, hts⟩ (nX3_length l D A ad cI cQ rest S o0 ho0) (cwV 0 hts gX3_mergeWith_X3_length rfl rfl rfl (by decide +kernel) ⟨Nat.le_of_ble_eq_true rfl, Nat.le_of_ble_eq_true rfl⟩) ⟨qm_blind, va_recv hK hP (ci := 3) (q0 := (6 + o0)) rfl (qg_M ho0), fun U hU hW => ⟨rfl, qm_go hA hS hP hK hD hU hW⟩⟩ rfl rfl hl.1 rfl (lv_room (Nat.le_of_ble_eq_true rfl)) dX3_mergeWith_40 ⟨Nat.le_of_ble_eq_true rfl, Nat.le_of_ble_eq_true rfl⟩) hS (fun _ _ h9 => h9) (fun _ h9 => h9) (fun v u t H1 locs1 ht hvm hw hB hz1 hk1 hS => ?_)
  obtain ⟨hw1, hw2⟩ := hw
  have hw1 : ((S.1 o0).1) = v := hw1.symm
  have hw2 : S = u := hw2.symm
  subst hw1
  subst hw2
  obtain ⟨hP, hD⟩ := qm_bk ht hB
  refine lv_iadd hx hb dX3_mergeWith_43 ?_
  refine va_callv (va_runV (As := [.int (((S.1 k).1) + ((S.1 o0).1))]) (rest := []) ⟨hx, hb, hml, hown, hts⟩ (nX3_growTo l D A ad cI cQ rest S k hix (((S.1 k).1) + ((S.1 o0).1))) (cwV 1 hts gX3_mergeWith_X3_growTo rfl rfl rfl (by decide +kernel) ⟨Nat.le_of_ble_eq_true rfl, Nat.le_of_ble_eq_true rfl⟩) ⟨qm_blind, va_recv hK hP (ci := 3) (q0 := (6 + k)) rfl (qg_M hix), fun U hU hW => ⟨rfl, qm_go hA hS hP hK hD hU hW⟩⟩ rfl rfl hl.1 rfl (lv_room (Nat.le_of_ble_eq_true rfl)) dX3_mergeWith_44 ⟨Nat.le_of_ble_eq_true rfl, Nat.le_of_ble_eq_true rfl⟩) hS (fun _ _ h9 => h9) (fun _ h9 => h9) (fun u t H1 locs1 ht hvm hw hB hz1 hk1 hS => ?_)
  have hw : mr_gro S k (((S.1 k).1) + ((S.1 o0).1)) = u := hw.symm
  subst hw
  obtain ⟨hP, hD⟩ := qm_bk ht hB
  refine lv_aload_n hx hb dX3_mergeWith_47 rfl (lv_at hl 4 rfl) ?_
  refine va_calli (va_runV (As := []) (rest := []) ⟨hx, hb, hml, hown, hts⟩ (nX3_length l D A ad cI cQ rest (mr_gro S k (((S.1 k).1) + ((S.1 o0).1))) k hix) (cwV 0 hts gX3_mergeWith_X3_length rfl rfl rfl (by decide +kernel) ⟨Nat.le_of_ble_eq_true rfl, Nat.le_of_ble_eq_true rfl⟩) ⟨qm_blind, va_recv hK hP (ci := 3) (q0 := (6 + k)) rfl (qg_M hix), fun U hU hW => ⟨rfl, qm_go hA hS hP hK hD hU hW⟩⟩ rfl rfl hl.1 rfl (lv_room (Nat.le_of_ble_eq_true rfl)) dX3_mergeWith_48 ⟨Nat.le_of_ble_eq_true rfl, Nat.le_of_ble_eq_true rfl⟩) hS (fun _ _ h9 => h9) (fun _ h9 => h9) (fun v u t H1 locs1 ht hvm hw hB hz1 hk1 hS => ?_)
  obtain ⟨hw1, hw2⟩ := hw
  have hw1 : (((mr_gro S k (((S.1 k).1) + ((S.1 o0).1))).1 k).1) = v := hw1.symm
  have hw2 : mr_gro S k (((S.1 k).1) + ((S.1 o0).1)) = u := hw2.symm
  subst hw1
  subst hw2
  obtain ⟨hP, hD⟩ := qm_bk ht hB
  refine lv_iconst (v := (1 : Int32)) hx hb dX3_mergeWith_51 (by decide) ?_
  refine lv_isub hx hb dX3_mergeWith_52 ?_
  refine lv_istore (lv' := [(6, .int ((((mr_gro S k (((S.1 k).1) + ((S.1 o0).1))).1 k).1) - (1 : Int32))), (5, .int (rw_at (S.1 (8 + o0)) (((S.1 o0).1) - (1 : Int32)))), (4, .int (rw_at (S.1 (8 + k)) (((S.1 k).1) - (1 : Int32)))), (3, .int (((S.1 o0).1) - (1 : Int32))), (2, .int (((S.1 k).1) - (1 : Int32))), (0, .ref (ad (6 + k))), (1, .ref (ad (6 + o0)))]) hx hb dX3_mergeWith_53 hl (by decide) rfl (fun ls hl => ?_)
  have loop_2 : ∀ (fuel : Nat) (v2_1 v3_1 v4_1 v5_1 v6_1 : Int32) (S_1 : qm_S) (z : qm_S), fX3_mergeWith_L55 k o0 fuel v2_1 v3_1 v4_1 v5_1 v6_1 S_1 = some z → ∀ (H : Heap) (locs : List Loc) (ls : Array Slot), va_P D vwCl (qm_W ad cI cQ rest S_1) H → va_D A (qm_W ad cI cQ rest S_1) → va_S A s.heap H locs → lv_has ls 8 [(0, .ref (ad (6 + k))), (1, .ref (ad (6 + o0))), (2, .int v2_1), (3, .int v3_1), (4, .int v4_1), (5, .int v5_1), (6, .int v6_1)] → (∀ (H : Heap) (locs : List Loc) (ls : Array Slot), va_P D vwCl (qm_W ad cI cQ rest z) H → va_D A (qm_W ad cI cQ rest z) → va_S A s.heap H locs → lv_has ls 8 [] → W p l e ({ frames := 3, cells := 0, slots := 0, locals := 67 } : Room) s m ([.ref (ad (6 + k)), .ref (ad (6 + o0))] : List Value).toArray below meth c H locs 0 0 QX (F0 m 190 ls [])) → W p l e ({ frames := 3, cells := 0, slots := 0, locals := 67 } : Room) s m ([.ref (ad (6 + k)), .ref (ad (6 + o0))] : List Value).toArray below meth c H locs 0 0 QX (F0 m 55 ls []) := by
    intro fuel
    induction fuel with
    | zero =>
      intro v2_1 v3_1 v4_1 v5_1 v6_1 S_1 z h
      rw [fX3_mergeWith_L55] at h
      cases h
    | succ fuel ih =>
      intro v2_1 v3_1 v4_1 v5_1 v6_1 S_1 z h H locs ls hP hD hS hl kex
      rw [fX3_mergeWith_L55] at h
      refine lv_iload hx hb dX3_mergeWith_55 (lv_at hl 6 rfl) ?_
      refine lv_if_lt (tgt := 190) hx hb dX3_mergeWith_57 (by decide) (fun c_3 => ?_) (fun c_3 => ?_)
      · rw [if_pos c_3] at h
        have h := Option.some.inj h
        subst h
        exact kex _ _ _ hP hD hS (lv_sub hl [] rfl)
      · rw [if_neg c_3] at h
        refine lv_iload_n hx hb dX3_mergeWith_60 rfl (lv_at hl 3 rfl) ?_
        refine lv_if_lt (tgt := 135) hx hb dX3_mergeWith_61 (by decide) (fun c_4 => ?_) (fun c_4 => ?_)
        · rw [if_pos c_4] at h
          refine lv_aload_n hx hb dX3_mergeWith_135 rfl (lv_at hl 0 rfl) ?_
          refine lv_iload_n hx hb dX3_mergeWith_136 rfl (lv_at hl 2 rfl) ?_
          refine va_calli (va_runV (As := [.int v2_1]) (rest := []) ⟨hx, hb, hml, hown, hts⟩ (nX3_widthOf l D A ad cI cQ rest S_1 k hix v2_1) (cwV 1 hts gX3_mergeWith_X3_widthOf rfl rfl rfl (by decide +kernel) ⟨Nat.le_of_ble_eq_true rfl, Nat.le_of_ble_eq_true rfl⟩) ⟨qm_blind, va_recv hK hP (ci := 3) (q0 := (6 + k)) rfl (qg_M hix), fun U hU hW => ⟨rfl, qm_go hA hS hP hK hD hU hW⟩⟩ rfl rfl hl.1 rfl (lv_room (Nat.le_of_ble_eq_true rfl)) dX3_mergeWith_137 ⟨Nat.le_of_ble_eq_true rfl, Nat.le_of_ble_eq_true rfl⟩) hS (fun _ _ h9 => h9) (fun _ h9 => h9) (fun v u t H1 locs1 ht hvm hw hB hz1 hk1 hS => ?_)
          obtain ⟨hw1, hw2⟩ := hw
          have hw1 : ((rw_at (S_1.1 (4 + k)) v2_1) + (rw_at (S_1.1 (8 + k)) v2_1)) = v := hw1.symm
          have hw2 : S_1 = u := hw2.symm
          subst hw1
          subst hw2
          obtain ⟨hP, hD⟩ := qm_bk ht hB
          refine lv_istore (lv' := [(7, .int ((rw_at (S_1.1 (4 + k)) v2_1) + (rw_at (S_1.1 (8 + k)) v2_1))), (0, .ref (ad (6 + k))), (1, .ref (ad (6 + o0))), (2, .int v2_1), (3, .int v3_1), (4, .int v4_1), (5, .int v5_1), (6, .int v6_1)]) hx hb dX3_mergeWith_140 hl (by decide) rfl (fun ls hl => ?_)
          refine lv_aload_n hx hb dX3_mergeWith_142 rfl (lv_at hl 1 rfl) ?_
          refine lv_iload hx hb dX3_mergeWith_143 (lv_at hl 7 rfl) ?_
          refine lv_aload_n hx hb dX3_mergeWith_145 rfl (lv_at hl 1 rfl) ?_
          refine va_get (D := D) (ci := 3) (v := .ref (ad (26 + k))) (C := RX3) (T := TX3) (N := 3) hx hb hts (by decide +kernel) hown hK hP (6 + k) (qg_M hix) rfl 0 (by decide) (hts (.fieldLink RX3 10 "QueueMiddles$MarkRow" "values" "LQueueMiddles$Row;") (by decide +kernel)) (fun _ h9 => h9) rfl dX3_mergeWith_146 ?_
          refine lv_iload_n hx hb dX3_mergeWith_149 rfl (lv_at hl 3 rfl) ?_
          refine va_calli (va_runV (As := [.int v2_1]) (rest := [.int v6_1, .ref (ad (6 + k))]) ⟨hx, hb, hml, hown, hts⟩ (nX4_at l D A ad cI cQ rest S_1 k (qb_0 hix) v2_1) (cwV 1 hts gX3_mergeWith_X4_at rfl rfl rfl (by decide +kernel) ⟨Nat.le_of_ble_eq_true rfl, Nat.le_of_ble_eq_true rfl⟩) ⟨qm_blind, va_recv hK hP (ci := 4) (q0 := (26 + k)) rfl (qg_R (qb_0 hix)), fun U hU hW => ⟨rfl, qm_go hA hS hP hK hD hU hW⟩⟩ rfl rfl hl.1 rfl (lv_room (Nat.le_of_ble_eq_true rfl)) dX3_mergeWith_150 ⟨Nat.le_of_ble_eq_true rfl, Nat.le_of_ble_eq_true rfl⟩) hS (fun _ _ h9 => h9) (fun _ h9 => h9) (fun v u t H1 locs1 ht hvm hw hB hz1 hk1 hS => ?_)
          obtain ⟨hw1, hw2⟩ := hw
          have hw1 : rw_at (S_1.1 k) v2_1 = v := hw1.symm
          have hw2 : S_1 = u := hw2.symm
          subst hw1
          subst hw2
          obtain ⟨hP, hD⟩ := qm_bk ht hB
          refine lv_aload_n hx hb dX3_mergeWith_153 rfl (lv_at hl 1 rfl) ?_
          refine va_get (D := D) (ci := 3) (v := .ref (ad (26 + (4 + k)))) (C := RX3) (T := TX3) (N := 3) hx hb hts (by decide +kernel) hown hK hP (6 + k) (qg_M hix) rfl 1 (by decide) (hts (.fieldLink RX3 16 "QueueMiddles$MarkRow" "gaps" "LQueueMiddles$Row;") (by decide +kernel)) (fun _ h9 => h9) rfl dX3_mergeWith_154 ?_
          refine lv_iload_n hx hb dX3_mergeWith_157 rfl (lv_at hl 3 rfl) ?_
          refine va_calli (va_runV (As := [.int v2_1]) (rest := [.int (rw_at (S_1.1 k) v2_1), .int v6_1, .ref (ad (6 + k))]) ⟨hx, hb, hml, hown, hts⟩ (nX4_at l D A ad cI cQ rest S_1 (4 + k) (qb_4 hix) v2_1) (cwV 1 hts gX3_mergeWith_X4_at rfl rfl rfl (by decide +kernel) ⟨Nat.le_of_ble_eq_true rfl, Nat.le_of_ble_eq_true rfl⟩) ⟨qm_blind, va_recv hK hP (ci := 4) (q0 := (26 + (4 + k))) rfl (qg_R (qb_4 hix)), fun U hU hW => ⟨rfl, qm_go hA hS hP hK hD hU hW⟩⟩ rfl rfl hl.1 rfl (lv_room (Nat.le_of_ble_eq_true rfl)) dX3_mergeWith_158 ⟨Nat.le_of_ble_eq_true rfl, Nat.le_of_ble_eq_true rfl⟩) hS (fun _ _ h9 => h9) (fun _ h9 => h9) (fun v u t H1 locs1 ht hvm hw hB hz1 hk1 hS => ?_)
          obtain ⟨hw1, hw2⟩ := hw
          have hw1 : rw_at (S_1.1 (4 + k)) v2_1 = v := hw1.symm
          have hw2 : S_1 = u := hw2.symm
          subst hw1
          subst hw2
          obtain ⟨hP, hD⟩ := qm_bk ht hB
          refine lv_aload_n hx hb dX3_mergeWith_161 rfl (lv_at hl 1 rfl) ?_
          refine va_get (D := D) (ci := 3) (v := .ref (ad (26 + (8 + k)))) (C := RX3) (T := TX3) (N := 3) hx hb hts (by decide +kernel) hown hK hP (6 + k) (qg_M hix) rfl 2 (by decide) (hts (.fieldLink RX3 19 "QueueMiddles$MarkRow" "spreads" "LQueueMiddles$Row;") (by decide +kernel)) (fun _ h9 => h9) rfl dX3_mergeWith_162 ?_
          refine lv_iload_n hx hb dX3_mergeWith_165 rfl (lv_at hl 3 rfl) ?_
          refine va_calli (va_runV (As := [.int v2_1]) (rest := [.int (rw_at (S_1.1 (4 + k)) v2_1), .int (rw_at (S_1.1 k) v2_1), .int v6_1, .ref (ad (6 + k))]) ⟨hx, hb, hml, hown, hts⟩ (nX4_at l D A ad cI cQ rest S_1 (8 + k) (qb_8 hix) v2_1) (cwV 1 hts gX3_mergeWith_X4_at rfl rfl rfl (by decide +kernel) ⟨Nat.le_of_ble_eq_true rfl, Nat.le_of_ble_eq_true rfl⟩) ⟨qm_blind, va_recv hK hP (ci := 4) (q0 := (26 + (8 + k))) rfl (qg_R (qb_8 hix)), fun U hU hW => ⟨rfl, qm_go hA hS hP hK hD hU hW⟩⟩ rfl rfl hl.1 rfl (lv_room (Nat.le_of_ble_eq_true rfl)) dX3_mergeWith_166 ⟨Nat.le_of_ble_eq_true rfl, Nat.le_of_ble_eq_true rfl⟩) hS (fun _ _ h9 => h9) (fun _ h9 => h9) (fun v u t H1 locs1 ht hvm hw hB hz1 hk1 hS => ?_)
          obtain ⟨hw1, hw2⟩ := hw
          have hw1 : rw_at (S_1.1 (8 + k)) v2_1 = v := hw1.symm
          have hw2 : S_1 = u := hw2.symm
          subst hw1
          subst hw2
          obtain ⟨hP, hD⟩ := qm_bk ht hB
          refine lv_iload hx hb dX3_mergeWith_169 (lv_at hl 6 rfl) ?_
          refine lv_iadd hx hb dX3_mergeWith_171 ?_
          refine va_callv (va_runV (As := [.int v6_1, .int (rw_at (S_1.1 k) v2_1), .int (rw_at (S_1.1 (4 + k)) v2_1), .int ((rw_at (S_1.1 (8 + k)) v2_1) + v5_1)]) (rest := []) ⟨hx, hb, hml, hown, hts⟩ (nX3_write l D A ad cI cQ rest S_1 k hix v6_1 (rw_at (S_1.1 k) v2_1) (rw_at (S_1.1 (4 + k)) v2_1) ((rw_at (S_1.1 (8 + k)) v2_1) + v5_1)) (cwV 4 hts gX3_mergeWith_X3_write rfl rfl rfl (by decide +kernel) ⟨Nat.le_of_ble_eq_true rfl, Nat.le_of_ble_eq_true rfl⟩) ⟨qm_blind, va_recv hK hP (ci := 3) (q0 := (6 + k)) rfl (qg_M hix), fun U hU hW => ⟨rfl, qm_go hA hS hP hK hD hU hW⟩⟩ rfl rfl hl.1 rfl (lv_room (Nat.le_of_ble_eq_true rfl)) dX3_mergeWith_172 ⟨Nat.le_of_ble_eq_true rfl, Nat.le_of_ble_eq_true rfl⟩) hS (fun _ _ h9 => h9) (fun _ h9 => h9) (fun u t H1 locs1 ht hvm hw hB hz1 hk1 hS => ?_)
          have hw : mr_wr S_1 k v6_1 (rw_at (S_1.1 k) v2_1) (rw_at (S_1.1 (4 + k)) v2_1) ((rw_at (S_1.1 (8 + k)) v2_1) + v5_1) = u := hw.symm
          subst hw
          obtain ⟨hP, hD⟩ := qm_bk ht hB
          refine lv_iload hx hb dX3_mergeWith_175 (lv_at hl 0 rfl) ?_
          refine lv_iconst (v := (1 : Int32)) hx hb dX3_mergeWith_177 (by decide) ?_
          refine lv_isub hx hb dX3_mergeWith_178 ?_
          refine lv_istore (lv' := [(4, .int (((rw_at (S_1.1 (4 + k)) v2_1) + (rw_at (S_1.1 (8 + k)) v2_1)) - (1 : Int32))), (7, .int ((rw_at (S_1.1 (4 + k)) v2_1) + (rw_at (S_1.1 (8 + k)) v2_1))), (0, .ref (ad (6 + k))), (1, .ref (ad (6 + o0))), (2, .int v2_1), (3, .int v3_1), (5, .int v5_1), (6, .int v6_1)]) hx hb dX3_mergeWith_179 hl (by decide) rfl (fun ls hl => ?_)
          refine lv_iinc (v := v2_1 + (-1 : Int32)) (lv' := [(2, .int (v2_1 + (-1 : Int32))), (4, .int (((rw_at (S_1.1 (4 + k)) v2_1) + (rw_at (S_1.1 (8 + k)) v2_1)) - (1 : Int32))), (7, .int ((rw_at (S_1.1 (4 + k)) v2_1) + (rw_at (S_1.1 (8 + k)) v2_1))), (0, .ref (ad (6 + k))), (1, .ref (ad (6 + o0))), (3, .int v3_1), (5, .int v5_1), (6, .int v6_1)]) hx hb dX3_mergeWith_181 hl (k := 4) rfl rfl (by decide) rfl (fun ls hl => ?_)
          refine lv_iinc (v := v6_1 + (-1 : Int32)) (lv' := [(6, .int (v6_1 + (-1 : Int32))), (2, .int (v2_1 + (-1 : Int32))), (4, .int (((rw_at (S_1.1 (4 + k)) v2_1) + (rw_at (S_1.1 (8 + k)) v2_1)) - (1 : Int32))), (7, .int ((rw_at (S_1.1 (4 + k)) v2_1) + (rw_at (S_1.1 (8 + k)) v2_1))), (0, .ref (ad (6 + k))), (1, .ref (ad (6 + o0))), (3, .int v3_1), (5, .int v5_1)]) hx hb dX3_mergeWith_184 hl (k := 7) rfl rfl (by decide) rfl (fun ls hl => ?_)
          refine lv_goto (tgt := 55) hx hb dX3_mergeWith_187 (by decide) ?_
          exact ih (v2_1 + (-1 : Int32)) v3_1 (((rw_at (S_1.1 (4 + k)) v2_1) + (rw_at (S_1.1 (8 + k)) v2_1)) - (1 : Int32)) v5_1 (v6_1 + (-1 : Int32)) (mr_wr S_1 k v6_1 (rw_at (S_1.1 k) v2_1) (rw_at (S_1.1 (4 + k)) v2_1) ((rw_at (S_1.1 (8 + k)) v2_1) + v5_1)) z h _ _ _ hP hD hS (lv_sub hl [4, 5, 1, 6, 2, 7, 0] rfl) kex
        · rw [if_neg c_4] at h
          refine lv_iload_n hx hb dX3_mergeWith_64 rfl (lv_at hl 2 rfl) ?_
          refine lv_if_lt (tgt := 87) hx hb dX3_mergeWith_65 (by decide) (fun c_5 => ?_) (fun c_5 => ?_)
          · rw [if_pos c_5] at h
            refine lv_aload_n hx hb dX3_mergeWith_87 rfl (lv_at hl 0 rfl) ?_
            refine lv_iload hx hb dX3_mergeWith_88 (lv_at hl 6 rfl) ?_
            refine lv_aload_n hx hb dX3_mergeWith_90 rfl (lv_at hl 1 rfl) ?_
            refine va_get (D := D) (ci := 3) (v := .ref (ad (26 + o0))) (C := RX3) (T := TX3) (N := 3) hx hb hts (by decide +kernel) hown hK hP (6 + o0) (qg_M ho0) rfl 0 (by decide) (hts (.fieldLink RX3 10 "QueueMiddles$MarkRow" "values" "LQueueMiddles$Row;") (by decide +kernel)) (fun _ h9 => h9) rfl dX3_mergeWith_91 ?_
            refine lv_iload_n hx hb dX3_mergeWith_94 rfl (lv_at hl 3 rfl) ?_
            refine va_calli (va_runV (As := [.int v3_1]) (rest := [.int v6_1, .ref (ad (6 + k))]) ⟨hx, hb, hml, hown, hts⟩ (nX4_at l D A ad cI cQ rest S_1 o0 (qb_0 ho0) v3_1) (cwV 1 hts gX3_mergeWith_X4_at rfl rfl rfl (by decide +kernel) ⟨Nat.le_of_ble_eq_true rfl, Nat.le_of_ble_eq_true rfl⟩) ⟨qm_blind, va_recv hK hP (ci := 4) (q0 := (26 + o0)) rfl (qg_R (qb_0 ho0)), fun U hU hW => ⟨rfl, qm_go hA hS hP hK hD hU hW⟩⟩ rfl rfl hl.1 rfl (lv_room (Nat.le_of_ble_eq_true rfl)) dX3_mergeWith_95 ⟨Nat.le_of_ble_eq_true rfl, Nat.le_of_ble_eq_true rfl⟩) hS (fun _ _ h9 => h9) (fun _ h9 => h9) (fun v u t H1 locs1 ht hvm hw hB hz1 hk1 hS => ?_)
            obtain ⟨hw1, hw2⟩ := hw
            have hw1 : rw_at (S_1.1 o0) v3_1 = v := hw1.symm
            have hw2 : S_1 = u := hw2.symm
            subst hw1
            subst hw2
            obtain ⟨hP, hD⟩ := qm_bk ht hB
            refine lv_aload_n hx hb dX3_mergeWith_98 rfl (lv_at hl 1 rfl) ?_
            refine va_get (D := D) (ci := 3) (v := .ref (ad (26 + (4 + o0)))) (C := RX3) (T := TX3) (N := 3) hx hb hts (by decide +kernel) hown hK hP (6 + o0) (qg_M ho0) rfl 1 (by decide) (hts (.fieldLink RX3 16 "QueueMiddles$MarkRow" "gaps" "LQueueMiddles$Row;") (by decide +kernel)) (fun _ h9 => h9) rfl dX3_mergeWith_99 ?_
            refine lv_iload_n hx hb dX3_mergeWith_102 rfl (lv_at hl 3 rfl) ?_
            refine va_calli (va_runV (As := [.int v3_1]) (rest := [.int (rw_at (S_1.1 o0) v3_1), .int v6_1, .ref (ad (6 + k))]) ⟨hx, hb, hml, hown, hts⟩ (nX4_at l D A ad cI cQ rest S_1 (4 + o0) (qb_4 ho0) v3_1) (cwV 1 hts gX3_mergeWith_X4_at rfl rfl rfl (by decide +kernel) ⟨Nat.le_of_ble_eq_true rfl, Nat.le_of_ble_eq_true rfl⟩) ⟨qm_blind, va_recv hK hP (ci := 4) (q0 := (26 + (4 + o0))) rfl (qg_R (qb_4 ho0)), fun U hU hW => ⟨rfl, qm_go hA hS hP hK hD hU hW⟩⟩ rfl rfl hl.1 rfl (lv_room (Nat.le_of_ble_eq_true rfl)) dX3_mergeWith_103 ⟨Nat.le_of_ble_eq_true rfl, Nat.le_of_ble_eq_true rfl⟩) hS (fun _ _ h9 => h9) (fun _ h9 => h9) (fun v u t H1 locs1 ht hvm hw hB hz1 hk1 hS => ?_)
            obtain ⟨hw1, hw2⟩ := hw
            have hw1 : rw_at (S_1.1 (4 + o0)) v3_1 = v := hw1.symm
            have hw2 : S_1 = u := hw2.symm
            subst hw1
            subst hw2
            obtain ⟨hP, hD⟩ := qm_bk ht hB
            refine lv_aload_n hx hb dX3_mergeWith_106 rfl (lv_at hl 1 rfl) ?_
            refine va_get (D := D) (ci := 3) (v := .ref (ad (26 + (8 + o0)))) (C := RX3) (T := TX3) (N := 3) hx hb hts (by decide +kernel) hown hK hP (6 + o0) (qg_M ho0) rfl 2 (by decide) (hts (.fieldLink RX3 19 "QueueMiddles$MarkRow" "spreads" "LQueueMiddles$Row;") (by decide +kernel)) (fun _ h9 => h9) rfl dX3_mergeWith_107 ?_
            refine lv_iload_n hx hb dX3_mergeWith_110 rfl (lv_at hl 3 rfl) ?_
            refine va_calli (va_runV (As := [.int v3_1]) (rest := [.int (rw_at (S_1.1 (4 + o0)) v3_1), .int (rw_at (S_1.1 o0) v3_1), .int v6_1, .ref (ad (6 + k))]) ⟨hx, hb, hml, hown, hts⟩ (nX4_at l D A ad cI cQ rest S_1 (8 + o0) (qb_8 ho0) v3_1) (cwV 1 hts gX3_mergeWith_X4_at rfl rfl rfl (by decide +kernel) ⟨Nat.le_of_ble_eq_true rfl, Nat.le_of_ble_eq_true rfl⟩) ⟨qm_blind, va_recv hK hP (ci := 4) (q0 := (26 + (8 + o0))) rfl (qg_R (qb_8 ho0)), fun U hU hW => ⟨rfl, qm_go hA hS hP hK hD hU hW⟩⟩ rfl rfl hl.1 rfl (lv_room (Nat.le_of_ble_eq_true rfl)) dX3_mergeWith_111 ⟨Nat.le_of_ble_eq_true rfl, Nat.le_of_ble_eq_true rfl⟩) hS (fun _ _ h9 => h9) (fun _ h9 => h9) (fun v u t H1 locs1 ht hvm hw hB hz1 hk1 hS => ?_)
            obtain ⟨hw1, hw2⟩ := hw
            have hw1 : rw_at (S_1.1 (8 + o0)) v3_1 = v := hw1.symm
            have hw2 : S_1 = u := hw2.symm
            subst hw1
            subst hw2
            obtain ⟨hP, hD⟩ := qm_bk ht hB
            refine lv_iload hx hb dX3_mergeWith_114 (lv_at hl 4 rfl) ?_
            refine lv_iadd hx hb dX3_mergeWith_116 ?_
            refine va_callv (va_runV (As := [.int v6_1, .int (rw_at (S_1.1 o0) v3_1), .int (rw_at (S_1.1 (4 + o0)) v3_1), .int ((rw_at (S_1.1 (8 + o0)) v3_1) + v4_1)]) (rest := []) ⟨hx, hb, hml, hown, hts⟩ (nX3_write l D A ad cI cQ rest S_1 k hix v6_1 (rw_at (S_1.1 o0) v3_1) (rw_at (S_1.1 (4 + o0)) v3_1) ((rw_at (S_1.1 (8 + o0)) v3_1) + v4_1)) (cwV 4 hts gX3_mergeWith_X3_write rfl rfl rfl (by decide +kernel) ⟨Nat.le_of_ble_eq_true rfl, Nat.le_of_ble_eq_true rfl⟩) ⟨qm_blind, va_recv hK hP (ci := 3) (q0 := (6 + k)) rfl (qg_M hix), fun U hU hW => ⟨rfl, qm_go hA hS hP hK hD hU hW⟩⟩ rfl rfl hl.1 rfl (lv_room (Nat.le_of_ble_eq_true rfl)) dX3_mergeWith_117 ⟨Nat.le_of_ble_eq_true rfl, Nat.le_of_ble_eq_true rfl⟩) hS (fun _ _ h9 => h9) (fun _ h9 => h9) (fun u t H1 locs1 ht hvm hw hB hz1 hk1 hS => ?_)
            have hw : mr_wr S_1 k v6_1 (rw_at (S_1.1 o0) v3_1) (rw_at (S_1.1 (4 + o0)) v3_1) ((rw_at (S_1.1 (8 + o0)) v3_1) + v4_1) = u := hw.symm
            subst hw
            obtain ⟨hP, hD⟩ := qm_bk ht hB
            refine lv_aload_n hx hb dX3_mergeWith_120 rfl (lv_at hl 1 rfl) ?_
            refine lv_iload_n hx hb dX3_mergeWith_121 rfl (lv_at hl 3 rfl) ?_
            refine va_calli (va_runV (As := [.int v3_1]) (rest := []) ⟨hx, hb, hml, hown, hts⟩ (nX3_widthOf l D A ad cI cQ rest (mr_wr S_1 k v6_1 (rw_at (S_1.1 o0) v3_1) (rw_at (S_1.1 (4 + o0)) v3_1) ((rw_at (S_1.1 (8 + o0)) v3_1) + v4_1)) o0 ho0 v3_1) (cwV 1 hts gX3_mergeWith_X3_widthOf rfl rfl rfl (by decide +kernel) ⟨Nat.le_of_ble_eq_true rfl, Nat.le_of_ble_eq_true rfl⟩) ⟨qm_blind, va_recv hK hP (ci := 3) (q0 := (6 + o0)) rfl (qg_M ho0), fun U hU hW => ⟨rfl, qm_go hA hS hP hK hD hU hW⟩⟩ rfl rfl hl.1 rfl (lv_room (Nat.le_of_ble_eq_true rfl)) dX3_mergeWith_122 ⟨Nat.le_of_ble_eq_true rfl, Nat.le_of_ble_eq_true rfl⟩) hS (fun _ _ h9 => h9) (fun _ h9 => h9) (fun v u t H1 locs1 ht hvm hw hB hz1 hk1 hS => ?_)
            obtain ⟨hw1, hw2⟩ := hw
            have hw1 : ((rw_at ((mr_wr S_1 k v6_1 (rw_at (S_1.1 o0) v3_1) (rw_at (S_1.1 (4 + o0)) v3_1) ((rw_at (S_1.1 (8 + o0)) v3_1) + v4_1)).1 (4 + o0)) v3_1) + (rw_at ((mr_wr S_1 k v6_1 (rw_at (S_1.1 o0) v3_1) (rw_at (S_1.1 (4 + o0)) v3_1) ((rw_at (S_1.1 (8 + o0)) v3_1) + v4_1)).1 (8 + o0)) v3_1)) = v := hw1.symm
            have hw2 : mr_wr S_1 k v6_1 (rw_at (S_1.1 o0) v3_1) (rw_at (S_1.1 (4 + o0)) v3_1) ((rw_at (S_1.1 (8 + o0)) v3_1) + v4_1) = u := hw2.symm
            subst hw1
            subst hw2
            obtain ⟨hP, hD⟩ := qm_bk ht hB
            refine lv_iconst (v := (1 : Int32)) hx hb dX3_mergeWith_125 (by decide) ?_
            refine lv_isub hx hb dX3_mergeWith_126 ?_
            refine lv_istore (lv' := [(5, .int (((rw_at ((mr_wr S_1 k v6_1 (rw_at (S_1.1 o0) v3_1) (rw_at (S_1.1 (4 + o0)) v3_1) ((rw_at (S_1.1 (8 + o0)) v3_1) + v4_1)).1 (4 + o0)) v3_1) + (rw_at ((mr_wr S_1 k v6_1 (rw_at (S_1.1 o0) v3_1) (rw_at (S_1.1 (4 + o0)) v3_1) ((rw_at (S_1.1 (8 + o0)) v3_1) + v4_1)).1 (8 + o0)) v3_1)) - (1 : Int32))), (0, .ref (ad (6 + k))), (1, .ref (ad (6 + o0))), (2, .int v2_1), (3, .int v3_1), (4, .int v4_1), (6, .int v6_1)]) hx hb dX3_mergeWith_127 hl (by decide) rfl (fun ls hl => ?_)
            refine lv_iinc (v := v3_1 + (-1 : Int32)) (lv' := [(3, .int (v3_1 + (-1 : Int32))), (5, .int (((rw_at ((mr_wr S_1 k v6_1 (rw_at (S_1.1 o0) v3_1) (rw_at (S_1.1 (4 + o0)) v3_1) ((rw_at (S_1.1 (8 + o0)) v3_1) + v4_1)).1 (4 + o0)) v3_1) + (rw_at ((mr_wr S_1 k v6_1 (rw_at (S_1.1 o0) v3_1) (rw_at (S_1.1 (4 + o0)) v3_1) ((rw_at (S_1.1 (8 + o0)) v3_1) + v4_1)).1 (8 + o0)) v3_1)) - (1 : Int32))), (0, .ref (ad (6 + k))), (1, .ref (ad (6 + o0))), (2, .int v2_1), (4, .int v4_1), (6, .int v6_1)]) hx hb dX3_mergeWith_129 hl (k := 4) rfl rfl (by decide) rfl (fun ls hl => ?_)
            refine lv_goto (tgt := 184) hx hb dX3_mergeWith_132 (by decide) ?_
            refine lv_iinc (v := v6_1 + (-1 : Int32)) (lv' := [(6, .int (v6_1 + (-1 : Int32))), (3, .int (v3_1 + (-1 : Int32))), (5, .int (((rw_at ((mr_wr S_1 k v6_1 (rw_at (S_1.1 o0) v3_1) (rw_at (S_1.1 (4 + o0)) v3_1) ((rw_at (S_1.1 (8 + o0)) v3_1) + v4_1)).1 (4 + o0)) v3_1) + (rw_at ((mr_wr S_1 k v6_1 (rw_at (S_1.1 o0) v3_1) (rw_at (S_1.1 (4 + o0)) v3_1) ((rw_at (S_1.1 (8 + o0)) v3_1) + v4_1)).1 (8 + o0)) v3_1)) - (1 : Int32))), (0, .ref (ad (6 + k))), (1, .ref (ad (6 + o0))), (2, .int v2_1), (4, .int v4_1)]) hx hb dX3_mergeWith_184 hl (k := 6) rfl rfl (by decide) rfl (fun ls hl => ?_)
            refine lv_goto (tgt := 55) hx hb dX3_mergeWith_187 (by decide) ?_
            exact ih v2_1 (v3_1 + (-1 : Int32)) v4_1 (((rw_at ((mr_wr S_1 k v6_1 (rw_at (S_1.1 o0) v3_1) (rw_at (S_1.1 (4 + o0)) v3_1) ((rw_at (S_1.1 (8 + o0)) v3_1) + v4_1)).1 (4 + o0)) v3_1) + (rw_at ((mr_wr S_1 k v6_1 (rw_at (S_1.1 o0) v3_1) (rw_at (S_1.1 (4 + o0)) v3_1) ((rw_at (S_1.1 (8 + o0)) v3_1) + v4_1)).1 (8 + o0)) v3_1)) - (1 : Int32)) (v6_1 + (-1 : Int32)) (mr_wr S_1 k v6_1 (rw_at (S_1.1 o0) v3_1) (rw_at (S_1.1 (4 + o0)) v3_1) ((rw_at (S_1.1 (8 + o0)) v3_1) + v4_1)) z h _ _ _ hP hD hS (lv_sub hl [3, 4, 5, 1, 6, 2, 0] rfl) kex
          · rw [if_neg c_5] at h
            refine lv_aload_n hx hb dX3_mergeWith_68 rfl (lv_at hl 1 rfl) ?_
            refine va_get (D := D) (ci := 3) (v := .ref (ad (26 + o0))) (C := RX3) (T := TX3) (N := 3) hx hb hts (by decide +kernel) hown hK hP (6 + o0) (qg_M ho0) rfl 0 (by decide) (hts (.fieldLink RX3 10 "QueueMiddles$MarkRow" "values" "LQueueMiddles$Row;") (by decide +kernel)) (fun _ h9 => h9) rfl dX3_mergeWith_69 ?_
            refine lv_iload_n hx hb dX3_mergeWith_72 rfl (lv_at hl 3 rfl) ?_
            refine va_calli (va_runV (As := [.int v3_1]) (rest := []) ⟨hx, hb, hml, hown, hts⟩ (nX4_at l D A ad cI cQ rest S_1 o0 (qb_0 ho0) v3_1) (cwV 1 hts gX3_mergeWith_X4_at rfl rfl rfl (by decide +kernel) ⟨Nat.le_of_ble_eq_true rfl, Nat.le_of_ble_eq_true rfl⟩) ⟨qm_blind, va_recv hK hP (ci := 4) (q0 := (26 + o0)) rfl (qg_R (qb_0 ho0)), fun U hU hW => ⟨rfl, qm_go hA hS hP hK hD hU hW⟩⟩ rfl rfl hl.1 rfl (lv_room (Nat.le_of_ble_eq_true rfl)) dX3_mergeWith_73 ⟨Nat.le_of_ble_eq_true rfl, Nat.le_of_ble_eq_true rfl⟩) hS (fun _ _ h9 => h9) (fun _ h9 => h9) (fun v u t H1 locs1 ht hvm hw hB hz1 hk1 hS => ?_)
            obtain ⟨hw1, hw2⟩ := hw
            have hw1 : rw_at (S_1.1 o0) v3_1 = v := hw1.symm
            have hw2 : S_1 = u := hw2.symm
            subst hw1
            subst hw2
            obtain ⟨hP, hD⟩ := qm_bk ht hB
            refine lv_aload_n hx hb dX3_mergeWith_76 rfl (lv_at hl 0 rfl) ?_
            refine va_get (D := D) (ci := 3) (v := .ref (ad (26 + k))) (C := RX3) (T := TX3) (N := 3) hx hb hts (by decide +kernel) hown hK hP (6 + k) (qg_M hix) rfl 0 (by decide) (hts (.fieldLink RX3 10 "QueueMiddles$MarkRow" "values" "LQueueMiddles$Row;") (by decide +kernel)) (fun _ h9 => h9) rfl dX3_mergeWith_77 ?_
            refine lv_iload_n hx hb dX3_mergeWith_80 rfl (lv_at hl 2 rfl) ?_
            refine va_calli (va_runV (As := [.int v2_1]) (rest := [.int (rw_at (S_1.1 o0) v3_1)]) ⟨hx, hb, hml, hown, hts⟩ (nX4_at l D A ad cI cQ rest S_1 k (qb_0 hix) v2_1) (cwV 1 hts gX3_mergeWith_X4_at rfl rfl rfl (by decide +kernel) ⟨Nat.le_of_ble_eq_true rfl, Nat.le_of_ble_eq_true rfl⟩) ⟨qm_blind, va_recv hK hP (ci := 4) (q0 := (26 + k)) rfl (qg_R (qb_0 hix)), fun U hU hW => ⟨rfl, qm_go hA hS hP hK hD hU hW⟩⟩ rfl rfl hl.1 rfl (lv_room (Nat.le_of_ble_eq_true rfl)) dX3_mergeWith_81 ⟨Nat.le_of_ble_eq_true rfl, Nat.le_of_ble_eq_true rfl⟩) hS (fun _ _ h9 => h9) (fun _ h9 => h9) (fun v u t H1 locs1 ht hvm hw hB hz1 hk1 hS => ?_)
            obtain ⟨hw1, hw2⟩ := hw
            have hw1 : rw_at (S_1.1 k) v2_1 = v := hw1.symm
            have hw2 : S_1 = u := hw2.symm
            subst hw1
            subst hw2
            obtain ⟨hP, hD⟩ := qm_bk ht hB
            refine lv_icmp_lt (tgt := 135) hx hb dX3_mergeWith_84 (by decide) (fun c_6 => ?_) (fun c_6 => ?_)
            · rw [if_pos c_6] at h
              refine lv_aload_n hx hb dX3_mergeWith_135 rfl (lv_at hl 0 rfl) ?_
              refine lv_iload_n hx hb dX3_mergeWith_136 rfl (lv_at hl 2 rfl) ?_
              refine va_calli (va_runV (As := [.int v2_1]) (rest := []) ⟨hx, hb, hml, hown, hts⟩ (nX3_widthOf l D A ad cI cQ rest S_1 k hix v2_1) (cwV 1 hts gX3_mergeWith_X3_widthOf rfl rfl rfl (by decide +kernel) ⟨Nat.le_of_ble_eq_true rfl, Nat.le_of_ble_eq_true rfl⟩) ⟨qm_blind, va_recv hK hP (ci := 3) (q0 := (6 + k)) rfl (qg_M hix), fun U hU hW => ⟨rfl, qm_go hA hS hP hK hD hU hW⟩⟩ rfl rfl hl.1 rfl (lv_room (Nat.le_of_ble_eq_true rfl)) dX3_mergeWith_137 ⟨Nat.le_of_ble_eq_true rfl, Nat.le_of_ble_eq_true rfl⟩) hS (fun _ _ h9 => h9) (fun _ h9 => h9) (fun v u t H1 locs1 ht hvm hw hB hz1 hk1 hS => ?_)
              obtain ⟨hw1, hw2⟩ := hw
              have hw1 : ((rw_at (S_1.1 (4 + k)) v2_1) + (rw_at (S_1.1 (8 + k)) v2_1)) = v := hw1.symm
              have hw2 : S_1 = u := hw2.symm
              subst hw1
              subst hw2
              obtain ⟨hP, hD⟩ := qm_bk ht hB
              refine lv_istore (lv' := [(7, .int ((rw_at (S_1.1 (4 + k)) v2_1) + (rw_at (S_1.1 (8 + k)) v2_1))), (0, .ref (ad (6 + k))), (1, .ref (ad (6 + o0))), (2, .int v2_1), (3, .int v3_1), (4, .int v4_1), (5, .int v5_1), (6, .int v6_1)]) hx hb dX3_mergeWith_140 hl (by decide) rfl (fun ls hl => ?_)
              refine lv_aload_n hx hb dX3_mergeWith_142 rfl (lv_at hl 1 rfl) ?_
              refine lv_iload hx hb dX3_mergeWith_143 (lv_at hl 7 rfl) ?_
              refine lv_aload_n hx hb dX3_mergeWith_145 rfl (lv_at hl 1 rfl) ?_
              refine va_get (D := D) (ci := 3) (v := .ref (ad (26 + k))) (C := RX3) (T := TX3) (N := 3) hx hb hts (by decide +kernel) hown hK hP (6 + k) (qg_M hix) rfl 0 (by decide) (hts (.fieldLink RX3 10 "QueueMiddles$MarkRow" "values" "LQueueMiddles$Row;") (by decide +kernel)) (fun _ h9 => h9) rfl dX3_mergeWith_146 ?_
              refine lv_iload_n hx hb dX3_mergeWith_149 rfl (lv_at hl 3 rfl) ?_
              refine va_calli (va_runV (As := [.int v2_1]) (rest := [.int v6_1, .ref (ad (6 + k))]) ⟨hx, hb, hml, hown, hts⟩ (nX4_at l D A ad cI cQ rest S_1 k (qb_0 hix) v2_1) (cwV 1 hts gX3_mergeWith_X4_at rfl rfl rfl (by decide +kernel) ⟨Nat.le_of_ble_eq_true rfl, Nat.le_of_ble_eq_true rfl⟩) ⟨qm_blind, va_recv hK hP (ci := 4) (q0 := (26 + k)) rfl (qg_R (qb_0 hix)), fun U hU hW => ⟨rfl, qm_go hA hS hP hK hD hU hW⟩⟩ rfl rfl hl.1 rfl (lv_room (Nat.le_of_ble_eq_true rfl)) dX3_mergeWith_150 ⟨Nat.le_of_ble_eq_true rfl, Nat.le_of_ble_eq_true rfl⟩) hS (fun _ _ h9 => h9) (fun _ h9 => h9) (fun v u t H1 locs1 ht hvm hw hB hz1 hk1 hS => ?_)
              obtain ⟨hw1, hw2⟩ := hw
              have hw1 : rw_at (S_1.1 k) v2_1 = v := hw1.symm
              have hw2 : S_1 = u := hw2.symm
              subst hw1
              subst hw2
              obtain ⟨hP, hD⟩ := qm_bk ht hB
              refine lv_aload_n hx hb dX3_mergeWith_153 rfl (lv_at hl 1 rfl) ?_
              refine va_get (D := D) (ci := 3) (v := .ref (ad (26 + (4 + k)))) (C := RX3) (T := TX3) (N := 3) hx hb hts (by decide +kernel) hown hK hP (6 + k) (qg_M hix) rfl 1 (by decide) (hts (.fieldLink RX3 16 "QueueMiddles$MarkRow" "gaps" "LQueueMiddles$Row;") (by decide +kernel)) (fun _ h9 => h9) rfl dX3_mergeWith_154 ?_
              refine lv_iload_n hx hb dX3_mergeWith_157 rfl (lv_at hl 3 rfl) ?_
              refine va_calli (va_runV (As := [.int v2_1]) (rest := [.int (rw_at (S_1.1 k) v2_1), .int v6_1, .ref (ad (6 + k))]) ⟨hx, hb, hml, hown, hts⟩ (nX4_at l D A ad cI cQ rest S_1 (4 + k) (qb_4 hix) v2_1) (cwV 1 hts gX3_mergeWith_X4_at rfl rfl rfl (by decide +kernel) ⟨Nat.le_of_ble_eq_true rfl, Nat.le_of_ble_eq_true rfl⟩) ⟨qm_blind, va_recv hK hP (ci := 4) (q0 := (26 + (4 + k))) rfl (qg_R (qb_4 hix)), fun U hU hW => ⟨rfl, qm_go hA hS hP hK hD hU hW⟩⟩ rfl rfl hl.1 rfl (lv_room (Nat.le_of_ble_eq_true rfl)) dX3_mergeWith_158 ⟨Nat.le_of_ble_eq_true rfl, Nat.le_of_ble_eq_true rfl⟩) hS (fun _ _ h9 => h9) (fun _ h9 => h9) (fun v u t H1 locs1 ht hvm hw hB hz1 hk1 hS => ?_)
              obtain ⟨hw1, hw2⟩ := hw
              have hw1 : rw_at (S_1.1 (4 + k)) v2_1 = v := hw1.symm
              have hw2 : S_1 = u := hw2.symm
              subst hw1
              subst hw2
              obtain ⟨hP, hD⟩ := qm_bk ht hB
              refine lv_aload_n hx hb dX3_mergeWith_161 rfl (lv_at hl 1 rfl) ?_
              refine va_get (D := D) (ci := 3) (v := .ref (ad (26 + (8 + k)))) (C := RX3) (T := TX3) (N := 3) hx hb hts (by decide +kernel) hown hK hP (6 + k) (qg_M hix) rfl 2 (by decide) (hts (.fieldLink RX3 19 "QueueMiddles$MarkRow" "spreads" "LQueueMiddles$Row;") (by decide +kernel)) (fun _ h9 => h9) rfl dX3_mergeWith_162 ?_
              refine lv_iload_n hx hb dX3_mergeWith_165 rfl (lv_at hl 3 rfl) ?_
              refine va_calli (va_runV (As := [.int v2_1]) (rest := [.int (rw_at (S_1.1 (4 + k)) v2_1), .int (rw_at (S_1.1 k) v2_1), .int v6_1, .ref (ad (6 + k))]) ⟨hx, hb, hml, hown, hts⟩ (nX4_at l D A ad cI cQ rest S_1 (8 + k) (qb_8 hix) v2_1) (cwV 1 hts gX3_mergeWith_X4_at rfl rfl rfl (by decide +kernel) ⟨Nat.le_of_ble_eq_true rfl, Nat.le_of_ble_eq_true rfl⟩) ⟨qm_blind, va_recv hK hP (ci := 4) (q0 := (26 + (8 + k))) rfl (qg_R (qb_8 hix)), fun U hU hW => ⟨rfl, qm_go hA hS hP hK hD hU hW⟩⟩ rfl rfl hl.1 rfl (lv_room (Nat.le_of_ble_eq_true rfl)) dX3_mergeWith_166 ⟨Nat.le_of_ble_eq_true rfl, Nat.le_of_ble_eq_true rfl⟩) hS (fun _ _ h9 => h9) (fun _ h9 => h9) (fun v u t H1 locs1 ht hvm hw hB hz1 hk1 hS => ?_)
              obtain ⟨hw1, hw2⟩ := hw
              have hw1 : rw_at (S_1.1 (8 + k)) v2_1 = v := hw1.symm
              have hw2 : S_1 = u := hw2.symm
              subst hw1
              subst hw2
              obtain ⟨hP, hD⟩ := qm_bk ht hB
              refine lv_iload hx hb dX3_mergeWith_169 (lv_at hl 6 rfl) ?_
              refine lv_iadd hx hb dX3_mergeWith_171 ?_
              refine va_callv (va_runV (As := [.int v6_1, .int (rw_at (S_1.1 k) v2_1), .int (rw_at (S_1.1 (4 + k)) v2_1), .int ((rw_at (S_1.1 (8 + k)) v2_1) + v5_1)]) (rest := []) ⟨hx, hb, hml, hown, hts⟩ (nX3_write l D A ad cI cQ rest S_1 k hix v6_1 (rw_at (S_1.1 k) v2_1) (rw_at (S_1.1 (4 + k)) v2_1) ((rw_at (S_1.1 (8 + k)) v2_1) + v5_1)) (cwV 4 hts gX3_mergeWith_X3_write rfl rfl rfl (by decide +kernel) ⟨Nat.le_of_ble_eq_true rfl, Nat.le_of_ble_eq_true rfl⟩) ⟨qm_blind, va_recv hK hP (ci := 3) (q0 := (6 + k)) rfl (qg_M hix), fun U hU hW => ⟨rfl, qm_go hA hS hP hK hD hU hW⟩⟩ rfl rfl hl.1 rfl (lv_room (Nat.le_of_ble_eq_true rfl)) dX3_mergeWith_172 ⟨Nat.le_of_ble_eq_true rfl, Nat.le_of_ble_eq_true rfl⟩) hS (fun _ _ h9 => h9) (fun _ h9 => h9) (fun u t H1 locs1 ht hvm hw hB hz1 hk1 hS => ?_)
              have hw : mr_wr S_1 k v6_1 (rw_at (S_1.1 k) v2_1) (rw_at (S_1.1 (4 + k)) v2_1) ((rw_at (S_1.1 (8 + k)) v2_1) + v5_1) = u := hw.symm
              subst hw
              obtain ⟨hP, hD⟩ := qm_bk ht hB
              refine lv_iload hx hb dX3_mergeWith_175 (lv_at hl 0 rfl) ?_
              refine lv_iconst (v := (1 : Int32)) hx hb dX3_mergeWith_177 (by decide) ?_
              refine lv_isub hx hb dX3_mergeWith_178 ?_
              refine lv_istore (lv' := [(4, .int (((rw_at (S_1.1 (4 + k)) v2_1) + (rw_at (S_1.1 (8 + k)) v2_1)) - (1 : Int32))), (7, .int ((rw_at (S_1.1 (4 + k)) v2_1) + (rw_at (S_1.1 (8 + k)) v2_1))), (0, .ref (ad (6 + k))), (1, .ref (ad (6 + o0))), (2, .int v2_1), (3, .int v3_1), (5, .int v5_1), (6, .int v6_1)]) hx hb dX3_mergeWith_179 hl (by decide) rfl (fun ls hl => ?_)
              refine lv_iinc (v := v2_1 + (-1 : Int32)) (lv' := [(2, .int (v2_1 + (-1 : Int32))), (4, .int (((rw_at (S_1.1 (4 + k)) v2_1) + (rw_at (S_1.1 (8 + k)) v2_1)) - (1 : Int32))), (7, .int ((rw_at (S_1.1 (4 + k)) v2_1) + (rw_at (S_1.1 (8 + k)) v2_1))), (0, .ref (ad (6 + k))), (1, .ref (ad (6 + o0))), (3, .int v3_1), (5, .int v5_1), (6, .int v6_1)]) hx hb dX3_mergeWith_181 hl (k := 4) rfl rfl (by decide) rfl (fun ls hl => ?_)
              refine lv_iinc (v := v6_1 + (-1 : Int32)) (lv' := [(6, .int (v6_1 + (-1 : Int32))), (2, .int (v2_1 + (-1 : Int32))), (4, .int (((rw_at (S_1.1 (4 + k)) v2_1) + (rw_at (S_1.1 (8 + k)) v2_1)) - (1 : Int32))), (7, .int ((rw_at (S_1.1 (4 + k)) v2_1) + (rw_at (S_1.1 (8 + k)) v2_1))), (0, .ref (ad (6 + k))), (1, .ref (ad (6 + o0))), (3, .int v3_1), (5, .int v5_1)]) hx hb dX3_mergeWith_184 hl (k := 7) rfl rfl (by decide) rfl (fun ls hl => ?_)
              refine lv_goto (tgt := 55) hx hb dX3_mergeWith_187 (by decide) ?_
              exact ih (v2_1 + (-1 : Int32)) v3_1 (((rw_at (S_1.1 (4 + k)) v2_1) + (rw_at (S_1.1 (8 + k)) v2_1)) - (1 : Int32)) v5_1 (v6_1 + (-1 : Int32)) (mr_wr S_1 k v6_1 (rw_at (S_1.1 k) v2_1) (rw_at (S_1.1 (4 + k)) v2_1) ((rw_at (S_1.1 (8 + k)) v2_1) + v5_1)) z h _ _ _ hP hD hS (lv_sub hl [4, 5, 1, 6, 2, 7, 0] rfl) kex
            · rw [if_neg c_6] at h
              refine lv_aload_n hx hb dX3_mergeWith_87 rfl (lv_at hl 0 rfl) ?_
              refine lv_iload hx hb dX3_mergeWith_88 (lv_at hl 6 rfl) ?_
              refine lv_aload_n hx hb dX3_mergeWith_90 rfl (lv_at hl 1 rfl) ?_
              refine va_get (D := D) (ci := 3) (v := .ref (ad (26 + o0))) (C := RX3) (T := TX3) (N := 3) hx hb hts (by decide +kernel) hown hK hP (6 + o0) (qg_M ho0) rfl 0 (by decide) (hts (.fieldLink RX3 10 "QueueMiddles$MarkRow" "values" "LQueueMiddles$Row;") (by decide +kernel)) (fun _ h9 => h9) rfl dX3_mergeWith_91 ?_
              refine lv_iload_n hx hb dX3_mergeWith_94 rfl (lv_at hl 3 rfl) ?_
              refine va_calli (va_runV (As := [.int v3_1]) (rest := [.int v6_1, .ref (ad (6 + k))]) ⟨hx, hb, hml, hown, hts⟩ (nX4_at l D A ad cI cQ rest S_1 o0 (qb_0 ho0) v3_1) (cwV 1 hts gX3_mergeWith_X4_at rfl rfl rfl (by decide +kernel) ⟨Nat.le_of_ble_eq_true rfl, Nat.le_of_ble_eq_true rfl⟩) ⟨qm_blind, va_recv hK hP (ci := 4) (q0 := (26 + o0)) rfl (qg_R (qb_0 ho0)), fun U hU hW => ⟨rfl, qm_go hA hS hP hK hD hU hW⟩⟩ rfl rfl hl.1 rfl (lv_room (Nat.le_of_ble_eq_true rfl)) dX3_mergeWith_95 ⟨Nat.le_of_ble_eq_true rfl, Nat.le_of_ble_eq_true rfl⟩) hS (fun _ _ h9 => h9) (fun _ h9 => h9) (fun v u t H1 locs1 ht hvm hw hB hz1 hk1 hS => ?_)
              obtain ⟨hw1, hw2⟩ := hw
              have hw1 : rw_at (S_1.1 o0) v3_1 = v := hw1.symm
              have hw2 : S_1 = u := hw2.symm
              subst hw1
              subst hw2
              obtain ⟨hP, hD⟩ := qm_bk ht hB
              refine lv_aload_n hx hb dX3_mergeWith_98 rfl (lv_at hl 1 rfl) ?_
              refine va_get (D := D) (ci := 3) (v := .ref (ad (26 + (4 + o0)))) (C := RX3) (T := TX3) (N := 3) hx hb hts (by decide +kernel) hown hK hP (6 + o0) (qg_M ho0) rfl 1 (by decide) (hts (.fieldLink RX3 16 "QueueMiddles$MarkRow" "gaps" "LQueueMiddles$Row;") (by decide +kernel)) (fun _ h9 => h9) rfl dX3_mergeWith_99 ?_
              refine lv_iload_n hx hb dX3_mergeWith_102 rfl (lv_at hl 3 rfl) ?_
              refine va_calli (va_runV (As := [.int v3_1]) (rest := [.int (rw_at (S_1.1 o0) v3_1), .int v6_1, .ref (ad (6 + k))]) ⟨hx, hb, hml, hown, hts⟩ (nX4_at l D A ad cI cQ rest S_1 (4 + o0) (qb_4 ho0) v3_1) (cwV 1 hts gX3_mergeWith_X4_at rfl rfl rfl (by decide +kernel) ⟨Nat.le_of_ble_eq_true rfl, Nat.le_of_ble_eq_true rfl⟩) ⟨qm_blind, va_recv hK hP (ci := 4) (q0 := (26 + (4 + o0))) rfl (qg_R (qb_4 ho0)), fun U hU hW => ⟨rfl, qm_go hA hS hP hK hD hU hW⟩⟩ rfl rfl hl.1 rfl (lv_room (Nat.le_of_ble_eq_true rfl)) dX3_mergeWith_103 ⟨Nat.le_of_ble_eq_true rfl, Nat.le_of_ble_eq_true rfl⟩) hS (fun _ _ h9 => h9) (fun _ h9 => h9) (fun v u t H1 locs1 ht hvm hw hB hz1 hk1 hS => ?_)
              obtain ⟨hw1, hw2⟩ := hw
              have hw1 : rw_at (S_1.1 (4 + o0)) v3_1 = v := hw1.symm
              have hw2 : S_1 = u := hw2.symm
              subst hw1
              subst hw2
              obtain ⟨hP, hD⟩ := qm_bk ht hB
              refine lv_aload_n hx hb dX3_mergeWith_106 rfl (lv_at hl 1 rfl) ?_
              refine va_get (D := D) (ci := 3) (v := .ref (ad (26 + (8 + o0)))) (C := RX3) (T := TX3) (N := 3) hx hb hts (by decide +kernel) hown hK hP (6 + o0) (qg_M ho0) rfl 2 (by decide) (hts (.fieldLink RX3 19 "QueueMiddles$MarkRow" "spreads" "LQueueMiddles$Row;") (by decide +kernel)) (fun _ h9 => h9) rfl dX3_mergeWith_107 ?_
              refine lv_iload_n hx hb dX3_mergeWith_110 rfl (lv_at hl 3 rfl) ?_
              refine va_calli (va_runV (As := [.int v3_1]) (rest := [.int (rw_at (S_1.1 (4 + o0)) v3_1), .int (rw_at (S_1.1 o0) v3_1), .int v6_1, .ref (ad (6 + k))]) ⟨hx, hb, hml, hown, hts⟩ (nX4_at l D A ad cI cQ rest S_1 (8 + o0) (qb_8 ho0) v3_1) (cwV 1 hts gX3_mergeWith_X4_at rfl rfl rfl (by decide +kernel) ⟨Nat.le_of_ble_eq_true rfl, Nat.le_of_ble_eq_true rfl⟩) ⟨qm_blind, va_recv hK hP (ci := 4) (q0 := (26 + (8 + o0))) rfl (qg_R (qb_8 ho0)), fun U hU hW => ⟨rfl, qm_go hA hS hP hK hD hU hW⟩⟩ rfl rfl hl.1 rfl (lv_room (Nat.le_of_ble_eq_true rfl)) dX3_mergeWith_111 ⟨Nat.le_of_ble_eq_true rfl, Nat.le_of_ble_eq_true rfl⟩) hS (fun _ _ h9 => h9) (fun _ h9 => h9) (fun v u t H1 locs1 ht hvm hw hB hz1 hk1 hS => ?_)
              obtain ⟨hw1, hw2⟩ := hw
              have hw1 : rw_at (S_1.1 (8 + o0)) v3_1 = v := hw1.symm
              have hw2 : S_1 = u := hw2.symm
              subst hw1
              subst hw2
              obtain ⟨hP, hD⟩ := qm_bk ht hB
              refine lv_iload hx hb dX3_mergeWith_114 (lv_at hl 4 rfl) ?_
              refine lv_iadd hx hb dX3_mergeWith_116 ?_
              refine va_callv (va_runV (As := [.int v6_1, .int (rw_at (S_1.1 o0) v3_1), .int (rw_at (S_1.1 (4 + o0)) v3_1), .int ((rw_at (S_1.1 (8 + o0)) v3_1) + v4_1)]) (rest := []) ⟨hx, hb, hml, hown, hts⟩ (nX3_write l D A ad cI cQ rest S_1 k hix v6_1 (rw_at (S_1.1 o0) v3_1) (rw_at (S_1.1 (4 + o0)) v3_1) ((rw_at (S_1.1 (8 + o0)) v3_1) + v4_1)) (cwV 4 hts gX3_mergeWith_X3_write rfl rfl rfl (by decide +kernel) ⟨Nat.le_of_ble_eq_true rfl, Nat.le_of_ble_eq_true rfl⟩) ⟨qm_blind, va_recv hK hP (ci := 3) (q0 := (6 + k)) rfl (qg_M hix), fun U hU hW => ⟨rfl, qm_go hA hS hP hK hD hU hW⟩⟩ rfl rfl hl.1 rfl (lv_room (Nat.le_of_ble_eq_true rfl)) dX3_mergeWith_117 ⟨Nat.le_of_ble_eq_true rfl, Nat.le_of_ble_eq_true rfl⟩) hS (fun _ _ h9 => h9) (fun _ h9 => h9) (fun u t H1 locs1 ht hvm hw hB hz1 hk1 hS => ?_)
              have hw : mr_wr S_1 k v6_1 (rw_at (S_1.1 o0) v3_1) (rw_at (S_1.1 (4 + o0)) v3_1) ((rw_at (S_1.1 (8 + o0)) v3_1) + v4_1) = u := hw.symm
              subst hw
              obtain ⟨hP, hD⟩ := qm_bk ht hB
              refine lv_aload_n hx hb dX3_mergeWith_120 rfl (lv_at hl 1 rfl) ?_
              refine lv_iload_n hx hb dX3_mergeWith_121 rfl (lv_at hl 3 rfl) ?_
              refine va_calli (va_runV (As := [.int v3_1]) (rest := []) ⟨hx, hb, hml, hown, hts⟩ (nX3_widthOf l D A ad cI cQ rest (mr_wr S_1 k v6_1 (rw_at (S_1.1 o0) v3_1) (rw_at (S_1.1 (4 + o0)) v3_1) ((rw_at (S_1.1 (8 + o0)) v3_1) + v4_1)) o0 ho0 v3_1) (cwV 1 hts gX3_mergeWith_X3_widthOf rfl rfl rfl (by decide +kernel) ⟨Nat.le_of_ble_eq_true rfl, Nat.le_of_ble_eq_true rfl⟩) ⟨qm_blind, va_recv hK hP (ci := 3) (q0 := (6 + o0)) rfl (qg_M ho0), fun U hU hW => ⟨rfl, qm_go hA hS hP hK hD hU hW⟩⟩ rfl rfl hl.1 rfl (lv_room (Nat.le_of_ble_eq_true rfl)) dX3_mergeWith_122 ⟨Nat.le_of_ble_eq_true rfl, Nat.le_of_ble_eq_true rfl⟩) hS (fun _ _ h9 => h9) (fun _ h9 => h9) (fun v u t H1 locs1 ht hvm hw hB hz1 hk1 hS => ?_)
              obtain ⟨hw1, hw2⟩ := hw
              have hw1 : ((rw_at ((mr_wr S_1 k v6_1 (rw_at (S_1.1 o0) v3_1) (rw_at (S_1.1 (4 + o0)) v3_1) ((rw_at (S_1.1 (8 + o0)) v3_1) + v4_1)).1 (4 + o0)) v3_1) + (rw_at ((mr_wr S_1 k v6_1 (rw_at (S_1.1 o0) v3_1) (rw_at (S_1.1 (4 + o0)) v3_1) ((rw_at (S_1.1 (8 + o0)) v3_1) + v4_1)).1 (8 + o0)) v3_1)) = v := hw1.symm
              have hw2 : mr_wr S_1 k v6_1 (rw_at (S_1.1 o0) v3_1) (rw_at (S_1.1 (4 + o0)) v3_1) ((rw_at (S_1.1 (8 + o0)) v3_1) + v4_1) = u := hw2.symm
              subst hw1
              subst hw2
              obtain ⟨hP, hD⟩ := qm_bk ht hB
              refine lv_iconst (v := (1 : Int32)) hx hb dX3_mergeWith_125 (by decide) ?_
              refine lv_isub hx hb dX3_mergeWith_126 ?_
              refine lv_istore (lv' := [(5, .int (((rw_at ((mr_wr S_1 k v6_1 (rw_at (S_1.1 o0) v3_1) (rw_at (S_1.1 (4 + o0)) v3_1) ((rw_at (S_1.1 (8 + o0)) v3_1) + v4_1)).1 (4 + o0)) v3_1) + (rw_at ((mr_wr S_1 k v6_1 (rw_at (S_1.1 o0) v3_1) (rw_at (S_1.1 (4 + o0)) v3_1) ((rw_at (S_1.1 (8 + o0)) v3_1) + v4_1)).1 (8 + o0)) v3_1)) - (1 : Int32))), (0, .ref (ad (6 + k))), (1, .ref (ad (6 + o0))), (2, .int v2_1), (3, .int v3_1), (4, .int v4_1), (6, .int v6_1)]) hx hb dX3_mergeWith_127 hl (by decide) rfl (fun ls hl => ?_)
              refine lv_iinc (v := v3_1 + (-1 : Int32)) (lv' := [(3, .int (v3_1 + (-1 : Int32))), (5, .int (((rw_at ((mr_wr S_1 k v6_1 (rw_at (S_1.1 o0) v3_1) (rw_at (S_1.1 (4 + o0)) v3_1) ((rw_at (S_1.1 (8 + o0)) v3_1) + v4_1)).1 (4 + o0)) v3_1) + (rw_at ((mr_wr S_1 k v6_1 (rw_at (S_1.1 o0) v3_1) (rw_at (S_1.1 (4 + o0)) v3_1) ((rw_at (S_1.1 (8 + o0)) v3_1) + v4_1)).1 (8 + o0)) v3_1)) - (1 : Int32))), (0, .ref (ad (6 + k))), (1, .ref (ad (6 + o0))), (2, .int v2_1), (4, .int v4_1), (6, .int v6_1)]) hx hb dX3_mergeWith_129 hl (k := 4) rfl rfl (by decide) rfl (fun ls hl => ?_)
              refine lv_goto (tgt := 184) hx hb dX3_mergeWith_132 (by decide) ?_
              refine lv_iinc (v := v6_1 + (-1 : Int32)) (lv' := [(6, .int (v6_1 + (-1 : Int32))), (3, .int (v3_1 + (-1 : Int32))), (5, .int (((rw_at ((mr_wr S_1 k v6_1 (rw_at (S_1.1 o0) v3_1) (rw_at (S_1.1 (4 + o0)) v3_1) ((rw_at (S_1.1 (8 + o0)) v3_1) + v4_1)).1 (4 + o0)) v3_1) + (rw_at ((mr_wr S_1 k v6_1 (rw_at (S_1.1 o0) v3_1) (rw_at (S_1.1 (4 + o0)) v3_1) ((rw_at (S_1.1 (8 + o0)) v3_1) + v4_1)).1 (8 + o0)) v3_1)) - (1 : Int32))), (0, .ref (ad (6 + k))), (1, .ref (ad (6 + o0))), (2, .int v2_1), (4, .int v4_1)]) hx hb dX3_mergeWith_184 hl (k := 6) rfl rfl (by decide) rfl (fun ls hl => ?_)
              refine lv_goto (tgt := 55) hx hb dX3_mergeWith_187 (by decide) ?_
              exact ih v2_1 (v3_1 + (-1 : Int32)) v4_1 (((rw_at ((mr_wr S_1 k v6_1 (rw_at (S_1.1 o0) v3_1) (rw_at (S_1.1 (4 + o0)) v3_1) ((rw_at (S_1.1 (8 + o0)) v3_1) + v4_1)).1 (4 + o0)) v3_1) + (rw_at ((mr_wr S_1 k v6_1 (rw_at (S_1.1 o0) v3_1) (rw_at (S_1.1 (4 + o0)) v3_1) ((rw_at (S_1.1 (8 + o0)) v3_1) + v4_1)).1 (8 + o0)) v3_1)) - (1 : Int32)) (v6_1 + (-1 : Int32)) (mr_wr S_1 k v6_1 (rw_at (S_1.1 o0) v3_1) (rw_at (S_1.1 (4 + o0)) v3_1) ((rw_at (S_1.1 (8 + o0)) v3_1) + v4_1)) z h _ _ _ hP hD hS (lv_sub hl [3, 4, 5, 1, 6, 2, 0] rfl) kex
  obtain ⟨z_7, hz_8, h⟩ := qm_bind h
  refine loop_2 qm_F (((S.1 k).1) - (1 : Int32)) (((S.1 o0).1) - (1 : Int32)) (rw_at (S.1 (8 + k)) (((S.1 k).1) - (1 : Int32))) (rw_at (S.1 (8 + o0)) (((S.1 o0).1) - (1 : Int32))) ((((mr_gro S k (((S.1 k).1) + ((S.1 o0).1))).1 k).1) - (1 : Int32)) (mr_gro S k (((S.1 k).1) + ((S.1 o0).1))) z_7 hz_8 _ _ _ hP hD hS (lv_sub hl [5, 6, 4, 3, 2, 1, 0] rfl) (fun H locs ls hP hD hS hl => ?_)
  have h := Option.some.inj h
  subst h
  rw [hQX]
  exact W.vret hx hb hr (fun t ht hW => ⟨⟨z_7, rfl, rfl, qm_en ht hP hD⟩, hS.F ht⟩) hS.2.2 dX3_mergeWith_190
