noncomputable def fX5_clear (S : qm_S) (k : Nat) : Option (qm_S) :=
  some (qm_to (qm_row (qm_row S (12 + k) (rw_cut (S.1 (12 + k)) (0 : Int32))) (16 + k) (rw_cut ((qm_row S (12 + k) (rw_cut (S.1 (12 + k)) (0 : Int32))).1 (16 + k)) (0 : Int32))) k (0 : Int32))
def ta_clr (S : qm_S) (k : Nat) : qm_S := qm_to (qm_row (qm_row S (12 + k) (rw_cut (S.1 (12 + k)) 0)) (16 + k) (rw_cut (S.1 (16 + k)) 0)) k 0
set_option maxHeartbeats 4000000 in
set_option maxRecDepth 100000 in
theorem kX5_clear (l : Launch) (D : va_G) (A : Nat → Prop) (ad : Nat → Nat) (cI cQ : ClassId) (rest : va_W) (S : qm_S) (k : Nat) (hix : k < 4) (z : qm_S) (h : fX5_clear S k = some z) : Met l yX5_clear wsX5_clear ({ frames := 1, cells := 0, slots := 0, locals := 21 }) (va_Pc [.ref (ad (10 + k))] (qm_B D A (qm_T cI cQ) (qm_W ad cI cQ rest S))) (qm_Qv D A (qm_W ad cI cQ rest) z) 0 0 A := by
  refine Met.ofW (cc := cX5_clear) (maxL := 1) (ret := none) (by decide) rfl ?_
  intro p e s m args below meth c s₁ B hml hv
  obtain ⟨rfl, hA, hP, hK, hD⟩ := hv
  have hx := B.exec
  have hb := B.bytes
  have hr := B.returns
  have hts := atoms_spec (ws := wsX5_clear) B.pre
  have hown : s.vm.findClass RX5 = some m.cls := findClass_of_methodNamed B.named
  have hlocks := B.notSynchronized
  have hS : va_S A s.heap s.heap [] := va_S.rf
  have hl := lv_entry ([.ref (ad (10 + k))]) (n := 1) (Nat.le_of_ble_eq_true rfl)
  rw [lg_entry_eq]
  generalize (lg_sl ([.ref (ad (10 + k))]) ++ List.replicate (1 - (lg_sl ([.ref (ad (10 + k))])).length) Slot.unset).toArray = ls at hl ⊢
  have hl : lv_has ls 1 [(0, .ref (ad (10 + k)))] := hl
  rw [fX5_clear] at h
  refine lv_aload_n hx hb dX5_clear_0 rfl (lv_at hl 0 rfl) ?_
  refine va_get (D := D) (ci := 5) (v := .ref (ad (26 + (12 + k)))) (C := RX5) (T := TX5) (N := 3) hx hb hts (by decide +kernel) hown hK hP (10 + k) (qg_T hix) rfl 0 (by decide) (hts (.fieldLink RX5 10 "QueueMiddles$Tally" "kinds" "LQueueMiddles$Row;") (by decide +kernel)) (fun _ h9 => h9) rfl dX5_clear_1 ?_
  refine lv_iconst (v := (0 : Int32)) hx hb dX5_clear_4 (by decide) ?_
  refine va_callv (va_runV (As := [.int (0 : Int32)]) (rest := []) ⟨hx, hb, hml, hown, hts⟩ (nX4_cutTo l D A ad cI cQ rest S (12 + k) (qb_12 hix) (0 : Int32)) (cwV 1 hts gX5_clear_X4_cutTo rfl rfl rfl (by decide +kernel) ⟨Nat.le_of_ble_eq_true rfl, Nat.le_of_ble_eq_true rfl⟩) ⟨qm_blind, va_recv hK hP (ci := 4) (q0 := (26 + (12 + k))) rfl (qg_R (qb_12 hix)), fun U hU hW => ⟨rfl, qm_go hA hS hP hK hD hU hW⟩⟩ rfl rfl hl.1 rfl (lv_room (Nat.le_of_ble_eq_true rfl)) dX5_clear_5 ⟨Nat.le_of_ble_eq_true rfl, Nat.le_of_ble_eq_true rfl⟩) hS (fun _ _ h9 => h9) (fun _ h9 => h9) (fun u t H1 locs1 ht hvm hw hB hz1 hk1 hS => ?_)
  have hw : qm_row S (12 + k) (rw_cut (S.1 (12 + k)) (0 : Int32)) = u := hw.symm
  subst hw
  obtain ⟨hP, hD⟩ := qm_bk ht hB
  refine lv_aload_n hx hb dX5_clear_8 rfl (lv_at hl 0 rfl) ?_
  refine va_get (D := D) (ci := 5) (v := .ref (ad (26 + (16 + k)))) (C := RX5) (T := TX5) (N := 3) hx hb hts (by decide +kernel) hown hK hP (10 + k) (qg_T hix) rfl 1 (by decide) (hts (.fieldLink RX5 16 "QueueMiddles$Tally" "times" "LQueueMiddles$Row;") (by decide +kernel)) (fun _ h9 => h9) rfl dX5_clear_9 ?_
  refine lv_iconst (v := (0 : Int32)) hx hb dX5_clear_12 (by decide) ?_
  refine va_callv (va_runV (As := [.int (0 : Int32)]) (rest := []) ⟨hx, hb, hml, hown, hts⟩ (nX4_cutTo l D A ad cI cQ rest (qm_row S (12 + k) (rw_cut (S.1 (12 + k)) (0 : Int32))) (16 + k) (qb_16 hix) (0 : Int32)) (cwV 1 hts gX5_clear_X4_cutTo rfl rfl rfl (by decide +kernel) ⟨Nat.le_of_ble_eq_true rfl, Nat.le_of_ble_eq_true rfl⟩) ⟨qm_blind, va_recv hK hP (ci := 4) (q0 := (26 + (16 + k))) rfl (qg_R (qb_16 hix)), fun U hU hW => ⟨rfl, qm_go hA hS hP hK hD hU hW⟩⟩ rfl rfl hl.1 rfl (lv_room (Nat.le_of_ble_eq_true rfl)) dX5_clear_13 ⟨Nat.le_of_ble_eq_true rfl, Nat.le_of_ble_eq_true rfl⟩) hS (fun _ _ h9 => h9) (fun _ h9 => h9) (fun u t H1 locs1 ht hvm hw hB hz1 hk1 hS => ?_)
  have hw : qm_row (qm_row S (12 + k) (rw_cut (S.1 (12 + k)) (0 : Int32))) (16 + k) (rw_cut ((qm_row S (12 + k) (rw_cut (S.1 (12 + k)) (0 : Int32))).1 (16 + k)) (0 : Int32)) = u := hw.symm
  subst hw
  obtain ⟨hP, hD⟩ := qm_bk ht hB
  refine lv_aload_n hx hb dX5_clear_16 rfl (lv_at hl 0 rfl) ?_
  refine lv_iconst (v := (0 : Int32)) hx hb dX5_clear_17 (by decide) ?_
  refine va_put (D := D) (ci := 5) (v := .int (0 : Int32)) (ty := .int) (C := RX5) (T := TX5) (N := 3) hx hb hts (by decide +kernel) tyX5 tyX5_ok nmX5 hown hK hP hD hS (10 + k) (qg_T hix) rfl 2 (by decide) (hts (.fieldLink RX5 23 "QueueMiddles$Tally" "total" "I") (by decide +kernel)) (fun _ h9 => h9) rfl (by decide +kernel) rfl rfl (Nat.le_of_ble_eq_true rfl) dX5_clear_18 (fun H locs hP hD hS => ?_)
  rw [qs_to hix (0 : Int32)] at hP hD
  have h := Option.some.inj h
  subst h
  exact W.vret hx hb hr (fun t ht hW => ⟨⟨qm_to (qm_row (qm_row S (12 + k) (rw_cut (S.1 (12 + k)) (0 : Int32))) (16 + k) (rw_cut ((qm_row S (12 + k) (rw_cut (S.1 (12 + k)) (0 : Int32))).1 (16 + k)) (0 : Int32))) k (0 : Int32), rfl, rfl, qm_en ht hP hD⟩, hS.F ht⟩) hS.2.2 dX5_clear_21
theorem eX5_clear (S : qm_S) (k : Nat) : fX5_clear S k = some (ta_clr S k) := by
  unfold fX5_clear ta_clr
  rw [qm_row_ne _ _ (show 16 + k ≠ 12 + k by omega)]
theorem nX5_clear (l : Launch) (D : va_G) (A : Nat → Prop) (ad : Nat → Nat) (cI cQ : ClassId) (rest : va_W) (S : qm_S) (k : Nat) (hix : k < 4) : Met l yX5_clear wsX5_clear ({ frames := 1, cells := 0, slots := 0, locals := 21 }) (va_Pc [.ref (ad (10 + k))] (qm_B D A (qm_T cI cQ) (qm_W ad cI cQ rest S))) (qm_Qv D A (qm_W ad cI cQ rest) (ta_clr S k)) 0 0 A :=
  kX5_clear l D A ad cI cQ rest S k hix _ (eX5_clear S k)
noncomputable def fX5_total (S : qm_S) (k : Nat) : Option (Int32) :=
  some (S.2.2 k)
set_option maxHeartbeats 4000000 in
set_option maxRecDepth 100000 in
theorem kX5_total (l : Launch) (D : va_G) (A : Nat → Prop) (ad : Nat → Nat) (cI cQ : ClassId) (rest : va_W) (S : qm_S) (k : Nat) (hix : k < 4) (z : Int32) (h : fX5_total S k = some z) : Met l yX5_total wsX5_total ({ frames := 0, cells := 0, slots := 0, locals := 0 }) (va_Pc [.ref (ad (10 + k))] (qm_B D A (qm_T cI cQ) (qm_W ad cI cQ rest S))) (qm_Qi D A (qm_W ad cI cQ rest) (z, S)) 0 0 A := by
  refine Met.ofW (cc := cX5_total) (maxL := 1) (ret := (some .int)) (by decide) rfl ?_
  intro p e s m args below meth c s₁ B hml hv
  obtain ⟨rfl, hA, hP, hK, hD⟩ := hv
  have hx := B.exec
  have hb := B.bytes
  have hr := B.returns
  have hts := atoms_spec (ws := wsX5_total) B.pre
  have hown : s.vm.findClass RX5 = some m.cls := findClass_of_methodNamed B.named
  have hlocks := B.notSynchronized
  have hS : va_S A s.heap s.heap [] := va_S.rf
  have hl := lv_entry ([.ref (ad (10 + k))]) (n := 1) (Nat.le_of_ble_eq_true rfl)
  rw [lg_entry_eq]
  generalize (lg_sl ([.ref (ad (10 + k))]) ++ List.replicate (1 - (lg_sl ([.ref (ad (10 + k))])).length) Slot.unset).toArray = ls at hl ⊢
  have hl : lv_has ls 1 [(0, .ref (ad (10 + k)))] := hl
  rw [fX5_total] at h
  refine lv_aload_n hx hb dX5_total_0 rfl (lv_at hl 0 rfl) ?_
  refine va_get (D := D) (ci := 5) (v := .int (S.2.2 k)) (C := RX5) (T := TX5) (N := 3) hx hb hts (by decide +kernel) hown hK hP (10 + k) (qg_T hix) rfl 2 (by decide) (hts (.fieldLink RX5 23 "QueueMiddles$Tally" "total" "I") (by decide +kernel)) (fun _ h9 => h9) rfl dX5_total_1 ?_
  have h := Option.some.inj h
  subst h
  exact W.iret (v := S.2.2 k) hx hb hr (fun t ht hW => ⟨⟨S.2.2 k, S, rfl, ⟨rfl, rfl⟩, qm_en ht hP hD⟩, hS.F ht⟩) hS.2.2 dX5_total_4
theorem eX5_total (S : qm_S) (k : Nat) : fX5_total S k = some (S.2.2 k) := by
  rfl
theorem nX5_total (l : Launch) (D : va_G) (A : Nat → Prop) (ad : Nat → Nat) (cI cQ : ClassId) (rest : va_W) (S : qm_S) (k : Nat) (hix : k < 4) : Met l yX5_total wsX5_total ({ frames := 0, cells := 0, slots := 0, locals := 0 }) (va_Pc [.ref (ad (10 + k))] (qm_B D A (qm_T cI cQ) (qm_W ad cI cQ rest S))) (qm_Qi D A (qm_W ad cI cQ rest) ((S.2.2 k), S)) 0 0 A :=
  kX5_total l D A ad cI cQ rest S k hix _ (eX5_total S k)
noncomputable def fX5_kinds (S : qm_S) (k : Nat) : Option (Int32) :=
  some ((S.1 (12 + k)).1)
set_option maxHeartbeats 4000000 in
set_option maxRecDepth 100000 in
theorem kX5_kinds (l : Launch) (D : va_G) (A : Nat → Prop) (ad : Nat → Nat) (cI cQ : ClassId) (rest : va_W) (S : qm_S) (k : Nat) (hix : k < 4) (z : Int32) (h : fX5_kinds S k = some z) : Met l yX5_kinds wsX5_kinds ({ frames := 1, cells := 0, slots := 0, locals := 20 }) (va_Pc [.ref (ad (10 + k))] (qm_B D A (qm_T cI cQ) (qm_W ad cI cQ rest S))) (qm_Qi D A (qm_W ad cI cQ rest) (z, S)) 0 0 A := by
  refine Met.ofW (cc := cX5_kinds) (maxL := 1) (ret := (some .int)) (by decide) rfl ?_
  intro p e s m args below meth c s₁ B hml hv
  obtain ⟨rfl, hA, hP, hK, hD⟩ := hv
  have hx := B.exec
  have hb := B.bytes
  have hr := B.returns
  have hts := atoms_spec (ws := wsX5_kinds) B.pre
  have hown : s.vm.findClass RX5 = some m.cls := findClass_of_methodNamed B.named
  have hlocks := B.notSynchronized
  have hS : va_S A s.heap s.heap [] := va_S.rf
  have hl := lv_entry ([.ref (ad (10 + k))]) (n := 1) (Nat.le_of_ble_eq_true rfl)
  rw [lg_entry_eq]
  generalize (lg_sl ([.ref (ad (10 + k))]) ++ List.replicate (1 - (lg_sl ([.ref (ad (10 + k))])).length) Slot.unset).toArray = ls at hl ⊢
  have hl : lv_has ls 1 [(0, .ref (ad (10 + k)))] := hl
  rw [fX5_kinds] at h
  refine lv_aload_n hx hb dX5_kinds_0 rfl (lv_at hl 0 rfl) ?_
  refine va_get (D := D) (ci := 5) (v := .ref (ad (26 + (12 + k)))) (C := RX5) (T := TX5) (N := 3) hx hb hts (by decide +kernel) hown hK hP (10 + k) (qg_T hix) rfl 0 (by decide) (hts (.fieldLink RX5 10 "QueueMiddles$Tally" "kinds" "LQueueMiddles$Row;") (by decide +kernel)) (fun _ h9 => h9) rfl dX5_kinds_1 ?_
  refine va_calli (va_runV (As := []) (rest := []) ⟨hx, hb, hml, hown, hts⟩ (nX4_size l D A ad cI cQ rest S (12 + k) (qb_12 hix)) (cwV 0 hts gX5_kinds_X4_size rfl rfl rfl (by decide +kernel) ⟨Nat.le_of_ble_eq_true rfl, Nat.le_of_ble_eq_true rfl⟩) ⟨qm_blind, va_recv hK hP (ci := 4) (q0 := (26 + (12 + k))) rfl (qg_R (qb_12 hix)), fun U hU hW => ⟨rfl, qm_go hA hS hP hK hD hU hW⟩⟩ rfl rfl hl.1 rfl (lv_room (Nat.le_of_ble_eq_true rfl)) dX5_kinds_4 ⟨Nat.le_of_ble_eq_true rfl, Nat.le_of_ble_eq_true rfl⟩) hS (fun _ _ h9 => h9) (fun _ h9 => h9) (fun v u t H1 locs1 ht hvm hw hB hz1 hk1 hS => ?_)
  obtain ⟨hw1, hw2⟩ := hw
  have hw1 : (S.1 (12 + k)).1 = v := hw1.symm
  have hw2 : S = u := hw2.symm
  subst hw1
  subst hw2
  obtain ⟨hP, hD⟩ := qm_bk ht hB
  have h := Option.some.inj h
  subst h
  exact W.iret (v := (S.1 (12 + k)).1) hx hb hr (fun t ht hW => ⟨⟨(S.1 (12 + k)).1, S, rfl, ⟨rfl, rfl⟩, qm_en ht hP hD⟩, hS.F ht⟩) hS.2.2 dX5_kinds_7
theorem eX5_kinds (S : qm_S) (k : Nat) : fX5_kinds S k = some ((S.1 (12 + k)).1) := by
  rfl
theorem nX5_kinds (l : Launch) (D : va_G) (A : Nat → Prop) (ad : Nat → Nat) (cI cQ : ClassId) (rest : va_W) (S : qm_S) (k : Nat) (hix : k < 4) : Met l yX5_kinds wsX5_kinds ({ frames := 1, cells := 0, slots := 0, locals := 20 }) (va_Pc [.ref (ad (10 + k))] (qm_B D A (qm_T cI cQ) (qm_W ad cI cQ rest S))) (qm_Qi D A (qm_W ad cI cQ rest) (((S.1 (12 + k)).1), S)) 0 0 A :=
  kX5_kinds l D A ad cI cQ rest S k hix _ (eX5_kinds S k)
noncomputable def fX5_numberAt (S : qm_S) (k : Nat) (p0 : Int32) : Option (Int32) :=
  some (rw_at (S.1 (12 + k)) p0)
set_option maxHeartbeats 4000000 in
set_option maxRecDepth 100000 in
theorem kX5_numberAt (l : Launch) (D : va_G) (A : Nat → Prop) (ad : Nat → Nat) (cI cQ : ClassId) (rest : va_W) (S : qm_S) (k : Nat) (hix : k < 4) (p0 : Int32) (z : Int32) (h : fX5_numberAt S k p0 = some z) : Met l yX5_numberAt wsX5_numberAt ({ frames := 2, cells := 0, slots := 0, locals := 42 }) (va_Pc [.ref (ad (10 + k)), .int p0] (qm_B D A (qm_T cI cQ) (qm_W ad cI cQ rest S))) (qm_Qi D A (qm_W ad cI cQ rest) (z, S)) 0 0 A := by
  refine Met.ofW (cc := cX5_numberAt) (maxL := 2) (ret := (some .int)) (by decide) rfl ?_
  intro p e s m args below meth c s₁ B hml hv
  obtain ⟨rfl, hA, hP, hK, hD⟩ := hv
  have hx := B.exec
  have hb := B.bytes
  have hr := B.returns
  have hts := atoms_spec (ws := wsX5_numberAt) B.pre
  have hown : s.vm.findClass RX5 = some m.cls := findClass_of_methodNamed B.named
  have hlocks := B.notSynchronized
  have hS : va_S A s.heap s.heap [] := va_S.rf
  have hl := lv_entry ([.ref (ad (10 + k)), .int p0]) (n := 2) (Nat.le_of_ble_eq_true rfl)
  rw [lg_entry_eq]
  generalize (lg_sl ([.ref (ad (10 + k)), .int p0]) ++ List.replicate (2 - (lg_sl ([.ref (ad (10 + k)), .int p0])).length) Slot.unset).toArray = ls at hl ⊢
  have hl : lv_has ls 2 [(0, .ref (ad (10 + k))), (1, .int p0)] := hl
  rw [fX5_numberAt] at h
  refine lv_aload_n hx hb dX5_numberAt_0 rfl (lv_at hl 0 rfl) ?_
  refine va_get (D := D) (ci := 5) (v := .ref (ad (26 + (12 + k)))) (C := RX5) (T := TX5) (N := 3) hx hb hts (by decide +kernel) hown hK hP (10 + k) (qg_T hix) rfl 0 (by decide) (hts (.fieldLink RX5 10 "QueueMiddles$Tally" "kinds" "LQueueMiddles$Row;") (by decide +kernel)) (fun _ h9 => h9) rfl dX5_numberAt_1 ?_
  refine lv_iload_n hx hb dX5_numberAt_4 rfl (lv_at hl 1 rfl) ?_
  refine va_calli (va_runV (As := [.int p0]) (rest := []) ⟨hx, hb, hml, hown, hts⟩ (nX4_at l D A ad cI cQ rest S (12 + k) (qb_12 hix) p0) (cwV 1 hts gX5_numberAt_X4_at rfl rfl rfl (by decide +kernel) ⟨Nat.le_of_ble_eq_true rfl, Nat.le_of_ble_eq_true rfl⟩) ⟨qm_blind, va_recv hK hP (ci := 4) (q0 := (26 + (12 + k))) rfl (qg_R (qb_12 hix)), fun U hU hW => ⟨rfl, qm_go hA hS hP hK hD hU hW⟩⟩ rfl rfl hl.1 rfl (lv_room (Nat.le_of_ble_eq_true rfl)) dX5_numberAt_5 ⟨Nat.le_of_ble_eq_true rfl, Nat.le_of_ble_eq_true rfl⟩) hS (fun _ _ h9 => h9) (fun _ h9 => h9) (fun v u t H1 locs1 ht hvm hw hB hz1 hk1 hS => ?_)
  obtain ⟨hw1, hw2⟩ := hw
  have hw1 : rw_at (S.1 (12 + k)) p0 = v := hw1.symm
  have hw2 : S = u := hw2.symm
  subst hw1
  subst hw2
  obtain ⟨hP, hD⟩ := qm_bk ht hB
  have h := Option.some.inj h
  subst h
  exact W.iret (v := rw_at (S.1 (12 + k)) p0) hx hb hr (fun t ht hW => ⟨⟨rw_at (S.1 (12 + k)) p0, S, rfl, ⟨rfl, rfl⟩, qm_en ht hP hD⟩, hS.F ht⟩) hS.2.2 dX5_numberAt_8
theorem eX5_numberAt (S : qm_S) (k : Nat) (p0 : Int32) : fX5_numberAt S k p0 = some (rw_at (S.1 (12 + k)) p0) := by
  rfl
theorem nX5_numberAt (l : Launch) (D : va_G) (A : Nat → Prop) (ad : Nat → Nat) (cI cQ : ClassId) (rest : va_W) (S : qm_S) (k : Nat) (hix : k < 4) (p0 : Int32) : Met l yX5_numberAt wsX5_numberAt ({ frames := 2, cells := 0, slots := 0, locals := 42 }) (va_Pc [.ref (ad (10 + k)), .int p0] (qm_B D A (qm_T cI cQ) (qm_W ad cI cQ rest S))) (qm_Qi D A (qm_W ad cI cQ rest) ((rw_at (S.1 (12 + k)) p0), S)) 0 0 A :=
  kX5_numberAt l D A ad cI cQ rest S k hix p0 _ (eX5_numberAt S k p0)
noncomputable def fX5_timesAt (S : qm_S) (k : Nat) (p0 : Int32) : Option (Int32) :=
  some (rw_at (S.1 (16 + k)) p0)
set_option maxHeartbeats 4000000 in
set_option maxRecDepth 100000 in
theorem kX5_timesAt (l : Launch) (D : va_G) (A : Nat → Prop) (ad : Nat → Nat) (cI cQ : ClassId) (rest : va_W) (S : qm_S) (k : Nat) (hix : k < 4) (p0 : Int32) (z : Int32) (h : fX5_timesAt S k p0 = some z) : Met l yX5_timesAt wsX5_timesAt ({ frames := 2, cells := 0, slots := 0, locals := 42 }) (va_Pc [.ref (ad (10 + k)), .int p0] (qm_B D A (qm_T cI cQ) (qm_W ad cI cQ rest S))) (qm_Qi D A (qm_W ad cI cQ rest) (z, S)) 0 0 A := by
  refine Met.ofW (cc := cX5_timesAt) (maxL := 2) (ret := (some .int)) (by decide) rfl ?_
  intro p e s m args below meth c s₁ B hml hv
  obtain ⟨rfl, hA, hP, hK, hD⟩ := hv
  have hx := B.exec
  have hb := B.bytes
  have hr := B.returns
  have hts := atoms_spec (ws := wsX5_timesAt) B.pre
  have hown : s.vm.findClass RX5 = some m.cls := findClass_of_methodNamed B.named
  have hlocks := B.notSynchronized
  have hS : va_S A s.heap s.heap [] := va_S.rf
  have hl := lv_entry ([.ref (ad (10 + k)), .int p0]) (n := 2) (Nat.le_of_ble_eq_true rfl)
  rw [lg_entry_eq]
  generalize (lg_sl ([.ref (ad (10 + k)), .int p0]) ++ List.replicate (2 - (lg_sl ([.ref (ad (10 + k)), .int p0])).length) Slot.unset).toArray = ls at hl ⊢
  have hl : lv_has ls 2 [(0, .ref (ad (10 + k))), (1, .int p0)] := hl
  rw [fX5_timesAt] at h
  refine lv_aload_n hx hb dX5_timesAt_0 rfl (lv_at hl 0 rfl) ?_
  refine va_get (D := D) (ci := 5) (v := .ref (ad (26 + (16 + k)))) (C := RX5) (T := TX5) (N := 3) hx hb hts (by decide +kernel) hown hK hP (10 + k) (qg_T hix) rfl 1 (by decide) (hts (.fieldLink RX5 16 "QueueMiddles$Tally" "times" "LQueueMiddles$Row;") (by decide +kernel)) (fun _ h9 => h9) rfl dX5_timesAt_1 ?_
  refine lv_iload_n hx hb dX5_timesAt_4 rfl (lv_at hl 1 rfl) ?_
  refine va_calli (va_runV (As := [.int p0]) (rest := []) ⟨hx, hb, hml, hown, hts⟩ (nX4_at l D A ad cI cQ rest S (16 + k) (qb_16 hix) p0) (cwV 1 hts gX5_timesAt_X4_at rfl rfl rfl (by decide +kernel) ⟨Nat.le_of_ble_eq_true rfl, Nat.le_of_ble_eq_true rfl⟩) ⟨qm_blind, va_recv hK hP (ci := 4) (q0 := (26 + (16 + k))) rfl (qg_R (qb_16 hix)), fun U hU hW => ⟨rfl, qm_go hA hS hP hK hD hU hW⟩⟩ rfl rfl hl.1 rfl (lv_room (Nat.le_of_ble_eq_true rfl)) dX5_timesAt_5 ⟨Nat.le_of_ble_eq_true rfl, Nat.le_of_ble_eq_true rfl⟩) hS (fun _ _ h9 => h9) (fun _ h9 => h9) (fun v u t H1 locs1 ht hvm hw hB hz1 hk1 hS => ?_)
  obtain ⟨hw1, hw2⟩ := hw
  have hw1 : rw_at (S.1 (16 + k)) p0 = v := hw1.symm
  have hw2 : S = u := hw2.symm
  subst hw1
  subst hw2
  obtain ⟨hP, hD⟩ := qm_bk ht hB
  have h := Option.some.inj h
  subst h
  exact W.iret (v := rw_at (S.1 (16 + k)) p0) hx hb hr (fun t ht hW => ⟨⟨rw_at (S.1 (16 + k)) p0, S, rfl, ⟨rfl, rfl⟩, qm_en ht hP hD⟩, hS.F ht⟩) hS.2.2 dX5_timesAt_8
theorem eX5_timesAt (S : qm_S) (k : Nat) (p0 : Int32) : fX5_timesAt S k p0 = some (rw_at (S.1 (16 + k)) p0) := by
  rfl
theorem nX5_timesAt (l : Launch) (D : va_G) (A : Nat → Prop) (ad : Nat → Nat) (cI cQ : ClassId) (rest : va_W) (S : qm_S) (k : Nat) (hix : k < 4) (p0 : Int32) : Met l yX5_timesAt wsX5_timesAt ({ frames := 2, cells := 0, slots := 0, locals := 42 }) (va_Pc [.ref (ad (10 + k)), .int p0] (qm_B D A (qm_T cI cQ) (qm_W ad cI cQ rest S))) (qm_Qi D A (qm_W ad cI cQ rest) ((rw_at (S.1 (16 + k)) p0), S)) 0 0 A :=
  kX5_timesAt l D A ad cI cQ rest S k hix p0 _ (eX5_timesAt S k p0)
noncomputable def fX5_add (S : qm_S) (k : Nat) (p0 : Int32) (p1 : Int32) : Option (qm_S) :=
  Option.bind (fX4_notAbove S (12 + k) p0) (fun z_1 => (if z_1 ≤ 0 then some (qm_to (qm_row (qm_row S (12 + k) (rw_ins (S.1 (12 + k)) z_1 p0)) (16 + k) (rw_ins ((qm_row S (12 + k) (rw_ins (S.1 (12 + k)) z_1 p0)).1 (16 + k)) z_1 p1)) k (((qm_row (qm_row S (12 + k) (rw_ins (S.1 (12 + k)) z_1 p0)) (16 + k) (rw_ins ((qm_row S (12 + k) (rw_ins (S.1 (12 + k)) z_1 p0)).1 (16 + k)) z_1 p1)).2.2 k) + p1)) else (if (rw_at (S.1 (12 + k)) (z_1 - (1 : Int32))) = p0 then some (qm_to (qm_row S (16 + k) (rw_put (S.1 (16 + k)) (z_1 - (1 : Int32)) ((rw_at (S.1 (16 + k)) (z_1 - (1 : Int32))) + p1))) k (((qm_row S (16 + k) (rw_put (S.1 (16 + k)) (z_1 - (1 : Int32)) ((rw_at (S.1 (16 + k)) (z_1 - (1 : Int32))) + p1))).2.2 k) + p1)) else some (qm_to (qm_row (qm_row S (12 + k) (rw_ins (S.1 (12 + k)) z_1 p0)) (16 + k) (rw_ins ((qm_row S (12 + k) (rw_ins (S.1 (12 + k)) z_1 p0)).1 (16 + k)) z_1 p1)) k (((qm_row (qm_row S (12 + k) (rw_ins (S.1 (12 + k)) z_1 p0)) (16 + k) (rw_ins ((qm_row S (12 + k) (rw_ins (S.1 (12 + k)) z_1 p0)).1 (16 + k)) z_1 p1)).2.2 k) + p1)))))
set_option maxHeartbeats 4000000 in
set_option maxRecDepth 100000 in
theorem kX5_add (l : Launch) (D : va_G) (A : Nat → Prop) (ad : Nat → Nat) (cI cQ : ClassId) (rest : va_W) (S : qm_S) (k : Nat) (hix : k < 4) (p0 : Int32) (p1 : Int32) (z : qm_S) (h : fX5_add S k p0 p1 = some z) : Met l yX5_add wsX5_add ({ frames := 3, cells := 0, slots := 0, locals := 82 }) (va_Pc [.ref (ad (10 + k)), .int p0, .int p1] (qm_B D A (qm_T cI cQ) (qm_W ad cI cQ rest S))) (qm_Qv D A (qm_W ad cI cQ rest) z) 0 0 A := by
  refine Met.ofW (cc := cX5_add) (maxL := 4) (ret := none) (by decide) rfl ?_
  intro p e s m args below meth c s₁ B hml hv
  obtain ⟨rfl, hA, hP, hK, hD⟩ := hv
  have hx := B.exec
  have hb := B.bytes
  have hr := B.returns
  have hts := atoms_spec (ws := wsX5_add) B.pre
  have hown : s.vm.findClass RX5 = some m.cls := findClass_of_methodNamed B.named
  have hlocks := B.notSynchronized
  have hS : va_S A s.heap s.heap [] := va_S.rf
  have hl := lv_entry ([.ref (ad (10 + k)), .int p0, .int p1]) (n := 4) (Nat.le_of_ble_eq_true rfl)
  rw [lg_entry_eq]
  generalize (lg_sl ([.ref (ad (10 + k)), .int p0, .int p1]) ++ List.replicate (4 - (lg_sl ([.ref (ad (10 + k)), .int p0, .int p1])).length) Slot.unset).toArray = ls at hl ⊢
  have hl : lv_has ls 4 [(0, .ref (ad (10 + k))), (1, .int p0), (2, .int p1)] := hl
  rw [fX5_add] at h
  refine lv_aload_n hx hb dX5_add_0 rfl (lv_at hl 0 rfl) ?_
  refine va_get (D := D) (ci := 5) (v := .ref (ad (26 + (12 + k)))) (C := RX5) (T := TX5) (N := 3) hx hb hts (by decide +kernel) hown hK hP (10 + k) (qg_T hix) rfl 0 (by decide) (hts (.fieldLink RX5 10 "QueueMiddles$Tally" "kinds" "LQueueMiddles$Row;") (by decide +kernel)) (fun _ h9 => h9) rfl dX5_add_1 ?_
  refine lv_iload_n hx hb dX5_add_4 rfl (lv_at hl 1 rfl) ?_
  obtain ⟨z_1, hz_2, h⟩ := qm_bind h
  refine va_calli (va_runV (As := [.int p0]) (rest := []) ⟨hx, hb, hml, hown, hts⟩ (kX4_notAbove l D A ad cI cQ rest S (12 + k) (qb_12 hix) p0 z_1 hz_2) (cwV 1 hts gX5_add_X4_notAbove rfl rfl rfl (by decide +kernel) ⟨Nat.le_of_ble_eq_true rfl, Nat.le_of_ble_eq_true rfl⟩) ⟨qm_blind, va_recv hK hP (ci := 4) (q0 := (26 + (12 + k))) rfl (qg_R (qb_12 hix)), fun U hU hW => ⟨rfl, qm_go hA hS hP hK hD hU hW⟩⟩ rfl rfl hl.1 rfl (lv_room (Nat.le_of_ble_eq_true rfl)) dX5_add_5 ⟨Nat.le_of_ble_eq_true rfl, Nat.le_of_ble_eq_true rfl⟩) hS (fun _ _ h9 => h9) (fun _ h9 => h9) (fun v u t H1 locs1 ht hvm hw hB hz1 hk1 hS => ?_)
  obtain ⟨hw1, hw2⟩ := hw
  have hw1 : z_1 = v := hw1.symm
  have hw2 : S = u := hw2.symm
  subst hw1
  subst hw2
  obtain ⟨hP, hD⟩ := qm_bk ht hB
  refine lv_istore_n (lv' := [(3, .int z_1), (0, .ref (ad (10 + k))), (1, .int p0), (2, .int p1)]) hx hb dX5_add_8 rfl hl (by decide) rfl (fun ls hl => ?_)
  refine lv_iload_n hx hb dX5_add_9 rfl (lv_at hl 0 rfl) ?_
  refine lv_if_le (tgt := 52) hx hb dX5_add_10 (by decide) (fun c_3 => ?_) (fun c_3 => ?_)
  · rw [if_pos c_3] at h
    refine lv_aload_n hx hb dX5_add_52 rfl (lv_at hl 1 rfl) ?_
    refine va_get (D := D) (ci := 5) (v := .ref (ad (26 + (12 + k)))) (C := RX5) (T := TX5) (N := 3) hx hb hts (by decide +kernel) hown hK hP (10 + k) (qg_T hix) rfl 0 (by decide) (hts (.fieldLink RX5 10 "QueueMiddles$Tally" "kinds" "LQueueMiddles$Row;") (by decide +kernel)) (fun _ h9 => h9) rfl dX5_add_53 ?_
    refine lv_iload_n hx hb dX5_add_56 rfl (lv_at hl 0 rfl) ?_
    refine lv_iload_n hx hb dX5_add_57 rfl (lv_at hl 2 rfl) ?_
    refine va_callv (va_runV (As := [.int z_1, .int p0]) (rest := []) ⟨hx, hb, hml, hown, hts⟩ (nX4_insert l D A ad cI cQ rest S (12 + k) (qb_12 hix) z_1 p0) (cwV 2 hts gX5_add_X4_insert rfl rfl rfl (by decide +kernel) ⟨Nat.le_of_ble_eq_true rfl, Nat.le_of_ble_eq_true rfl⟩) ⟨qm_blind, va_recv hK hP (ci := 4) (q0 := (26 + (12 + k))) rfl (qg_R (qb_12 hix)), fun U hU hW => ⟨rfl, qm_go hA hS hP hK hD hU hW⟩⟩ rfl rfl hl.1 rfl (lv_room (Nat.le_of_ble_eq_true rfl)) dX5_add_58 ⟨Nat.le_of_ble_eq_true rfl, Nat.le_of_ble_eq_true rfl⟩) hS (fun _ _ h9 => h9) (fun _ h9 => h9) (fun u t H1 locs1 ht hvm hw hB hz1 hk1 hS => ?_)
    have hw : qm_row S (12 + k) (rw_ins (S.1 (12 + k)) z_1 p0) = u := hw.symm
    subst hw
    obtain ⟨hP, hD⟩ := qm_bk ht hB
    refine lv_aload_n hx hb dX5_add_61 rfl (lv_at hl 1 rfl) ?_
    refine va_get (D := D) (ci := 5) (v := .ref (ad (26 + (16 + k)))) (C := RX5) (T := TX5) (N := 3) hx hb hts (by decide +kernel) hown hK hP (10 + k) (qg_T hix) rfl 1 (by decide) (hts (.fieldLink RX5 16 "QueueMiddles$Tally" "times" "LQueueMiddles$Row;") (by decide +kernel)) (fun _ h9 => h9) rfl dX5_add_62 ?_
    refine lv_iload_n hx hb dX5_add_65 rfl (lv_at hl 0 rfl) ?_
    refine lv_iload_n hx hb dX5_add_66 rfl (lv_at hl 3 rfl) ?_
    refine va_callv (va_runV (As := [.int z_1, .int p1]) (rest := []) ⟨hx, hb, hml, hown, hts⟩ (nX4_insert l D A ad cI cQ rest (qm_row S (12 + k) (rw_ins (S.1 (12 + k)) z_1 p0)) (16 + k) (qb_16 hix) z_1 p1) (cwV 2 hts gX5_add_X4_insert rfl rfl rfl (by decide +kernel) ⟨Nat.le_of_ble_eq_true rfl, Nat.le_of_ble_eq_true rfl⟩) ⟨qm_blind, va_recv hK hP (ci := 4) (q0 := (26 + (16 + k))) rfl (qg_R (qb_16 hix)), fun U hU hW => ⟨rfl, qm_go hA hS hP hK hD hU hW⟩⟩ rfl rfl hl.1 rfl (lv_room (Nat.le_of_ble_eq_true rfl)) dX5_add_67 ⟨Nat.le_of_ble_eq_true rfl, Nat.le_of_ble_eq_true rfl⟩) hS (fun _ _ h9 => h9) (fun _ h9 => h9) (fun u t H1 locs1 ht hvm hw hB hz1 hk1 hS => ?_)
    have hw : qm_row (qm_row S (12 + k) (rw_ins (S.1 (12 + k)) z_1 p0)) (16 + k) (rw_ins ((qm_row S (12 + k) (rw_ins (S.1 (12 + k)) z_1 p0)).1 (16 + k)) z_1 p1) = u := hw.symm
    subst hw
    obtain ⟨hP, hD⟩ := qm_bk ht hB
    refine lv_aload_n hx hb dX5_add_70 rfl (lv_at hl 1 rfl) ?_
    refine lv_dup hx hb dX5_add_71 rfl ?_
    refine va_get (D := D) (ci := 5) (v := .int ((qm_row (qm_row S (12 + k) (rw_ins (S.1 (12 + k)) z_1 p0)) (16 + k) (rw_ins ((qm_row S (12 + k) (rw_ins (S.1 (12 + k)) z_1 p0)).1 (16 + k)) z_1 p1)).2.2 k)) (C := RX5) (T := TX5) (N := 3) hx hb hts (by decide +kernel) hown hK hP (10 + k) (qg_T hix) rfl 2 (by decide) (hts (.fieldLink RX5 23 "QueueMiddles$Tally" "total" "I") (by decide +kernel)) (fun _ h9 => h9) rfl dX5_add_72 ?_
    refine lv_iload_n hx hb dX5_add_75 rfl (lv_at hl 3 rfl) ?_
    refine lv_iadd hx hb dX5_add_76 ?_
    refine va_put (D := D) (ci := 5) (v := .int (((qm_row (qm_row S (12 + k) (rw_ins (S.1 (12 + k)) z_1 p0)) (16 + k) (rw_ins ((qm_row S (12 + k) (rw_ins (S.1 (12 + k)) z_1 p0)).1 (16 + k)) z_1 p1)).2.2 k) + p1)) (ty := .int) (C := RX5) (T := TX5) (N := 3) hx hb hts (by decide +kernel) tyX5 tyX5_ok nmX5 hown hK hP hD hS (10 + k) (qg_T hix) rfl 2 (by decide) (hts (.fieldLink RX5 23 "QueueMiddles$Tally" "total" "I") (by decide +kernel)) (fun _ h9 => h9) rfl (by decide +kernel) rfl rfl (Nat.le_of_ble_eq_true rfl) dX5_add_77 (fun H locs hP hD hS => ?_)
    rw [qs_to hix (((qm_row (qm_row S (12 + k) (rw_ins (S.1 (12 + k)) z_1 p0)) (16 + k) (rw_ins ((qm_row S (12 + k) (rw_ins (S.1 (12 + k)) z_1 p0)).1 (16 + k)) z_1 p1)).2.2 k) + p1)] at hP hD
    have h := Option.some.inj h
    subst h
    exact W.vret hx hb hr (fun t ht hW => ⟨⟨qm_to (qm_row (qm_row S (12 + k) (rw_ins (S.1 (12 + k)) z_1 p0)) (16 + k) (rw_ins ((qm_row S (12 + k) (rw_ins (S.1 (12 + k)) z_1 p0)).1 (16 + k)) z_1 p1)) k (((qm_row (qm_row S (12 + k) (rw_ins (S.1 (12 + k)) z_1 p0)) (16 + k) (rw_ins ((qm_row S (12 + k) (rw_ins (S.1 (12 + k)) z_1 p0)).1 (16 + k)) z_1 p1)).2.2 k) + p1), rfl, rfl, qm_en ht hP hD⟩, hS.F ht⟩) hS.2.2 dX5_add_80
  · rw [if_neg c_3] at h
    refine lv_aload_n hx hb dX5_add_13 rfl (lv_at hl 1 rfl) ?_
    refine va_get (D := D) (ci := 5) (v := .ref (ad (26 + (12 + k)))) (C := RX5) (T := TX5) (N := 3) hx hb hts (by decide +kernel) hown hK hP (10 + k) (qg_T hix) rfl 0 (by decide) (hts (.fieldLink RX5 10 "QueueMiddles$Tally" "kinds" "LQueueMiddles$Row;") (by decide +kernel)) (fun _ h9 => h9) rfl dX5_add_14 ?_
    refine lv_iload_n hx hb dX5_add_17 rfl (lv_at hl 0 rfl) ?_
    refine lv_iconst (v := (1 : Int32)) hx hb dX5_add_18 (by decide) ?_
    refine lv_isub hx hb dX5_add_19 ?_
    refine va_calli (va_runV (As := [.int (z_1 - (1 : Int32))]) (rest := []) ⟨hx, hb, hml, hown, hts⟩ (nX4_at l D A ad cI cQ rest S (12 + k) (qb_12 hix) (z_1 - (1 : Int32))) (cwV 1 hts gX5_add_X4_at rfl rfl rfl (by decide +kernel) ⟨Nat.le_of_ble_eq_true rfl, Nat.le_of_ble_eq_true rfl⟩) ⟨qm_blind, va_recv hK hP (ci := 4) (q0 := (26 + (12 + k))) rfl (qg_R (qb_12 hix)), fun U hU hW => ⟨rfl, qm_go hA hS hP hK hD hU hW⟩⟩ rfl rfl hl.1 rfl (lv_room (Nat.le_of_ble_eq_true rfl)) dX5_add_20 ⟨Nat.le_of_ble_eq_true rfl, Nat.le_of_ble_eq_true rfl⟩) hS (fun _ _ h9 => h9) (fun _ h9 => h9) (fun v u t H1 locs1 ht hvm hw hB hz1 hk1 hS => ?_)
    obtain ⟨hw1, hw2⟩ := hw
    have hw1 : rw_at (S.1 (12 + k)) (z_1 - (1 : Int32)) = v := hw1.symm
    have hw2 : S = u := hw2.symm
    subst hw1
    subst hw2
    obtain ⟨hP, hD⟩ := qm_bk ht hB
    refine lv_iload_n hx hb dX5_add_23 rfl (lv_at hl 2 rfl) ?_
    refine lv_icmp_ne (tgt := 52) hx hb dX5_add_24 (by decide) (fun c_4 => ?_) (fun c_4 => ?_)
    · rw [if_neg c_4] at h
      refine lv_aload_n hx hb dX5_add_52 rfl (lv_at hl 1 rfl) ?_
      refine va_get (D := D) (ci := 5) (v := .ref (ad (26 + (12 + k)))) (C := RX5) (T := TX5) (N := 3) hx hb hts (by decide +kernel) hown hK hP (10 + k) (qg_T hix) rfl 0 (by decide) (hts (.fieldLink RX5 10 "QueueMiddles$Tally" "kinds" "LQueueMiddles$Row;") (by decide +kernel)) (fun _ h9 => h9) rfl dX5_add_53 ?_
      refine lv_iload_n hx hb dX5_add_56 rfl (lv_at hl 0 rfl) ?_
      refine lv_iload_n hx hb dX5_add_57 rfl (lv_at hl 2 rfl) ?_
      refine va_callv (va_runV (As := [.int z_1, .int p0]) (rest := []) ⟨hx, hb, hml, hown, hts⟩ (nX4_insert l D A ad cI cQ rest S (12 + k) (qb_12 hix) z_1 p0) (cwV 2 hts gX5_add_X4_insert rfl rfl rfl (by decide +kernel) ⟨Nat.le_of_ble_eq_true rfl, Nat.le_of_ble_eq_true rfl⟩) ⟨qm_blind, va_recv hK hP (ci := 4) (q0 := (26 + (12 + k))) rfl (qg_R (qb_12 hix)), fun U hU hW => ⟨rfl, qm_go hA hS hP hK hD hU hW⟩⟩ rfl rfl hl.1 rfl (lv_room (Nat.le_of_ble_eq_true rfl)) dX5_add_58 ⟨Nat.le_of_ble_eq_true rfl, Nat.le_of_ble_eq_true rfl⟩) hS (fun _ _ h9 => h9) (fun _ h9 => h9) (fun u t H1 locs1 ht hvm hw hB hz1 hk1 hS => ?_)
      have hw : qm_row S (12 + k) (rw_ins (S.1 (12 + k)) z_1 p0) = u := hw.symm
      subst hw
      obtain ⟨hP, hD⟩ := qm_bk ht hB
      refine lv_aload_n hx hb dX5_add_61 rfl (lv_at hl 1 rfl) ?_
      refine va_get (D := D) (ci := 5) (v := .ref (ad (26 + (16 + k)))) (C := RX5) (T := TX5) (N := 3) hx hb hts (by decide +kernel) hown hK hP (10 + k) (qg_T hix) rfl 1 (by decide) (hts (.fieldLink RX5 16 "QueueMiddles$Tally" "times" "LQueueMiddles$Row;") (by decide +kernel)) (fun _ h9 => h9) rfl dX5_add_62 ?_
      refine lv_iload_n hx hb dX5_add_65 rfl (lv_at hl 0 rfl) ?_
      refine lv_iload_n hx hb dX5_add_66 rfl (lv_at hl 3 rfl) ?_
      refine va_callv (va_runV (As := [.int z_1, .int p1]) (rest := []) ⟨hx, hb, hml, hown, hts⟩ (nX4_insert l D A ad cI cQ rest (qm_row S (12 + k) (rw_ins (S.1 (12 + k)) z_1 p0)) (16 + k) (qb_16 hix) z_1 p1) (cwV 2 hts gX5_add_X4_insert rfl rfl rfl (by decide +kernel) ⟨Nat.le_of_ble_eq_true rfl, Nat.le_of_ble_eq_true rfl⟩) ⟨qm_blind, va_recv hK hP (ci := 4) (q0 := (26 + (16 + k))) rfl (qg_R (qb_16 hix)), fun U hU hW => ⟨rfl, qm_go hA hS hP hK hD hU hW⟩⟩ rfl rfl hl.1 rfl (lv_room (Nat.le_of_ble_eq_true rfl)) dX5_add_67 ⟨Nat.le_of_ble_eq_true rfl, Nat.le_of_ble_eq_true rfl⟩) hS (fun _ _ h9 => h9) (fun _ h9 => h9) (fun u t H1 locs1 ht hvm hw hB hz1 hk1 hS => ?_)
      have hw : qm_row (qm_row S (12 + k) (rw_ins (S.1 (12 + k)) z_1 p0)) (16 + k) (rw_ins ((qm_row S (12 + k) (rw_ins (S.1 (12 + k)) z_1 p0)).1 (16 + k)) z_1 p1) = u := hw.symm
      subst hw
      obtain ⟨hP, hD⟩ := qm_bk ht hB
      refine lv_aload_n hx hb dX5_add_70 rfl (lv_at hl 1 rfl) ?_
      refine lv_dup hx hb dX5_add_71 rfl ?_
      refine va_get (D := D) (ci := 5) (v := .int ((qm_row (qm_row S (12 + k) (rw_ins (S.1 (12 + k)) z_1 p0)) (16 + k) (rw_ins ((qm_row S (12 + k) (rw_ins (S.1 (12 + k)) z_1 p0)).1 (16 + k)) z_1 p1)).2.2 k)) (C := RX5) (T := TX5) (N := 3) hx hb hts (by decide +kernel) hown hK hP (10 + k) (qg_T hix) rfl 2 (by decide) (hts (.fieldLink RX5 23 "QueueMiddles$Tally" "total" "I") (by decide +kernel)) (fun _ h9 => h9) rfl dX5_add_72 ?_
      refine lv_iload_n hx hb dX5_add_75 rfl (lv_at hl 3 rfl) ?_
      refine lv_iadd hx hb dX5_add_76 ?_
      refine va_put (D := D) (ci := 5) (v := .int (((qm_row (qm_row S (12 + k) (rw_ins (S.1 (12 + k)) z_1 p0)) (16 + k) (rw_ins ((qm_row S (12 + k) (rw_ins (S.1 (12 + k)) z_1 p0)).1 (16 + k)) z_1 p1)).2.2 k) + p1)) (ty := .int) (C := RX5) (T := TX5) (N := 3) hx hb hts (by decide +kernel) tyX5 tyX5_ok nmX5 hown hK hP hD hS (10 + k) (qg_T hix) rfl 2 (by decide) (hts (.fieldLink RX5 23 "QueueMiddles$Tally" "total" "I") (by decide +kernel)) (fun _ h9 => h9) rfl (by decide +kernel) rfl rfl (Nat.le_of_ble_eq_true rfl) dX5_add_77 (fun H locs hP hD hS => ?_)
      rw [qs_to hix (((qm_row (qm_row S (12 + k) (rw_ins (S.1 (12 + k)) z_1 p0)) (16 + k) (rw_ins ((qm_row S (12 + k) (rw_ins (S.1 (12 + k)) z_1 p0)).1 (16 + k)) z_1 p1)).2.2 k) + p1)] at hP hD
      have h := Option.some.inj h
      subst h
      exact W.vret hx hb hr (fun t ht hW => ⟨⟨qm_to (qm_row (qm_row S (12 + k) (rw_ins (S.1 (12 + k)) z_1 p0)) (16 + k) (rw_ins ((qm_row S (12 + k) (rw_ins (S.1 (12 + k)) z_1 p0)).1 (16 + k)) z_1 p1)) k (((qm_row (qm_row S (12 + k) (rw_ins (S.1 (12 + k)) z_1 p0)) (16 + k) (rw_ins ((qm_row S (12 + k) (rw_ins (S.1 (12 + k)) z_1 p0)).1 (16 + k)) z_1 p1)).2.2 k) + p1), rfl, rfl, qm_en ht hP hD⟩, hS.F ht⟩) hS.2.2 dX5_add_80
    · rw [if_pos c_4] at h
      refine lv_aload_n hx hb dX5_add_27 rfl (lv_at hl 1 rfl) ?_
      refine va_get (D := D) (ci := 5) (v := .ref (ad (26 + (16 + k)))) (C := RX5) (T := TX5) (N := 3) hx hb hts (by decide +kernel) hown hK hP (10 + k) (qg_T hix) rfl 1 (by decide) (hts (.fieldLink RX5 16 "QueueMiddles$Tally" "times" "LQueueMiddles$Row;") (by decide +kernel)) (fun _ h9 => h9) rfl dX5_add_28 ?_
      refine lv_iload_n hx hb dX5_add_31 rfl (lv_at hl 0 rfl) ?_
      refine lv_iconst (v := (1 : Int32)) hx hb dX5_add_32 (by decide) ?_
      refine lv_isub hx hb dX5_add_33 ?_
      refine lv_aload_n hx hb dX5_add_34 rfl (lv_at hl 1 rfl) ?_
      refine va_get (D := D) (ci := 5) (v := .ref (ad (26 + (16 + k)))) (C := RX5) (T := TX5) (N := 3) hx hb hts (by decide +kernel) hown hK hP (10 + k) (qg_T hix) rfl 1 (by decide) (hts (.fieldLink RX5 16 "QueueMiddles$Tally" "times" "LQueueMiddles$Row;") (by decide +kernel)) (fun _ h9 => h9) rfl dX5_add_35 ?_
      refine lv_iload_n hx hb dX5_add_38 rfl (lv_at hl 0 rfl) ?_
      refine lv_iconst (v := (1 : Int32)) hx hb dX5_add_39 (by decide) ?_
      refine lv_isub hx hb dX5_add_40 ?_
      refine va_calli (va_runV (As := [.int (z_1 - (1 : Int32))]) (rest := [.int (z_1 - (1 : Int32)), .ref (ad (26 + (16 + k)))]) ⟨hx, hb, hml, hown, hts⟩ (nX4_at l D A ad cI cQ rest S (16 + k) (qb_16 hix) (z_1 - (1 : Int32))) (cwV 1 hts gX5_add_X4_at rfl rfl rfl (by decide +kernel) ⟨Nat.le_of_ble_eq_true rfl, Nat.le_of_ble_eq_true rfl⟩) ⟨qm_blind, va_recv hK hP (ci := 4) (q0 := (26 + (16 + k))) rfl (qg_R (qb_16 hix)), fun U hU hW => ⟨rfl, qm_go hA hS hP hK hD hU hW⟩⟩ rfl rfl hl.1 rfl (lv_room (Nat.le_of_ble_eq_true rfl)) dX5_add_41 ⟨Nat.le_of_ble_eq_true rfl, Nat.le_of_ble_eq_true rfl⟩) hS (fun _ _ h9 => h9) (fun _ h9 => h9) (fun v u t H1 locs1 ht hvm hw hB hz1 hk1 hS => ?_)
      obtain ⟨hw1, hw2⟩ := hw
      have hw1 : rw_at (S.1 (16 + k)) (z_1 - (1 : Int32)) = v := hw1.symm
      have hw2 : S = u := hw2.symm
      subst hw1
      subst hw2
      obtain ⟨hP, hD⟩ := qm_bk ht hB
      refine lv_iload_n hx hb dX5_add_44 rfl (lv_at hl 3 rfl) ?_
      refine lv_iadd hx hb dX5_add_45 ?_
      refine va_callv (va_runV (As := [.int (z_1 - (1 : Int32)), .int ((rw_at (S.1 (16 + k)) (z_1 - (1 : Int32))) + p1)]) (rest := []) ⟨hx, hb, hml, hown, hts⟩ (nX4_put l D A ad cI cQ rest S (16 + k) (qb_16 hix) (z_1 - (1 : Int32)) ((rw_at (S.1 (16 + k)) (z_1 - (1 : Int32))) + p1)) (cwV 2 hts gX5_add_X4_put rfl rfl rfl (by decide +kernel) ⟨Nat.le_of_ble_eq_true rfl, Nat.le_of_ble_eq_true rfl⟩) ⟨qm_blind, va_recv hK hP (ci := 4) (q0 := (26 + (16 + k))) rfl (qg_R (qb_16 hix)), fun U hU hW => ⟨rfl, qm_go hA hS hP hK hD hU hW⟩⟩ rfl rfl hl.1 rfl (lv_room (Nat.le_of_ble_eq_true rfl)) dX5_add_46 ⟨Nat.le_of_ble_eq_true rfl, Nat.le_of_ble_eq_true rfl⟩) hS (fun _ _ h9 => h9) (fun _ h9 => h9) (fun u t H1 locs1 ht hvm hw hB hz1 hk1 hS => ?_)
      have hw : qm_row S (16 + k) (rw_put (S.1 (16 + k)) (z_1 - (1 : Int32)) ((rw_at (S.1 (16 + k)) (z_1 - (1 : Int32))) + p1)) = u := hw.symm
      subst hw
      obtain ⟨hP, hD⟩ := qm_bk ht hB
      refine lv_goto (tgt := 70) hx hb dX5_add_49 (by decide) ?_
      refine lv_aload_n hx hb dX5_add_70 rfl (lv_at hl 1 rfl) ?_
      refine lv_dup hx hb dX5_add_71 rfl ?_
      refine va_get (D := D) (ci := 5) (v := .int ((qm_row S (16 + k) (rw_put (S.1 (16 + k)) (z_1 - (1 : Int32)) ((rw_at (S.1 (16 + k)) (z_1 - (1 : Int32))) + p1))).2.2 k)) (C := RX5) (T := TX5) (N := 3) hx hb hts (by decide +kernel) hown hK hP (10 + k) (qg_T hix) rfl 2 (by decide) (hts (.fieldLink RX5 23 "QueueMiddles$Tally" "total" "I") (by decide +kernel)) (fun _ h9 => h9) rfl dX5_add_72 ?_
      refine lv_iload_n hx hb dX5_add_75 rfl (lv_at hl 3 rfl) ?_
      refine lv_iadd hx hb dX5_add_76 ?_
      refine va_put (D := D) (ci := 5) (v := .int (((qm_row S (16 + k) (rw_put (S.1 (16 + k)) (z_1 - (1 : Int32)) ((rw_at (S.1 (16 + k)) (z_1 - (1 : Int32))) + p1))).2.2 k) + p1)) (ty := .int) (C := RX5) (T := TX5) (N := 3) hx hb hts (by decide +kernel) tyX5 tyX5_ok nmX5 hown hK hP hD hS (10 + k) (qg_T hix) rfl 2 (by decide) (hts (.fieldLink RX5 23 "QueueMiddles$Tally" "total" "I") (by decide +kernel)) (fun _ h9 => h9) rfl (by decide +kernel) rfl rfl (Nat.le_of_ble_eq_true rfl) dX5_add_77 (fun H locs hP hD hS => ?_)
      rw [qs_to hix (((qm_row S (16 + k) (rw_put (S.1 (16 + k)) (z_1 - (1 : Int32)) ((rw_at (S.1 (16 + k)) (z_1 - (1 : Int32))) + p1))).2.2 k) + p1)] at hP hD
      have h := Option.some.inj h
      subst h
      exact W.vret hx hb hr (fun t ht hW => ⟨⟨qm_to (qm_row S (16 + k) (rw_put (S.1 (16 + k)) (z_1 - (1 : Int32)) ((rw_at (S.1 (16 + k)) (z_1 - (1 : Int32))) + p1))) k (((qm_row S (16 + k) (rw_put (S.1 (16 + k)) (z_1 - (1 : Int32)) ((rw_at (S.1 (16 + k)) (z_1 - (1 : Int32))) + p1))).2.2 k) + p1), rfl, rfl, qm_en ht hP hD⟩, hS.F ht⟩) hS.2.2 dX5_add_80
noncomputable def fX5_notAbove (S : qm_S) (k : Nat) (p0 : Int32) : Option (Int32) :=
  Option.bind (fX4_notAbove S (12 + k) p0) (fun z_1 => Option.bind (fX4_sumOfFirst S (16 + k) z_1) (fun z_3 => some z_3))
set_option maxHeartbeats 4000000 in
set_option maxRecDepth 100000 in
theorem kX5_notAbove (l : Launch) (D : va_G) (A : Nat → Prop) (ad : Nat → Nat) (cI cQ : ClassId) (rest : va_W) (S : qm_S) (k : Nat) (hix : k < 4) (p0 : Int32) (z : Int32) (h : fX5_notAbove S k p0 = some z) : Met l yX5_notAbove wsX5_notAbove ({ frames := 3, cells := 0, slots := 0, locals := 66 }) (va_Pc [.ref (ad (10 + k)), .int p0] (qm_B D A (qm_T cI cQ) (qm_W ad cI cQ rest S))) (qm_Qi D A (qm_W ad cI cQ rest) (z, S)) 0 0 A := by
  refine Met.ofW (cc := cX5_notAbove) (maxL := 2) (ret := (some .int)) (by decide) rfl ?_
  intro p e s m args below meth c s₁ B hml hv
  obtain ⟨rfl, hA, hP, hK, hD⟩ := hv
  have hx := B.exec
  have hb := B.bytes
  have hr := B.returns
  have hts := atoms_spec (ws := wsX5_notAbove) B.pre
  have hown : s.vm.findClass RX5 = some m.cls := findClass_of_methodNamed B.named
  have hlocks := B.notSynchronized
  have hS : va_S A s.heap s.heap [] := va_S.rf
  have hl := lv_entry ([.ref (ad (10 + k)), .int p0]) (n := 2) (Nat.le_of_ble_eq_true rfl)
  rw [lg_entry_eq]
  generalize (lg_sl ([.ref (ad (10 + k)), .int p0]) ++ List.replicate (2 - (lg_sl ([.ref (ad (10 + k)), .int p0])).length) Slot.unset).toArray = ls at hl ⊢
  have hl : lv_has ls 2 [(0, .ref (ad (10 + k))), (1, .int p0)] := hl
  rw [fX5_notAbove] at h
  refine lv_aload_n hx hb dX5_notAbove_0 rfl (lv_at hl 0 rfl) ?_
  refine va_get (D := D) (ci := 5) (v := .ref (ad (26 + (16 + k)))) (C := RX5) (T := TX5) (N := 3) hx hb hts (by decide +kernel) hown hK hP (10 + k) (qg_T hix) rfl 1 (by decide) (hts (.fieldLink RX5 16 "QueueMiddles$Tally" "times" "LQueueMiddles$Row;") (by decide +kernel)) (fun _ h9 => h9) rfl dX5_notAbove_1 ?_
  refine lv_aload_n hx hb dX5_notAbove_4 rfl (lv_at hl 0 rfl) ?_
  refine va_get (D := D) (ci := 5) (v := .ref (ad (26 + (12 + k)))) (C := RX5) (T := TX5) (N := 3) hx hb hts (by decide +kernel) hown hK hP (10 + k) (qg_T hix) rfl 0 (by decide) (hts (.fieldLink RX5 10 "QueueMiddles$Tally" "kinds" "LQueueMiddles$Row;") (by decide +kernel)) (fun _ h9 => h9) rfl dX5_notAbove_5 ?_
  refine lv_iload_n hx hb dX5_notAbove_8 rfl (lv_at hl 1 rfl) ?_
  obtain ⟨z_1, hz_2, h⟩ := qm_bind h
  refine va_calli (va_runV (As := [.int p0]) (rest := [.ref (ad (26 + (16 + k)))]) ⟨hx, hb, hml, hown, hts⟩ (kX4_notAbove l D A ad cI cQ rest S (12 + k) (qb_12 hix) p0 z_1 hz_2) (cwV 1 hts gX5_notAbove_X4_notAbove rfl rfl rfl (by decide +kernel) ⟨Nat.le_of_ble_eq_true rfl, Nat.le_of_ble_eq_true rfl⟩) ⟨qm_blind, va_recv hK hP (ci := 4) (q0 := (26 + (12 + k))) rfl (qg_R (qb_12 hix)), fun U hU hW => ⟨rfl, qm_go hA hS hP hK hD hU hW⟩⟩ rfl rfl hl.1 rfl (lv_room (Nat.le_of_ble_eq_true rfl)) dX5_notAbove_9 ⟨Nat.le_of_ble_eq_true rfl, Nat.le_of_ble_eq_true rfl⟩) hS (fun _ _ h9 => h9) (fun _ h9 => h9) (fun v u t H1 locs1 ht hvm hw hB hz1 hk1 hS => ?_)
  obtain ⟨hw1, hw2⟩ := hw
  have hw1 : z_1 = v := hw1.symm
  have hw2 : S = u := hw2.symm
  subst hw1
  subst hw2
  obtain ⟨hP, hD⟩ := qm_bk ht hB
  obtain ⟨z_3, hz_4, h⟩ := qm_bind h
  refine va_calli (va_runV (As := [.int z_1]) (rest := []) ⟨hx, hb, hml, hown, hts⟩ (kX4_sumOfFirst l D A ad cI cQ rest S (16 + k) (qb_16 hix) z_1 z_3 hz_4) (cwV 1 hts gX5_notAbove_X4_sumOfFirst rfl rfl rfl (by decide +kernel) ⟨Nat.le_of_ble_eq_true rfl, Nat.le_of_ble_eq_true rfl⟩) ⟨qm_blind, va_recv hK hP (ci := 4) (q0 := (26 + (16 + k))) rfl (qg_R (qb_16 hix)), fun U hU hW => ⟨rfl, qm_go hA hS hP hK hD hU hW⟩⟩ rfl rfl hl.1 rfl (lv_room (Nat.le_of_ble_eq_true rfl)) dX5_notAbove_12 ⟨Nat.le_of_ble_eq_true rfl, Nat.le_of_ble_eq_true rfl⟩) hS (fun _ _ h9 => h9) (fun _ h9 => h9) (fun v u t H1 locs1 ht hvm hw hB hz1 hk1 hS => ?_)
  obtain ⟨hw1, hw2⟩ := hw
  have hw1 : z_3 = v := hw1.symm
  have hw2 : S = u := hw2.symm
  subst hw1
  subst hw2
  obtain ⟨hP, hD⟩ := qm_bk ht hB
  have h := Option.some.inj h
  subst h
  exact W.iret (v := z_3) hx hb hr (fun t ht hW => ⟨⟨z_3, S, rfl, ⟨rfl, rfl⟩, qm_en ht hP hD⟩, hS.F ht⟩) hS.2.2 dX5_notAbove_15
