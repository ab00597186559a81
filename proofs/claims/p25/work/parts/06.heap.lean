noncomputable def fX2_clear (S : qm_S) (y : Nat) : Option (qm_S) :=
  some (qm_row S (20 + y) (rw_cut (S.1 (20 + y)) (0 : Int32)))
set_option maxHeartbeats 4000000 in
set_option maxRecDepth 100000 in
theorem kX2_clear (l : Launch) (D : va_G) (A : Nat → Prop) (ad : Nat → Nat) (cI cQ : ClassId) (rest : va_W) (S : qm_S) (y : Nat) (hix : y < 8) (z : qm_S) (h : fX2_clear S y = some z) : Met l yX2_clear wsX2_clear ({ frames := 1, cells := 0, slots := 0, locals := 21 }) (va_Pc [.ref (ad (18 + y))] (qm_B D A (qm_T cI cQ) (qm_W ad cI cQ rest S))) (qm_Qv D A (qm_W ad cI cQ rest) z) 0 0 A := by
  refine Met.ofW (cc := cX2_clear) (maxL := 1) (ret := none) (by decide) rfl ?_
  intro p e s m args below meth c s₁ B hml hv
  obtain ⟨rfl, hA, hP, hK, hD⟩ := hv
  have hx := B.exec
  have hb := B.bytes
  have hr := B.returns
  have hts := atoms_spec (ws := wsX2_clear) B.pre
  have hown : s.vm.findClass RX2 = some m.cls := findClass_of_methodNamed B.named
  have hlocks := B.notSynchronized
  have hS : va_S A s.heap s.heap [] := va_S.rf
  have hl := lv_entry ([.ref (ad (18 + y))]) (n := 1) (Nat.le_of_ble_eq_true rfl)
  rw [lg_entry_eq]
  generalize (lg_sl ([.ref (ad (18 + y))]) ++ List.replicate (1 - (lg_sl ([.ref (ad (18 + y))])).length) Slot.unset).toArray = ls at hl ⊢
  have hl : lv_has ls 1 [(0, .ref (ad (18 + y)))] := hl
  rw [fX2_clear] at h
  refine lv_aload_n hx hb dX2_clear_0 rfl (lv_at hl 0 rfl) ?_
  refine va_get (D := D) (ci := 2) (v := .ref (ad (26 + (20 + y)))) (C := RX2) (T := TX2) (N := 1) hx hb hts (by decide +kernel) hown hK hP (18 + y) (qg_P hix) rfl 0 (by decide) (hts (.fieldLink RX2 10 "QueueMiddles$Heap" "row" "LQueueMiddles$Row;") (by decide +kernel)) (fun _ h9 => h9) rfl dX2_clear_1 ?_
  refine lv_iconst (v := (0 : Int32)) hx hb dX2_clear_4 (by decide) ?_
  refine va_callv (va_runV (As := [.int (0 : Int32)]) (rest := []) ⟨hx, hb, hml, hown, hts⟩ (nX4_cutTo l D A ad cI cQ rest S (20 + y) (qb_20 hix) (0 : Int32)) (cwV 1 hts gX2_clear_X4_cutTo rfl rfl rfl (by decide +kernel) ⟨Nat.le_of_ble_eq_true rfl, Nat.le_of_ble_eq_true rfl⟩) ⟨qm_blind, va_recv hK hP (ci := 4) (q0 := (26 + (20 + y))) rfl (qg_R (qb_20 hix)), fun U hU hW => ⟨rfl, qm_go hA hS hP hK hD hU hW⟩⟩ rfl rfl hl.1 rfl (lv_room (Nat.le_of_ble_eq_true rfl)) dX2_clear_5 ⟨Nat.le_of_ble_eq_true rfl, Nat.le_of_ble_eq_true rfl⟩) hS (fun _ _ h9 => h9) (fun _ h9 => h9) (fun u t H1 locs1 ht hvm hw hB hz1 hk1 hS => ?_)
  have hw : qm_row S (20 + y) (rw_cut (S.1 (20 + y)) (0 : Int32)) = u := hw.symm
  subst hw
  obtain ⟨hP, hD⟩ := qm_bk ht hB
  have h := Option.some.inj h
  subst h
  exact W.vret hx hb hr (fun t ht hW => ⟨⟨qm_row S (20 + y) (rw_cut (S.1 (20 + y)) (0 : Int32)), rfl, rfl, qm_en ht hP hD⟩, hS.F ht⟩) hS.2.2 dX2_clear_8
theorem eX2_clear (S : qm_S) (y : Nat) : fX2_clear S y = some (qm_row S (20 + y) (rw_cut (S.1 (20 + y)) (0 : Int32))) := by
  rfl
theorem nX2_clear (l : Launch) (D : va_G) (A : Nat → Prop) (ad : Nat → Nat) (cI cQ : ClassId) (rest : va_W) (S : qm_S) (y : Nat) (hix : y < 8) : Met l yX2_clear wsX2_clear ({ frames := 1, cells := 0, slots := 0, locals := 21 }) (va_Pc [.ref (ad (18 + y))] (qm_B D A (qm_T cI cQ) (qm_W ad cI cQ rest S))) (qm_Qv D A (qm_W ad cI cQ rest) (qm_row S (20 + y) (rw_cut (S.1 (20 + y)) (0 : Int32)))) 0 0 A :=
  kX2_clear l D A ad cI cQ rest S y hix _ (eX2_clear S y)
noncomputable def fX2_size (S : qm_S) (y : Nat) : Option (Int32) :=
  some ((S.1 (20 + y)).1)
set_option maxHeartbeats 4000000 in
set_option maxRecDepth 100000 in
theorem kX2_size (l : Launch) (D : va_G) (A : Nat → Prop) (ad : Nat → Nat) (cI cQ : ClassId) (rest : va_W) (S : qm_S) (y : Nat) (hix : y < 8) (z : Int32) (h : fX2_size S y = some z) : Met l yX2_size wsX2_size ({ frames := 1, cells := 0, slots := 0, locals := 20 }) (va_Pc [.ref (ad (18 + y))] (qm_B D A (qm_T cI cQ) (qm_W ad cI cQ rest S))) (qm_Qi D A (qm_W ad cI cQ rest) (z, S)) 0 0 A := by
  refine Met.ofW (cc := cX2_size) (maxL := 1) (ret := (some .int)) (by decide) rfl ?_
  intro p e s m args below meth c s₁ B hml hv
  obtain ⟨rfl, hA, hP, hK, hD⟩ := hv
  have hx := B.exec
  have hb := B.bytes
  have hr := B.returns
  have hts := atoms_spec (ws := wsX2_size) B.pre
  have hown : s.vm.findClass RX2 = some m.cls := findClass_of_methodNamed B.named
  have hlocks := B.notSynchronized
  have hS : va_S A s.heap s.heap [] := va_S.rf
  have hl := lv_entry ([.ref (ad (18 + y))]) (n := 1) (Nat.le_of_ble_eq_true rfl)
  rw [lg_entry_eq]
  generalize (lg_sl ([.ref (ad (18 + y))]) ++ List.replicate (1 - (lg_sl ([.ref (ad (18 + y))])).length) Slot.unset).toArray = ls at hl ⊢
  have hl : lv_has ls 1 [(0, .ref (ad (18 + y)))] := hl
  rw [fX2_size] at h
  refine lv_aload_n hx hb dX2_size_0 rfl (lv_at hl 0 rfl) ?_
  refine va_get (D := D) (ci := 2) (v := .ref (ad (26 + (20 + y)))) (C := RX2) (T := TX2) (N := 1) hx hb hts (by decide +kernel) hown hK hP (18 + y) (qg_P hix) rfl 0 (by decide) (hts (.fieldLink RX2 10 "QueueMiddles$Heap" "row" "LQueueMiddles$Row;") (by decide +kernel)) (fun _ h9 => h9) rfl dX2_size_1 ?_
  refine va_calli (va_runV (As := []) (rest := []) ⟨hx, hb, hml, hown, hts⟩ (nX4_size l D A ad cI cQ rest S (20 + y) (qb_20 hix)) (cwV 0 hts gX2_size_X4_size rfl rfl rfl (by decide +kernel) ⟨Nat.le_of_ble_eq_true rfl, Nat.le_of_ble_eq_true rfl⟩) ⟨qm_blind, va_recv hK hP (ci := 4) (q0 := (26 + (20 + y))) rfl (qg_R (qb_20 hix)), fun U hU hW => ⟨rfl, qm_go hA hS hP hK hD hU hW⟩⟩ rfl rfl hl.1 rfl (lv_room (Nat.le_of_ble_eq_true rfl)) dX2_size_4 ⟨Nat.le_of_ble_eq_true rfl, Nat.le_of_ble_eq_true rfl⟩) hS (fun _ _ h9 => h9) (fun _ h9 => h9) (fun v u t H1 locs1 ht hvm hw hB hz1 hk1 hS => ?_)
  obtain ⟨hw1, hw2⟩ := hw
  have hw1 : (S.1 (20 + y)).1 = v := hw1.symm
  have hw2 : S = u := hw2.symm
  subst hw1
  subst hw2
  obtain ⟨hP, hD⟩ := qm_bk ht hB
  have h := Option.some.inj h
  subst h
  exact W.iret (v := (S.1 (20 + y)).1) hx hb hr (fun t ht hW => ⟨⟨(S.1 (20 + y)).1, S, rfl, ⟨rfl, rfl⟩, qm_en ht hP hD⟩, hS.F ht⟩) hS.2.2 dX2_size_7
theorem eX2_size (S : qm_S) (y : Nat) : fX2_size S y = some ((S.1 (20 + y)).1) := by
  rfl
theorem nX2_size (l : Launch) (D : va_G) (A : Nat → Prop) (ad : Nat → Nat) (cI cQ : ClassId) (rest : va_W) (S : qm_S) (y : Nat) (hix : y < 8) : Met l yX2_size wsX2_size ({ frames := 1, cells := 0, slots := 0, locals := 20 }) (va_Pc [.ref (ad (18 + y))] (qm_B D A (qm_T cI cQ) (qm_W ad cI cQ rest S))) (qm_Qi D A (qm_W ad cI cQ rest) (((S.1 (20 + y)).1), S)) 0 0 A :=
  kX2_size l D A ad cI cQ rest S y hix _ (eX2_size S y)
noncomputable def fX2_least (S : qm_S) (y : Nat) : Option (Int32) :=
  some (rw_at (S.1 (20 + y)) (0 : Int32))
set_option maxHeartbeats 4000000 in
set_option maxRecDepth 100000 in
theorem kX2_least (l : Launch) (D : va_G) (A : Nat → Prop) (ad : Nat → Nat) (cI cQ : ClassId) (rest : va_W) (S : qm_S) (y : Nat) (hix : y < 8) (z : Int32) (h : fX2_least S y = some z) : Met l yX2_least wsX2_least ({ frames := 2, cells := 0, slots := 0, locals := 42 }) (va_Pc [.ref (ad (18 + y))] (qm_B D A (qm_T cI cQ) (qm_W ad cI cQ rest S))) (qm_Qi D A (qm_W ad cI cQ rest) (z, S)) 0 0 A := by
  refine Met.ofW (cc := cX2_least) (maxL := 1) (ret := (some .int)) (by decide) rfl ?_
  intro p e s m args below meth c s₁ B hml hv
  obtain ⟨rfl, hA, hP, hK, hD⟩ := hv
  have hx := B.exec
  have hb := B.bytes
  have hr := B.returns
  have hts := atoms_spec (ws := wsX2_least) B.pre
  have hown : s.vm.findClass RX2 = some m.cls := findClass_of_methodNamed B.named
  have hlocks := B.notSynchronized
  have hS : va_S A s.heap s.heap [] := va_S.rf
  have hl := lv_entry ([.ref (ad (18 + y))]) (n := 1) (Nat.le_of_ble_eq_true rfl)
  rw [lg_entry_eq]
  generalize (lg_sl ([.ref (ad (18 + y))]) ++ List.replicate (1 - (lg_sl ([.ref (ad (18 + y))])).length) Slot.unset).toArray = ls at hl ⊢
  have hl : lv_has ls 1 [(0, .ref (ad (18 + y)))] := hl
  rw [fX2_least] at h
  refine lv_aload_n hx hb dX2_least_0 rfl (lv_at hl 0 rfl) ?_
  refine va_get (D := D) (ci := 2) (v := .ref (ad (26 + (20 + y)))) (C := RX2) (T := TX2) (N := 1) hx hb hts (by decide +kernel) hown hK hP (18 + y) (qg_P hix) rfl 0 (by decide) (hts (.fieldLink RX2 10 "QueueMiddles$Heap" "row" "LQueueMiddles$Row;") (by decide +kernel)) (fun _ h9 => h9) rfl dX2_least_1 ?_
  refine lv_iconst (v := (0 : Int32)) hx hb dX2_least_4 (by decide) ?_
  refine va_calli (va_runV (As := [.int (0 : Int32)]) (rest := []) ⟨hx, hb, hml, hown, hts⟩ (nX4_at l D A ad cI cQ rest S (20 + y) (qb_20 hix) (0 : Int32)) (cwV 1 hts gX2_least_X4_at rfl rfl rfl (by decide +kernel) ⟨Nat.le_of_ble_eq_true rfl, Nat.le_of_ble_eq_true rfl⟩) ⟨qm_blind, va_recv hK hP (ci := 4) (q0 := (26 + (20 + y))) rfl (qg_R (qb_20 hix)), fun U hU hW => ⟨rfl, qm_go hA hS hP hK hD hU hW⟩⟩ rfl rfl hl.1 rfl (lv_room (Nat.le_of_ble_eq_true rfl)) dX2_least_5 ⟨Nat.le_of_ble_eq_true rfl, Nat.le_of_ble_eq_true rfl⟩) hS (fun _ _ h9 => h9) (fun _ h9 => h9) (fun v u t H1 locs1 ht hvm hw hB hz1 hk1 hS => ?_)
  obtain ⟨hw1, hw2⟩ := hw
  have hw1 : rw_at (S.1 (20 + y)) (0 : Int32) = v := hw1.symm
  have hw2 : S = u := hw2.symm
  subst hw1
  subst hw2
  obtain ⟨hP, hD⟩ := qm_bk ht hB
  have h := Option.some.inj h
  subst h
  exact W.iret (v := rw_at (S.1 (20 + y)) (0 : Int32)) hx hb hr (fun t ht hW => ⟨⟨rw_at (S.1 (20 + y)) (0 : Int32), S, rfl, ⟨rfl, rfl⟩, qm_en ht hP hD⟩, hS.F ht⟩) hS.2.2 dX2_least_8
theorem eX2_least (S : qm_S) (y : Nat) : fX2_least S y = some (rw_at (S.1 (20 + y)) (0 : Int32)) := by
  rfl
theorem nX2_least (l : Launch) (D : va_G) (A : Nat → Prop) (ad : Nat → Nat) (cI cQ : ClassId) (rest : va_W) (S : qm_S) (y : Nat) (hix : y < 8) : Met l yX2_least wsX2_least ({ frames := 2, cells := 0, slots := 0, locals := 42 }) (va_Pc [.ref (ad (18 + y))] (qm_B D A (qm_T cI cQ) (qm_W ad cI cQ rest S))) (qm_Qi D A (qm_W ad cI cQ rest) ((rw_at (S.1 (20 + y)) (0 : Int32)), S)) 0 0 A :=
  kX2_least l D A ad cI cQ rest S y hix _ (eX2_least S y)
noncomputable def fX2_push_L17 (n0 : Nat) (x1 : Int32) : Nat → Int32 → qm_S → Option (Int32 × qm_S)
  | 0, _, _ => none
  | fuel + 1, v2, S =>
    (if v2 ≤ 0 then some (v2, S) else (if x1 < (rw_at (S.1 (20 + n0)) ((v2 - (1 : Int32)) / (2 : Int32))) then fX2_push_L17 n0 x1 fuel ((v2 - (1 : Int32)) / (2 : Int32)) (qm_row S (20 + n0) (rw_put (S.1 (20 + n0)) v2 (rw_at (S.1 (20 + n0)) ((v2 - (1 : Int32)) / (2 : Int32))))) else some (v2, S)))
noncomputable def fX2_push (S : qm_S) (y : Nat) (p0 : Int32) : Option (qm_S) :=
  Option.bind (fX2_push_L17 y p0 qm_F ((S.1 (20 + y)).1) (qm_row S (20 + y) (rw_ins (S.1 (20 + y)) ((S.1 (20 + y)).1) p0))) (fun z_5 => some (qm_row z_5.2 (20 + y) (rw_put (z_5.2.1 (20 + y)) z_5.1 p0)))
set_option maxHeartbeats 4000000 in
set_option maxRecDepth 100000 in
theorem kX2_push (l : Launch) (D : va_G) (A : Nat → Prop) (ad : Nat → Nat) (cI cQ : ClassId) (rest : va_W) (S : qm_S) (y : Nat) (hix : y < 8) (p0 : Int32) (z : qm_S) (h : fX2_push S y p0 = some z) : Met l yX2_push wsX2_push ({ frames := 2, cells := 0, slots := 0, locals := 82 }) (va_Pc [.ref (ad (18 + y)), .int p0] (qm_B D A (qm_T cI cQ) (qm_W ad cI cQ rest S))) (qm_Qv D A (qm_W ad cI cQ rest) z) 0 0 A := by
  refine Met.ofW (cc := cX2_push) (maxL := 4) (ret := none) (by decide) rfl ?_
  intro p e s m args below meth c s₁ B hml hv
  obtain ⟨rfl, hA, hP, hK, hD⟩ := hv
  have hx := B.exec
  have hb := B.bytes
  have hr := B.returns
  have hts := atoms_spec (ws := wsX2_push) B.pre
  have hown : s.vm.findClass RX2 = some m.cls := findClass_of_methodNamed B.named
  have hlocks := B.notSynchronized
  have hS : va_S A s.heap s.heap [] := va_S.rf
  have hl := lv_entry ([.ref (ad (18 + y)), .int p0]) (n := 4) (Nat.le_of_ble_eq_true rfl)
  rw [lg_entry_eq]
  generalize (lg_sl ([.ref (ad (18 + y)), .int p0]) ++ List.replicate (4 - (lg_sl ([.ref (ad (18 + y)), .int p0])).length) Slot.unset).toArray = ls at hl ⊢
  have hl : lv_has ls 4 [(0, .ref (ad (18 + y))), (1, .int p0)] := hl
  obtain ⟨QX, hQX⟩ : ∃ q, q = MQ below (qm_Qv D A (qm_W ad cI cQ rest) z) ([.ref (ad (18 + y)), .int p0] : List Value).toArray s 0 0 A := ⟨_, rfl⟩
  rw [← hQX]
  rw [fX2_push] at h
  refine lv_aload_n hx hb dX2_push_0 rfl (lv_at hl 0 rfl) ?_
  refine va_get (D := D) (ci := 2) (v := .ref (ad (26 + (20 + y)))) (C := RX2) (T := TX2) (N := 1) hx hb hts (by decide +kernel) hown hK hP (18 + y) (qg_P hix) rfl 0 (by decide) (hts (.fieldLink RX2 10 "QueueMiddles$Heap" "row" "LQueueMiddles$Row;") (by decide +kernel)) (fun _ h9 => h9) rfl dX2_push_1 ?_
  refine va_calli (va_runV (As := []) (rest := []) ⟨hx, hb, hml, hown, hts⟩ (nX4_size l D A ad cI cQ rest S (20 + y) (qb_20 hix)) (cwV 0 hts gX2_push_X4_size rfl rfl rfl (by decide +kernel) ⟨Nat.le_of_ble_eq_true rfl, Nat.le_of_ble_eq_true rfl⟩) ⟨qm_blind, va_recv hK hP (ci := 4) (q0 := (26 + (20 + y))) rfl (qg_R (qb_20 hix)), fun U hU hW => ⟨rfl, qm_go hA hS hP hK hD hU hW⟩⟩ rfl rfl hl.1 rfl (lv_room (Nat.le_of_ble_eq_true rfl)) dX2_push_4 ⟨Nat.le_of_ble_eq_true rfl, Nat.le_of_ble_eq_true rfl⟩) hS (fun _ _ h9 => h9) (fun _ h9 => h9) (fun v u t H1 locs1 ht hvm hw hB hz1 hk1 hS => ?_)
  obtain ⟨hw1, hw2⟩ := hw
  have hw1 : (S.1 (20 + y)).1 = v := hw1.symm
  have hw2 : S = u := hw2.symm
  subst hw1
  subst hw2
  obtain ⟨hP, hD⟩ := qm_bk ht hB
  refine lv_istore_n (lv' := [(2, .int ((S.1 (20 + y)).1)), (0, .ref (ad (18 + y))), (1, .int p0)]) hx hb dX2_push_7 rfl hl (by decide) rfl (fun ls hl => ?_)
  refine lv_aload_n hx hb dX2_push_8 rfl (lv_at hl 1 rfl) ?_
  refine va_get (D := D) (ci := 2) (v := .ref (ad (26 + (20 + y)))) (C := RX2) (T := TX2) (N := 1) hx hb hts (by decide +kernel) hown hK hP (18 + y) (qg_P hix) rfl 0 (by decide) (hts (.fieldLink RX2 10 "QueueMiddles$Heap" "row" "LQueueMiddles$Row;") (by decide +kernel)) (fun _ h9 => h9) rfl dX2_push_9 ?_
  refine lv_iload_n hx hb dX2_push_12 rfl (lv_at hl 0 rfl) ?_
  refine lv_iload_n hx hb dX2_push_13 rfl (lv_at hl 2 rfl) ?_
  refine va_callv (va_runV (As := [.int ((S.1 (20 + y)).1), .int p0]) (rest := []) ⟨hx, hb, hml, hown, hts⟩ (nX4_insert l D A ad cI cQ rest S (20 + y) (qb_20 hix) ((S.1 (20 + y)).1) p0) (cwV 2 hts gX2_push_X4_insert rfl rfl rfl (by decide +kernel) ⟨Nat.le_of_ble_eq_true rfl, Nat.le_of_ble_eq_true rfl⟩) ⟨qm_blind, va_recv hK hP (ci := 4) (q0 := (26 + (20 + y))) rfl (qg_R (qb_20 hix)), fun U hU hW => ⟨rfl, qm_go hA hS hP hK hD hU hW⟩⟩ rfl rfl hl.1 rfl (lv_room (Nat.le_of_ble_eq_true rfl)) dX2_push_14 ⟨Nat.le_of_ble_eq_true rfl, Nat.le_of_ble_eq_true rfl⟩) hS (fun _ _ h9 => h9) (fun _ h9 => h9) (fun u t H1 locs1 ht hvm hw hB hz1 hk1 hS => ?_)
  have hw : qm_row S (20 + y) (rw_ins (S.1 (20 + y)) ((S.1 (20 + y)).1) p0) = u := hw.symm
  subst hw
  obtain ⟨hP, hD⟩ := qm_bk ht hB
  have loop_2 : ∀ (fuel : Nat) (v2_1 : Int32) (S_1 : qm_S) (z : Int32 × qm_S), fX2_push_L17 y p0 fuel v2_1 S_1 = some z → ∀ (H : Heap) (locs : List Loc) (ls : Array Slot), va_P D vwCl (qm_W ad cI cQ rest S_1) H → va_D A (qm_W ad cI cQ rest S_1) → va_S A s.heap H locs → lv_has ls 4 [(0, .ref (ad (18 + y))), (1, .int p0), (2, .int v2_1)] → (∀ (H : Heap) (locs : List Loc) (ls : Array Slot), va_P D vwCl (qm_W ad cI cQ rest z.2) H → va_D A (qm_W ad cI cQ rest z.2) → va_S A s.heap H locs → lv_has ls 4 [(0, .ref (ad (18 + y))), (1, .int p0), (2, .int z.1)] → W p l e ({ frames := 2, cells := 0, slots := 0, locals := 82 } : Room) s m ([.ref (ad (18 + y)), .int p0] : List Value).toArray below meth c H locs 0 0 QX (F0 m 63 ls [])) → W p l e ({ frames := 2, cells := 0, slots := 0, locals := 82 } : Room) s m ([.ref (ad (18 + y)), .int p0] : List Value).toArray below meth c H locs 0 0 QX (F0 m 17 ls []) := by
    intro fuel
    induction fuel with
    | zero =>
      intro v2_1 S_1 z h
      rw [fX2_push_L17] at h
      cases h
    | succ fuel ih =>
      intro v2_1 S_1 z h H locs ls hP hD hS hl kex
      rw [fX2_push_L17] at h
      refine lv_iload_n hx hb dX2_push_17 rfl (lv_at hl 2 rfl) ?_
      refine lv_if_le (tgt := 63) hx hb dX2_push_18 (by decide) (fun c_3 => ?_) (fun c_3 => ?_)
      · rw [if_pos c_3] at h
        have h := Option.some.inj h
        subst h
        exact kex _ _ _ hP hD hS (lv_sub hl [0, 1, 2] rfl)
      · rw [if_neg c_3] at h
        refine lv_iload_n hx hb dX2_push_21 rfl (lv_at hl 2 rfl) ?_
        refine lv_iconst (v := (1 : Int32)) hx hb dX2_push_22 (by decide) ?_
        refine lv_isub hx hb dX2_push_23 ?_
        refine lv_iconst (v := (2 : Int32)) hx hb dX2_push_24 (by decide) ?_
        refine lv_idiv hx hb dX2_push_25 (by decide) ?_
        refine lv_istore_n (lv' := [(3, .int ((v2_1 - (1 : Int32)) / (2 : Int32))), (0, .ref (ad (18 + y))), (1, .int p0), (2, .int v2_1)]) hx hb dX2_push_26 rfl hl (by decide) rfl (fun ls hl => ?_)
        refine lv_aload_n hx hb dX2_push_27 rfl (lv_at hl 1 rfl) ?_
        refine va_get (D := D) (ci := 2) (v := .ref (ad (26 + (20 + y)))) (C := RX2) (T := TX2) (N := 1) hx hb hts (by decide +kernel) hown hK hP (18 + y) (qg_P hix) rfl 0 (by decide) (hts (.fieldLink RX2 10 "QueueMiddles$Heap" "row" "LQueueMiddles$Row;") (by decide +kernel)) (fun _ h9 => h9) rfl dX2_push_28 ?_
        refine lv_iload_n hx hb dX2_push_31 rfl (lv_at hl 0 rfl) ?_
        refine va_calli (va_runV (As := [.int ((v2_1 - (1 : Int32)) / (2 : Int32))]) (rest := []) ⟨hx, hb, hml, hown, hts⟩ (nX4_at l D A ad cI cQ rest S_1 (20 + y) (qb_20 hix) ((v2_1 - (1 : Int32)) / (2 : Int32))) (cwV 1 hts gX2_push_X4_at rfl rfl rfl (by decide +kernel) ⟨Nat.le_of_ble_eq_true rfl, Nat.le_of_ble_eq_true rfl⟩) ⟨qm_blind, va_recv hK hP (ci := 4) (q0 := (26 + (20 + y))) rfl (qg_R (qb_20 hix)), fun U hU hW => ⟨rfl, qm_go hA hS hP hK hD hU hW⟩⟩ rfl rfl hl.1 rfl (lv_room (Nat.le_of_ble_eq_true rfl)) dX2_push_32 ⟨Nat.le_of_ble_eq_true rfl, Nat.le_of_ble_eq_true rfl⟩) hS (fun _ _ h9 => h9) (fun _ h9 => h9) (fun v u t H1 locs1 ht hvm hw hB hz1 hk1 hS => ?_)
        obtain ⟨hw1, hw2⟩ := hw
        have hw1 : rw_at (S_1.1 (20 + y)) ((v2_1 - (1 : Int32)) / (2 : Int32)) = v := hw1.symm
        have hw2 : S_1 = u := hw2.symm
        subst hw1
        subst hw2
        obtain ⟨hP, hD⟩ := qm_bk ht hB
        refine lv_iload_n hx hb dX2_push_35 rfl (lv_at hl 2 rfl) ?_
        refine lv_icmp_gt (tgt := 42) hx hb dX2_push_36 (by decide) (fun c_4 => ?_) (fun c_4 => ?_)
        · rw [if_pos c_4] at h
          refine lv_aload_n hx hb dX2_push_42 rfl (lv_at hl 1 rfl) ?_
          refine va_get (D := D) (ci := 2) (v := .ref (ad (26 + (20 + y)))) (C := RX2) (T := TX2) (N := 1) hx hb hts (by decide +kernel) hown hK hP (18 + y) (qg_P hix) rfl 0 (by decide) (hts (.fieldLink RX2 10 "QueueMiddles$Heap" "row" "LQueueMiddles$Row;") (by decide +kernel)) (fun _ h9 => h9) rfl dX2_push_43 ?_
          refine lv_iload_n hx hb dX2_push_46 rfl (lv_at hl 3 rfl) ?_
          refine lv_aload_n hx hb dX2_push_47 rfl (lv_at hl 1 rfl) ?_
          refine va_get (D := D) (ci := 2) (v := .ref (ad (26 + (20 + y)))) (C := RX2) (T := TX2) (N := 1) hx hb hts (by decide +kernel) hown hK hP (18 + y) (qg_P hix) rfl 0 (by decide) (hts (.fieldLink RX2 10 "QueueMiddles$Heap" "row" "LQueueMiddles$Row;") (by decide +kernel)) (fun _ h9 => h9) rfl dX2_push_48 ?_
          refine lv_iload_n hx hb dX2_push_51 rfl (lv_at hl 0 rfl) ?_
          refine va_calli (va_runV (As := [.int ((v2_1 - (1 : Int32)) / (2 : Int32))]) (rest := [.int v2_1, .ref (ad (26 + (20 + y)))]) ⟨hx, hb, hml, hown, hts⟩ (nX4_at l D A ad cI cQ rest S_1 (20 + y) (qb_20 hix) ((v2_1 - (1 : Int32)) / (2 : Int32))) (cwV 1 hts gX2_push_X4_at rfl rfl rfl (by decide +kernel) ⟨Nat.le_of_ble_eq_true rfl, Nat.le_of_ble_eq_true rfl⟩) ⟨qm_blind, va_recv hK hP (ci := 4) (q0 := (26 + (20 + y))) rfl (qg_R (qb_20 hix)), fun U hU hW => ⟨rfl, qm_go hA hS hP hK hD hU hW⟩⟩ rfl rfl hl.1 rfl (lv_room (Nat.le_of_ble_eq_true rfl)) dX2_push_52 ⟨Nat.le_of_ble_eq_true rfl, Nat.le_of_ble_eq_true rfl⟩) hS (fun _ _ h9 => h9) (fun _ h9 => h9) (fun v u t H1 locs1 ht hvm hw hB hz1 hk1 hS => ?_)
          obtain ⟨hw1, hw2⟩ := hw
          have hw1 : rw_at (S_1.1 (20 + y)) ((v2_1 - (1 : Int32)) / (2 : Int32)) = v := hw1.symm
          have hw2 : S_1 = u := hw2.symm
          subst hw1
          subst hw2
          obtain ⟨hP, hD⟩ := qm_bk ht hB
          refine va_callv (va_runV (As := [.int v2_1, .int (rw_at (S_1.1 (20 + y)) ((v2_1 - (1 : Int32)) / (2 : Int32)))]) (rest := []) ⟨hx, hb, hml, hown, hts⟩ (nX4_put l D A ad cI cQ rest S_1 (20 + y) (qb_20 hix) v2_1 (rw_at (S_1.1 (20 + y)) ((v2_1 - (1 : Int32)) / (2 : Int32)))) (cwV 2 hts gX2_push_X4_put rfl rfl rfl (by decide +kernel) ⟨Nat.le_of_ble_eq_true rfl, Nat.le_of_ble_eq_true rfl⟩) ⟨qm_blind, va_recv hK hP (ci := 4) (q0 := (26 + (20 + y))) rfl (qg_R (qb_20 hix)), fun U hU hW => ⟨rfl, qm_go hA hS hP hK hD hU hW⟩⟩ rfl rfl hl.1 rfl (lv_room (Nat.le_of_ble_eq_true rfl)) dX2_push_55 ⟨Nat.le_of_ble_eq_true rfl, Nat.le_of_ble_eq_true rfl⟩) hS (fun _ _ h9 => h9) (fun _ h9 => h9) (fun u t H1 locs1 ht hvm hw hB hz1 hk1 hS => ?_)
          have hw : qm_row S_1 (20 + y) (rw_put (S_1.1 (20 + y)) v2_1 (rw_at (S_1.1 (20 + y)) ((v2_1 - (1 : Int32)) / (2 : Int32)))) = u := hw.symm
          subst hw
          obtain ⟨hP, hD⟩ := qm_bk ht hB
          refine lv_iload_n hx hb dX2_push_58 rfl (lv_at hl 0 rfl) ?_
          refine lv_istore_n (lv' := [(2, .int ((v2_1 - (1 : Int32)) / (2 : Int32))), (3, .int ((v2_1 - (1 : Int32)) / (2 : Int32))), (0, .ref (ad (18 + y))), (1, .int p0)]) hx hb dX2_push_59 rfl hl (by decide) rfl (fun ls hl => ?_)
          refine lv_goto (tgt := 17) hx hb dX2_push_60 (by decide) ?_
          exact ih ((v2_1 - (1 : Int32)) / (2 : Int32)) (qm_row S_1 (20 + y) (rw_put (S_1.1 (20 + y)) v2_1 (rw_at (S_1.1 (20 + y)) ((v2_1 - (1 : Int32)) / (2 : Int32))))) z h _ _ _ hP hD hS (lv_sub hl [2, 3, 0] rfl) kex
        · rw [if_neg c_4] at h
          refine lv_goto (tgt := 63) hx hb dX2_push_39 (by decide) ?_
          have h := Option.some.inj h
          subst h
          exact kex _ _ _ hP hD hS (lv_sub hl [1, 2, 3] rfl)
  obtain ⟨z_5, hz_6, h⟩ := qm_bind h
  refine loop_2 qm_F ((S.1 (20 + y)).1) (qm_row S (20 + y) (rw_ins (S.1 (20 + y)) ((S.1 (20 + y)).1) p0)) z_5 hz_6 _ _ _ hP hD hS (lv_sub hl [1, 2, 0] rfl) (fun H locs ls hP hD hS hl => ?_)
  refine lv_aload_n hx hb dX2_push_63 rfl (lv_at hl 0 rfl) ?_
  refine va_get (D := D) (ci := 2) (v := .ref (ad (26 + (20 + y)))) (C := RX2) (T := TX2) (N := 1) hx hb hts (by decide +kernel) hown hK hP (18 + y) (qg_P hix) rfl 0 (by decide) (hts (.fieldLink RX2 10 "QueueMiddles$Heap" "row" "LQueueMiddles$Row;") (by decide +kernel)) (fun _ h9 => h9) rfl dX2_push_64 ?_
  refine lv_iload_n hx hb dX2_push_67 rfl (lv_at hl 2 rfl) ?_
  refine lv_iload_n hx hb dX2_push_68 rfl (lv_at hl 1 rfl) ?_
  refine va_callv (va_runV (As := [.int z_5.1, .int p0]) (rest := []) ⟨hx, hb, hml, hown, hts⟩ (nX4_put l D A ad cI cQ rest z_5.2 (20 + y) (qb_20 hix) z_5.1 p0) (cwV 2 hts gX2_push_X4_put rfl rfl rfl (by decide +kernel) ⟨Nat.le_of_ble_eq_true rfl, Nat.le_of_ble_eq_true rfl⟩) ⟨qm_blind, va_recv hK hP (ci := 4) (q0 := (26 + (20 + y))) rfl (qg_R (qb_20 hix)), fun U hU hW => ⟨rfl, qm_go hA hS hP hK hD hU hW⟩⟩ rfl rfl hl.1 rfl (lv_room (Nat.le_of_ble_eq_true rfl)) dX2_push_69 ⟨Nat.le_of_ble_eq_true rfl, Nat.le_of_ble_eq_true rfl⟩) hS (fun _ _ h9 => h9) (fun _ h9 => h9) (fun u t H1 locs1 ht hvm hw hB hz1 hk1 hS => ?_)
  have hw : qm_row z_5.2 (20 + y) (rw_put (z_5.2.1 (20 + y)) z_5.1 p0) = u := hw.symm
  subst hw
  obtain ⟨hP, hD⟩ := qm_bk ht hB
  have h := Option.some.inj h
  subst h
  rw [hQX]
  exact W.vret hx hb hr (fun t ht hW => ⟨⟨qm_row z_5.2 (20 + y) (rw_put (z_5.2.1 (20 + y)) z_5.1 p0), rfl, rfl, qm_en ht hP hD⟩, hS.F ht⟩) hS.2.2 dX2_push_72
noncomputable def fX2_pop_L43 (n0 : Nat) (x1 : Int32) (x2 : Int32) : Nat → Int32 → Int32 → qm_S → Option (Int32 × qm_S)
  | 0, _, _, _ => none
  | fuel + 1, v3, v4, S =>
    (if ((S.1 (20 + n0)).1) ≤ v4 then some (v3, S) else (if ((S.1 (20 + n0)).1) ≤ (v4 + (1 : Int32)) then (if (rw_at (S.1 (20 + n0)) v4) < x2 then fX2_pop_L43 n0 x1 x2 fuel v4 (((2 : Int32) * v4) + (1 : Int32)) (qm_row S (20 + n0) (rw_put (S.1 (20 + n0)) v3 (rw_at (S.1 (20 + n0)) v4))) else some (v3, S)) else (if (rw_at (S.1 (20 + n0)) v4) ≤ (rw_at (S.1 (20 + n0)) (v4 + (1 : Int32))) then (if (rw_at (S.1 (20 + n0)) v4) < x2 then fX2_pop_L43 n0 x1 x2 fuel v4 (((2 : Int32) * v4) + (1 : Int32)) (qm_row S (20 + n0) (rw_put (S.1 (20 + n0)) v3 (rw_at (S.1 (20 + n0)) v4))) else some (v3, S)) else (if (rw_at (S.1 (20 + n0)) (v4 + (1 : Int32))) < x2 then fX2_pop_L43 n0 x1 x2 fuel (v4 + (1 : Int32)) (((2 : Int32) * (v4 + (1 : Int32))) + (1 : Int32)) (qm_row S (20 + n0) (rw_put (S.1 (20 + n0)) v3 (rw_at (S.1 (20 + n0)) (v4 + (1 : Int32))))) else some (v3, S)))))
noncomputable def fX2_pop (S : qm_S) (y : Nat) : Option (Int32 × qm_S) :=
  Option.bind (fX2_pop_L43 y (rw_at (S.1 (20 + y)) (0 : Int32)) (rw_at (S.1 (20 + y)) (((S.1 (20 + y)).1) - (1 : Int32))) qm_F (0 : Int32) (1 : Int32) (qm_row S (20 + y) (rw_cut (S.1 (20 + y)) (((S.1 (20 + y)).1) - (1 : Int32))))) (fun z_9 => some ((rw_at (S.1 (20 + y)) (0 : Int32)), qm_row z_9.2 (20 + y) (rw_put (z_9.2.1 (20 + y)) z_9.1 (rw_at (S.1 (20 + y)) (((S.1 (20 + y)).1) - (1 : Int32))))))
set_option maxHeartbeats 4000000 in
set_option maxRecDepth 100000 in
theorem kX2_pop (l : Launch) (D : va_G) (A : Nat → Prop) (ad : Nat → Nat) (cI cQ : ClassId) (rest : va_W) (S : qm_S) (y : Nat) (hix : y < 8) (z : Int32 × qm_S) (h : fX2_pop S y = some z) : Met l yX2_pop wsX2_pop ({ frames := 3, cells := 0, slots := 0, locals := 62 }) (va_Pc [.ref (ad (18 + y))] (qm_B D A (qm_T cI cQ) (qm_W ad cI cQ rest S))) (qm_Qi D A (qm_W ad cI cQ rest) z) 0 0 A := by
  refine Met.ofW (cc := cX2_pop) (maxL := 7) (ret := (some .int)) (by decide) rfl ?_
  intro p e s m args below meth c s₁ B hml hv
  obtain ⟨rfl, hA, hP, hK, hD⟩ := hv
  have hx := B.exec
  have hb := B.bytes
  have hr := B.returns
  have hts := atoms_spec (ws := wsX2_pop) B.pre
  have hown : s.vm.findClass RX2 = some m.cls := findClass_of_methodNamed B.named
  have hlocks := B.notSynchronized
  have hS : va_S A s.heap s.heap [] := va_S.rf
  have hl := lv_entry ([.ref (ad (18 + y))]) (n := 7) (Nat.le_of_ble_eq_true rfl)
  rw [lg_entry_eq]
  generalize (lg_sl ([.ref (ad (18 + y))]) ++ List.replicate (7 - (lg_sl ([.ref (ad (18 + y))])).length) Slot.unset).toArray = ls at hl ⊢
  have hl : lv_has ls 7 [(0, .ref (ad (18 + y)))] := hl
  obtain ⟨QX, hQX⟩ : ∃ q, q = MQ below (qm_Qi D A (qm_W ad cI cQ rest) z) ([.ref (ad (18 + y))] : List Value).toArray s 0 0 A := ⟨_, rfl⟩
  rw [← hQX]
  rw [fX2_pop] at h
  refine lv_aload_n hx hb dX2_pop_0 rfl (lv_at hl 0 rfl) ?_
  refine va_calli (va_runV (As := []) (rest := []) ⟨hx, hb, hml, hown, hts⟩ (nX2_least l D A ad cI cQ rest S y hix) (cwV 0 hts gX2_pop_X2_least rfl rfl rfl (by decide +kernel) ⟨Nat.le_of_ble_eq_true rfl, Nat.le_of_ble_eq_true rfl⟩) ⟨qm_blind, va_recv hK hP (ci := 2) (q0 := (18 + y)) rfl (qg_P hix), fun U hU hW => ⟨rfl, qm_go hA hS hP hK hD hU hW⟩⟩ rfl rfl hl.1 rfl (lv_room (Nat.le_of_ble_eq_true rfl)) dX2_pop_1 ⟨Nat.le_of_ble_eq_true rfl, Nat.le_of_ble_eq_true rfl⟩) hS (fun _ _ h9 => h9) (fun _ h9 => h9) (fun v u t H1 locs1 ht hvm hw hB hz1 hk1 hS => ?_)
  obtain ⟨hw1, hw2⟩ := hw
  have hw1 : (rw_at (S.1 (20 + y)) (0 : Int32)) = v := hw1.symm
  have hw2 : S = u := hw2.symm
  subst hw1
  subst hw2
  obtain ⟨hP, hD⟩ := qm_bk ht hB
  refine lv_istore_n (lv' := [(1, .int (rw_at (S.1 (20 + y)) (0 : Int32))), (0, .ref (ad (18 + y)))]) hx hb dX2_pop_4 rfl hl (by decide) rfl (fun ls hl => ?_)
  refine lv_aload_n hx hb dX2_pop_5 rfl (lv_at hl 1 rfl) ?_
  refine va_get (D := D) (ci := 2) (v := .ref (ad (26 + (20 + y)))) (C := RX2) (T := TX2) (N := 1) hx hb hts (by decide +kernel) hown hK hP (18 + y) (qg_P hix) rfl 0 (by decide) (hts (.fieldLink RX2 10 "QueueMiddles$Heap" "row" "LQueueMiddles$Row;") (by decide +kernel)) (fun _ h9 => h9) rfl dX2_pop_6 ?_
  refine lv_aload_n hx hb dX2_pop_9 rfl (lv_at hl 1 rfl) ?_
  refine va_get (D := D) (ci := 2) (v := .ref (ad (26 + (20 + y)))) (C := RX2) (T := TX2) (N := 1) hx hb hts (by decide +kernel) hown hK hP (18 + y) (qg_P hix) rfl 0 (by decide) (hts (.fieldLink RX2 10 "QueueMiddles$Heap" "row" "LQueueMiddles$Row;") (by decide +kernel)) (fun _ h9 => h9) rfl dX2_pop_10 ?_
  refine va_calli (va_runV (As := []) (rest := [.ref (ad (26 + (20 + y)))]) ⟨hx, hb, hml, hown, hts⟩ (nX4_size l D A ad cI cQ rest S (20 + y) (qb_20 hix)) (cwV 0 hts gX2_pop_X4_size rfl rfl rfl (by decide +kernel) ⟨Nat.le_of_ble_eq_true rfl, Nat.le_of_ble_eq_true rfl⟩) ⟨qm_blind, va_recv hK hP (ci := 4) (q0 := (26 + (20 + y))) rfl (qg_R (qb_20 hix)), fun U hU hW => ⟨rfl, qm_go hA hS hP hK hD hU hW⟩⟩ rfl rfl hl.1 rfl (lv_room (Nat.le_of_ble_eq_true rfl)) dX2_pop_13 ⟨Nat.le_of_ble_eq_true rfl, Nat.le_of_ble_eq_true rfl⟩) hS (fun _ _ h9 => h9) (fun _ h9 => h9) (fun v u t H1 locs1 ht hvm hw hB hz1 hk1 hS => ?_)
  obtain ⟨hw1, hw2⟩ := hw
  have hw1 : (S.1 (20 + y)).1 = v := hw1.symm
  have hw2 : S = u := hw2.symm
  subst hw1
  subst hw2
  obtain ⟨hP, hD⟩ := qm_bk ht hB
  refine lv_iconst (v := (1 : Int32)) hx hb dX2_pop_16 (by decide) ?_
  refine lv_isub hx hb dX2_pop_17 ?_
  refine va_calli (va_runV (As := [.int (((S.1 (20 + y)).1) - (1 : Int32))]) (rest := []) ⟨hx, hb, hml, hown, hts⟩ (nX4_at l D A ad cI cQ rest S (20 + y) (qb_20 hix) (((S.1 (20 + y)).1) - (1 : Int32))) (cwV 1 hts gX2_pop_X4_at rfl rfl rfl (by decide +kernel) ⟨Nat.le_of_ble_eq_true rfl, Nat.le_of_ble_eq_true rfl⟩) ⟨qm_blind, va_recv hK hP (ci := 4) (q0 := (26 + (20 + y))) rfl (qg_R (qb_20 hix)), fun U hU hW => ⟨rfl, qm_go hA hS hP hK hD hU hW⟩⟩ rfl rfl hl.1 rfl (lv_room (Nat.le_of_ble_eq_true rfl)) dX2_pop_18 ⟨Nat.le_of_ble_eq_true rfl, Nat.le_of_ble_eq_true rfl⟩) hS (fun _ _ h9 => h9) (fun _ h9 => h9) (fun v u t H1 locs1 ht hvm hw hB hz1 hk1 hS => ?_)
  obtain ⟨hw1, hw2⟩ := hw
  have hw1 : rw_at (S.1 (20 + y)) (((S.1 (20 + y)).1) - (1 : Int32)) = v := hw1.symm
  have hw2 : S = u := hw2.symm
  subst hw1
  subst hw2
  obtain ⟨hP, hD⟩ := qm_bk ht hB
  refine lv_istore_n (lv' := [(2, .int (rw_at (S.1 (20 + y)) (((S.1 (20 + y)).1) - (1 : Int32)))), (1, .int (rw_at (S.1 (20 + y)) (0 : Int32))), (0, .ref (ad (18 + y)))]) hx hb dX2_pop_21 rfl hl (by decide) rfl (fun ls hl => ?_)
  refine lv_aload_n hx hb dX2_pop_22 rfl (lv_at hl 2 rfl) ?_
  refine va_get (D := D) (ci := 2) (v := .ref (ad (26 + (20 + y)))) (C := RX2) (T := TX2) (N := 1) hx hb hts (by decide +kernel) hown hK hP (18 + y) (qg_P hix) rfl 0 (by decide) (hts (.fieldLink RX2 10 "QueueMiddles$Heap" "row" "LQueueMiddles$Row;") (by decide +kernel)) (fun _ h9 => h9) rfl dX2_pop_23 ?_
  refine lv_aload_n hx hb dX2_pop_26 rfl (lv_at hl 2 rfl) ?_
  refine va_get (D := D) (ci := 2) (v := .ref (ad (26 + (20 + y)))) (C := RX2) (T := TX2) (N := 1) hx hb hts (by decide +kernel) hown hK hP (18 + y) (qg_P hix) rfl 0 (by decide) (hts (.fieldLink RX2 10 "QueueMiddles$Heap" "row" "LQueueMiddles$Row;") (by decide +kernel)) (fun _ h9 => h9) rfl dX2_pop_27 ?_
  refine va_calli (va_runV (As := []) (rest := [.ref (ad (26 + (20 + y)))]) ⟨hx, hb, hml, hown, hts⟩ (nX4_size l D A ad cI cQ rest S (20 + y) (qb_20 hix)) (cwV 0 hts gX2_pop_X4_size rfl rfl rfl (by decide +kernel) ⟨Nat.le_of_ble_eq_true rfl, Nat.le_of_ble_eq_true rfl⟩) ⟨qm_blind, va_recv hK hP (ci := 4) (q0 := (26 + (20 + y))) rfl (qg_R (qb_20 hix)), fun U hU hW => ⟨rfl, qm_go hA hS hP hK hD hU hW⟩⟩ rfl rfl hl.1 rfl (lv_room (Nat.le_of_ble_eq_true rfl)) dX2_pop_30 ⟨Nat.le_of_ble_eq_true rfl, Nat.le_of_ble_eq_true rfl⟩) hS (fun _ _ h9 => h9) (fun _ h9 => h9) (fun v u t H1 locs1 ht hvm hw hB hz1 hk1 hS => ?_)
  obtain ⟨hw1, hw2⟩ := hw
  have hw1 : (S.1 (20 + y)).1 = v := hw1.symm
  have hw2 : S = u := hw2.symm
  subst hw1
  subst hw2
  obtain ⟨hP, hD⟩ := qm_bk ht hB
  refine lv_iconst (v := (1 : Int32)) hx hb dX2_pop_33 (by decide) ?_
  refine lv_isub hx hb dX2_pop_34 ?_
  refine va_callv (va_runV (As := [.int (((S.1 (20 + y)).1) - (1 : Int32))]) (rest := []) ⟨hx, hb, hml, hown, hts⟩ (nX4_cutTo l D A ad cI cQ rest S (20 + y) (qb_20 hix) (((S.1 (20 + y)).1) - (1 : Int32))) (cwV 1 hts gX2_pop_X4_cutTo rfl rfl rfl (by decide +kernel) ⟨Nat.le_of_ble_eq_true rfl, Nat.le_of_ble_eq_true rfl⟩) ⟨qm_blind, va_recv hK hP (ci := 4) (q0 := (26 + (20 + y))) rfl (qg_R (qb_20 hix)), fun U hU hW => ⟨rfl, qm_go hA hS hP hK hD hU hW⟩⟩ rfl rfl hl.1 rfl (lv_room (Nat.le_of_ble_eq_true rfl)) dX2_pop_35 ⟨Nat.le_of_ble_eq_true rfl, Nat.le_of_ble_eq_true rfl⟩) hS (fun _ _ h9 => h9) (fun _ h9 => h9) (fun u t H1 locs1 ht hvm hw hB hz1 hk1 hS => ?_)
  have hw : qm_row S (20 + y) (rw_cut (S.1 (20 + y)) (((S.1 (20 + y)).1) - (1 : Int32))) = u := hw.symm
  subst hw
  obtain ⟨hP, hD⟩ := qm_bk ht hB
  refine lv_iconst (v := (0 : Int32)) hx hb dX2_pop_38 (by decide) ?_
  refine lv_istore_n (lv' := [(3, .int (0 : Int32)), (2, .int (rw_at (S.1 (20 + y)) (((S.1 (20 + y)).1) - (1 : Int32)))), (1, .int (rw_at (S.1 (20 + y)) (0 : Int32))), (0, .ref (ad (18 + y)))]) hx hb dX2_pop_39 rfl hl (by decide) rfl (fun ls hl => ?_)
  refine lv_iconst (v := (1 : Int32)) hx hb dX2_pop_40 (by decide) ?_
  refine lv_istore (lv' := [(4, .int (1 : Int32)), (3, .int (0 : Int32)), (2, .int (rw_at (S.1 (20 + y)) (((S.1 (20 + y)).1) - (1 : Int32)))), (1, .int (rw_at (S.1 (20 + y)) (0 : Int32))), (0, .ref (ad (18 + y)))]) hx hb dX2_pop_41 hl (by decide) rfl (fun ls hl => ?_)
  have loop_2 : ∀ (fuel : Nat) (v3_1 v4_1 : Int32) (S_1 : qm_S) (z : Int32 × qm_S), fX2_pop_L43 y (rw_at (S.1 (20 + y)) (0 : Int32)) (rw_at (S.1 (20 + y)) (((S.1 (20 + y)).1) - (1 : Int32))) fuel v3_1 v4_1 S_1 = some z → ∀ (H : Heap) (locs : List Loc) (ls : Array Slot), va_P D vwCl (qm_W ad cI cQ rest S_1) H → va_D A (qm_W ad cI cQ rest S_1) → va_S A s.heap H locs → lv_has ls 7 [(0, .ref (ad (18 + y))), (1, .int (rw_at (S.1 (20 + y)) (0 : Int32))), (2, .int (rw_at (S.1 (20 + y)) (((S.1 (20 + y)).1) - (1 : Int32)))), (3, .int v3_1), (4, .int v4_1)] → (∀ (H : Heap) (locs : List Loc) (ls : Array Slot), va_P D vwCl (qm_W ad cI cQ rest z.2) H → va_D A (qm_W ad cI cQ rest z.2) → va_S A s.heap H locs → lv_has ls 7 [(0, .ref (ad (18 + y))), (1, .int (rw_at (S.1 (20 + y)) (0 : Int32))), (2, .int (rw_at (S.1 (20 + y)) (((S.1 (20 + y)).1) - (1 : Int32)))), (3, .int z.1)] → W p l e ({ frames := 3, cells := 0, slots := 0, locals := 62 } : Room) s m ([.ref (ad (18 + y))] : List Value).toArray below meth c H locs 0 0 QX (F0 m 150 ls [])) → W p l e ({ frames := 3, cells := 0, slots := 0, locals := 62 } : Room) s m ([.ref (ad (18 + y))] : List Value).toArray below meth c H locs 0 0 QX (F0 m 43 ls []) := by
    intro fuel
    induction fuel with
    | zero =>
      intro v3_1 v4_1 S_1 z h
      rw [fX2_pop_L43] at h
      cases h
    | succ fuel ih =>
      intro v3_1 v4_1 S_1 z h H locs ls hP hD hS hl kex
      rw [fX2_pop_L43] at h
      refine lv_iload hx hb dX2_pop_43 (lv_at hl 4 rfl) ?_
      refine lv_aload_n hx hb dX2_pop_45 rfl (lv_at hl 0 rfl) ?_
      refine va_get (D := D) (ci := 2) (v := .ref (ad (26 + (20 + y)))) (C := RX2) (T := TX2) (N := 1) hx hb hts (by decide +kernel) hown hK hP (18 + y) (qg_P hix) rfl 0 (by decide) (hts (.fieldLink RX2 10 "QueueMiddles$Heap" "row" "LQueueMiddles$Row;") (by decide +kernel)) (fun _ h9 => h9) rfl dX2_pop_46 ?_
      refine va_calli (va_runV (As := []) (rest := [.int v4_1]) ⟨hx, hb, hml, hown, hts⟩ (nX4_size l D A ad cI cQ rest S_1 (20 + y) (qb_20 hix)) (cwV 0 hts gX2_pop_X4_size rfl rfl rfl (by decide +kernel) ⟨Nat.le_of_ble_eq_true rfl, Nat.le_of_ble_eq_true rfl⟩) ⟨qm_blind, va_recv hK hP (ci := 4) (q0 := (26 + (20 + y))) rfl (qg_R (qb_20 hix)), fun U hU hW => ⟨rfl, qm_go hA hS hP hK hD hU hW⟩⟩ rfl rfl hl.1 rfl (lv_room (Nat.le_of_ble_eq_true rfl)) dX2_pop_49 ⟨Nat.le_of_ble_eq_true rfl, Nat.le_of_ble_eq_true rfl⟩) hS (fun _ _ h9 => h9) (fun _ h9 => h9) (fun v u t H1 locs1 ht hvm hw hB hz1 hk1 hS => ?_)
      obtain ⟨hw1, hw2⟩ := hw
      have hw1 : (S_1.1 (20 + y)).1 = v := hw1.symm
      have hw2 : S_1 = u := hw2.symm
      subst hw1
      subst hw2
      obtain ⟨hP, hD⟩ := qm_bk ht hB
      refine lv_icmp_ge (tgt := 150) hx hb dX2_pop_52 (by decide) (fun c_3 => ?_) (fun c_3 => ?_)
      · rw [if_pos c_3] at h
        have h := Option.some.inj h
        subst h
        exact kex _ _ _ hP hD hS (lv_sub hl [0, 1, 2, 3] rfl)
      · rw [if_neg c_3] at h
        refine lv_iload hx hb dX2_pop_55 (lv_at hl 4 rfl) ?_
        refine lv_iconst (v := (1 : Int32)) hx hb dX2_pop_57 (by decide) ?_
        refine lv_iadd hx hb dX2_pop_58 ?_
        refine lv_istore (lv' := [(5, .int (v4_1 + (1 : Int32))), (0, .ref (ad (18 + y))), (1, .int (rw_at (S.1 (20 + y)) (0 : Int32))), (2, .int (rw_at (S.1 (20 + y)) (((S.1 (20 + y)).1) - (1 : Int32)))), (3, .int v3_1), (4, .int v4_1)]) hx hb dX2_pop_59 hl (by decide) rfl (fun ls hl => ?_)
        refine lv_iload hx hb dX2_pop_61 (lv_at hl 0 rfl) ?_
        refine lv_aload_n hx hb dX2_pop_63 rfl (lv_at hl 1 rfl) ?_
        refine va_get (D := D) (ci := 2) (v := .ref (ad (26 + (20 + y)))) (C := RX2) (T := TX2) (N := 1) hx hb hts (by decide +kernel) hown hK hP (18 + y) (qg_P hix) rfl 0 (by decide) (hts (.fieldLink RX2 10 "QueueMiddles$Heap" "row" "LQueueMiddles$Row;") (by decide +kernel)) (fun _ h9 => h9) rfl dX2_pop_64 ?_
        refine va_calli (va_runV (As := []) (rest := [.int (v4_1 + (1 : Int32))]) ⟨hx, hb, hml, hown, hts⟩ (nX4_size l D A ad cI cQ rest S_1 (20 + y) (qb_20 hix)) (cwV 0 hts gX2_pop_X4_size rfl rfl rfl (by decide +kernel) ⟨Nat.le_of_ble_eq_true rfl, Nat.le_of_ble_eq_true rfl⟩) ⟨qm_blind, va_recv hK hP (ci := 4) (q0 := (26 + (20 + y))) rfl (qg_R (qb_20 hix)), fun U hU hW => ⟨rfl, qm_go hA hS hP hK hD hU hW⟩⟩ rfl rfl hl.1 rfl (lv_room (Nat.le_of_ble_eq_true rfl)) dX2_pop_67 ⟨Nat.le_of_ble_eq_true rfl, Nat.le_of_ble_eq_true rfl⟩) hS (fun _ _ h9 => h9) (fun _ h9 => h9) (fun v u t H1 locs1 ht hvm hw hB hz1 hk1 hS => ?_)
        obtain ⟨hw1, hw2⟩ := hw
        have hw1 : (S_1.1 (20 + y)).1 = v := hw1.symm
        have hw2 : S_1 = u := hw2.symm
        subst hw1
        subst hw2
        obtain ⟨hP, hD⟩ := qm_bk ht hB
        refine lv_icmp_ge (tgt := 99) hx hb dX2_pop_70 (by decide) (fun c_4 => ?_) (fun c_4 => ?_)
        · rw [if_pos c_4] at h
          refine lv_iload hx hb dX2_pop_99 (lv_at hl 5 rfl) ?_
          refine lv_istore (lv' := [(6, .int v4_1), (5, .int (v4_1 + (1 : Int32))), (0, .ref (ad (18 + y))), (1, .int (rw_at (S.1 (20 + y)) (0 : Int32))), (2, .int (rw_at (S.1 (20 + y)) (((S.1 (20 + y)).1) - (1 : Int32)))), (3, .int v3_1), (4, .int v4_1)]) hx hb dX2_pop_101 hl (by decide) rfl (fun ls hl => ?_)
          refine lv_aload_n hx hb dX2_pop_103 rfl (lv_at hl 2 rfl) ?_
          refine va_get (D := D) (ci := 2) (v := .ref (ad (26 + (20 + y)))) (C := RX2) (T := TX2) (N := 1) hx hb hts (by decide +kernel) hown hK hP (18 + y) (qg_P hix) rfl 0 (by decide) (hts (.fieldLink RX2 10 "QueueMiddles$Heap" "row" "LQueueMiddles$Row;") (by decide +kernel)) (fun _ h9 => h9) rfl dX2_pop_104 ?_
          refine lv_iload hx hb dX2_pop_107 (lv_at hl 0 rfl) ?_
          refine va_calli (va_runV (As := [.int v4_1]) (rest := []) ⟨hx, hb, hml, hown, hts⟩ (nX4_at l D A ad cI cQ rest S_1 (20 + y) (qb_20 hix) v4_1) (cwV 1 hts gX2_pop_X4_at rfl rfl rfl (by decide +kernel) ⟨Nat.le_of_ble_eq_true rfl, Nat.le_of_ble_eq_true rfl⟩) ⟨qm_blind, va_recv hK hP (ci := 4) (q0 := (26 + (20 + y))) rfl (qg_R (qb_20 hix)), fun U hU hW => ⟨rfl, qm_go hA hS hP hK hD hU hW⟩⟩ rfl rfl hl.1 rfl (lv_room (Nat.le_of_ble_eq_true rfl)) dX2_pop_109 ⟨Nat.le_of_ble_eq_true rfl, Nat.le_of_ble_eq_true rfl⟩) hS (fun _ _ h9 => h9) (fun _ h9 => h9) (fun v u t H1 locs1 ht hvm hw hB hz1 hk1 hS => ?_)
          obtain ⟨hw1, hw2⟩ := hw
          have hw1 : rw_at (S_1.1 (20 + y)) v4_1 = v := hw1.symm
          have hw2 : S_1 = u := hw2.symm
          subst hw1
          subst hw2
          obtain ⟨hP, hD⟩ := qm_bk ht hB
          refine lv_iload_n hx hb dX2_pop_112 rfl (lv_at hl 4 rfl) ?_
          refine lv_icmp_lt (tgt := 119) hx hb dX2_pop_113 (by decide) (fun c_5 => ?_) (fun c_5 => ?_)
          · rw [if_pos c_5] at h
            refine lv_aload_n hx hb dX2_pop_119 rfl (lv_at hl 2 rfl) ?_
            refine va_get (D := D) (ci := 2) (v := .ref (ad (26 + (20 + y)))) (C := RX2) (T := TX2) (N := 1) hx hb hts (by decide +kernel) hown hK hP (18 + y) (qg_P hix) rfl 0 (by decide) (hts (.fieldLink RX2 10 "QueueMiddles$Heap" "row" "LQueueMiddles$Row;") (by decide +kernel)) (fun _ h9 => h9) rfl dX2_pop_120 ?_
            refine lv_iload_n hx hb dX2_pop_123 rfl (lv_at hl 5 rfl) ?_
            refine lv_aload_n hx hb dX2_pop_124 rfl (lv_at hl 2 rfl) ?_
            refine va_get (D := D) (ci := 2) (v := .ref (ad (26 + (20 + y)))) (C := RX2) (T := TX2) (N := 1) hx hb hts (by decide +kernel) hown hK hP (18 + y) (qg_P hix) rfl 0 (by decide) (hts (.fieldLink RX2 10 "QueueMiddles$Heap" "row" "LQueueMiddles$Row;") (by decide +kernel)) (fun _ h9 => h9) rfl dX2_pop_125 ?_
            refine lv_iload hx hb dX2_pop_128 (lv_at hl 0 rfl) ?_
            refine va_calli (va_runV (As := [.int v4_1]) (rest := [.int v3_1, .ref (ad (26 + (20 + y)))]) ⟨hx, hb, hml, hown, hts⟩ (nX4_at l D A ad cI cQ rest S_1 (20 + y) (qb_20 hix) v4_1) (cwV 1 hts gX2_pop_X4_at rfl rfl rfl (by decide +kernel) ⟨Nat.le_of_ble_eq_true rfl, Nat.le_of_ble_eq_true rfl⟩) ⟨qm_blind, va_recv hK hP (ci := 4) (q0 := (26 + (20 + y))) rfl (qg_R (qb_20 hix)), fun U hU hW => ⟨rfl, qm_go hA hS hP hK hD hU hW⟩⟩ rfl rfl hl.1 rfl (lv_room (Nat.le_of_ble_eq_true rfl)) dX2_pop_130 ⟨Nat.le_of_ble_eq_true rfl, Nat.le_of_ble_eq_true rfl⟩) hS (fun _ _ h9 => h9) (fun _ h9 => h9) (fun v u t H1 locs1 ht hvm hw hB hz1 hk1 hS => ?_)
            obtain ⟨hw1, hw2⟩ := hw
            have hw1 : rw_at (S_1.1 (20 + y)) v4_1 = v := hw1.symm
            have hw2 : S_1 = u := hw2.symm
            subst hw1
            subst hw2
            obtain ⟨hP, hD⟩ := qm_bk ht hB
            refine va_callv (va_runV (As := [.int v3_1, .int (rw_at (S_1.1 (20 + y)) v4_1)]) (rest := []) ⟨hx, hb, hml, hown, hts⟩ (nX4_put l D A ad cI cQ rest S_1 (20 + y) (qb_20 hix) v3_1 (rw_at (S_1.1 (20 + y)) v4_1)) (cwV 2 hts gX2_pop_X4_put rfl rfl rfl (by decide +kernel) ⟨Nat.le_of_ble_eq_true rfl, Nat.le_of_ble_eq_true rfl⟩) ⟨qm_blind, va_recv hK hP (ci := 4) (q0 := (26 + (20 + y))) rfl (qg_R (qb_20 hix)), fun U hU hW => ⟨rfl, qm_go hA hS hP hK hD hU hW⟩⟩ rfl rfl hl.1 rfl (lv_room (Nat.le_of_ble_eq_true rfl)) dX2_pop_133 ⟨Nat.le_of_ble_eq_true rfl, Nat.le_of_ble_eq_true rfl⟩) hS (fun _ _ h9 => h9) (fun _ h9 => h9) (fun u t H1 locs1 ht hvm hw hB hz1 hk1 hS => ?_)
            have hw : qm_row S_1 (20 + y) (rw_put (S_1.1 (20 + y)) v3_1 (rw_at (S_1.1 (20 + y)) v4_1)) = u := hw.symm
            subst hw
            obtain ⟨hP, hD⟩ := qm_bk ht hB
            refine lv_iload hx hb dX2_pop_136 (lv_at hl 0 rfl) ?_
            refine lv_istore_n (lv' := [(3, .int v4_1), (6, .int v4_1), (5, .int (v4_1 + (1 : Int32))), (0, .ref (ad (18 + y))), (1, .int (rw_at (S.1 (20 + y)) (0 : Int32))), (2, .int (rw_at (S.1 (20 + y)) (((S.1 (20 + y)).1) - (1 : Int32)))), (4, .int v4_1)]) hx hb dX2_pop_138 rfl hl (by decide) rfl (fun ls hl => ?_)
            refine lv_iconst (v := (2 : Int32)) hx hb dX2_pop_139 (by decide) ?_
            refine lv_iload hx hb dX2_pop_140 (lv_at hl 1 rfl) ?_
            refine lv_imul hx hb dX2_pop_142 ?_
            refine lv_iconst (v := (1 : Int32)) hx hb dX2_pop_143 (by decide) ?_
            refine lv_iadd hx hb dX2_pop_144 ?_
            refine lv_istore (lv' := [(4, .int (((2 : Int32) * v4_1) + (1 : Int32))), (3, .int v4_1), (6, .int v4_1), (5, .int (v4_1 + (1 : Int32))), (0, .ref (ad (18 + y))), (1, .int (rw_at (S.1 (20 + y)) (0 : Int32))), (2, .int (rw_at (S.1 (20 + y)) (((S.1 (20 + y)).1) - (1 : Int32))))]) hx hb dX2_pop_145 hl (by decide) rfl (fun ls hl => ?_)
            refine lv_goto (tgt := 43) hx hb dX2_pop_147 (by decide) ?_
            exact ih v4_1 (((2 : Int32) * v4_1) + (1 : Int32)) (qm_row S_1 (20 + y) (rw_put (S_1.1 (20 + y)) v3_1 (rw_at (S_1.1 (20 + y)) v4_1))) z h _ _ _ hP hD hS (lv_sub hl [4, 5, 6, 1, 0] rfl) kex
          · rw [if_neg c_5] at h
            refine lv_goto (tgt := 150) hx hb dX2_pop_116 (by decide) ?_
            have h := Option.some.inj h
            subst h
            exact kex _ _ _ hP hD hS (lv_sub hl [2, 3, 4, 5] rfl)
        · rw [if_neg c_4] at h
          refine lv_aload_n hx hb dX2_pop_73 rfl (lv_at hl 1 rfl) ?_
          refine va_get (D := D) (ci := 2) (v := .ref (ad (26 + (20 + y)))) (C := RX2) (T := TX2) (N := 1) hx hb hts (by decide +kernel) hown hK hP (18 + y) (qg_P hix) rfl 0 (by decide) (hts (.fieldLink RX2 10 "QueueMiddles$Heap" "row" "LQueueMiddles$Row;") (by decide +kernel)) (fun _ h9 => h9) rfl dX2_pop_74 ?_
          refine lv_iload hx hb dX2_pop_77 (lv_at hl 0 rfl) ?_
          refine va_calli (va_runV (As := [.int (v4_1 + (1 : Int32))]) (rest := []) ⟨hx, hb, hml, hown, hts⟩ (nX4_at l D A ad cI cQ rest S_1 (20 + y) (qb_20 hix) (v4_1 + (1 : Int32))) (cwV 1 hts gX2_pop_X4_at rfl rfl rfl (by decide +kernel) ⟨Nat.le_of_ble_eq_true rfl, Nat.le_of_ble_eq_true rfl⟩) ⟨qm_blind, va_recv hK hP (ci := 4) (q0 := (26 + (20 + y))) rfl (qg_R (qb_20 hix)), fun U hU hW => ⟨rfl, qm_go hA hS hP hK hD hU hW⟩⟩ rfl rfl hl.1 rfl (lv_room (Nat.le_of_ble_eq_true rfl)) dX2_pop_79 ⟨Nat.le_of_ble_eq_true rfl, Nat.le_of_ble_eq_true rfl⟩) hS (fun _ _ h9 => h9) (fun _ h9 => h9) (fun v u t H1 locs1 ht hvm hw hB hz1 hk1 hS => ?_)
          obtain ⟨hw1, hw2⟩ := hw
          have hw1 : rw_at (S_1.1 (20 + y)) (v4_1 + (1 : Int32)) = v := hw1.symm
          have hw2 : S_1 = u := hw2.symm
          subst hw1
          subst hw2
          obtain ⟨hP, hD⟩ := qm_bk ht hB
          refine lv_aload_n hx hb dX2_pop_82 rfl (lv_at hl 1 rfl) ?_
          refine va_get (D := D) (ci := 2) (v := .ref (ad (26 + (20 + y)))) (C := RX2) (T := TX2) (N := 1) hx hb hts (by decide +kernel) hown hK hP (18 + y) (qg_P hix) rfl 0 (by decide) (hts (.fieldLink RX2 10 "QueueMiddles$Heap" "row" "LQueueMiddles$Row;") (by decide +kernel)) (fun _ h9 => h9) rfl dX2_pop_83 ?_
          refine lv_iload hx hb dX2_pop_86 (lv_at hl 5 rfl) ?_
          refine va_calli (va_runV (As := [.int v4_1]) (rest := [.int (rw_at (S_1.1 (20 + y)) (v4_1 + (1 : Int32)))]) ⟨hx, hb, hml, hown, hts⟩ (nX4_at l D A ad cI cQ rest S_1 (20 + y) (qb_20 hix) v4_1) (cwV 1 hts gX2_pop_X4_at rfl rfl rfl (by decide +kernel) ⟨Nat.le_of_ble_eq_true rfl, Nat.le_of_ble_eq_true rfl⟩) ⟨qm_blind, va_recv hK hP (ci := 4) (q0 := (26 + (20 + y))) rfl (qg_R (qb_20 hix)), fun U hU hW => ⟨rfl, qm_go hA hS hP hK hD hU hW⟩⟩ rfl rfl hl.1 rfl (lv_room (Nat.le_of_ble_eq_true rfl)) dX2_pop_88 ⟨Nat.le_of_ble_eq_true rfl, Nat.le_of_ble_eq_true rfl⟩) hS (fun _ _ h9 => h9) (fun _ h9 => h9) (fun v u t H1 locs1 ht hvm hw hB hz1 hk1 hS => ?_)
          obtain ⟨hw1, hw2⟩ := hw
          have hw1 : rw_at (S_1.1 (20 + y)) v4_1 = v := hw1.symm
          have hw2 : S_1 = u := hw2.symm
          subst hw1
          subst hw2
          obtain ⟨hP, hD⟩ := qm_bk ht hB
          refine lv_icmp_ge (tgt := 99) hx hb dX2_pop_91 (by decide) (fun c_6 => ?_) (fun c_6 => ?_)
          · rw [if_pos c_6] at h
            refine lv_iload hx hb dX2_pop_99 (lv_at hl 5 rfl) ?_
            refine lv_istore (lv' := [(6, .int v4_1), (5, .int (v4_1 + (1 : Int32))), (0, .ref (ad (18 + y))), (1, .int (rw_at (S.1 (20 + y)) (0 : Int32))), (2, .int (rw_at (S.1 (20 + y)) (((S.1 (20 + y)).1) - (1 : Int32)))), (3, .int v3_1), (4, .int v4_1)]) hx hb dX2_pop_101 hl (by decide) rfl (fun ls hl => ?_)
            refine lv_aload_n hx hb dX2_pop_103 rfl (lv_at hl 2 rfl) ?_
            refine va_get (D := D) (ci := 2) (v := .ref (ad (26 + (20 + y)))) (C := RX2) (T := TX2) (N := 1) hx hb hts (by decide +kernel) hown hK hP (18 + y) (qg_P hix) rfl 0 (by decide) (hts (.fieldLink RX2 10 "QueueMiddles$Heap" "row" "LQueueMiddles$Row;") (by decide +kernel)) (fun _ h9 => h9) rfl dX2_pop_104 ?_
            refine lv_iload hx hb dX2_pop_107 (lv_at hl 0 rfl) ?_
            refine va_calli (va_runV (As := [.int v4_1]) (rest := []) ⟨hx, hb, hml, hown, hts⟩ (nX4_at l D A ad cI cQ rest S_1 (20 + y) (qb_20 hix) v4_1) (cwV 1 hts gX2_pop_X4_at rfl rfl rfl (by decide +kernel) ⟨Nat.le_of_ble_eq_true rfl, Nat.le_of_ble_eq_true rfl⟩) ⟨qm_blind, va_recv hK hP (ci := 4) (q0 := (26 + (20 + y))) rfl (qg_R (qb_20 hix)), fun U hU hW => ⟨rfl, qm_go hA hS hP hK hD hU hW⟩⟩ rfl rfl hl.1 rfl (lv_room (Nat.le_of_ble_eq_true rfl)) dX2_pop_109 ⟨Nat.le_of_ble_eq_true rfl, Nat.le_of_ble_eq_true rfl⟩) hS (fun _ _ h9 => h9) (fun _ h9 => h9) (fun v u t H1 locs1 ht hvm hw hB hz1 hk1 hS => ?_)
            obtain ⟨hw1, hw2⟩ := hw
            have hw1 : rw_at (S_1.1 (20 + y)) v4_1 = v := hw1.symm
            have hw2 : S_1 = u := hw2.symm
            subst hw1
            subst hw2
            obtain ⟨hP, hD⟩ := qm_bk ht hB
            refine lv_iload_n hx hb dX2_pop_112 rfl (lv_at hl 4 rfl) ?_
            refine lv_icmp_lt (tgt := 119) hx hb dX2_pop_113 (by decide) (fun c_7 => ?_) (fun c_7 => ?_)
            · rw [if_pos c_7] at h
              refine lv_aload_n hx hb dX2_pop_119 rfl (lv_at hl 2 rfl) ?_
              refine va_get (D := D) (ci := 2) (v := .ref (ad (26 + (20 + y)))) (C := RX2) (T := TX2) (N := 1) hx hb hts (by decide +kernel) hown hK hP (18 + y) (qg_P hix) rfl 0 (by decide) (hts (.fieldLink RX2 10 "QueueMiddles$Heap" "row" "LQueueMiddles$Row;") (by decide +kernel)) (fun _ h9 => h9) rfl dX2_pop_120 ?_
              refine lv_iload_n hx hb dX2_pop_123 rfl (lv_at hl 5 rfl) ?_
              refine lv_aload_n hx hb dX2_pop_124 rfl (lv_at hl 2 rfl) ?_
              refine va_get (D := D) (ci := 2) (v := .ref (ad (26 + (20 + y)))) (C := RX2) (T := TX2) (N := 1) hx hb hts (by decide +kernel) hown hK hP (18 + y) (qg_P hix) rfl 0 (by decide) (hts (.fieldLink RX2 10 "QueueMiddles$Heap" "row" "LQueueMiddles$Row;") (by decide +kernel)) (fun _ h9 => h9) rfl dX2_pop_125 ?_
              refine lv_iload hx hb dX2_pop_128 (lv_at hl 0 rfl) ?_
              refine va_calli (va_runV (As := [.int v4_1]) (rest := [.int v3_1, .ref (ad (26 + (20 + y)))]) ⟨hx, hb, hml, hown, hts⟩ (nX4_at l D A ad cI cQ rest S_1 (20 + y) (qb_20 hix) v4_1) (cwV 1 hts gX2_pop_X4_at rfl rfl rfl (by decide +kernel) ⟨Nat.le_of_ble_eq_true rfl, Nat.le_of_ble_eq_true rfl⟩) ⟨qm_blind, va_recv hK hP (ci := 4) (q0 := (26 + (20 + y))) rfl (qg_R (qb_20 hix)), fun U hU hW => ⟨rfl, qm_go hA hS hP hK hD hU hW⟩⟩ rfl rfl hl.1 rfl (lv_room (Nat.le_of_ble_eq_true rfl)) dX2_pop_130 ⟨Nat.le_of_ble_eq_true rfl, Nat.le_of_ble_eq_true rfl⟩) hS (fun _ _ h9 => h9) (fun _ h9 => h9) (fun v u t H1 locs1 ht hvm hw hB hz1 hk1 hS => ?_)
              obtain ⟨hw1, hw2⟩ := hw
              have hw1 : rw_at (S_1.1 (20 + y)) v4_1 = v := hw1.symm
              have hw2 : S_1 = u := hw2.symm
              subst hw1
              subst hw2
              obtain ⟨hP, hD⟩ := qm_bk ht hB
              refine va_callv (va_runV (As := [.int v3_1, .int (rw_at (S_1.1 (20 + y)) v4_1)]) (rest := []) ⟨hx, hb, hml, hown, hts⟩ (nX4_put l D A ad cI cQ rest S_1 (20 + y) (qb_20 hix) v3_1 (rw_at (S_1.1 (20 + y)) v4_1)) (cwV 2 hts gX2_pop_X4_put rfl rfl rfl (by decide +kernel) ⟨Nat.le_of_ble_eq_true rfl, Nat.le_of_ble_eq_true rfl⟩) ⟨qm_blind, va_recv hK hP (ci := 4) (q0 := (26 + (20 + y))) rfl (qg_R (qb_20 hix)), fun U hU hW => ⟨rfl, qm_go hA hS hP hK hD hU hW⟩⟩ rfl rfl hl.1 rfl (lv_room (Nat.le_of_ble_eq_true rfl)) dX2_pop_133 ⟨Nat.le_of_ble_eq_true rfl, Nat.le_of_ble_eq_true rfl⟩) hS (fun _ _ h9 => h9) (fun _ h9 => h9) (fun u t H1 locs1 ht hvm hw hB hz1 hk1 hS => ?_)
              have hw : qm_row S_1 (20 + y) (rw_put (S_1.1 (20 + y)) v3_1 (rw_at (S_1.1 (20 + y)) v4_1)) = u := hw.symm
              subst hw
              obtain ⟨hP, hD⟩ := qm_bk ht hB
              refine lv_iload hx hb dX2_pop_136 (lv_at hl 0 rfl) ?_
              refine lv_istore_n (lv' := [(3, .int v4_1), (6, .int v4_1), (5, .int (v4_1 + (1 : Int32))), (0, .ref (ad (18 + y))), (1, .int (rw_at (S.1 (20 + y)) (0 : Int32))), (2, .int (rw_at (S.1 (20 + y)) (((S.1 (20 + y)).1) - (1 : Int32)))), (4, .int v4_1)]) hx hb dX2_pop_138 rfl hl (by decide) rfl (fun ls hl => ?_)
              refine lv_iconst (v := (2 : Int32)) hx hb dX2_pop_139 (by decide) ?_
              refine lv_iload hx hb dX2_pop_140 (lv_at hl 1 rfl) ?_
              refine lv_imul hx hb dX2_pop_142 ?_
              refine lv_iconst (v := (1 : Int32)) hx hb dX2_pop_143 (by decide) ?_
              refine lv_iadd hx hb dX2_pop_144 ?_
              refine lv_istore (lv' := [(4, .int (((2 : Int32) * v4_1) + (1 : Int32))), (3, .int v4_1), (6, .int v4_1), (5, .int (v4_1 + (1 : Int32))), (0, .ref (ad (18 + y))), (1, .int (rw_at (S.1 (20 + y)) (0 : Int32))), (2, .int (rw_at (S.1 (20 + y)) (((S.1 (20 + y)).1) - (1 : Int32))))]) hx hb dX2_pop_145 hl (by decide) rfl (fun ls hl => ?_)
              refine lv_goto (tgt := 43) hx hb dX2_pop_147 (by decide) ?_
              exact ih v4_1 (((2 : Int32) * v4_1) + (1 : Int32)) (qm_row S_1 (20 + y) (rw_put (S_1.1 (20 + y)) v3_1 (rw_at (S_1.1 (20 + y)) v4_1))) z h _ _ _ hP hD hS (lv_sub hl [4, 5, 6, 1, 0] rfl) kex
            · rw [if_neg c_7] at h
              refine lv_goto (tgt := 150) hx hb dX2_pop_116 (by decide) ?_
              have h := Option.some.inj h
              subst h
              exact kex _ _ _ hP hD hS (lv_sub hl [2, 3, 4, 5] rfl)
          · rw [if_neg c_6] at h
            refine lv_iload hx hb dX2_pop_94 (lv_at hl 0 rfl) ?_
            refine lv_goto (tgt := 101) hx hb dX2_pop_96 (by decide) ?_
            refine lv_istore (lv' := [(6, .int (v4_1 + (1 : Int32))), (5, .int (v4_1 + (1 : Int32))), (0, .ref (ad (18 + y))), (1, .int (rw_at (S.1 (20 + y)) (0 : Int32))), (2, .int (rw_at (S.1 (20 + y)) (((S.1 (20 + y)).1) - (1 : Int32)))), (3, .int v3_1), (4, .int v4_1)]) hx hb dX2_pop_101 hl (by decide) rfl (fun ls hl => ?_)
            refine lv_aload_n hx hb dX2_pop_103 rfl (lv_at hl 2 rfl) ?_
            refine va_get (D := D) (ci := 2) (v := .ref (ad (26 + (20 + y)))) (C := RX2) (T := TX2) (N := 1) hx hb hts (by decide +kernel) hown hK hP (18 + y) (qg_P hix) rfl 0 (by decide) (hts (.fieldLink RX2 10 "QueueMiddles$Heap" "row" "LQueueMiddles$Row;") (by decide +kernel)) (fun _ h9 => h9) rfl dX2_pop_104 ?_
            refine lv_iload hx hb dX2_pop_107 (lv_at hl 0 rfl) ?_
            refine va_calli (va_runV (As := [.int (v4_1 + (1 : Int32))]) (rest := []) ⟨hx, hb, hml, hown, hts⟩ (nX4_at l D A ad cI cQ rest S_1 (20 + y) (qb_20 hix) (v4_1 + (1 : Int32))) (cwV 1 hts gX2_pop_X4_at rfl rfl rfl (by decide +kernel) ⟨Nat.le_of_ble_eq_true rfl, Nat.le_of_ble_eq_true rfl⟩) ⟨qm_blind, va_recv hK hP (ci := 4) (q0 := (26 + (20 + y))) rfl (qg_R (qb_20 hix)), fun U hU hW => ⟨rfl, qm_go hA hS hP hK hD hU hW⟩⟩ rfl rfl hl.1 rfl (lv_room (Nat.le_of_ble_eq_true rfl)) dX2_pop_109 ⟨Nat.le_of_ble_eq_true rfl, Nat.le_of_ble_eq_true rfl⟩) hS (fun _ _ h9 => h9) (fun _ h9 => h9) (fun v u t H1 locs1 ht hvm hw hB hz1 hk1 hS => ?_)
            obtain ⟨hw1, hw2⟩ := hw
            have hw1 : rw_at (S_1.1 (20 + y)) (v4_1 + (1 : Int32)) = v := hw1.symm
            have hw2 : S_1 = u := hw2.symm
            subst hw1
            subst hw2
            obtain ⟨hP, hD⟩ := qm_bk ht hB
            refine lv_iload_n hx hb dX2_pop_112 rfl (lv_at hl 4 rfl) ?_
            refine lv_icmp_lt (tgt := 119) hx hb dX2_pop_113 (by decide) (fun c_8 => ?_) (fun c_8 => ?_)
            · rw [if_pos c_8] at h
              refine lv_aload_n hx hb dX2_pop_119 rfl (lv_at hl 2 rfl) ?_
              refine va_get (D := D) (ci := 2) (v := .ref (ad (26 + (20 + y)))) (C := RX2) (T := TX2) (N := 1) hx hb hts (by decide +kernel) hown hK hP (18 + y) (qg_P hix) rfl 0 (by decide) (hts (.fieldLink RX2 10 "QueueMiddles$Heap" "row" "LQueueMiddles$Row;") (by decide +kernel)) (fun _ h9 => h9) rfl dX2_pop_120 ?_
              refine lv_iload_n hx hb dX2_pop_123 rfl (lv_at hl 5 rfl) ?_
              refine lv_aload_n hx hb dX2_pop_124 rfl (lv_at hl 2 rfl) ?_
              refine va_get (D := D) (ci := 2) (v := .ref (ad (26 + (20 + y)))) (C := RX2) (T := TX2) (N := 1) hx hb hts (by decide +kernel) hown hK hP (18 + y) (qg_P hix) rfl 0 (by decide) (hts (.fieldLink RX2 10 "QueueMiddles$Heap" "row" "LQueueMiddles$Row;") (by decide +kernel)) (fun _ h9 => h9) rfl dX2_pop_125 ?_
              refine lv_iload hx hb dX2_pop_128 (lv_at hl 0 rfl) ?_
              refine va_calli (va_runV (As := [.int (v4_1 + (1 : Int32))]) (rest := [.int v3_1, .ref (ad (26 + (20 + y)))]) ⟨hx, hb, hml, hown, hts⟩ (nX4_at l D A ad cI cQ rest S_1 (20 + y) (qb_20 hix) (v4_1 + (1 : Int32))) (cwV 1 hts gX2_pop_X4_at rfl rfl rfl (by decide +kernel) ⟨Nat.le_of_ble_eq_true rfl, Nat.le_of_ble_eq_true rfl⟩) ⟨qm_blind, va_recv hK hP (ci := 4) (q0 := (26 + (20 + y))) rfl (qg_R (qb_20 hix)), fun U hU hW => ⟨rfl, qm_go hA hS hP hK hD hU hW⟩⟩ rfl rfl hl.1 rfl (lv_room (Nat.le_of_ble_eq_true rfl)) dX2_pop_130 ⟨Nat.le_of_ble_eq_true rfl, Nat.le_of_ble_eq_true rfl⟩) hS (fun _ _ h9 => h9) (fun _ h9 => h9) (fun v u t H1 locs1 ht hvm hw hB hz1 hk1 hS => ?_)
              obtain ⟨hw1, hw2⟩ := hw
              have hw1 : rw_at (S_1.1 (20 + y)) (v4_1 + (1 : Int32)) = v := hw1.symm
              have hw2 : S_1 = u := hw2.symm
              subst hw1
              subst hw2
              obtain ⟨hP, hD⟩ := qm_bk ht hB
              refine va_callv (va_runV (As := [.int v3_1, .int (rw_at (S_1.1 (20 + y)) (v4_1 + (1 : Int32)))]) (rest := []) ⟨hx, hb, hml, hown, hts⟩ (nX4_put l D A ad cI cQ rest S_1 (20 + y) (qb_20 hix) v3_1 (rw_at (S_1.1 (20 + y)) (v4_1 + (1 : Int32)))) (cwV 2 hts gX2_pop_X4_put rfl rfl rfl (by decide +kernel) ⟨Nat.le_of_ble_eq_true rfl, Nat.le_of_ble_eq_true rfl⟩) ⟨qm_blind, va_recv hK hP (ci := 4) (q0 := (26 + (20 + y))) rfl (qg_R (qb_20 hix)), fun U hU hW => ⟨rfl, qm_go hA hS hP hK hD hU hW⟩⟩ rfl rfl hl.1 rfl (lv_room (Nat.le_of_ble_eq_true rfl)) dX2_pop_133 ⟨Nat.le_of_ble_eq_true rfl, Nat.le_of_ble_eq_true rfl⟩) hS (fun _ _ h9 => h9) (fun _ h9 => h9) (fun u t H1 locs1 ht hvm hw hB hz1 hk1 hS => ?_)
              have hw : qm_row S_1 (20 + y) (rw_put (S_1.1 (20 + y)) v3_1 (rw_at (S_1.1 (20 + y)) (v4_1 + (1 : Int32)))) = u := hw.symm
              subst hw
              obtain ⟨hP, hD⟩ := qm_bk ht hB
              refine lv_iload hx hb dX2_pop_136 (lv_at hl 0 rfl) ?_
              refine lv_istore_n (lv' := [(3, .int (v4_1 + (1 : Int32))), (6, .int (v4_1 + (1 : Int32))), (5, .int (v4_1 + (1 : Int32))), (0, .ref (ad (18 + y))), (1, .int (rw_at (S.1 (20 + y)) (0 : Int32))), (2, .int (rw_at (S.1 (20 + y)) (((S.1 (20 + y)).1) - (1 : Int32)))), (4, .int v4_1)]) hx hb dX2_pop_138 rfl hl (by decide) rfl (fun ls hl => ?_)
              refine lv_iconst (v := (2 : Int32)) hx hb dX2_pop_139 (by decide) ?_
              refine lv_iload hx hb dX2_pop_140 (lv_at hl 1 rfl) ?_
              refine lv_imul hx hb dX2_pop_142 ?_
              refine lv_iconst (v := (1 : Int32)) hx hb dX2_pop_143 (by decide) ?_
              refine lv_iadd hx hb dX2_pop_144 ?_
              refine lv_istore (lv' := [(4, .int (((2 : Int32) * (v4_1 + (1 : Int32))) + (1 : Int32))), (3, .int (v4_1 + (1 : Int32))), (6, .int (v4_1 + (1 : Int32))), (5, .int (v4_1 + (1 : Int32))), (0, .ref (ad (18 + y))), (1, .int (rw_at (S.1 (20 + y)) (0 : Int32))), (2, .int (rw_at (S.1 (20 + y)) (((S.1 (20 + y)).1) - (1 : Int32))))]) hx hb dX2_pop_145 hl (by decide) rfl (fun ls hl => ?_)
              refine lv_goto (tgt := 43) hx hb dX2_pop_147 (by decide) ?_
              exact ih (v4_1 + (1 : Int32)) (((2 : Int32) * (v4_1 + (1 : Int32))) + (1 : Int32)) (qm_row S_1 (20 + y) (rw_put (S_1.1 (20 + y)) v3_1 (rw_at (S_1.1 (20 + y)) (v4_1 + (1 : Int32))))) z h _ _ _ hP hD hS (lv_sub hl [4, 5, 6, 1, 0] rfl) kex
            · rw [if_neg c_8] at h
              refine lv_goto (tgt := 150) hx hb dX2_pop_116 (by decide) ?_
              have h := Option.some.inj h
              subst h
              exact kex _ _ _ hP hD hS (lv_sub hl [2, 3, 4, 5] rfl)
  obtain ⟨z_9, hz_10, h⟩ := qm_bind h
  refine loop_2 qm_F (0 : Int32) (1 : Int32) (qm_row S (20 + y) (rw_cut (S.1 (20 + y)) (((S.1 (20 + y)).1) - (1 : Int32)))) z_9 hz_10 _ _ _ hP hD hS (lv_sub hl [4, 3, 2, 1, 0] rfl) (fun H locs ls hP hD hS hl => ?_)
  refine lv_aload_n hx hb dX2_pop_150 rfl (lv_at hl 0 rfl) ?_
  refine va_get (D := D) (ci := 2) (v := .ref (ad (26 + (20 + y)))) (C := RX2) (T := TX2) (N := 1) hx hb hts (by decide +kernel) hown hK hP (18 + y) (qg_P hix) rfl 0 (by decide) (hts (.fieldLink RX2 10 "QueueMiddles$Heap" "row" "LQueueMiddles$Row;") (by decide +kernel)) (fun _ h9 => h9) rfl dX2_pop_151 ?_
  refine lv_iload_n hx hb dX2_pop_154 rfl (lv_at hl 3 rfl) ?_
  refine lv_iload_n hx hb dX2_pop_155 rfl (lv_at hl 2 rfl) ?_
  refine va_callv (va_runV (As := [.int z_9.1, .int (rw_at (S.1 (20 + y)) (((S.1 (20 + y)).1) - (1 : Int32)))]) (rest := []) ⟨hx, hb, hml, hown, hts⟩ (nX4_put l D A ad cI cQ rest z_9.2 (20 + y) (qb_20 hix) z_9.1 (rw_at (S.1 (20 + y)) (((S.1 (20 + y)).1) - (1 : Int32)))) (cwV 2 hts gX2_pop_X4_put rfl rfl rfl (by decide +kernel) ⟨Nat.le_of_ble_eq_true rfl, Nat.le_of_ble_eq_true rfl⟩) ⟨qm_blind, va_recv hK hP (ci := 4) (q0 := (26 + (20 + y))) rfl (qg_R (qb_20 hix)), fun U hU hW => ⟨rfl, qm_go hA hS hP hK hD hU hW⟩⟩ rfl rfl hl.1 rfl (lv_room (Nat.le_of_ble_eq_true rfl)) dX2_pop_156 ⟨Nat.le_of_ble_eq_true rfl, Nat.le_of_ble_eq_true rfl⟩) hS (fun _ _ h9 => h9) (fun _ h9 => h9) (fun u t H1 locs1 ht hvm hw hB hz1 hk1 hS => ?_)
  have hw : qm_row z_9.2 (20 + y) (rw_put (z_9.2.1 (20 + y)) z_9.1 (rw_at (S.1 (20 + y)) (((S.1 (20 + y)).1) - (1 : Int32)))) = u := hw.symm
  subst hw
  obtain ⟨hP, hD⟩ := qm_bk ht hB
  refine lv_iload_n hx hb dX2_pop_159 rfl (lv_at hl 1 rfl) ?_
  have h := Option.some.inj h
  subst h
  rw [hQX]
  exact W.iret (v := (rw_at (S.1 (20 + y)) (0 : Int32))) hx hb hr (fun t ht hW => ⟨⟨(rw_at (S.1 (20 + y)) (0 : Int32)), qm_row z_9.2 (20 + y) (rw_put (z_9.2.1 (20 + y)) z_9.1 (rw_at (S.1 (20 + y)) (((S.1 (20 + y)).1) - (1 : Int32)))), rfl, ⟨rfl, rfl⟩, qm_en ht hP hD⟩, hS.F ht⟩) hS.2.2 dX2_pop_160
