noncomputable def fX1_clear (S : qm_S) (k : Nat) : Option (qm_S) :=
  some (qm_row (qm_row S (20 + (2 * k)) (rw_cut (S.1 (20 + (2 * k))) (0 : Int32))) (20 + (2 * k + 1)) (rw_cut ((qm_row S (20 + (2 * k)) (rw_cut (S.1 (20 + (2 * k))) (0 : Int32))).1 (20 + (2 * k + 1))) (0 : Int32)))
def ha_clr (S : qm_S) (k : Nat) : qm_S := qm_row (qm_row S (20 + 2 * k) (rw_cut (S.1 (20 + 2 * k)) 0)) (20 + (2 * k + 1)) (rw_cut (S.1 (20 + (2 * k + 1))) 0)
set_option maxHeartbeats 4000000 in
set_option maxRecDepth 100000 in
theorem kX1_clear (l : Launch) (D : va_G) (A : Nat → Prop) (ad : Nat → Nat) (cI cQ : ClassId) (rest : va_W) (S : qm_S) (k : Nat) (hix : k < 4) (z : qm_S) (h : fX1_clear S k = some z) : Met l yX1_clear wsX1_clear ({ frames := 2, cells := 0, slots := 0, locals := 41 }) (va_Pc [.ref (ad (14 + k))] (qm_B D A (qm_T cI cQ) (qm_W ad cI cQ rest S))) (qm_Qv D A (qm_W ad cI cQ rest) z) 0 0 A := by
  refine Met.ofW (cc := cX1_clear) (maxL := 1) (ret := none) (by decide) rfl ?_
  intro p e s m args below meth c s₁ B hml hv
  obtain ⟨rfl, hA, hP, hK, hD⟩ := hv
  have hx := B.exec
  have hb := B.bytes
  have hr := B.returns
  have hts := atoms_spec (ws := wsX1_clear) B.pre
  have hown : s.vm.findClass RX1 = some m.cls := findClass_of_methodNamed B.named
  have hlocks := B.notSynchronized
  have hS : va_S A s.heap s.heap [] := va_S.rf
  have hl := lv_entry ([.ref (ad (14 + k))]) (n := 1) (Nat.le_of_ble_eq_true rfl)
  rw [lg_entry_eq]
  generalize (lg_sl ([.ref (ad (14 + k))]) ++ List.replicate (1 - (lg_sl ([.ref (ad (14 + k))])).length) Slot.unset).toArray = ls at hl ⊢
  have hl : lv_has ls 1 [(0, .ref (ad (14 + k)))] := hl
  rw [fX1_clear] at h
  refine lv_aload_n hx hb dX1_clear_0 rfl (lv_at hl 0 rfl) ?_
  refine va_get (D := D) (ci := 1) (v := .ref (ad (18 + (2 * k)))) (C := RX1) (T := TX1) (N := 2) hx hb hts (by decide +kernel) hown hK hP (14 + k) (qg_H hix) rfl 0 (by decide) (hts (.fieldLink RX1 10 "QueueMiddles$Halves" "lesser" "LQueueMiddles$Heap;") (by decide +kernel)) (fun _ h9 => h9) rfl dX1_clear_1 ?_
  refine va_callv (va_runV (As := []) (rest := []) ⟨hx, hb, hml, hown, hts⟩ (nX2_clear l D A ad cI cQ rest S (2 * k) (qb_l hix)) (cwV 0 hts gX1_clear_X2_clear rfl rfl rfl (by decide +kernel) ⟨Nat.le_of_ble_eq_true rfl, Nat.le_of_ble_eq_true rfl⟩) ⟨qm_blind, va_recv hK hP (ci := 2) (q0 := (18 + (2 * k))) rfl (qg_P (qb_l hix)), fun U hU hW => ⟨rfl, qm_go hA hS hP hK hD hU hW⟩⟩ rfl rfl hl.1 rfl (lv_room (Nat.le_of_ble_eq_true rfl)) dX1_clear_4 ⟨Nat.le_of_ble_eq_true rfl, Nat.le_of_ble_eq_true rfl⟩) hS (fun _ _ h9 => h9) (fun _ h9 => h9) (fun u t H1 locs1 ht hvm hw hB hz1 hk1 hS => ?_)
  have hw : (qm_row S (20 + (2 * k)) (rw_cut (S.1 (20 + (2 * k))) (0 : Int32))) = u := hw.symm
  subst hw
  obtain ⟨hP, hD⟩ := qm_bk ht hB
  refine lv_aload_n hx hb dX1_clear_7 rfl (lv_at hl 0 rfl) ?_
  refine va_get (D := D) (ci := 1) (v := .ref (ad (18 + (2 * k + 1)))) (C := RX1) (T := TX1) (N := 2) hx hb hts (by decide +kernel) hown hK hP (14 + k) (qg_H hix) rfl 1 (by decide) (hts (.fieldLink RX1 16 "QueueMiddles$Halves" "greater" "LQueueMiddles$Heap;") (by decide +kernel)) (fun _ h9 => h9) rfl dX1_clear_8 ?_
  refine va_callv (va_runV (As := []) (rest := []) ⟨hx, hb, hml, hown, hts⟩ (nX2_clear l D A ad cI cQ rest (qm_row S (20 + (2 * k)) (rw_cut (S.1 (20 + (2 * k))) (0 : Int32))) (2 * k + 1) (qb_g hix)) (cwV 0 hts gX1_clear_X2_clear rfl rfl rfl (by decide +kernel) ⟨Nat.le_of_ble_eq_true rfl, Nat.le_of_ble_eq_true rfl⟩) ⟨qm_blind, va_recv hK hP (ci := 2) (q0 := (18 + (2 * k + 1))) rfl (qg_P (qb_g hix)), fun U hU hW => ⟨rfl, qm_go hA hS hP hK hD hU hW⟩⟩ rfl rfl hl.1 rfl (lv_room (Nat.le_of_ble_eq_true rfl)) dX1_clear_11 ⟨Nat.le_of_ble_eq_true rfl, Nat.le_of_ble_eq_true rfl⟩) hS (fun _ _ h9 => h9) (fun _ h9 => h9) (fun u t H1 locs1 ht hvm hw hB hz1 hk1 hS => ?_)
  have hw : (qm_row (qm_row S (20 + (2 * k)) (rw_cut (S.1 (20 + (2 * k))) (0 : Int32))) (20 + (2 * k + 1)) (rw_cut ((qm_row S (20 + (2 * k)) (rw_cut (S.1 (20 + (2 * k))) (0 : Int32))).1 (20 + (2 * k + 1))) (0 : Int32))) = u := hw.symm
  subst hw
  obtain ⟨hP, hD⟩ := qm_bk ht hB
  have h := Option.some.inj h
  subst h
  exact W.vret hx hb hr (fun t ht hW => ⟨⟨(qm_row (qm_row S (20 + (2 * k)) (rw_cut (S.1 (20 + (2 * k))) (0 : Int32))) (20 + (2 * k + 1)) (rw_cut ((qm_row S (20 + (2 * k)) (rw_cut (S.1 (20 + (2 * k))) (0 : Int32))).1 (20 + (2 * k + 1))) (0 : Int32))), rfl, rfl, qm_en ht hP hD⟩, hS.F ht⟩) hS.2.2 dX1_clear_14
theorem eX1_clear (S : qm_S) (k : Nat) : fX1_clear S k = some (ha_clr S k) := by
  unfold fX1_clear ha_clr
  rw [qm_row_ne _ _ (show 20 + (2 * k + 1) ≠ 20 + 2 * k by omega)]
theorem nX1_clear (l : Launch) (D : va_G) (A : Nat → Prop) (ad : Nat → Nat) (cI cQ : ClassId) (rest : va_W) (S : qm_S) (k : Nat) (hix : k < 4) : Met l yX1_clear wsX1_clear ({ frames := 2, cells := 0, slots := 0, locals := 41 }) (va_Pc [.ref (ad (14 + k))] (qm_B D A (qm_T cI cQ) (qm_W ad cI cQ rest S))) (qm_Qv D A (qm_W ad cI cQ rest) (ha_clr S k)) 0 0 A :=
  kX1_clear l D A ad cI cQ rest S k hix _ (eX1_clear S k)
noncomputable def fX1_greatestOfLesser (S : qm_S) (k : Nat) : Option (Int32) :=
  some (-(rw_at (S.1 (20 + (2 * k))) (0 : Int32)))
set_option maxHeartbeats 4000000 in
set_option maxRecDepth 100000 in
theorem kX1_greatestOfLesser (l : Launch) (D : va_G) (A : Nat → Prop) (ad : Nat → Nat) (cI cQ : ClassId) (rest : va_W) (S : qm_S) (k : Nat) (hix : k < 4) (z : Int32) (h : fX1_greatestOfLesser S k = some z) : Met l yX1_greatestOfLesser wsX1_greatestOfLesser ({ frames := 3, cells := 0, slots := 0, locals := 62 }) (va_Pc [.ref (ad (14 + k))] (qm_B D A (qm_T cI cQ) (qm_W ad cI cQ rest S))) (qm_Qi D A (qm_W ad cI cQ rest) (z, S)) 0 0 A := by
  refine Met.ofW (cc := cX1_greatestOfLesser) (maxL := 1) (ret := (some .int)) (by decide) rfl ?_
  intro p e s m args below meth c s₁ B hml hv
  obtain ⟨rfl, hA, hP, hK, hD⟩ := hv
  have hx := B.exec
  have hb := B.bytes
  have hr := B.returns
  have hts := atoms_spec (ws := wsX1_greatestOfLesser) B.pre
  have hown : s.vm.findClass RX1 = some m.cls := findClass_of_methodNamed B.named
  have hlocks := B.notSynchronized
  have hS : va_S A s.heap s.heap [] := va_S.rf
  have hl := lv_entry ([.ref (ad (14 + k))]) (n := 1) (Nat.le_of_ble_eq_true rfl)
  rw [lg_entry_eq]
  generalize (lg_sl ([.ref (ad (14 + k))]) ++ List.replicate (1 - (lg_sl ([.ref (ad (14 + k))])).length) Slot.unset).toArray = ls at hl ⊢
  have hl : lv_has ls 1 [(0, .ref (ad (14 + k)))] := hl
  rw [fX1_greatestOfLesser] at h
  refine lv_aload_n hx hb dX1_greatestOfLesser_0 rfl (lv_at hl 0 rfl) ?_
  refine va_get (D := D) (ci := 1) (v := .ref (ad (18 + (2 * k)))) (C := RX1) (T := TX1) (N := 2) hx hb hts (by decide +kernel) hown hK hP (14 + k) (qg_H hix) rfl 0 (by decide) (hts (.fieldLink RX1 10 "QueueMiddles$Halves" "lesser" "LQueueMiddles$Heap;") (by decide +kernel)) (fun _ h9 => h9) rfl dX1_greatestOfLesser_1 ?_
  refine va_calli (va_runV (As := []) (rest := []) ⟨hx, hb, hml, hown, hts⟩ (nX2_least l D A ad cI cQ rest S (2 * k) (qb_l hix)) (cwV 0 hts gX1_greatestOfLesser_X2_least rfl rfl rfl (by decide +kernel) ⟨Nat.le_of_ble_eq_true rfl, Nat.le_of_ble_eq_true rfl⟩) ⟨qm_blind, va_recv hK hP (ci := 2) (q0 := (18 + (2 * k))) rfl (qg_P (qb_l hix)), fun U hU hW => ⟨rfl, qm_go hA hS hP hK hD hU hW⟩⟩ rfl rfl hl.1 rfl (lv_room (Nat.le_of_ble_eq_true rfl)) dX1_greatestOfLesser_4 ⟨Nat.le_of_ble_eq_true rfl, Nat.le_of_ble_eq_true rfl⟩) hS (fun _ _ h9 => h9) (fun _ h9 => h9) (fun v u t H1 locs1 ht hvm hw hB hz1 hk1 hS => ?_)
  obtain ⟨hw1, hw2⟩ := hw
  have hw1 : (rw_at (S.1 (20 + (2 * k))) (0 : Int32)) = v := hw1.symm
  have hw2 : S = u := hw2.symm
  subst hw1
  subst hw2
  obtain ⟨hP, hD⟩ := qm_bk ht hB
  refine lv_ineg hx hb dX1_greatestOfLesser_7 ?_
  have h := Option.some.inj h
  subst h
  exact W.iret (v := -(rw_at (S.1 (20 + (2 * k))) (0 : Int32))) hx hb hr (fun t ht hW => ⟨⟨-(rw_at (S.1 (20 + (2 * k))) (0 : Int32)), S, rfl, ⟨rfl, rfl⟩, qm_en ht hP hD⟩, hS.F ht⟩) hS.2.2 dX1_greatestOfLesser_8
theorem eX1_greatestOfLesser (S : qm_S) (k : Nat) : fX1_greatestOfLesser S k = some (-(rw_at (S.1 (20 + (2 * k))) (0 : Int32))) := by
  rfl
theorem nX1_greatestOfLesser (l : Launch) (D : va_G) (A : Nat → Prop) (ad : Nat → Nat) (cI cQ : ClassId) (rest : va_W) (S : qm_S) (k : Nat) (hix : k < 4) : Met l yX1_greatestOfLesser wsX1_greatestOfLesser ({ frames := 3, cells := 0, slots := 0, locals := 62 }) (va_Pc [.ref (ad (14 + k))] (qm_B D A (qm_T cI cQ) (qm_W ad cI cQ rest S))) (qm_Qi D A (qm_W ad cI cQ rest) ((-(rw_at (S.1 (20 + (2 * k))) (0 : Int32))), S)) 0 0 A :=
  kX1_greatestOfLesser l D A ad cI cQ rest S k hix _ (eX1_greatestOfLesser S k)
noncomputable def fX1_add (S : qm_S) (k : Nat) (p0 : Int32) : Option (qm_S) :=
  (if ((S.1 (20 + (2 * k))).1) ≤ 0 then Option.bind (fX2_push S (2 * k) (-p0)) (fun z_2 => (if ((z_2.1 (20 + (2 * k))).1) ≤ (((z_2.1 (20 + (2 * k + 1))).1) + (1 : Int32)) then (if ((z_2.1 (20 + (2 * k + 1))).1) ≤ ((z_2.1 (20 + (2 * k))).1) then some z_2 else Option.bind (fX2_pop z_2 (2 * k + 1)) (fun z_6 => Option.bind (fX2_push z_6.2 (2 * k) (-z_6.1)) (fun z_8 => some z_8))) else Option.bind (fX2_pop z_2 (2 * k)) (fun z_10 => Option.bind (fX2_push z_10.2 (2 * k + 1) (-z_10.1)) (fun z_12 => some z_12)))) else (if p0 ≤ (-(rw_at (S.1 (20 + (2 * k))) (0 : Int32))) then Option.bind (fX2_push S (2 * k) (-p0)) (fun z_15 => (if ((z_15.1 (20 + (2 * k))).1) ≤ (((z_15.1 (20 + (2 * k + 1))).1) + (1 : Int32)) then (if ((z_15.1 (20 + (2 * k + 1))).1) ≤ ((z_15.1 (20 + (2 * k))).1) then some z_15 else Option.bind (fX2_pop z_15 (2 * k + 1)) (fun z_19 => Option.bind (fX2_push z_19.2 (2 * k) (-z_19.1)) (fun z_21 => some z_21))) else Option.bind (fX2_pop z_15 (2 * k)) (fun z_23 => Option.bind (fX2_push z_23.2 (2 * k + 1) (-z_23.1)) (fun z_25 => some z_25)))) else Option.bind (fX2_push S (2 * k + 1) p0) (fun z_27 => (if ((z_27.1 (20 + (2 * k))).1) ≤ (((z_27.1 (20 + (2 * k + 1))).1) + (1 : Int32)) then (if ((z_27.1 (20 + (2 * k + 1))).1) ≤ ((z_27.1 (20 + (2 * k))).1) then some z_27 else Option.bind (fX2_pop z_27 (2 * k + 1)) (fun z_31 => Option.bind (fX2_push z_31.2 (2 * k) (-z_31.1)) (fun z_33 => some z_33))) else Option.bind (fX2_pop z_27 (2 * k)) (fun z_35 => Option.bind (fX2_push z_35.2 (2 * k + 1) (-z_35.1)) (fun z_37 => some z_37))))))
set_option maxHeartbeats 4000000 in
set_option maxRecDepth 100000 in
theorem kX1_add (l : Launch) (D : va_G) (A : Nat → Prop) (ad : Nat → Nat) (cI cQ : ClassId) (rest : va_W) (S : qm_S) (k : Nat) (hix : k < 4) (p0 : Int32) (z : qm_S) (h : fX1_add S k p0 = some z) : Met l yX1_add wsX1_add ({ frames := 4, cells := 0, slots := 0, locals := 105 }) (va_Pc [.ref (ad (14 + k)), .int p0] (qm_B D A (qm_T cI cQ) (qm_W ad cI cQ rest S))) (qm_Qv D A (qm_W ad cI cQ rest) z) 0 0 A := by
  refine Met.ofW (cc := cX1_add) (maxL := 2) (ret := none) (by decide) rfl ?_
  intro p e s m args below meth c s₁ B hml hv
  obtain ⟨rfl, hA, hP, hK, hD⟩ := hv
  have hx := B.exec
  have hb := B.bytes
  have hr := B.returns
  have hts := atoms_spec (ws := wsX1_add) B.pre
  have hown : s.vm.findClass RX1 = some m.cls := findClass_of_methodNamed B.named
  have hlocks := B.notSynchronized
  have hS : va_S A s.heap s.heap [] := va_S.rf
  have hl := lv_entry ([.ref (ad (14 + k)), .int p0]) (n := 2) (Nat.le_of_ble_eq_true rfl)
  rw [lg_entry_eq]
  generalize (lg_sl ([.ref (ad (14 + k)), .int p0]) ++ List.replicate (2 - (lg_sl ([.ref (ad (14 + k)), .int p0])).length) Slot.unset).toArray = ls at hl ⊢
  have hl : lv_has ls 2 [(0, .ref (ad (14 + k))), (1, .int p0)] := hl
  rw [fX1_add] at h
  refine lv_aload_n hx hb dX1_add_0 rfl (lv_at hl 0 rfl) ?_
  refine va_get (D := D) (ci := 1) (v := .ref (ad (18 + (2 * k)))) (C := RX1) (T := TX1) (N := 2) hx hb hts (by decide +kernel) hown hK hP (14 + k) (qg_H hix) rfl 0 (by decide) (hts (.fieldLink RX1 10 "QueueMiddles$Halves" "lesser" "LQueueMiddles$Heap;") (by decide +kernel)) (fun _ h9 => h9) rfl dX1_add_1 ?_
  refine va_calli (va_runV (As := []) (rest := []) ⟨hx, hb, hml, hown, hts⟩ (nX2_size l D A ad cI cQ rest S (2 * k) (qb_l hix)) (cwV 0 hts gX1_add_X2_size rfl rfl rfl (by decide +kernel) ⟨Nat.le_of_ble_eq_true rfl, Nat.le_of_ble_eq_true rfl⟩) ⟨qm_blind, va_recv hK hP (ci := 2) (q0 := (18 + (2 * k))) rfl (qg_P (qb_l hix)), fun U hU hW => ⟨rfl, qm_go hA hS hP hK hD hU hW⟩⟩ rfl rfl hl.1 rfl (lv_room (Nat.le_of_ble_eq_true rfl)) dX1_add_4 ⟨Nat.le_of_ble_eq_true rfl, Nat.le_of_ble_eq_true rfl⟩) hS (fun _ _ h9 => h9) (fun _ h9 => h9) (fun v u t H1 locs1 ht hvm hw hB hz1 hk1 hS => ?_)
  obtain ⟨hw1, hw2⟩ := hw
  have hw1 : ((S.1 (20 + (2 * k))).1) = v := hw1.symm
  have hw2 : S = u := hw2.symm
  subst hw1
  subst hw2
  obtain ⟨hP, hD⟩ := qm_bk ht hB
  refine lv_if_le (tgt := 29) hx hb dX1_add_7 (by decide) (fun c_1 => ?_) (fun c_1 => ?_)
  · rw [if_pos c_1] at h
    refine lv_aload_n hx hb dX1_add_29 rfl (lv_at hl 0 rfl) ?_
    refine va_get (D := D) (ci := 1) (v := .ref (ad (18 + (2 * k)))) (C := RX1) (T := TX1) (N := 2) hx hb hts (by decide +kernel) hown hK hP (14 + k) (qg_H hix) rfl 0 (by decide) (hts (.fieldLink RX1 10 "QueueMiddles$Halves" "lesser" "LQueueMiddles$Heap;") (by decide +kernel)) (fun _ h9 => h9) rfl dX1_add_30 ?_
    refine lv_iload_n hx hb dX1_add_33 rfl (lv_at hl 1 rfl) ?_
    refine lv_ineg hx hb dX1_add_34 ?_
    obtain ⟨z_2, hz_3, h⟩ := qm_bind h
    refine va_callv (va_runV (As := [.int (-p0)]) (rest := []) ⟨hx, hb, hml, hown, hts⟩ (kX2_push l D A ad cI cQ rest S (2 * k) (qb_l hix) (-p0) z_2 hz_3) (cwV 1 hts gX1_add_X2_push rfl rfl rfl (by decide +kernel) ⟨Nat.le_of_ble_eq_true rfl, Nat.le_of_ble_eq_true rfl⟩) ⟨qm_blind, va_recv hK hP (ci := 2) (q0 := (18 + (2 * k))) rfl (qg_P (qb_l hix)), fun U hU hW => ⟨rfl, qm_go hA hS hP hK hD hU hW⟩⟩ rfl rfl hl.1 rfl (lv_room (Nat.le_of_ble_eq_true rfl)) dX1_add_35 ⟨Nat.le_of_ble_eq_true rfl, Nat.le_of_ble_eq_true rfl⟩) hS (fun _ _ h9 => h9) (fun _ h9 => h9) (fun u t H1 locs1 ht hvm hw hB hz1 hk1 hS => ?_)
    have hw : z_2 = u := hw.symm
    subst hw
    obtain ⟨hP, hD⟩ := qm_bk ht hB
    refine lv_aload_n hx hb dX1_add_38 rfl (lv_at hl 0 rfl) ?_
    refine va_get (D := D) (ci := 1) (v := .ref (ad (18 + (2 * k)))) (C := RX1) (T := TX1) (N := 2) hx hb hts (by decide +kernel) hown hK hP (14 + k) (qg_H hix) rfl 0 (by decide) (hts (.fieldLink RX1 10 "QueueMiddles$Halves" "lesser" "LQueueMiddles$Heap;") (by decide +kernel)) (fun _ h9 => h9) rfl dX1_add_39 ?_
    refine va_calli (va_runV (As := []) (rest := []) ⟨hx, hb, hml, hown, hts⟩ (nX2_size l D A ad cI cQ rest z_2 (2 * k) (qb_l hix)) (cwV 0 hts gX1_add_X2_size rfl rfl rfl (by decide +kernel) ⟨Nat.le_of_ble_eq_true rfl, Nat.le_of_ble_eq_true rfl⟩) ⟨qm_blind, va_recv hK hP (ci := 2) (q0 := (18 + (2 * k))) rfl (qg_P (qb_l hix)), fun U hU hW => ⟨rfl, qm_go hA hS hP hK hD hU hW⟩⟩ rfl rfl hl.1 rfl (lv_room (Nat.le_of_ble_eq_true rfl)) dX1_add_42 ⟨Nat.le_of_ble_eq_true rfl, Nat.le_of_ble_eq_true rfl⟩) hS (fun _ _ h9 => h9) (fun _ h9 => h9) (fun v u t H1 locs1 ht hvm hw hB hz1 hk1 hS => ?_)
    obtain ⟨hw1, hw2⟩ := hw
    have hw1 : ((z_2.1 (20 + (2 * k))).1) = v := hw1.symm
    have hw2 : z_2 = u := hw2.symm
    subst hw1
    subst hw2
    obtain ⟨hP, hD⟩ := qm_bk ht hB
    refine lv_aload_n hx hb dX1_add_45 rfl (lv_at hl 0 rfl) ?_
    refine va_get (D := D) (ci := 1) (v := .ref (ad (18 + (2 * k + 1)))) (C := RX1) (T := TX1) (N := 2) hx hb hts (by decide +kernel) hown hK hP (14 + k) (qg_H hix) rfl 1 (by decide) (hts (.fieldLink RX1 16 "QueueMiddles$Halves" "greater" "LQueueMiddles$Heap;") (by decide +kernel)) (fun _ h9 => h9) rfl dX1_add_46 ?_
    refine va_calli (va_runV (As := []) (rest := [.int ((z_2.1 (20 + (2 * k))).1)]) ⟨hx, hb, hml, hown, hts⟩ (nX2_size l D A ad cI cQ rest z_2 (2 * k + 1) (qb_g hix)) (cwV 0 hts gX1_add_X2_size rfl rfl rfl (by decide +kernel) ⟨Nat.le_of_ble_eq_true rfl, Nat.le_of_ble_eq_true rfl⟩) ⟨qm_blind, va_recv hK hP (ci := 2) (q0 := (18 + (2 * k + 1))) rfl (qg_P (qb_g hix)), fun U hU hW => ⟨rfl, qm_go hA hS hP hK hD hU hW⟩⟩ rfl rfl hl.1 rfl (lv_room (Nat.le_of_ble_eq_true rfl)) dX1_add_49 ⟨Nat.le_of_ble_eq_true rfl, Nat.le_of_ble_eq_true rfl⟩) hS (fun _ _ h9 => h9) (fun _ h9 => h9) (fun v u t H1 locs1 ht hvm hw hB hz1 hk1 hS => ?_)
    obtain ⟨hw1, hw2⟩ := hw
    have hw1 : ((z_2.1 (20 + (2 * k + 1))).1) = v := hw1.symm
    have hw2 : z_2 = u := hw2.symm
    subst hw1
    subst hw2
    obtain ⟨hP, hD⟩ := qm_bk ht hB
    refine lv_iconst (v := (1 : Int32)) hx hb dX1_add_52 (by decide) ?_
    refine lv_iadd hx hb dX1_add_53 ?_
    refine lv_icmp_le (tgt := 75) hx hb dX1_add_54 (by decide) (fun c_4 => ?_) (fun c_4 => ?_)
    · rw [if_pos c_4] at h
      refine lv_aload_n hx hb dX1_add_75 rfl (lv_at hl 0 rfl) ?_
      refine va_get (D := D) (ci := 1) (v := .ref (ad (18 + (2 * k + 1)))) (C := RX1) (T := TX1) (N := 2) hx hb hts (by decide +kernel) hown hK hP (14 + k) (qg_H hix) rfl 1 (by decide) (hts (.fieldLink RX1 16 "QueueMiddles$Halves" "greater" "LQueueMiddles$Heap;") (by decide +kernel)) (fun _ h9 => h9) rfl dX1_add_76 ?_
      refine va_calli (va_runV (As := []) (rest := []) ⟨hx, hb, hml, hown, hts⟩ (nX2_size l D A ad cI cQ rest z_2 (2 * k + 1) (qb_g hix)) (cwV 0 hts gX1_add_X2_size rfl rfl rfl (by decide +kernel) ⟨Nat.le_of_ble_eq_true rfl, Nat.le_of_ble_eq_true rfl⟩) ⟨qm_blind, va_recv hK hP (ci := 2) (q0 := (18 + (2 * k + 1))) rfl (qg_P (qb_g hix)), fun U hU hW => ⟨rfl, qm_go hA hS hP hK hD hU hW⟩⟩ rfl rfl hl.1 rfl (lv_room (Nat.le_of_ble_eq_true rfl)) dX1_add_79 ⟨Nat.le_of_ble_eq_true rfl, Nat.le_of_ble_eq_true rfl⟩) hS (fun _ _ h9 => h9) (fun _ h9 => h9) (fun v u t H1 locs1 ht hvm hw hB hz1 hk1 hS => ?_)
      obtain ⟨hw1, hw2⟩ := hw
      have hw1 : ((z_2.1 (20 + (2 * k + 1))).1) = v := hw1.symm
      have hw2 : z_2 = u := hw2.symm
      subst hw1
      subst hw2
      obtain ⟨hP, hD⟩ := qm_bk ht hB
      refine lv_aload_n hx hb dX1_add_82 rfl (lv_at hl 0 rfl) ?_
      refine va_get (D := D) (ci := 1) (v := .ref (ad (18 + (2 * k)))) (C := RX1) (T := TX1) (N := 2) hx hb hts (by decide +kernel) hown hK hP (14 + k) (qg_H hix) rfl 0 (by decide) (hts (.fieldLink RX1 10 "QueueMiddles$Halves" "lesser" "LQueueMiddles$Heap;") (by decide +kernel)) (fun _ h9 => h9) rfl dX1_add_83 ?_
      refine va_calli (va_runV (As := []) (rest := [.int ((z_2.1 (20 + (2 * k + 1))).1)]) ⟨hx, hb, hml, hown, hts⟩ (nX2_size l D A ad cI cQ rest z_2 (2 * k) (qb_l hix)) (cwV 0 hts gX1_add_X2_size rfl rfl rfl (by decide +kernel) ⟨Nat.le_of_ble_eq_true rfl, Nat.le_of_ble_eq_true rfl⟩) ⟨qm_blind, va_recv hK hP (ci := 2) (q0 := (18 + (2 * k))) rfl (qg_P (qb_l hix)), fun U hU hW => ⟨rfl, qm_go hA hS hP hK hD hU hW⟩⟩ rfl rfl hl.1 rfl (lv_room (Nat.le_of_ble_eq_true rfl)) dX1_add_86 ⟨Nat.le_of_ble_eq_true rfl, Nat.le_of_ble_eq_true rfl⟩) hS (fun _ _ h9 => h9) (fun _ h9 => h9) (fun v u t H1 locs1 ht hvm hw hB hz1 hk1 hS => ?_)
      obtain ⟨hw1, hw2⟩ := hw
      have hw1 : ((z_2.1 (20 + (2 * k))).1) = v := hw1.symm
      have hw2 : z_2 = u := hw2.symm
      subst hw1
      subst hw2
      obtain ⟨hP, hD⟩ := qm_bk ht hB
      refine lv_icmp_le (tgt := 107) hx hb dX1_add_89 (by decide) (fun c_5 => ?_) (fun c_5 => ?_)
      · rw [if_pos c_5] at h
        have h := Option.some.inj h
        subst h
        exact W.vret hx hb hr (fun t ht hW => ⟨⟨z_2, rfl, rfl, qm_en ht hP hD⟩, hS.F ht⟩) hS.2.2 dX1_add_107
      · rw [if_neg c_5] at h
        refine lv_aload_n hx hb dX1_add_92 rfl (lv_at hl 0 rfl) ?_
        refine va_get (D := D) (ci := 1) (v := .ref (ad (18 + (2 * k)))) (C := RX1) (T := TX1) (N := 2) hx hb hts (by decide +kernel) hown hK hP (14 + k) (qg_H hix) rfl 0 (by decide) (hts (.fieldLink RX1 10 "QueueMiddles$Halves" "lesser" "LQueueMiddles$Heap;") (by decide +kernel)) (fun _ h9 => h9) rfl dX1_add_93 ?_
        refine lv_aload_n hx hb dX1_add_96 rfl (lv_at hl 0 rfl) ?_
        refine va_get (D := D) (ci := 1) (v := .ref (ad (18 + (2 * k + 1)))) (C := RX1) (T := TX1) (N := 2) hx hb hts (by decide +kernel) hown hK hP (14 + k) (qg_H hix) rfl 1 (by decide) (hts (.fieldLink RX1 16 "QueueMiddles$Halves" "greater" "LQueueMiddles$Heap;") (by decide +kernel)) (fun _ h9 => h9) rfl dX1_add_97 ?_
        obtain ⟨z_6, hz_7, h⟩ := qm_bind h
        refine va_calli (va_runV (As := []) (rest := [.ref (ad (18 + (2 * k)))]) ⟨hx, hb, hml, hown, hts⟩ (kX2_pop l D A ad cI cQ rest z_2 (2 * k + 1) (qb_g hix) z_6 hz_7) (cwV 0 hts gX1_add_X2_pop rfl rfl rfl (by decide +kernel) ⟨Nat.le_of_ble_eq_true rfl, Nat.le_of_ble_eq_true rfl⟩) ⟨qm_blind, va_recv hK hP (ci := 2) (q0 := (18 + (2 * k + 1))) rfl (qg_P (qb_g hix)), fun U hU hW => ⟨rfl, qm_go hA hS hP hK hD hU hW⟩⟩ rfl rfl hl.1 rfl (lv_room (Nat.le_of_ble_eq_true rfl)) dX1_add_100 ⟨Nat.le_of_ble_eq_true rfl, Nat.le_of_ble_eq_true rfl⟩) hS (fun _ _ h9 => h9) (fun _ h9 => h9) (fun v u t H1 locs1 ht hvm hw hB hz1 hk1 hS => ?_)
        obtain ⟨hw1, hw2⟩ := hw
        have hw1 : z_6.1 = v := hw1.symm
        have hw2 : z_6.2 = u := hw2.symm
        subst hw1
        subst hw2
        obtain ⟨hP, hD⟩ := qm_bk ht hB
        refine lv_ineg hx hb dX1_add_103 ?_
        obtain ⟨z_8, hz_9, h⟩ := qm_bind h
        refine va_callv (va_runV (As := [.int (-z_6.1)]) (rest := []) ⟨hx, hb, hml, hown, hts⟩ (kX2_push l D A ad cI cQ rest z_6.2 (2 * k) (qb_l hix) (-z_6.1) z_8 hz_9) (cwV 1 hts gX1_add_X2_push rfl rfl rfl (by decide +kernel) ⟨Nat.le_of_ble_eq_true rfl, Nat.le_of_ble_eq_true rfl⟩) ⟨qm_blind, va_recv hK hP (ci := 2) (q0 := (18 + (2 * k))) rfl (qg_P (qb_l hix)), fun U hU hW => ⟨rfl, qm_go hA hS hP hK hD hU hW⟩⟩ rfl rfl hl.1 rfl (lv_room (Nat.le_of_ble_eq_true rfl)) dX1_add_104 ⟨Nat.le_of_ble_eq_true rfl, Nat.le_of_ble_eq_true rfl⟩) hS (fun _ _ h9 => h9) (fun _ h9 => h9) (fun u t H1 locs1 ht hvm hw hB hz1 hk1 hS => ?_)
        have hw : z_8 = u := hw.symm
        subst hw
        obtain ⟨hP, hD⟩ := qm_bk ht hB
        have h := Option.some.inj h
        subst h
        exact W.vret hx hb hr (fun t ht hW => ⟨⟨z_8, rfl, rfl, qm_en ht hP hD⟩, hS.F ht⟩) hS.2.2 dX1_add_107
    · rw [if_neg c_4] at h
      refine lv_aload_n hx hb dX1_add_57 rfl (lv_at hl 0 rfl) ?_
      refine va_get (D := D) (ci := 1) (v := .ref (ad (18 + (2 * k + 1)))) (C := RX1) (T := TX1) (N := 2) hx hb hts (by decide +kernel) hown hK hP (14 + k) (qg_H hix) rfl 1 (by decide) (hts (.fieldLink RX1 16 "QueueMiddles$Halves" "greater" "LQueueMiddles$Heap;") (by decide +kernel)) (fun _ h9 => h9) rfl dX1_add_58 ?_
      refine lv_aload_n hx hb dX1_add_61 rfl (lv_at hl 0 rfl) ?_
      refine va_get (D := D) (ci := 1) (v := .ref (ad (18 + (2 * k)))) (C := RX1) (T := TX1) (N := 2) hx hb hts (by decide +kernel) hown hK hP (14 + k) (qg_H hix) rfl 0 (by decide) (hts (.fieldLink RX1 10 "QueueMiddles$Halves" "lesser" "LQueueMiddles$Heap;") (by decide +kernel)) (fun _ h9 => h9) rfl dX1_add_62 ?_
      obtain ⟨z_10, hz_11, h⟩ := qm_bind h
      refine va_calli (va_runV (As := []) (rest := [.ref (ad (18 + (2 * k + 1)))]) ⟨hx, hb, hml, hown, hts⟩ (kX2_pop l D A ad cI cQ rest z_2 (2 * k) (qb_l hix) z_10 hz_11) (cwV 0 hts gX1_add_X2_pop rfl rfl rfl (by decide +kernel) ⟨Nat.le_of_ble_eq_true rfl, Nat.le_of_ble_eq_true rfl⟩) ⟨qm_blind, va_recv hK hP (ci := 2) (q0 := (18 + (2 * k))) rfl (qg_P (qb_l hix)), fun U hU hW => ⟨rfl, qm_go hA hS hP hK hD hU hW⟩⟩ rfl rfl hl.1 rfl (lv_room (Nat.le_of_ble_eq_true rfl)) dX1_add_65 ⟨Nat.le_of_ble_eq_true rfl, Nat.le_of_ble_eq_true rfl⟩) hS (fun _ _ h9 => h9) (fun _ h9 => h9) (fun v u t H1 locs1 ht hvm hw hB hz1 hk1 hS => ?_)
      obtain ⟨hw1, hw2⟩ := hw
      have hw1 : z_10.1 = v := hw1.symm
      have hw2 : z_10.2 = u := hw2.symm
      subst hw1
      subst hw2
      obtain ⟨hP, hD⟩ := qm_bk ht hB
      refine lv_ineg hx hb dX1_add_68 ?_
      obtain ⟨z_12, hz_13, h⟩ := qm_bind h
      refine va_callv (va_runV (As := [.int (-z_10.1)]) (rest := []) ⟨hx, hb, hml, hown, hts⟩ (kX2_push l D A ad cI cQ rest z_10.2 (2 * k + 1) (qb_g hix) (-z_10.1) z_12 hz_13) (cwV 1 hts gX1_add_X2_push rfl rfl rfl (by decide +kernel) ⟨Nat.le_of_ble_eq_true rfl, Nat.le_of_ble_eq_true rfl⟩) ⟨qm_blind, va_recv hK hP (ci := 2) (q0 := (18 + (2 * k + 1))) rfl (qg_P (qb_g hix)), fun U hU hW => ⟨rfl, qm_go hA hS hP hK hD hU hW⟩⟩ rfl rfl hl.1 rfl (lv_room (Nat.le_of_ble_eq_true rfl)) dX1_add_69 ⟨Nat.le_of_ble_eq_true rfl, Nat.le_of_ble_eq_true rfl⟩) hS (fun _ _ h9 => h9) (fun _ h9 => h9) (fun u t H1 locs1 ht hvm hw hB hz1 hk1 hS => ?_)
      have hw : z_12 = u := hw.symm
      subst hw
      obtain ⟨hP, hD⟩ := qm_bk ht hB
      refine lv_goto (tgt := 107) hx hb dX1_add_72 (by decide) ?_
      have h := Option.some.inj h
      subst h
      exact W.vret hx hb hr (fun t ht hW => ⟨⟨z_12, rfl, rfl, qm_en ht hP hD⟩, hS.F ht⟩) hS.2.2 dX1_add_107
  · rw [if_neg c_1] at h
    refine lv_iload_n hx hb dX1_add_10 rfl (lv_at hl 1 rfl) ?_
    refine lv_aload_n hx hb dX1_add_11 rfl (lv_at hl 0 rfl) ?_
    refine va_calli (va_runV (As := []) (rest := [.int p0]) ⟨hx, hb, hml, hown, hts⟩ (nX1_greatestOfLesser l D A ad cI cQ rest S k hix) (cwV 0 hts gX1_add_X1_greatestOfLesser rfl rfl rfl (by decide +kernel) ⟨Nat.le_of_ble_eq_true rfl, Nat.le_of_ble_eq_true rfl⟩) ⟨qm_blind, va_recv hK hP (ci := 1) (q0 := (14 + k)) rfl (qg_H hix), fun U hU hW => ⟨rfl, qm_go hA hS hP hK hD hU hW⟩⟩ rfl rfl hl.1 rfl (lv_room (Nat.le_of_ble_eq_true rfl)) dX1_add_12 ⟨Nat.le_of_ble_eq_true rfl, Nat.le_of_ble_eq_true rfl⟩) hS (fun _ _ h9 => h9) (fun _ h9 => h9) (fun v u t H1 locs1 ht hvm hw hB hz1 hk1 hS => ?_)
    obtain ⟨hw1, hw2⟩ := hw
    have hw1 : (-(rw_at (S.1 (20 + (2 * k))) (0 : Int32))) = v := hw1.symm
    have hw2 : S = u := hw2.symm
    subst hw1
    subst hw2
    obtain ⟨hP, hD⟩ := qm_bk ht hB
    refine lv_icmp_le (tgt := 29) hx hb dX1_add_15 (by decide) (fun c_14 => ?_) (fun c_14 => ?_)
    · rw [if_pos c_14] at h
      refine lv_aload_n hx hb dX1_add_29 rfl (lv_at hl 0 rfl) ?_
      refine va_get (D := D) (ci := 1) (v := .ref (ad (18 + (2 * k)))) (C := RX1) (T := TX1) (N := 2) hx hb hts (by decide +kernel) hown hK hP (14 + k) (qg_H hix) rfl 0 (by decide) (hts (.fieldLink RX1 10 "QueueMiddles$Halves" "lesser" "LQueueMiddles$Heap;") (by decide +kernel)) (fun _ h9 => h9) rfl dX1_add_30 ?_
      refine lv_iload_n hx hb dX1_add_33 rfl (lv_at hl 1 rfl) ?_
      refine lv_ineg hx hb dX1_add_34 ?_
      obtain ⟨z_15, hz_16, h⟩ := qm_bind h
      refine va_callv (va_runV (As := [.int (-p0)]) (rest := []) ⟨hx, hb, hml, hown, hts⟩ (kX2_push l D A ad cI cQ rest S (2 * k) (qb_l hix) (-p0) z_15 hz_16) (cwV 1 hts gX1_add_X2_push rfl rfl rfl (by decide +kernel) ⟨Nat.le_of_ble_eq_true rfl, Nat.le_of_ble_eq_true rfl⟩) ⟨qm_blind, va_recv hK hP (ci := 2) (q0 := (18 + (2 * k))) rfl (qg_P (qb_l hix)), fun U hU hW => ⟨rfl, qm_go hA hS hP hK hD hU hW⟩⟩ rfl rfl hl.1 rfl (lv_room (Nat.le_of_ble_eq_true rfl)) dX1_add_35 ⟨Nat.le_of_ble_eq_true rfl, Nat.le_of_ble_eq_true rfl⟩) hS (fun _ _ h9 => h9) (fun _ h9 => h9) (fun u t H1 locs1 ht hvm hw hB hz1 hk1 hS => ?_)
      have hw : z_15 = u := hw.symm
      subst hw
      obtain ⟨hP, hD⟩ := qm_bk ht hB
      refine lv_aload_n hx hb dX1_add_38 rfl (lv_at hl 0 rfl) ?_
      refine va_get (D := D) (ci := 1) (v := .ref (ad (18 + (2 * k)))) (C := RX1) (T := TX1) (N := 2) hx hb hts (by decide +kernel) hown hK hP (14 + k) (qg_H hix) rfl 0 (by decide) (hts (.fieldLink RX1 10 "QueueMiddles$Halves" "lesser" "LQueueMiddles$Heap;") (by decide +kernel)) (fun _ h9 => h9) rfl dX1_add_39 ?_
      refine va_calli (va_runV (As := []) (rest := []) ⟨hx, hb, hml, hown, hts⟩ (nX2_size l D A ad cI cQ rest z_15 (2 * k) (qb_l hix)) (cwV 0 hts gX1_add_X2_size rfl rfl rfl (by decide +kernel) ⟨Nat.le_of_ble_eq_true rfl, Nat.le_of_ble_eq_true rfl⟩) ⟨qm_blind, va_recv hK hP (ci := 2) (q0 := (18 + (2 * k))) rfl (qg_P (qb_l hix)), fun U hU hW => ⟨rfl, qm_go hA hS hP hK hD hU hW⟩⟩ rfl rfl hl.1 rfl (lv_room (Nat.le_of_ble_eq_true rfl)) dX1_add_42 ⟨Nat.le_of_ble_eq_true rfl, Nat.le_of_ble_eq_true rfl⟩) hS (fun _ _ h9 => h9) (fun _ h9 => h9) (fun v u t H1 locs1 ht hvm hw hB hz1 hk1 hS => ?_)
      obtain ⟨hw1, hw2⟩ := hw
      have hw1 : ((z_15.1 (20 + (2 * k))).1) = v := hw1.symm
      have hw2 : z_15 = u := hw2.symm
      subst hw1
      subst hw2
      obtain ⟨hP, hD⟩ := qm_bk ht hB
      refine lv_aload_n hx hb dX1_add_45 rfl (lv_at hl 0 rfl) ?_
      refine va_get (D := D) (ci := 1) (v := .ref (ad (18 + (2 * k + 1)))) (C := RX1) (T := TX1) (N := 2) hx hb hts (by decide +kernel) hown hK hP (14 + k) (qg_H hix) rfl 1 (by decide) (hts (.fieldLink RX1 16 "QueueMiddles$Halves" "greater" "LQueueMiddles$Heap;") (by decide +kernel)) (fun _ h9 => h9) rfl dX1_add_46 ?_
      refine va_calli (va_runV (As := []) (rest := [.int ((z_15.1 (20 + (2 * k))).1)]) ⟨hx, hb, hml, hown, hts⟩ (nX2_size l D A ad cI cQ rest z_15 (2 * k + 1) (qb_g hix)) (cwV 0 hts gX1_add_X2_size rfl rfl rfl (by decide +kernel) ⟨Nat.le_of_ble_eq_true rfl, Nat.le_of_ble_eq_true rfl⟩) ⟨qm_blind, va_recv hK hP (ci := 2) (q0 := (18 + (2 * k + 1))) rfl (qg_P (qb_g hix)), fun U hU hW => ⟨rfl, qm_go hA hS hP hK hD hU hW⟩⟩ rfl rfl hl.1 rfl (lv_room (Nat.le_of_ble_eq_true rfl)) dX1_add_49 ⟨Nat.le_of_ble_eq_true rfl, Nat.le_of_ble_eq_true rfl⟩) hS (fun _ _ h9 => h9) (fun _ h9 => h9) (fun v u t H1 locs1 ht hvm hw hB hz1 hk1 hS => ?_)
      obtain ⟨hw1, hw2⟩ := hw
      have hw1 : ((z_15.1 (20 + (2 * k + 1))).1) = v := hw1.symm
      have hw2 : z_15 = u := hw2.symm
      subst hw1
      subst hw2
      obtain ⟨hP, hD⟩ := qm_bk ht hB
      refine lv_iconst (v := (1 : Int32)) hx hb dX1_add_52 (by decide) ?_
      refine lv_iadd hx hb dX1_add_53 ?_
      refine lv_icmp_le (tgt := 75) hx hb dX1_add_54 (by decide) (fun c_17 => ?_) (fun c_17 => ?_)
      · rw [if_pos c_17] at h
        refine lv_aload_n hx hb dX1_add_75 rfl (lv_at hl 0 rfl) ?_
        refine va_get (D := D) (ci := 1) (v := .ref (ad (18 + (2 * k + 1)))) (C := RX1) (T := TX1) (N := 2) hx hb hts (by decide +kernel) hown hK hP (14 + k) (qg_H hix) rfl 1 (by decide) (hts (.fieldLink RX1 16 "QueueMiddles$Halves" "greater" "LQueueMiddles$Heap;") (by decide +kernel)) (fun _ h9 => h9) rfl dX1_add_76 ?_
        refine va_calli (va_runV (As := []) (rest := []) ⟨hx, hb, hml, hown, hts⟩ (nX2_size l D A ad cI cQ rest z_15 (2 * k + 1) (qb_g hix)) (cwV 0 hts gX1_add_X2_size rfl rfl rfl (by decide +kernel) ⟨Nat.le_of_ble_eq_true rfl, Nat.le_of_ble_eq_true rfl⟩) ⟨qm_blind, va_recv hK hP (ci := 2) (q0 := (18 + (2 * k + 1))) rfl (qg_P (qb_g hix)), fun U hU hW => ⟨rfl, qm_go hA hS hP hK hD hU hW⟩⟩ rfl rfl hl.1 rfl (lv_room (Nat.le_of_ble_eq_true rfl)) dX1_add_79 ⟨Nat.le_of_ble_eq_true rfl, Nat.le_of_ble_eq_true rfl⟩) hS (fun _ _ h9 => h9) (fun _ h9 => h9) (fun v u t H1 locs1 ht hvm hw hB hz1 hk1 hS => ?_)
        obtain ⟨hw1, hw2⟩ := hw
        have hw1 : ((z_15.1 (20 + (2 * k + 1))).1) = v := hw1.symm
        have hw2 : z_15 = u := hw2.symm
        subst hw1
        subst hw2
        obtain ⟨hP, hD⟩ := qm_bk ht hB
        refine lv_aload_n hx hb dX1_add_82 rfl (lv_at hl 0 rfl) ?_
        refine va_get (D := D) (ci := 1) (v := .ref (ad (18 + (2 * k)))) (C := RX1) (T := TX1) (N := 2) hx hb hts (by decide +kernel) hown hK hP (14 + k) (qg_H hix) rfl 0 (by decide) (hts (.fieldLink RX1 10 "QueueMiddles$Halves" "lesser" "LQueueMiddles$Heap;") (by decide +kernel)) (fun _ h9 => h9) rfl dX1_add_83 ?_
        refine va_calli (va_runV (As := []) (rest := [.int ((z_15.1 (20 + (2 * k + 1))).1)]) ⟨hx, hb, hml, hown, hts⟩ (nX2_size l D A ad cI cQ rest z_15 (2 * k) (qb_l hix)) (cwV 0 hts gX1_add_X2_size rfl rfl rfl (by decide +kernel) ⟨Nat.le_of_ble_eq_true rfl, Nat.le_of_ble_eq_true rfl⟩) ⟨qm_blind, va_recv hK hP (ci := 2) (q0 := (18 + (2 * k))) rfl (qg_P (qb_l hix)), fun U hU hW => ⟨rfl, qm_go hA hS hP hK hD hU hW⟩⟩ rfl rfl hl.1 rfl (lv_room (Nat.le_of_ble_eq_true rfl)) dX1_add_86 ⟨Nat.le_of_ble_eq_true rfl, Nat.le_of_ble_eq_true rfl⟩) hS (fun _ _ h9 => h9) (fun _ h9 => h9) (fun v u t H1 locs1 ht hvm hw hB hz1 hk1 hS => ?_)
        obtain ⟨hw1, hw2⟩ := hw
        have hw1 : ((z_15.1 (20 + (2 * k))).1) = v := hw1.symm
        have hw2 : z_15 = u := hw2.symm
        subst hw1
        subst hw2
        obtain ⟨hP, hD⟩ := qm_bk ht hB
        refine lv_icmp_le (tgt := 107) hx hb dX1_add_89 (by decide) (fun c_18 => ?_) (fun c_18 => ?_)
        · rw [if_pos c_18] at h
          have h := Option.some.inj h
          subst h
          exact W.vret hx hb hr (fun t ht hW => ⟨⟨z_15, rfl, rfl, qm_en ht hP hD⟩, hS.F ht⟩) hS.2.2 dX1_add_107
        · rw [if_neg c_18] at h
          refine lv_aload_n hx hb dX1_add_92 rfl (lv_at hl 0 rfl) ?_
          refine va_get (D := D) (ci := 1) (v := .ref (ad (18 + (2 * k)))) (C := RX1) (T := TX1) (N := 2) hx hb hts (by decide +kernel) hown hK hP (14 + k) (qg_H hix) rfl 0 (by decide) (hts (.fieldLink RX1 10 "QueueMiddles$Halves" "lesser" "LQueueMiddles$Heap;") (by decide +kernel)) (fun _ h9 => h9) rfl dX1_add_93 ?_
          refine lv_aload_n hx hb dX1_add_96 rfl (lv_at hl 0 rfl) ?_
          refine va_get (D := D) (ci := 1) (v := .ref (ad (18 + (2 * k + 1)))) (C := RX1) (T := TX1) (N := 2) hx hb hts (by decide +kernel) hown hK hP (14 + k) (qg_H hix) rfl 1 (by decide) (hts (.fieldLink RX1 16 "QueueMiddles$Halves" "greater" "LQueueMiddles$Heap;") (by decide +kernel)) (fun _ h9 => h9) rfl dX1_add_97 ?_
          obtain ⟨z_19, hz_20, h⟩ := qm_bind h
          refine va_calli (va_runV (As := []) (rest := [.ref (ad (18 + (2 * k)))]) ⟨hx, hb, hml, hown, hts⟩ (kX2_pop l D A ad cI cQ rest z_15 (2 * k + 1) (qb_g hix) z_19 hz_20) (cwV 0 hts gX1_add_X2_pop rfl rfl rfl (by decide +kernel) ⟨Nat.le_of_ble_eq_true rfl, Nat.le_of_ble_eq_true rfl⟩) ⟨qm_blind, va_recv hK hP (ci := 2) (q0 := (18 + (2 * k + 1))) rfl (qg_P (qb_g hix)), fun U hU hW => ⟨rfl, qm_go hA hS hP hK hD hU hW⟩⟩ rfl rfl hl.1 rfl (lv_room (Nat.le_of_ble_eq_true rfl)) dX1_add_100 ⟨Nat.le_of_ble_eq_true rfl, Nat.le_of_ble_eq_true rfl⟩) hS (fun _ _ h9 => h9) (fun _ h9 => h9) (fun v u t H1 locs1 ht hvm hw hB hz1 hk1 hS => ?_)
          obtain ⟨hw1, hw2⟩ := hw
          have hw1 : z_19.1 = v := hw1.symm
          have hw2 : z_19.2 = u := hw2.symm
          subst hw1
          subst hw2
          obtain ⟨hP, hD⟩ := qm_bk ht hB
          refine lv_ineg hx hb dX1_add_103 ?_
          obtain ⟨z_21, hz_22, h⟩ := qm_bind h
          refine va_callv (va_runV (As := [.int (-z_19.1)]) (rest := []) ⟨hx, hb, hml, hown, hts⟩ (kX2_push l D A ad cI cQ rest z_19.2 (2 * k) (qb_l hix) (-z_19.1) z_21 hz_22) (cwV 1 hts gX1_add_X2_push rfl rfl rfl (by decide +kernel) ⟨Nat.le_of_ble_eq_true rfl, Nat.le_of_ble_eq_true rfl⟩) ⟨qm_blind, va_recv hK hP (ci := 2) (q0 := (18 + (2 * k))) rfl (qg_P (qb_l hix)), fun U hU hW => ⟨rfl, qm_go hA hS hP hK hD hU hW⟩⟩ rfl rfl hl.1 rfl (lv_room (Nat.le_of_ble_eq_true rfl)) dX1_add_104 ⟨Nat.le_of_ble_eq_true rfl, Nat.le_of_ble_eq_true rfl⟩) hS (fun _ _ h9 => h9) (fun _ h9 => h9) (fun u t H1 locs1 ht hvm hw hB hz1 hk1 hS => ?_)
          have hw : z_21 = u := hw.symm
          subst hw
          obtain ⟨hP, hD⟩ := qm_bk ht hB
          have h := Option.some.inj h
          subst h
          exact W.vret hx hb hr (fun t ht hW => ⟨⟨z_21, rfl, rfl, qm_en ht hP hD⟩, hS.F ht⟩) hS.2.2 dX1_add_107
      · rw [if_neg c_17] at h
        refine lv_aload_n hx hb dX1_add_57 rfl (lv_at hl 0 rfl) ?_
        refine va_get (D := D) (ci := 1) (v := .ref (ad (18 + (2 * k + 1)))) (C := RX1) (T := TX1) (N := 2) hx hb hts (by decide +kernel) hown hK hP (14 + k) (qg_H hix) rfl 1 (by decide) (hts (.fieldLink RX1 16 "QueueMiddles$Halves" "greater" "LQueueMiddles$Heap;") (by decide +kernel)) (fun _ h9 => h9) rfl dX1_add_58 ?_
        refine lv_aload_n hx hb dX1_add_61 rfl (lv_at hl 0 rfl) ?_
        refine va_get (D := D) (ci := 1) (v := .ref (ad (18 + (2 * k)))) (C := RX1) (T := TX1) (N := 2) hx hb hts (by decide +kernel) hown hK hP (14 + k) (qg_H hix) rfl 0 (by decide) (hts (.fieldLink RX1 10 "QueueMiddles$Halves" "lesser" "LQueueMiddles$Heap;") (by decide +kernel)) (fun _ h9 => h9) rfl dX1_add_62 ?_
        obtain ⟨z_23, hz_24, h⟩ := qm_bind h
        refine va_calli (va_runV (As := []) (rest := [.ref (ad (18 + (2 * k + 1)))]) ⟨hx, hb, hml, hown, hts⟩ (kX2_pop l D A ad cI cQ rest z_15 (2 * k) (qb_l hix) z_23 hz_24) (cwV 0 hts gX1_add_X2_pop rfl rfl rfl (by decide +kernel) ⟨Nat.le_of_ble_eq_true rfl, Nat.le_of_ble_eq_true rfl⟩) ⟨qm_blind, va_recv hK hP (ci := 2) (q0 := (18 + (2 * k))) rfl (qg_P (qb_l hix)), fun U hU hW => ⟨rfl, qm_go hA hS hP hK hD hU hW⟩⟩ rfl rfl hl.1 rfl (lv_room (Nat.le_of_ble_eq_true rfl)) dX1_add_65 ⟨Nat.le_of_ble_eq_true rfl, Nat.le_of_ble_eq_true rfl⟩) hS (fun _ _ h9 => h9) (fun _ h9 => h9) (fun v u t H1 locs1 ht hvm hw hB hz1 hk1 hS => ?_)
        obtain ⟨hw1, hw2⟩ := hw
        have hw1 : z_23.1 = v := hw1.symm
        have hw2 : z_23.2 = u := hw2.symm
        subst hw1
        subst hw2
        obtain ⟨hP, hD⟩ := qm_bk ht hB
        refine lv_ineg hx hb dX1_add_68 ?_
        obtain ⟨z_25, hz_26, h⟩ := qm_bind h
        refine va_callv (va_runV (As := [.int (-z_23.1)]) (rest := []) ⟨hx, hb, hml, hown, hts⟩ (kX2_push l D A ad cI cQ rest z_23.2 (2 * k + 1) (qb_g hix) (-z_23.1) z_25 hz_26) (cwV 1 hts gX1_add_X2_push rfl rfl rfl (by decide +kernel) ⟨Nat.le_of_ble_eq_true rfl, Nat.le_of_ble_eq_true rfl⟩) ⟨qm_blind, va_recv hK hP (ci := 2) (q0 := (18 + (2 * k + 1))) rfl (qg_P (qb_g hix)), fun U hU hW => ⟨rfl, qm_go hA hS hP hK hD hU hW⟩⟩ rfl rfl hl.1 rfl (lv_room (Nat.le_of_ble_eq_true rfl)) dX1_add_69 ⟨Nat.le_of_ble_eq_true rfl, Nat.le_of_ble_eq_true rfl⟩) hS (fun _ _ h9 => h9) (fun _ h9 => h9) (fun u t H1 locs1 ht hvm hw hB hz1 hk1 hS => ?_)
        have hw : z_25 = u := hw.symm
        subst hw
        obtain ⟨hP, hD⟩ := qm_bk ht hB
        refine lv_goto (tgt := 107) hx hb dX1_add_72 (by decide) ?_
        have h := Option.some.inj h
        subst h
        exact W.vret hx hb hr (fun t ht hW => ⟨⟨z_25, rfl, rfl, qm_en ht hP hD⟩, hS.F ht⟩) hS.2.2 dX1_add_107
    · rw [if_neg c_14] at h
      refine lv_aload_n hx hb dX1_add_18 rfl (lv_at hl 0 rfl) ?_
      refine va_get (D := D) (ci := 1) (v := .ref (ad (18 + (2 * k + 1)))) (C := RX1) (T := TX1) (N := 2) hx hb hts (by decide +kernel) hown hK hP (14 + k) (qg_H hix) rfl 1 (by decide) (hts (.fieldLink RX1 16 "QueueMiddles$Halves" "greater" "LQueueMiddles$Heap;") (by decide +kernel)) (fun _ h9 => h9) rfl dX1_add_19 ?_
      refine lv_iload_n hx hb dX1_add_22 rfl (lv_at hl 1 rfl) ?_
      obtain ⟨z_27, hz_28, h⟩ := qm_bind h
      refine va_callv (va_runV (As := [.int p0]) (rest := []) ⟨hx, hb, hml, hown, hts⟩ (kX2_push l D A ad cI cQ rest S (2 * k + 1) (qb_g hix) p0 z_27 hz_28) (cwV 1 hts gX1_add_X2_push rfl rfl rfl (by decide +kernel) ⟨Nat.le_of_ble_eq_true rfl, Nat.le_of_ble_eq_true rfl⟩) ⟨qm_blind, va_recv hK hP (ci := 2) (q0 := (18 + (2 * k + 1))) rfl (qg_P (qb_g hix)), fun U hU hW => ⟨rfl, qm_go hA hS hP hK hD hU hW⟩⟩ rfl rfl hl.1 rfl (lv_room (Nat.le_of_ble_eq_true rfl)) dX1_add_23 ⟨Nat.le_of_ble_eq_true rfl, Nat.le_of_ble_eq_true rfl⟩) hS (fun _ _ h9 => h9) (fun _ h9 => h9) (fun u t H1 locs1 ht hvm hw hB hz1 hk1 hS => ?_)
      have hw : z_27 = u := hw.symm
      subst hw
      obtain ⟨hP, hD⟩ := qm_bk ht hB
      refine lv_goto (tgt := 38) hx hb dX1_add_26 (by decide) ?_
      refine lv_aload_n hx hb dX1_add_38 rfl (lv_at hl 0 rfl) ?_
      refine va_get (D := D) (ci := 1) (v := .ref (ad (18 + (2 * k)))) (C := RX1) (T := TX1) (N := 2) hx hb hts (by decide +kernel) hown hK hP (14 + k) (qg_H hix) rfl 0 (by decide) (hts (.fieldLink RX1 10 "QueueMiddles$Halves" "lesser" "LQueueMiddles$Heap;") (by decide +kernel)) (fun _ h9 => h9) rfl dX1_add_39 ?_
      refine va_calli (va_runV (As := []) (rest := []) ⟨hx, hb, hml, hown, hts⟩ (nX2_size l D A ad cI cQ rest z_27 (2 * k) (qb_l hix)) (cwV 0 hts gX1_add_X2_size rfl rfl rfl (by decide +kernel) ⟨Nat.le_of_ble_eq_true rfl, Nat.le_of_ble_eq_true rfl⟩) ⟨qm_blind, va_recv hK hP (ci := 2) (q0 := (18 + (2 * k))) rfl (qg_P (qb_l hix)), fun U hU hW => ⟨rfl, qm_go hA hS hP hK hD hU hW⟩⟩ rfl rfl hl.1 rfl (lv_room (Nat.le_of_ble_eq_true rfl)) dX1_add_42 ⟨Nat.le_of_ble_eq_true rfl, Nat.le_of_ble_eq_true rfl⟩) hS (fun _ _ h9 => h9) (fun _ h9 => h9) (fun v u t H1 locs1 ht hvm hw hB hz1 hk1 hS => ?_)
      obtain ⟨hw1, hw2⟩ := hw
      have hw1 : ((z_27.1 (20 + (2 * k))).1) = v := hw1.symm
      have hw2 : z_27 = u := hw2.symm
      subst hw1
      subst hw2
      obtain ⟨hP, hD⟩ := qm_bk ht hB
      refine lv_aload_n hx hb dX1_add_45 rfl (lv_at hl 0 rfl) ?_
      refine va_get (D := D) (ci := 1) (v := .ref (ad (18 + (2 * k + 1)))) (C := RX1) (T := TX1) (N := 2) hx hb hts (by decide +kernel) hown hK hP (14 + k) (qg_H hix) rfl 1 (by decide) (hts (.fieldLink RX1 16 "QueueMiddles$Halves" "greater" "LQueueMiddles$Heap;") (by decide +kernel)) (fun _ h9 => h9) rfl dX1_add_46 ?_
      refine va_calli (va_runV (As := []) (rest := [.int ((z_27.1 (20 + (2 * k))).1)]) ⟨hx, hb, hml, hown, hts⟩ (nX2_size l D A ad cI cQ rest z_27 (2 * k + 1) (qb_g hix)) (cwV 0 hts gX1_add_X2_size rfl rfl rfl (by decide +kernel) ⟨Nat.le_of_ble_eq_true rfl, Nat.le_of_ble_eq_true rfl⟩) ⟨qm_blind, va_recv hK hP (ci := 2) (q0 := (18 + (2 * k + 1))) rfl (qg_P (qb_g hix)), fun U hU hW => ⟨rfl, qm_go hA hS hP hK hD hU hW⟩⟩ rfl rfl hl.1 rfl (lv_room (Nat.le_of_ble_eq_true rfl)) dX1_add_49 ⟨Nat.le_of_ble_eq_true rfl, Nat.le_of_ble_eq_true rfl⟩) hS (fun _ _ h9 => h9) (fun _ h9 => h9) (fun v u t H1 locs1 ht hvm hw hB hz1 hk1 hS => ?_)
      obtain ⟨hw1, hw2⟩ := hw
      have hw1 : ((z_27.1 (20 + (2 * k + 1))).1) = v := hw1.symm
      have hw2 : z_27 = u := hw2.symm
      subst hw1
      subst hw2
      obtain ⟨hP, hD⟩ := qm_bk ht hB
      refine lv_iconst (v := (1 : Int32)) hx hb dX1_add_52 (by decide) ?_
      refine lv_iadd hx hb dX1_add_53 ?_
      refine lv_icmp_le (tgt := 75) hx hb dX1_add_54 (by decide) (fun c_29 => ?_) (fun c_29 => ?_)
      · rw [if_pos c_29] at h
        refine lv_aload_n hx hb dX1_add_75 rfl (lv_at hl 0 rfl) ?_
        refine va_get (D := D) (ci := 1) (v := .ref (ad (18 + (2 * k + 1)))) (C := RX1) (T := TX1) (N := 2) hx hb hts (by decide +kernel) hown hK hP (14 + k) (qg_H hix) rfl 1 (by decide) (hts (.fieldLink RX1 16 "QueueMiddles$Halves" "greater" "LQueueMiddles$Heap;") (by decide +kernel)) (fun _ h9 => h9) rfl dX1_add_76 ?_
        refine va_calli (va_runV (As := []) (rest := []) ⟨hx, hb, hml, hown, hts⟩ (nX2_size l D A ad cI cQ rest z_27 (2 * k + 1) (qb_g hix)) (cwV 0 hts gX1_add_X2_size rfl rfl rfl (by decide +kernel) ⟨Nat.le_of_ble_eq_true rfl, Nat.le_of_ble_eq_true rfl⟩) ⟨qm_blind, va_recv hK hP (ci := 2) (q0 := (18 + (2 * k + 1))) rfl (qg_P (qb_g hix)), fun U hU hW => ⟨rfl, qm_go hA hS hP hK hD hU hW⟩⟩ rfl rfl hl.1 rfl (lv_room (Nat.le_of_ble_eq_true rfl)) dX1_add_79 ⟨Nat.le_of_ble_eq_true rfl, Nat.le_of_ble_eq_true rfl⟩) hS (fun _ _ h9 => h9) (fun _ h9 => h9) (fun v u t H1 locs1 ht hvm hw hB hz1 hk1 hS => ?_)
        obtain ⟨hw1, hw2⟩ := hw
        have hw1 : ((z_27.1 (20 + (2 * k + 1))).1) = v := hw1.symm
        have hw2 : z_27 = u := hw2.symm
        subst hw1
        subst hw2
        obtain ⟨hP, hD⟩ := qm_bk ht hB
        refine lv_aload_n hx hb dX1_add_82 rfl (lv_at hl 0 rfl) ?_
        refine va_get (D := D) (ci := 1) (v := .ref (ad (18 + (2 * k)))) (C := RX1) (T := TX1) (N := 2) hx hb hts (by decide +kernel) hown hK hP (14 + k) (qg_H hix) rfl 0 (by decide) (hts (.fieldLink RX1 10 "QueueMiddles$Halves" "lesser" "LQueueMiddles$Heap;") (by decide +kernel)) (fun _ h9 => h9) rfl dX1_add_83 ?_
        refine va_calli (va_runV (As := []) (rest := [.int ((z_27.1 (20 + (2 * k + 1))).1)]) ⟨hx, hb, hml, hown, hts⟩ (nX2_size l D A ad cI cQ rest z_27 (2 * k) (qb_l hix)) (cwV 0 hts gX1_add_X2_size rfl rfl rfl (by decide +kernel) ⟨Nat.le_of_ble_eq_true rfl, Nat.le_of_ble_eq_true rfl⟩) ⟨qm_blind, va_recv hK hP (ci := 2) (q0 := (18 + (2 * k))) rfl (qg_P (qb_l hix)), fun U hU hW => ⟨rfl, qm_go hA hS hP hK hD hU hW⟩⟩ rfl rfl hl.1 rfl (lv_room (Nat.le_of_ble_eq_true rfl)) dX1_add_86 ⟨Nat.le_of_ble_eq_true rfl, Nat.le_of_ble_eq_true rfl⟩) hS (fun _ _ h9 => h9) (fun _ h9 => h9) (fun v u t H1 locs1 ht hvm hw hB hz1 hk1 hS => ?_)
        obtain ⟨hw1, hw2⟩ := hw
        have hw1 : ((z_27.1 (20 + (2 * k))).1) = v := hw1.symm
        have hw2 : z_27 = u := hw2.symm
        subst hw1
        subst hw2
        obtain ⟨hP, hD⟩ := qm_bk ht hB
        refine lv_icmp_le (tgt := 107) hx hb dX1_add_89 (by decide) (fun c_30 => ?_) (fun c_30 => ?_)
        · rw [if_pos c_30] at h
          have h := Option.some.inj h
          subst h
          exact W.vret hx hb hr (fun t ht hW => ⟨⟨z_27, rfl, rfl, qm_en ht hP hD⟩, hS.F ht⟩) hS.2.2 dX1_add_107
        · rw [if_neg c_30] at h
          refine lv_aload_n hx hb dX1_add_92 rfl (lv_at hl 0 rfl) ?_
          refine va_get (D := D) (ci := 1) (v := .ref (ad (18 + (2 * k)))) (C := RX1) (T := TX1) (N := 2) hx hb hts (by decide +kernel) hown hK hP (14 + k) (qg_H hix) rfl 0 (by decide) (hts (.fieldLink RX1 10 "QueueMiddles$Halves" "lesser" "LQueueMiddles$Heap;") (by decide +kernel)) (fun _ h9 => h9) rfl dX1_add_93 ?_
          refine lv_aload_n hx hb dX1_add_96 rfl (lv_at hl 0 rfl) ?_
          refine va_get (D := D) (ci := 1) (v := .ref (ad (18 + (2 * k + 1)))) (C := RX1) (T := TX1) (N := 2) hx hb hts (by decide +kernel) hown hK hP (14 + k) (qg_H hix) rfl 1 (by decide) (hts (.fieldLink RX1 16 "QueueMiddles$Halves" "greater" "LQueueMiddles$Heap;") (by decide +kernel)) (fun _ h9 => h9) rfl dX1_add_97 ?_
          obtain ⟨z_31, hz_32, h⟩ := qm_bind h
          refine va_calli (va_runV (As := []) (rest := [.ref (ad (18 + (2 * k)))]) ⟨hx, hb, hml, hown, hts⟩ (kX2_pop l D A ad cI cQ rest z_27 (2 * k + 1) (qb_g hix) z_31 hz_32) (cwV 0 hts gX1_add_X2_pop rfl rfl rfl (by decide +kernel) ⟨Nat.le_of_ble_eq_true rfl, Nat.le_of_ble_eq_true rfl⟩) ⟨qm_blind, va_recv hK hP (ci := 2) (q0 := (18 + (2 * k + 1))) rfl (qg_P (qb_g hix)), fun U hU hW => ⟨rfl, qm_go hA hS hP hK hD hU hW⟩⟩ rfl rfl hl.1 rfl (lv_room (Nat.le_of_ble_eq_true rfl)) dX1_add_100 ⟨Nat.le_of_ble_eq_true rfl, Nat.le_of_ble_eq_true rfl⟩) hS (fun _ _ h9 => h9) (fun _ h9 => h9) (fun v u t H1 locs1 ht hvm hw hB hz1 hk1 hS => ?_)
          obtain ⟨hw1, hw2⟩ := hw
          have hw1 : z_31.1 = v := hw1.symm
          have hw2 : z_31.2 = u := hw2.symm
          subst hw1
          subst hw2
          obtain ⟨hP, hD⟩ := qm_bk ht hB
          refine lv_ineg hx hb dX1_add_103 ?_
          obtain ⟨z_33, hz_34, h⟩ := qm_bind h
          refine va_callv (va_runV (As := [.int (-z_31.1)]) (rest := []) ⟨hx, hb, hml, hown, hts⟩ (kX2_push l D A ad cI cQ rest z_31.2 (2 * k) (qb_l hix) (-z_31.1) z_33 hz_34) (cwV 1 hts gX1_add_X2_push rfl rfl rfl (by decide +kernel) ⟨Nat.le_of_ble_eq_true rfl, Nat.le_of_ble_eq_true rfl⟩) ⟨qm_blind, va_recv hK hP (ci := 2) (q0 := (18 + (2 * k))) rfl (qg_P (qb_l hix)), fun U hU hW => ⟨rfl, qm_go hA hS hP hK hD hU hW⟩⟩ rfl rfl hl.1 rfl (lv_room (Nat.le_of_ble_eq_true rfl)) dX1_add_104 ⟨Nat.le_of_ble_eq_true rfl, Nat.le_of_ble_eq_true rfl⟩) hS (fun _ _ h9 => h9) (fun _ h9 => h9) (fun u t H1 locs1 ht hvm hw hB hz1 hk1 hS => ?_)
          have hw : z_33 = u := hw.symm
          subst hw
          obtain ⟨hP, hD⟩ := qm_bk ht hB
          have h := Option.some.inj h
          subst h
          exact W.vret hx hb hr (fun t ht hW => ⟨⟨z_33, rfl, rfl, qm_en ht hP hD⟩, hS.F ht⟩) hS.2.2 dX1_add_107
      · rw [if_neg c_29] at h
        refine lv_aload_n hx hb dX1_add_57 rfl (lv_at hl 0 rfl) ?_
        refine va_get (D := D) (ci := 1) (v := .ref (ad (18 + (2 * k + 1)))) (C := RX1) (T := TX1) (N := 2) hx hb hts (by decide +kernel) hown hK hP (14 + k) (qg_H hix) rfl 1 (by decide) (hts (.fieldLink RX1 16 "QueueMiddles$Halves" "greater" "LQueueMiddles$Heap;") (by decide +kernel)) (fun _ h9 => h9) rfl dX1_add_58 ?_
        refine lv_aload_n hx hb dX1_add_61 rfl (lv_at hl 0 rfl) ?_
        refine va_get (D := D) (ci := 1) (v := .ref (ad (18 + (2 * k)))) (C := RX1) (T := TX1) (N := 2) hx hb hts (by decide +kernel) hown hK hP (14 + k) (qg_H hix) rfl 0 (by decide) (hts (.fieldLink RX1 10 "QueueMiddles$Halves" "lesser" "LQueueMiddles$Heap;") (by decide +kernel)) (fun _ h9 => h9) rfl dX1_add_62 ?_
        obtain ⟨z_35, hz_36, h⟩ := qm_bind h
        refine va_calli (va_runV (As := []) (rest := [.ref (ad (18 + (2 * k + 1)))]) ⟨hx, hb, hml, hown, hts⟩ (kX2_pop l D A ad cI cQ rest z_27 (2 * k) (qb_l hix) z_35 hz_36) (cwV 0 hts gX1_add_X2_pop rfl rfl rfl (by decide +kernel) ⟨Nat.le_of_ble_eq_true rfl, Nat.le_of_ble_eq_true rfl⟩) ⟨qm_blind, va_recv hK hP (ci := 2) (q0 := (18 + (2 * k))) rfl (qg_P (qb_l hix)), fun U hU hW => ⟨rfl, qm_go hA hS hP hK hD hU hW⟩⟩ rfl rfl hl.1 rfl (lv_room (Nat.le_of_ble_eq_true rfl)) dX1_add_65 ⟨Nat.le_of_ble_eq_true rfl, Nat.le_of_ble_eq_true rfl⟩) hS (fun _ _ h9 => h9) (fun _ h9 => h9) (fun v u t H1 locs1 ht hvm hw hB hz1 hk1 hS => ?_)
        obtain ⟨hw1, hw2⟩ := hw
        have hw1 : z_35.1 = v := hw1.symm
        have hw2 : z_35.2 = u := hw2.symm
        subst hw1
        subst hw2
        obtain ⟨hP, hD⟩ := qm_bk ht hB
        refine lv_ineg hx hb dX1_add_68 ?_
        obtain ⟨z_37, hz_38, h⟩ := qm_bind h
        refine va_callv (va_runV (As := [.int (-z_35.1)]) (rest := []) ⟨hx, hb, hml, hown, hts⟩ (kX2_push l D A ad cI cQ rest z_35.2 (2 * k + 1) (qb_g hix) (-z_35.1) z_37 hz_38) (cwV 1 hts gX1_add_X2_push rfl rfl rfl (by decide +kernel) ⟨Nat.le_of_ble_eq_true rfl, Nat.le_of_ble_eq_true rfl⟩) ⟨qm_blind, va_recv hK hP (ci := 2) (q0 := (18 + (2 * k + 1))) rfl (qg_P (qb_g hix)), fun U hU hW => ⟨rfl, qm_go hA hS hP hK hD hU hW⟩⟩ rfl rfl hl.1 rfl (lv_room (Nat.le_of_ble_eq_true rfl)) dX1_add_69 ⟨Nat.le_of_ble_eq_true rfl, Nat.le_of_ble_eq_true rfl⟩) hS (fun _ _ h9 => h9) (fun _ h9 => h9) (fun u t H1 locs1 ht hvm hw hB hz1 hk1 hS => ?_)
        have hw : z_37 = u := hw.symm
        subst hw
        obtain ⟨hP, hD⟩ := qm_bk ht hB
        refine lv_goto (tgt := 107) hx hb dX1_add_72 (by decide) ?_
        have h := Option.some.inj h
        subst h
        exact W.vret hx hb hr (fun t ht hW => ⟨⟨z_37, rfl, rfl, qm_en ht hP hD⟩, hS.F ht⟩) hS.2.2 dX1_add_107
