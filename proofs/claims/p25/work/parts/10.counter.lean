noncomputable def fX0_beginAnew (S : qm_S) (k : Nat) (p0 : Int32) : Option (qm_S) :=
  some (ha_clr (ta_clr (mr_cut (qm_th S k p0) k (0 : Int32)) k) k)
set_option maxHeartbeats 4000000 in
set_option maxRecDepth 100000 in
theorem kX0_beginAnew (l : Launch) (D : va_G) (A : Nat → Prop) (ad : Nat → Nat) (cI cQ : ClassId) (rest : va_W) (S : qm_S) (k : Nat) (hix : k < 4) (p0 : Int32) (z : qm_S) (h : fX0_beginAnew S k p0 = some z) : Met l yX0_beginAnew wsX0_beginAnew ({ frames := 3, cells := 0, slots := 0, locals := 62 }) (va_Pc [.ref (ad (2 + k)), .int p0] (qm_B D A (qm_T cI cQ) (qm_W ad cI cQ rest S))) (qm_Qv D A (qm_W ad cI cQ rest) z) 0 0 A := by
  refine Met.ofW (cc := cX0_beginAnew) (maxL := 2) (ret := none) (by decide) rfl ?_
  intro p e s m args below meth c s₁ B hml hv
  obtain ⟨rfl, hA, hP, hK, hD⟩ := hv
  have hx := B.exec
  have hb := B.bytes
  have hr := B.returns
  have hts := atoms_spec (ws := wsX0_beginAnew) B.pre
  have hown : s.vm.findClass RX0 = some m.cls := findClass_of_methodNamed B.named
  have hlocks := B.notSynchronized
  have hS : va_S A s.heap s.heap [] := va_S.rf
  have hl := lv_entry ([.ref (ad (2 + k)), .int p0]) (n := 2) (Nat.le_of_ble_eq_true rfl)
  rw [lg_entry_eq]
  generalize (lg_sl ([.ref (ad (2 + k)), .int p0]) ++ List.replicate (2 - (lg_sl ([.ref (ad (2 + k)), .int p0])).length) Slot.unset).toArray = ls at hl ⊢
  have hl : lv_has ls 2 [(0, .ref (ad (2 + k))), (1, .int p0)] := hl
  rw [fX0_beginAnew] at h
  refine lv_aload_n hx hb dX0_beginAnew_0 rfl (lv_at hl 0 rfl) ?_
  refine lv_iload_n hx hb dX0_beginAnew_1 rfl (lv_at hl 1 rfl) ?_
  refine va_put (D := D) (ci := 0) (v := .int p0) (ty := .int) (C := RX0) (T := TX0) (N := 4) hx hb hts (by decide +kernel) tyX0 tyX0_ok nmX0 hown hK hP hD hS (2 + k) (qg_C hix) rfl 3 (by decide) (hts (.fieldLink RX0 32 "QueueMiddles$Counter" "thousandths" "I") (by decide +kernel)) (fun _ h9 => h9) rfl (by decide +kernel) rfl rfl (Nat.le_of_ble_eq_true rfl) dX0_beginAnew_2 (fun H locs hP hD hS => ?_)
  rw [qs_th hix p0] at hP hD
  refine lv_aload_n hx hb dX0_beginAnew_5 rfl (lv_at hl 0 rfl) ?_
  refine va_get (D := D) (ci := 0) (v := .ref (ad (6 + k))) (C := RX0) (T := TX0) (N := 4) hx hb hts (by decide +kernel) hown hK hP (2 + k) (qg_C hix) rfl 0 (by decide) (hts (.fieldLink RX0 12 "QueueMiddles$Counter" "row" "LQueueMiddles$MarkRow;") (by decide +kernel)) (fun _ h9 => h9) rfl dX0_beginAnew_6 ?_
  refine va_callv (va_runV (As := []) (rest := []) ⟨hx, hb, hml, hown, hts⟩ (nX3_clear l D A ad cI cQ rest (qm_th S k p0) k hix) (cwV 0 hts gX0_beginAnew_X3_clear rfl rfl rfl (by decide +kernel) ⟨Nat.le_of_ble_eq_true rfl, Nat.le_of_ble_eq_true rfl⟩) ⟨qm_blind, va_recv hK hP (ci := 3) (q0 := (6 + k)) rfl (qg_M hix), fun U hU hW => ⟨rfl, qm_go hA hS hP hK hD hU hW⟩⟩ rfl rfl hl.1 rfl (lv_room (Nat.le_of_ble_eq_true rfl)) dX0_beginAnew_9 ⟨Nat.le_of_ble_eq_true rfl, Nat.le_of_ble_eq_true rfl⟩) hS (fun _ _ h9 => h9) (fun _ h9 => h9) (fun u t H1 locs1 ht hvm hw hB hz1 hk1 hS => ?_)
  have hw : (mr_cut (qm_th S k p0) k (0 : Int32)) = u := hw.symm
  subst hw
  obtain ⟨hP, hD⟩ := qm_bk ht hB
  refine lv_aload_n hx hb dX0_beginAnew_12 rfl (lv_at hl 0 rfl) ?_
  refine va_get (D := D) (ci := 0) (v := .ref (ad (10 + k))) (C := RX0) (T := TX0) (N := 4) hx hb hts (by decide +kernel) hown hK hP (2 + k) (qg_C hix) rfl 1 (by decide) (hts (.fieldLink RX0 21 "QueueMiddles$Counter" "numbers" "LQueueMiddles$Tally;") (by decide +kernel)) (fun _ h9 => h9) rfl dX0_beginAnew_13 ?_
  refine va_callv (va_runV (As := []) (rest := []) ⟨hx, hb, hml, hown, hts⟩ (nX5_clear l D A ad cI cQ rest (mr_cut (qm_th S k p0) k (0 : Int32)) k hix) (cwV 0 hts gX0_beginAnew_X5_clear rfl rfl rfl (by decide +kernel) ⟨Nat.le_of_ble_eq_true rfl, Nat.le_of_ble_eq_true rfl⟩) ⟨qm_blind, va_recv hK hP (ci := 5) (q0 := (10 + k)) rfl (qg_T hix), fun U hU hW => ⟨rfl, qm_go hA hS hP hK hD hU hW⟩⟩ rfl rfl hl.1 rfl (lv_room (Nat.le_of_ble_eq_true rfl)) dX0_beginAnew_16 ⟨Nat.le_of_ble_eq_true rfl, Nat.le_of_ble_eq_true rfl⟩) hS (fun _ _ h9 => h9) (fun _ h9 => h9) (fun u t H1 locs1 ht hvm hw hB hz1 hk1 hS => ?_)
  have hw : ta_clr (mr_cut (qm_th S k p0) k (0 : Int32)) k = u := hw.symm
  subst hw
  obtain ⟨hP, hD⟩ := qm_bk ht hB
  refine lv_aload_n hx hb dX0_beginAnew_19 rfl (lv_at hl 0 rfl) ?_
  refine va_get (D := D) (ci := 0) (v := .ref (ad (14 + k))) (C := RX0) (T := TX0) (N := 4) hx hb hts (by decide +kernel) hown hK hP (2 + k) (qg_C hix) rfl 2 (by decide) (hts (.fieldLink RX0 28 "QueueMiddles$Counter" "halves" "LQueueMiddles$Halves;") (by decide +kernel)) (fun _ h9 => h9) rfl dX0_beginAnew_20 ?_
  refine va_callv (va_runV (As := []) (rest := []) ⟨hx, hb, hml, hown, hts⟩ (nX1_clear l D A ad cI cQ rest (ta_clr (mr_cut (qm_th S k p0) k (0 : Int32)) k) k hix) (cwV 0 hts gX0_beginAnew_X1_clear rfl rfl rfl (by decide +kernel) ⟨Nat.le_of_ble_eq_true rfl, Nat.le_of_ble_eq_true rfl⟩) ⟨qm_blind, va_recv hK hP (ci := 1) (q0 := (14 + k)) rfl (qg_H hix), fun U hU hW => ⟨rfl, qm_go hA hS hP hK hD hU hW⟩⟩ rfl rfl hl.1 rfl (lv_room (Nat.le_of_ble_eq_true rfl)) dX0_beginAnew_23 ⟨Nat.le_of_ble_eq_true rfl, Nat.le_of_ble_eq_true rfl⟩) hS (fun _ _ h9 => h9) (fun _ h9 => h9) (fun u t H1 locs1 ht hvm hw hB hz1 hk1 hS => ?_)
  have hw : ha_clr (ta_clr (mr_cut (qm_th S k p0) k (0 : Int32)) k) k = u := hw.symm
  subst hw
  obtain ⟨hP, hD⟩ := qm_bk ht hB
  have h := Option.some.inj h
  subst h
  exact W.vret hx hb hr (fun t ht hW => ⟨⟨ha_clr (ta_clr (mr_cut (qm_th S k p0) k (0 : Int32)) k) k, rfl, rfl, qm_en ht hP hD⟩, hS.F ht⟩) hS.2.2 dX0_beginAnew_26
theorem eX0_beginAnew (S : qm_S) (k : Nat) (p0 : Int32) : fX0_beginAnew S k p0 = some (ha_clr (ta_clr (mr_cut (qm_th S k p0) k (0 : Int32)) k) k) := by
  rfl
theorem nX0_beginAnew (l : Launch) (D : va_G) (A : Nat → Prop) (ad : Nat → Nat) (cI cQ : ClassId) (rest : va_W) (S : qm_S) (k : Nat) (hix : k < 4) (p0 : Int32) : Met l yX0_beginAnew wsX0_beginAnew ({ frames := 3, cells := 0, slots := 0, locals := 62 }) (va_Pc [.ref (ad (2 + k)), .int p0] (qm_B D A (qm_T cI cQ) (qm_W ad cI cQ rest S))) (qm_Qv D A (qm_W ad cI cQ rest) (ha_clr (ta_clr (mr_cut (qm_th S k p0) k (0 : Int32)) k) k)) 0 0 A :=
  kX0_beginAnew l D A ad cI cQ rest S k hix p0 _ (eX0_beginAnew S k p0)
noncomputable def fX0_allowed (S : qm_S) (k : Nat) : Option (Int32) :=
  some ((((2 : Int32) * (S.2.1 k)) * (S.2.2 k)) / (1000 : Int32))
set_option maxHeartbeats 4000000 in
set_option maxRecDepth 100000 in
theorem kX0_allowed (l : Launch) (D : va_G) (A : Nat → Prop) (ad : Nat → Nat) (cI cQ : ClassId) (rest : va_W) (S : qm_S) (k : Nat) (hix : k < 4) (z : Int32) (h : fX0_allowed S k = some z) : Met l yX0_allowed wsX0_allowed ({ frames := 1, cells := 0, slots := 0, locals := 20 }) (va_Pc [.ref (ad (2 + k))] (qm_B D A (qm_T cI cQ) (qm_W ad cI cQ rest S))) (qm_Qi D A (qm_W ad cI cQ rest) (z, S)) 0 0 A := by
  refine Met.ofW (cc := cX0_allowed) (maxL := 1) (ret := (some .int)) (by decide) rfl ?_
  intro p e s m args below meth c s₁ B hml hv
  obtain ⟨rfl, hA, hP, hK, hD⟩ := hv
  have hx := B.exec
  have hb := B.bytes
  have hr := B.returns
  have hts := atoms_spec (ws := wsX0_allowed) B.pre
  have hown : s.vm.findClass RX0 = some m.cls := findClass_of_methodNamed B.named
  have hlocks := B.notSynchronized
  have hS : va_S A s.heap s.heap [] := va_S.rf
  have hl := lv_entry ([.ref (ad (2 + k))]) (n := 1) (Nat.le_of_ble_eq_true rfl)
  rw [lg_entry_eq]
  generalize (lg_sl ([.ref (ad (2 + k))]) ++ List.replicate (1 - (lg_sl ([.ref (ad (2 + k))])).length) Slot.unset).toArray = ls at hl ⊢
  have hl : lv_has ls 1 [(0, .ref (ad (2 + k)))] := hl
  rw [fX0_allowed] at h
  refine lv_iconst (v := (2 : Int32)) hx hb dX0_allowed_0 (by decide) ?_
  refine lv_aload_n hx hb dX0_allowed_1 rfl (lv_at hl 0 rfl) ?_
  refine va_get (D := D) (ci := 0) (v := .int (S.2.1 k)) (C := RX0) (T := TX0) (N := 4) hx hb hts (by decide +kernel) hown hK hP (2 + k) (qg_C hix) rfl 3 (by decide) (hts (.fieldLink RX0 32 "QueueMiddles$Counter" "thousandths" "I") (by decide +kernel)) (fun _ h9 => h9) rfl dX0_allowed_2 ?_
  refine lv_imul hx hb dX0_allowed_5 ?_
  refine lv_aload_n hx hb dX0_allowed_6 rfl (lv_at hl 0 rfl) ?_
  refine va_get (D := D) (ci := 0) (v := .ref (ad (10 + k))) (C := RX0) (T := TX0) (N := 4) hx hb hts (by decide +kernel) hown hK hP (2 + k) (qg_C hix) rfl 1 (by decide) (hts (.fieldLink RX0 21 "QueueMiddles$Counter" "numbers" "LQueueMiddles$Tally;") (by decide +kernel)) (fun _ h9 => h9) rfl dX0_allowed_7 ?_
  refine va_calli (va_runV (As := []) (rest := [.int ((2 : Int32) * (S.2.1 k))]) ⟨hx, hb, hml, hown, hts⟩ (nX5_total l D A ad cI cQ rest S k hix) (cwV 0 hts gX0_allowed_X5_total rfl rfl rfl (by decide +kernel) ⟨Nat.le_of_ble_eq_true rfl, Nat.le_of_ble_eq_true rfl⟩) ⟨qm_blind, va_recv hK hP (ci := 5) (q0 := (10 + k)) rfl (qg_T hix), fun U hU hW => ⟨rfl, qm_go hA hS hP hK hD hU hW⟩⟩ rfl rfl hl.1 rfl (lv_room (Nat.le_of_ble_eq_true rfl)) dX0_allowed_10 ⟨Nat.le_of_ble_eq_true rfl, Nat.le_of_ble_eq_true rfl⟩) hS (fun _ _ h9 => h9) (fun _ h9 => h9) (fun v u t H1 locs1 ht hvm hw hB hz1 hk1 hS => ?_)
  obtain ⟨hw1, hw2⟩ := hw
  have hw1 : (S.2.2 k) = v := hw1.symm
  have hw2 : S = u := hw2.symm
  subst hw1
  subst hw2
  obtain ⟨hP, hD⟩ := qm_bk ht hB
  refine lv_imul hx hb dX0_allowed_13 ?_
  refine lv_sipush (v := (1000 : Int32)) hx hb dX0_allowed_14 (by decide) ?_
  refine lv_idiv hx hb dX0_allowed_17 (by decide) ?_
  have h := Option.some.inj h
  subst h
  exact W.iret (v := (((2 : Int32) * (S.2.1 k)) * (S.2.2 k)) / (1000 : Int32)) hx hb hr (fun t ht hW => ⟨⟨(((2 : Int32) * (S.2.1 k)) * (S.2.2 k)) / (1000 : Int32), S, rfl, ⟨rfl, rfl⟩, qm_en ht hP hD⟩, hS.F ht⟩) hS.2.2 dX0_allowed_18
theorem eX0_allowed (S : qm_S) (k : Nat) : fX0_allowed S k = some ((((2 : Int32) * (S.2.1 k)) * (S.2.2 k)) / (1000 : Int32)) := by
  rfl
theorem nX0_allowed (l : Launch) (D : va_G) (A : Nat → Prop) (ad : Nat → Nat) (cI cQ : ClassId) (rest : va_W) (S : qm_S) (k : Nat) (hix : k < 4) : Met l yX0_allowed wsX0_allowed ({ frames := 1, cells := 0, slots := 0, locals := 20 }) (va_Pc [.ref (ad (2 + k))] (qm_B D A (qm_T cI cQ) (qm_W ad cI cQ rest S))) (qm_Qi D A (qm_W ad cI cQ rest) (((((2 : Int32) * (S.2.1 k)) * (S.2.2 k)) / (1000 : Int32)), S)) 0 0 A :=
  kX0_allowed l D A ad cI cQ rest S k hix _ (eX0_allowed S k)
noncomputable def fX0_rankAt (S : qm_S) (k : Nat) (p0 : Int32) : Option (Int32) :=
  some (if (1 : Int32) < ((((p0 * (S.2.2 k)) + (1000 : Int32)) - (1 : Int32)) / (1000 : Int32)) then (((p0 * (S.2.2 k)) + (1000 : Int32)) - (1 : Int32)) / (1000 : Int32) else (1 : Int32))
set_option maxHeartbeats 4000000 in
set_option maxRecDepth 100000 in
theorem kX0_rankAt (l : Launch) (D : va_G) (A : Nat → Prop) (ad : Nat → Nat) (cI cQ : ClassId) (rest : va_W) (S : qm_S) (k : Nat) (hix : k < 4) (p0 : Int32) (z : Int32) (h : fX0_rankAt S k p0 = some z) : Met l yX0_rankAt wsX0_rankAt ({ frames := 1, cells := 0, slots := 0, locals := 21 }) (va_Pc [.ref (ad (2 + k)), .int p0] (qm_B D A (qm_T cI cQ) (qm_W ad cI cQ rest S))) (qm_Qi D A (qm_W ad cI cQ rest) (z, S)) 0 0 A := by
  refine Met.ofW (cc := cX0_rankAt) (maxL := 2) (ret := (some .int)) (by decide) rfl ?_
  intro p e s m args below meth c s₁ B hml hv
  obtain ⟨rfl, hA, hP, hK, hD⟩ := hv
  have hx := B.exec
  have hb := B.bytes
  have hr := B.returns
  have hts := atoms_spec (ws := wsX0_rankAt) B.pre
  have hown : s.vm.findClass RX0 = some m.cls := findClass_of_methodNamed B.named
  have hlocks := B.notSynchronized
  have hS : va_S A s.heap s.heap [] := va_S.rf
  have hl := lv_entry ([.ref (ad (2 + k)), .int p0]) (n := 2) (Nat.le_of_ble_eq_true rfl)
  rw [lg_entry_eq]
  generalize (lg_sl ([.ref (ad (2 + k)), .int p0]) ++ List.replicate (2 - (lg_sl ([.ref (ad (2 + k)), .int p0])).length) Slot.unset).toArray = ls at hl ⊢
  have hl : lv_has ls 2 [(0, .ref (ad (2 + k))), (1, .int p0)] := hl
  rw [fX0_rankAt] at h
  refine lv_iconst (v := (1 : Int32)) hx hb dX0_rankAt_0 (by decide) ?_
  refine lv_iload_n hx hb dX0_rankAt_1 rfl (lv_at hl 1 rfl) ?_
  refine lv_aload_n hx hb dX0_rankAt_2 rfl (lv_at hl 0 rfl) ?_
  refine va_get (D := D) (ci := 0) (v := .ref (ad (10 + k))) (C := RX0) (T := TX0) (N := 4) hx hb hts (by decide +kernel) hown hK hP (2 + k) (qg_C hix) rfl 1 (by decide) (hts (.fieldLink RX0 21 "QueueMiddles$Counter" "numbers" "LQueueMiddles$Tally;") (by decide +kernel)) (fun _ h9 => h9) rfl dX0_rankAt_3 ?_
  refine va_calli (va_runV (As := []) (rest := [.int p0, .int (1 : Int32)]) ⟨hx, hb, hml, hown, hts⟩ (nX5_total l D A ad cI cQ rest S k hix) (cwV 0 hts gX0_rankAt_X5_total rfl rfl rfl (by decide +kernel) ⟨Nat.le_of_ble_eq_true rfl, Nat.le_of_ble_eq_true rfl⟩) ⟨qm_blind, va_recv hK hP (ci := 5) (q0 := (10 + k)) rfl (qg_T hix), fun U hU hW => ⟨rfl, qm_go hA hS hP hK hD hU hW⟩⟩ rfl rfl hl.1 rfl (lv_room (Nat.le_of_ble_eq_true rfl)) dX0_rankAt_6 ⟨Nat.le_of_ble_eq_true rfl, Nat.le_of_ble_eq_true rfl⟩) hS (fun _ _ h9 => h9) (fun _ h9 => h9) (fun v u t H1 locs1 ht hvm hw hB hz1 hk1 hS => ?_)
  obtain ⟨hw1, hw2⟩ := hw
  have hw1 : (S.2.2 k) = v := hw1.symm
  have hw2 : S = u := hw2.symm
  subst hw1
  subst hw2
  obtain ⟨hP, hD⟩ := qm_bk ht hB
  refine lv_imul hx hb dX0_rankAt_9 ?_
  refine lv_sipush (v := (1000 : Int32)) hx hb dX0_rankAt_10 (by decide) ?_
  refine lv_iadd hx hb dX0_rankAt_13 ?_
  refine lv_iconst (v := (1 : Int32)) hx hb dX0_rankAt_14 (by decide) ?_
  refine lv_isub hx hb dX0_rankAt_15 ?_
  refine lv_sipush (v := (1000 : Int32)) hx hb dX0_rankAt_16 (by decide) ?_
  refine lv_idiv hx hb dX0_rankAt_19 (by decide) ?_
  refine va_mmax hx hb (hml.trans hl.1.symm) hown (hts (.methodLink RX0 54 Lib.Math.max.name) (by decide +kernel)) (hts (.static Lib.Math.max.name) (by decide +kernel)) (hts (.initialized "java/lang/Math") (by decide +kernel)) (hts (.code Lib.Math.max.name Lib.Math.max.code 2 (some .int)) (by decide +kernel)) (Nat.le_of_ble_eq_true rfl) (Nat.le_of_ble_eq_true rfl) (Nat.le_of_ble_eq_true rfl) (Nat.le_of_ble_eq_true rfl) dX0_rankAt_20 ?_
  have h := Option.some.inj h
  subst h
  exact W.iret (v := if (1 : Int32) < ((((p0 * (S.2.2 k)) + (1000 : Int32)) - (1 : Int32)) / (1000 : Int32)) then (((p0 * (S.2.2 k)) + (1000 : Int32)) - (1 : Int32)) / (1000 : Int32) else (1 : Int32)) hx hb hr (fun t ht hW => ⟨⟨if (1 : Int32) < ((((p0 * (S.2.2 k)) + (1000 : Int32)) - (1 : Int32)) / (1000 : Int32)) then (((p0 * (S.2.2 k)) + (1000 : Int32)) - (1 : Int32)) / (1000 : Int32) else (1 : Int32), S, rfl, ⟨rfl, rfl⟩, qm_en ht hP hD⟩, hS.F ht⟩) hS.2.2 dX0_rankAt_23
theorem eX0_rankAt (S : qm_S) (k : Nat) (p0 : Int32) : fX0_rankAt S k p0 = some (if (1 : Int32) < ((((p0 * (S.2.2 k)) + (1000 : Int32)) - (1 : Int32)) / (1000 : Int32)) then (((p0 * (S.2.2 k)) + (1000 : Int32)) - (1 : Int32)) / (1000 : Int32) else (1 : Int32)) := by
  rfl
theorem nX0_rankAt (l : Launch) (D : va_G) (A : Nat → Prop) (ad : Nat → Nat) (cI cQ : ClassId) (rest : va_W) (S : qm_S) (k : Nat) (hix : k < 4) (p0 : Int32) : Met l yX0_rankAt wsX0_rankAt ({ frames := 1, cells := 0, slots := 0, locals := 21 }) (va_Pc [.ref (ad (2 + k)), .int p0] (qm_B D A (qm_T cI cQ) (qm_W ad cI cQ rest S))) (qm_Qi D A (qm_W ad cI cQ rest) ((if (1 : Int32) < ((((p0 * (S.2.2 k)) + (1000 : Int32)) - (1 : Int32)) / (1000 : Int32)) then (((p0 * (S.2.2 k)) + (1000 : Int32)) - (1 : Int32)) / (1000 : Int32) else (1 : Int32)), S)) 0 0 A :=
  kX0_rankAt l D A ad cI cQ rest S k hix p0 _ (eX0_rankAt S k p0)
noncomputable def fX0_take (S : qm_S) (k : Nat) (p0 : Int32) : Option (qm_S) :=
  Option.bind (fX3_add S k p0) (fun z_1 => Option.bind (fX5_add z_1 k p0 (1 : Int32)) (fun z_3 => Option.bind (fX1_add z_3 k p0) (fun z_5 => some z_5)))
set_option maxHeartbeats 4000000 in
set_option maxRecDepth 100000 in
theorem kX0_take (l : Launch) (D : va_G) (A : Nat → Prop) (ad : Nat → Nat) (cI cQ : ClassId) (rest : va_W) (S : qm_S) (k : Nat) (hix : k < 4) (p0 : Int32) (z : qm_S) (h : fX0_take S k p0 = some z) : Met l yX0_take wsX0_take ({ frames := 5, cells := 0, slots := 0, locals := 126 }) (va_Pc [.ref (ad (2 + k)), .int p0] (qm_B D A (qm_T cI cQ) (qm_W ad cI cQ rest S))) (qm_Qv D A (qm_W ad cI cQ rest) z) 0 0 A := by
  refine Met.ofW (cc := cX0_take) (maxL := 2) (ret := none) (by decide) rfl ?_
  intro p e s m args below meth c s₁ B hml hv
  obtain ⟨rfl, hA, hP, hK, hD⟩ := hv
  have hx := B.exec
  have hb := B.bytes
  have hr := B.returns
  have hts := atoms_spec (ws := wsX0_take) B.pre
  have hown : s.vm.findClass RX0 = some m.cls := findClass_of_methodNamed B.named
  have hlocks := B.notSynchronized
  have hS : va_S A s.heap s.heap [] := va_S.rf
  have hl := lv_entry ([.ref (ad (2 + k)), .int p0]) (n := 2) (Nat.le_of_ble_eq_true rfl)
  rw [lg_entry_eq]
  generalize (lg_sl ([.ref (ad (2 + k)), .int p0]) ++ List.replicate (2 - (lg_sl ([.ref (ad (2 + k)), .int p0])).length) Slot.unset).toArray = ls at hl ⊢
  have hl : lv_has ls 2 [(0, .ref (ad (2 + k))), (1, .int p0)] := hl
  rw [fX0_take] at h
  refine lv_aload_n hx hb dX0_take_0 rfl (lv_at hl 0 rfl) ?_
  refine va_get (D := D) (ci := 0) (v := .ref (ad (6 + k))) (C := RX0) (T := TX0) (N := 4) hx hb hts (by decide +kernel) hown hK hP (2 + k) (qg_C hix) rfl 0 (by decide) (hts (.fieldLink RX0 12 "QueueMiddles$Counter" "row" "LQueueMiddles$MarkRow;") (by decide +kernel)) (fun _ h9 => h9) rfl dX0_take_1 ?_
  refine lv_iload_n hx hb dX0_take_4 rfl (lv_at hl 1 rfl) ?_
  obtain ⟨z_1, hz_2, h⟩ := qm_bind h
  refine va_callv (va_runV (As := [.int p0]) (rest := []) ⟨hx, hb, hml, hown, hts⟩ (kX3_add l D A ad cI cQ rest S k hix p0 z_1 hz_2) (cwV 1 hts gX0_take_X3_add rfl rfl rfl (by decide +kernel) ⟨Nat.le_of_ble_eq_true rfl, Nat.le_of_ble_eq_true rfl⟩) ⟨qm_blind, va_recv hK hP (ci := 3) (q0 := (6 + k)) rfl (qg_M hix), fun U hU hW => ⟨rfl, qm_go hA hS hP hK hD hU hW⟩⟩ rfl rfl hl.1 rfl (lv_room (Nat.le_of_ble_eq_true rfl)) dX0_take_5 ⟨Nat.le_of_ble_eq_true rfl, Nat.le_of_ble_eq_true rfl⟩) hS (fun _ _ h9 => h9) (fun _ h9 => h9) (fun u t H1 locs1 ht hvm hw hB hz1 hk1 hS => ?_)
  have hw : z_1 = u := hw.symm
  subst hw
  obtain ⟨hP, hD⟩ := qm_bk ht hB
  refine lv_aload_n hx hb dX0_take_8 rfl (lv_at hl 0 rfl) ?_
  refine va_get (D := D) (ci := 0) (v := .ref (ad (10 + k))) (C := RX0) (T := TX0) (N := 4) hx hb hts (by decide +kernel) hown hK hP (2 + k) (qg_C hix) rfl 1 (by decide) (hts (.fieldLink RX0 21 "QueueMiddles$Counter" "numbers" "LQueueMiddles$Tally;") (by decide +kernel)) (fun _ h9 => h9) rfl dX0_take_9 ?_
  refine lv_iload_n hx hb dX0_take_12 rfl (lv_at hl 1 rfl) ?_
  refine lv_iconst (v := (1 : Int32)) hx hb dX0_take_13 (by decide) ?_
  obtain ⟨z_3, hz_4, h⟩ := qm_bind h
  refine va_callv (va_runV (As := [.int p0, .int (1 : Int32)]) (rest := []) ⟨hx, hb, hml, hown, hts⟩ (kX5_add l D A ad cI cQ rest z_1 k hix p0 (1 : Int32) z_3 hz_4) (cwV 2 hts gX0_take_X5_add rfl rfl rfl (by decide +kernel) ⟨Nat.le_of_ble_eq_true rfl, Nat.le_of_ble_eq_true rfl⟩) ⟨qm_blind, va_recv hK hP (ci := 5) (q0 := (10 + k)) rfl (qg_T hix), fun U hU hW => ⟨rfl, qm_go hA hS hP hK hD hU hW⟩⟩ rfl rfl hl.1 rfl (lv_room (Nat.le_of_ble_eq_true rfl)) dX0_take_14 ⟨Nat.le_of_ble_eq_true rfl, Nat.le_of_ble_eq_true rfl⟩) hS (fun _ _ h9 => h9) (fun _ h9 => h9) (fun u t H1 locs1 ht hvm hw hB hz1 hk1 hS => ?_)
  have hw : z_3 = u := hw.symm
  subst hw
  obtain ⟨hP, hD⟩ := qm_bk ht hB
  refine lv_aload_n hx hb dX0_take_17 rfl (lv_at hl 0 rfl) ?_
  refine va_get (D := D) (ci := 0) (v := .ref (ad (14 + k))) (C := RX0) (T := TX0) (N := 4) hx hb hts (by decide +kernel) hown hK hP (2 + k) (qg_C hix) rfl 2 (by decide) (hts (.fieldLink RX0 28 "QueueMiddles$Counter" "halves" "LQueueMiddles$Halves;") (by decide +kernel)) (fun _ h9 => h9) rfl dX0_take_18 ?_
  refine lv_iload_n hx hb dX0_take_21 rfl (lv_at hl 1 rfl) ?_
  obtain ⟨z_5, hz_6, h⟩ := qm_bind h
  refine va_callv (va_runV (As := [.int p0]) (rest := []) ⟨hx, hb, hml, hown, hts⟩ (kX1_add l D A ad cI cQ rest z_3 k hix p0 z_5 hz_6) (cwV 1 hts gX0_take_X1_add rfl rfl rfl (by decide +kernel) ⟨Nat.le_of_ble_eq_true rfl, Nat.le_of_ble_eq_true rfl⟩) ⟨qm_blind, va_recv hK hP (ci := 1) (q0 := (14 + k)) rfl (qg_H hix), fun U hU hW => ⟨rfl, qm_go hA hS hP hK hD hU hW⟩⟩ rfl rfl hl.1 rfl (lv_room (Nat.le_of_ble_eq_true rfl)) dX0_take_22 ⟨Nat.le_of_ble_eq_true rfl, Nat.le_of_ble_eq_true rfl⟩) hS (fun _ _ h9 => h9) (fun _ h9 => h9) (fun u t H1 locs1 ht hvm hw hB hz1 hk1 hS => ?_)
  have hw : z_5 = u := hw.symm
  subst hw
  obtain ⟨hP, hD⟩ := qm_bk ht hB
  have h := Option.some.inj h
  subst h
  exact W.vret hx hb hr (fun t ht hW => ⟨⟨z_5, rfl, rfl, qm_en ht hP hD⟩, hS.F ht⟩) hS.2.2 dX0_take_25
noncomputable def fX0_takeAll_L71 (n0 : Nat) (n1 : Nat) (x2 : Int32) (x3 : Int32) (x4 : Int32) : Nat → Int32 → qm_S → Option (qm_S)
  | 0, _, _ => none
  | fuel + 1, v5, S =>
    (if x4 ≤ v5 then some S else Option.bind (fX1_add S n0 x3) (fun z_7 => fX0_takeAll_L71 n0 n1 x2 x3 x4 fuel (v5 + (1 : Int32)) z_7))
noncomputable def fX0_takeAll_L28 (n0 : Nat) (n1 : Nat) : Nat → Int32 → qm_S → Option (qm_S)
  | 0, _, _ => none
  | fuel + 1, v2, S =>
    (if ((S.1 (12 + n1)).1) ≤ v2 then some S else Option.bind (fX5_add S n0 (rw_at (S.1 (12 + n1)) v2) (rw_at (S.1 (16 + n1)) v2)) (fun z_4 => Option.bind (fX0_takeAll_L71 n0 n1 v2 (rw_at (S.1 (12 + n1)) v2) (rw_at (S.1 (16 + n1)) v2) qm_F (0 : Int32) z_4) (fun z_11 => fX0_takeAll_L28 n0 n1 fuel (v2 + (1 : Int32)) z_11)))
noncomputable def fX0_takeAll (S : qm_S) (k : Nat) (o0 : Nat) : Option (qm_S) :=
  Option.bind (fX3_mergeWith (qm_th S k (if (S.2.1 k) < (S.2.1 o0) then S.2.1 o0 else S.2.1 k)) k o0) (fun z_1 => Option.bind (fX0_takeAll_L28 k o0 qm_F (0 : Int32) z_1) (fun z_15 => some z_15))
set_option maxHeartbeats 4000000 in
set_option maxRecDepth 100000 in
theorem kX0_takeAll (l : Launch) (D : va_G) (A : Nat → Prop) (ad : Nat → Nat) (cI cQ : ClassId) (rest : va_W) (S : qm_S) (k : Nat) (hix : k < 4) (o0 : Nat) (ho0 : o0 < 4) (z : qm_S) (h : fX0_takeAll S k o0 = some z) : Met l yX0_takeAll wsX0_takeAll ({ frames := 5, cells := 0, slots := 0, locals := 126 }) (va_Pc [.ref (ad (2 + k)), .ref (ad (2 + o0))] (qm_B D A (qm_T cI cQ) (qm_W ad cI cQ rest S))) (qm_Qv D A (qm_W ad cI cQ rest) z) 0 0 A := by
  refine Met.ofW (cc := cX0_takeAll) (maxL := 6) (ret := none) (by decide) rfl ?_
  intro p e s m args below meth c s₁ B hml hv
  obtain ⟨rfl, hA, hP, hK, hD⟩ := hv
  have hx := B.exec
  have hb := B.bytes
  have hr := B.returns
  have hts := atoms_spec (ws := wsX0_takeAll) B.pre
  have hown : s.vm.findClass RX0 = some m.cls := findClass_of_methodNamed B.named
  have hlocks := B.notSynchronized
  have hS : va_S A s.heap s.heap [] := va_S.rf
  have hl := lv_entry ([.ref (ad (2 + k)), .ref (ad (2 + o0))]) (n := 6) (Nat.le_of_ble_eq_true rfl)
  rw [lg_entry_eq]
  generalize (lg_sl ([.ref (ad (2 + k)), .ref (ad (2 + o0))]) ++ List.replicate (6 - (lg_sl ([.ref (ad (2 + k)), .ref (ad (2 + o0))])).length) Slot.unset).toArray = ls at hl ⊢
  have hl : lv_has ls 6 [(0, .ref (ad (2 + k))), (1, .ref (ad (2 + o0)))] := hl
  obtain ⟨QX, hQX⟩ : ∃ q, q = MQ below (qm_Qv D A (qm_W ad cI cQ rest) z) ([.ref (ad (2 + k)), .ref (ad (2 + o0))] : List Value).toArray s 0 0 A := ⟨_, rfl⟩
  rw [← hQX]
  rw [fX0_takeAll] at h
  refine lv_aload_n hx hb dX0_takeAll_0 rfl (lv_at hl 0 rfl) ?_
  refine lv_aload_n hx hb dX0_takeAll_1 rfl (lv_at hl 0 rfl) ?_
  refine va_get (D := D) (ci := 0) (v := .int (S.2.1 k)) (C := RX0) (T := TX0) (N := 4) hx hb hts (by decide +kernel) hown hK hP (2 + k) (qg_C hix) rfl 3 (by decide) (hts (.fieldLink RX0 32 "QueueMiddles$Counter" "thousandths" "I") (by decide +kernel)) (fun _ h9 => h9) rfl dX0_takeAll_2 ?_
  refine lv_aload_n hx hb dX0_takeAll_5 rfl (lv_at hl 1 rfl) ?_
  refine va_get (D := D) (ci := 0) (v := .int (S.2.1 o0)) (C := RX0) (T := TX0) (N := 4) hx hb hts (by decide +kernel) hown hK hP (2 + o0) (qg_C ho0) rfl 3 (by decide) (hts (.fieldLink RX0 32 "QueueMiddles$Counter" "thousandths" "I") (by decide +kernel)) (fun _ h9 => h9) rfl dX0_takeAll_6 ?_
  refine va_mmax hx hb (hml.trans hl.1.symm) hown (hts (.methodLink RX0 54 Lib.Math.max.name) (by decide +kernel)) (hts (.static Lib.Math.max.name) (by decide +kernel)) (hts (.initialized "java/lang/Math") (by decide +kernel)) (hts (.code Lib.Math.max.name Lib.Math.max.code 2 (some .int)) (by decide +kernel)) (Nat.le_of_ble_eq_true rfl) (Nat.le_of_ble_eq_true rfl) (Nat.le_of_ble_eq_true rfl) (Nat.le_of_ble_eq_true rfl) dX0_takeAll_9 ?_
  refine va_put (D := D) (ci := 0) (v := .int (if (S.2.1 k) < (S.2.1 o0) then S.2.1 o0 else S.2.1 k)) (ty := .int) (C := RX0) (T := TX0) (N := 4) hx hb hts (by decide +kernel) tyX0 tyX0_ok nmX0 hown hK hP hD hS (2 + k) (qg_C hix) rfl 3 (by decide) (hts (.fieldLink RX0 32 "QueueMiddles$Counter" "thousandths" "I") (by decide +kernel)) (fun _ h9 => h9) rfl (by decide +kernel) rfl rfl (Nat.le_of_ble_eq_true rfl) dX0_takeAll_12 (fun H locs hP hD hS => ?_)
  rw [qs_th hix (if (S.2.1 k) < (S.2.1 o0) then S.2.1 o0 else S.2.1 k)] at hP hD
  refine lv_aload_n hx hb dX0_takeAll_15 rfl (lv_at hl 0 rfl) ?_
  refine va_get (D := D) (ci := 0) (v := .ref (ad (6 + k))) (C := RX0) (T := TX0) (N := 4) hx hb hts (by decide +kernel) hown hK hP (2 + k) (qg_C hix) rfl 0 (by decide) (hts (.fieldLink RX0 12 "QueueMiddles$Counter" "row" "LQueueMiddles$MarkRow;") (by decide +kernel)) (fun _ h9 => h9) rfl dX0_takeAll_16 ?_
  refine lv_aload_n hx hb dX0_takeAll_19 rfl (lv_at hl 1 rfl) ?_
  refine va_get (D := D) (ci := 0) (v := .ref (ad (6 + o0))) (C := RX0) (T := TX0) (N := 4) hx hb hts (by decide +kernel) hown hK hP (2 + o0) (qg_C ho0) rfl 0 (by decide) (hts (.fieldLink RX0 12 "QueueMiddles$Counter" "row" "LQueueMiddles$MarkRow;") (by decide +kernel)) (fun _ h9 => h9) rfl dX0_takeAll_20 ?_
  obtain ⟨z_1, hz_2, h⟩ := qm_bind h
  refine va_callv (va_runV (As := [.ref (ad (6 + o0))]) (rest := []) ⟨hx, hb, hml, hown, hts⟩ (kX3_mergeWith l D A ad cI cQ rest (qm_th S k (if (S.2.1 k) < (S.2.1 o0) then S.2.1 o0 else S.2.1 k)) k hix o0 ho0 z_1 hz_2) (cwV 1 hts gX0_takeAll_X3_mergeWith rfl rfl rfl (by decide +kernel) ⟨Nat.le_of_ble_eq_true rfl, Nat.le_of_ble_eq_true rfl⟩) ⟨qm_blind, va_recv hK hP (ci := 3) (q0 := (6 + k)) rfl (qg_M hix), fun U hU hW => ⟨rfl, qm_go hA hS hP hK hD hU hW⟩⟩ rfl rfl hl.1 rfl (lv_room (Nat.le_of_ble_eq_true rfl)) dX0_takeAll_23 ⟨Nat.le_of_ble_eq_true rfl, Nat.le_of_ble_eq_true rfl⟩) hS (fun _ _ h9 => h9) (fun _ h9 => h9) (fun u t H1 locs1 ht hvm hw hB hz1 hk1 hS => ?_)
  have hw : z_1 = u := hw.symm
  subst hw
  obtain ⟨hP, hD⟩ := qm_bk ht hB
  refine lv_iconst (v := (0 : Int32)) hx hb dX0_takeAll_26 (by decide) ?_
  refine lv_istore_n (lv' := [(2, .int (0 : Int32)), (0, .ref (ad (2 + k))), (1, .ref (ad (2 + o0)))]) hx hb dX0_takeAll_27 rfl hl (by decide) rfl (fun ls hl => ?_)
  have loop_4 : ∀ (fuel : Nat) (v2_3 : Int32) (S_3 : qm_S) (z : qm_S), fX0_takeAll_L28 k o0 fuel v2_3 S_3 = some z → ∀ (H : Heap) (locs : List Loc) (ls : Array Slot), va_P D vwCl (qm_W ad cI cQ rest S_3) H → va_D A (qm_W ad cI cQ rest S_3) → va_S A s.heap H locs → lv_has ls 6 [(0, .ref (ad (2 + k))), (1, .ref (ad (2 + o0))), (2, .int v2_3)] → (∀ (H : Heap) (locs : List Loc) (ls : Array Slot), va_P D vwCl (qm_W ad cI cQ rest z) H → va_D A (qm_W ad cI cQ rest z) → va_S A s.heap H locs → lv_has ls 6 [] → W p l e ({ frames := 5, cells := 0, slots := 0, locals := 126 } : Room) s m ([.ref (ad (2 + k)), .ref (ad (2 + o0))] : List Value).toArray below meth c H locs 0 0 QX (F0 m 98 ls [])) → W p l e ({ frames := 5, cells := 0, slots := 0, locals := 126 } : Room) s m ([.ref (ad (2 + k)), .ref (ad (2 + o0))] : List Value).toArray below meth c H locs 0 0 QX (F0 m 28 ls []) := by
    intro fuel
    induction fuel with
    | zero =>
      intro v2_3 S_3 z h
      rw [fX0_takeAll_L28] at h
      cases h
    | succ fuel ih =>
      intro v2_3 S_3 z h H locs ls hP hD hS hl kex
      rw [fX0_takeAll_L28] at h
      refine lv_iload_n hx hb dX0_takeAll_28 rfl (lv_at hl 2 rfl) ?_
      refine lv_aload_n hx hb dX0_takeAll_29 rfl (lv_at hl 1 rfl) ?_
      refine va_get (D := D) (ci := 0) (v := .ref (ad (10 + o0))) (C := RX0) (T := TX0) (N := 4) hx hb hts (by decide +kernel) hown hK hP (2 + o0) (qg_C ho0) rfl 1 (by decide) (hts (.fieldLink RX0 21 "QueueMiddles$Counter" "numbers" "LQueueMiddles$Tally;") (by decide +kernel)) (fun _ h9 => h9) rfl dX0_takeAll_30 ?_
      refine va_calli (va_runV (As := []) (rest := [.int v2_3]) ⟨hx, hb, hml, hown, hts⟩ (nX5_kinds l D A ad cI cQ rest S_3 o0 ho0) (cwV 0 hts gX0_takeAll_X5_kinds rfl rfl rfl (by decide +kernel) ⟨Nat.le_of_ble_eq_true rfl, Nat.le_of_ble_eq_true rfl⟩) ⟨qm_blind, va_recv hK hP (ci := 5) (q0 := (10 + o0)) rfl (qg_T ho0), fun U hU hW => ⟨rfl, qm_go hA hS hP hK hD hU hW⟩⟩ rfl rfl hl.1 rfl (lv_room (Nat.le_of_ble_eq_true rfl)) dX0_takeAll_33 ⟨Nat.le_of_ble_eq_true rfl, Nat.le_of_ble_eq_true rfl⟩) hS (fun _ _ h9 => h9) (fun _ h9 => h9) (fun v u t H1 locs1 ht hvm hw hB hz1 hk1 hS => ?_)
      obtain ⟨hw1, hw2⟩ := hw
      have hw1 : ((S_3.1 (12 + o0)).1) = v := hw1.symm
      have hw2 : S_3 = u := hw2.symm
      subst hw1
      subst hw2
      obtain ⟨hP, hD⟩ := qm_bk ht hB
      refine lv_icmp_ge (tgt := 98) hx hb dX0_takeAll_36 (by decide) (fun c_5 => ?_) (fun c_5 => ?_)
      · rw [if_pos c_5] at h
        have h := Option.some.inj h
        subst h
        exact kex _ _ _ hP hD hS (lv_sub hl [] rfl)
      · rw [if_neg c_5] at h
        refine lv_aload_n hx hb dX0_takeAll_39 rfl (lv_at hl 1 rfl) ?_
        refine va_get (D := D) (ci := 0) (v := .ref (ad (10 + o0))) (C := RX0) (T := TX0) (N := 4) hx hb hts (by decide +kernel) hown hK hP (2 + o0) (qg_C ho0) rfl 1 (by decide) (hts (.fieldLink RX0 21 "QueueMiddles$Counter" "numbers" "LQueueMiddles$Tally;") (by decide +kernel)) (fun _ h9 => h9) rfl dX0_takeAll_40 ?_
        refine lv_iload_n hx hb dX0_takeAll_43 rfl (lv_at hl 2 rfl) ?_
        refine va_calli (va_runV (As := [.int v2_3]) (rest := []) ⟨hx, hb, hml, hown, hts⟩ (nX5_numberAt l D A ad cI cQ rest S_3 o0 ho0 v2_3) (cwV 1 hts gX0_takeAll_X5_numberAt rfl rfl rfl (by decide +kernel) ⟨Nat.le_of_ble_eq_true rfl, Nat.le_of_ble_eq_true rfl⟩) ⟨qm_blind, va_recv hK hP (ci := 5) (q0 := (10 + o0)) rfl (qg_T ho0), fun U hU hW => ⟨rfl, qm_go hA hS hP hK hD hU hW⟩⟩ rfl rfl hl.1 rfl (lv_room (Nat.le_of_ble_eq_true rfl)) dX0_takeAll_44 ⟨Nat.le_of_ble_eq_true rfl, Nat.le_of_ble_eq_true rfl⟩) hS (fun _ _ h9 => h9) (fun _ h9 => h9) (fun v u t H1 locs1 ht hvm hw hB hz1 hk1 hS => ?_)
        obtain ⟨hw1, hw2⟩ := hw
        have hw1 : (rw_at (S_3.1 (12 + o0)) v2_3) = v := hw1.symm
        have hw2 : S_3 = u := hw2.symm
        subst hw1
        subst hw2
        obtain ⟨hP, hD⟩ := qm_bk ht hB
        refine lv_istore_n (lv' := [(3, .int (rw_at (S_3.1 (12 + o0)) v2_3)), (0, .ref (ad (2 + k))), (1, .ref (ad (2 + o0))), (2, .int v2_3)]) hx hb dX0_takeAll_47 rfl hl (by decide) rfl (fun ls hl => ?_)
        refine lv_aload_n hx hb dX0_takeAll_48 rfl (lv_at hl 2 rfl) ?_
        refine va_get (D := D) (ci := 0) (v := .ref (ad (10 + o0))) (C := RX0) (T := TX0) (N := 4) hx hb hts (by decide +kernel) hown hK hP (2 + o0) (qg_C ho0) rfl 1 (by decide) (hts (.fieldLink RX0 21 "QueueMiddles$Counter" "numbers" "LQueueMiddles$Tally;") (by decide +kernel)) (fun _ h9 => h9) rfl dX0_takeAll_49 ?_
        refine lv_iload_n hx hb dX0_takeAll_52 rfl (lv_at hl 3 rfl) ?_
        refine va_calli (va_runV (As := [.int v2_3]) (rest := []) ⟨hx, hb, hml, hown, hts⟩ (nX5_timesAt l D A ad cI cQ rest S_3 o0 ho0 v2_3) (cwV 1 hts gX0_takeAll_X5_timesAt rfl rfl rfl (by decide +kernel) ⟨Nat.le_of_ble_eq_true rfl, Nat.le_of_ble_eq_true rfl⟩) ⟨qm_blind, va_recv hK hP (ci := 5) (q0 := (10 + o0)) rfl (qg_T ho0), fun U hU hW => ⟨rfl, qm_go hA hS hP hK hD hU hW⟩⟩ rfl rfl hl.1 rfl (lv_room (Nat.le_of_ble_eq_true rfl)) dX0_takeAll_53 ⟨Nat.le_of_ble_eq_true rfl, Nat.le_of_ble_eq_true rfl⟩) hS (fun _ _ h9 => h9) (fun _ h9 => h9) (fun v u t H1 locs1 ht hvm hw hB hz1 hk1 hS => ?_)
        obtain ⟨hw1, hw2⟩ := hw
        have hw1 : (rw_at (S_3.1 (16 + o0)) v2_3) = v := hw1.symm
        have hw2 : S_3 = u := hw2.symm
        subst hw1
        subst hw2
        obtain ⟨hP, hD⟩ := qm_bk ht hB
        refine lv_istore (lv' := [(4, .int (rw_at (S_3.1 (16 + o0)) v2_3)), (3, .int (rw_at (S_3.1 (12 + o0)) v2_3)), (0, .ref (ad (2 + k))), (1, .ref (ad (2 + o0))), (2, .int v2_3)]) hx hb dX0_takeAll_56 hl (by decide) rfl (fun ls hl => ?_)
        refine lv_aload_n hx hb dX0_takeAll_58 rfl (lv_at hl 2 rfl) ?_
        refine va_get (D := D) (ci := 0) (v := .ref (ad (10 + k))) (C := RX0) (T := TX0) (N := 4) hx hb hts (by decide +kernel) hown hK hP (2 + k) (qg_C hix) rfl 1 (by decide) (hts (.fieldLink RX0 21 "QueueMiddles$Counter" "numbers" "LQueueMiddles$Tally;") (by decide +kernel)) (fun _ h9 => h9) rfl dX0_takeAll_59 ?_
        refine lv_iload_n hx hb dX0_takeAll_62 rfl (lv_at hl 1 rfl) ?_
        refine lv_iload hx hb dX0_takeAll_63 (lv_at hl 0 rfl) ?_
        obtain ⟨z_6, hz_7, h⟩ := qm_bind h
        refine va_callv (va_runV (As := [.int (rw_at (S_3.1 (12 + o0)) v2_3), .int (rw_at (S_3.1 (16 + o0)) v2_3)]) (rest := []) ⟨hx, hb, hml, hown, hts⟩ (kX5_add l D A ad cI cQ rest S_3 k hix (rw_at (S_3.1 (12 + o0)) v2_3) (rw_at (S_3.1 (16 + o0)) v2_3) z_6 hz_7) (cwV 2 hts gX0_takeAll_X5_add rfl rfl rfl (by decide +kernel) ⟨Nat.le_of_ble_eq_true rfl, Nat.le_of_ble_eq_true rfl⟩) ⟨qm_blind, va_recv hK hP (ci := 5) (q0 := (10 + k)) rfl (qg_T hix), fun U hU hW => ⟨rfl, qm_go hA hS hP hK hD hU hW⟩⟩ rfl rfl hl.1 rfl (lv_room (Nat.le_of_ble_eq_true rfl)) dX0_takeAll_65 ⟨Nat.le_of_ble_eq_true rfl, Nat.le_of_ble_eq_true rfl⟩) hS (fun _ _ h9 => h9) (fun _ h9 => h9) (fun u t H1 locs1 ht hvm hw hB hz1 hk1 hS => ?_)
        have hw : z_6 = u := hw.symm
        subst hw
        obtain ⟨hP, hD⟩ := qm_bk ht hB
        refine lv_iconst (v := (0 : Int32)) hx hb dX0_takeAll_68 (by decide) ?_
        refine lv_istore (lv' := [(5, .int (0 : Int32)), (4, .int (rw_at (S_3.1 (16 + o0)) v2_3)), (3, .int (rw_at (S_3.1 (12 + o0)) v2_3)), (0, .ref (ad (2 + k))), (1, .ref (ad (2 + o0))), (2, .int v2_3)]) hx hb dX0_takeAll_69 hl (by decide) rfl (fun ls hl => ?_)
        have loop_9 : ∀ (fuel : Nat) (v5_8 : Int32) (S_8 : qm_S) (z : qm_S), fX0_takeAll_L71 k o0 v2_3 (rw_at (S_3.1 (12 + o0)) v2_3) (rw_at (S_3.1 (16 + o0)) v2_3) fuel v5_8 S_8 = some z → ∀ (H : Heap) (locs : List Loc) (ls : Array Slot), va_P D vwCl (qm_W ad cI cQ rest S_8) H → va_D A (qm_W ad cI cQ rest S_8) → va_S A s.heap H locs → lv_has ls 6 [(0, .ref (ad (2 + k))), (1, .ref (ad (2 + o0))), (2, .int v2_3), (3, .int (rw_at (S_3.1 (12 + o0)) v2_3)), (4, .int (rw_at (S_3.1 (16 + o0)) v2_3)), (5, .int v5_8)] → (∀ (H : Heap) (locs : List Loc) (ls : Array Slot), va_P D vwCl (qm_W ad cI cQ rest z) H → va_D A (qm_W ad cI cQ rest z) → va_S A s.heap H locs → lv_has ls 6 [(0, .ref (ad (2 + k))), (1, .ref (ad (2 + o0))), (2, .int v2_3)] → W p l e ({ frames := 5, cells := 0, slots := 0, locals := 126 } : Room) s m ([.ref (ad (2 + k)), .ref (ad (2 + o0))] : List Value).toArray below meth c H locs 0 0 QX (F0 m 92 ls [])) → W p l e ({ frames := 5, cells := 0, slots := 0, locals := 126 } : Room) s m ([.ref (ad (2 + k)), .ref (ad (2 + o0))] : List Value).toArray below meth c H locs 0 0 QX (F0 m 71 ls []) := by
          intro fuel
          induction fuel with
          | zero =>
            intro v5_8 S_8 z h
            rw [fX0_takeAll_L71] at h
            cases h
          | succ fuel ih =>
            intro v5_8 S_8 z h H locs ls hP hD hS hl kex
            rw [fX0_takeAll_L71] at h
            refine lv_iload hx hb dX0_takeAll_71 (lv_at hl 5 rfl) ?_
            refine lv_iload hx hb dX0_takeAll_73 (lv_at hl 4 rfl) ?_
            refine lv_icmp_ge (tgt := 92) hx hb dX0_takeAll_75 (by decide) (fun c_10 => ?_) (fun c_10 => ?_)
            · rw [if_pos c_10] at h
              have h := Option.some.inj h
              subst h
              exact kex _ _ _ hP hD hS (lv_sub hl [0, 1, 2] rfl)
            · rw [if_neg c_10] at h
              refine lv_aload_n hx hb dX0_takeAll_78 rfl (lv_at hl 0 rfl) ?_
              refine va_get (D := D) (ci := 0) (v := .ref (ad (14 + k))) (C := RX0) (T := TX0) (N := 4) hx hb hts (by decide +kernel) hown hK hP (2 + k) (qg_C hix) rfl 2 (by decide) (hts (.fieldLink RX0 28 "QueueMiddles$Counter" "halves" "LQueueMiddles$Halves;") (by decide +kernel)) (fun _ h9 => h9) rfl dX0_takeAll_79 ?_
              refine lv_iload_n hx hb dX0_takeAll_82 rfl (lv_at hl 3 rfl) ?_
              obtain ⟨z_11, hz_12, h⟩ := qm_bind h
              refine va_callv (va_runV (As := [.int (rw_at (S_3.1 (12 + o0)) v2_3)]) (rest := []) ⟨hx, hb, hml, hown, hts⟩ (kX1_add l D A ad cI cQ rest S_8 k hix (rw_at (S_3.1 (12 + o0)) v2_3) z_11 hz_12) (cwV 1 hts gX0_takeAll_X1_add rfl rfl rfl (by decide +kernel) ⟨Nat.le_of_ble_eq_true rfl, Nat.le_of_ble_eq_true rfl⟩) ⟨qm_blind, va_recv hK hP (ci := 1) (q0 := (14 + k)) rfl (qg_H hix), fun U hU hW => ⟨rfl, qm_go hA hS hP hK hD hU hW⟩⟩ rfl rfl hl.1 rfl (lv_room (Nat.le_of_ble_eq_true rfl)) dX0_takeAll_83 ⟨Nat.le_of_ble_eq_true rfl, Nat.le_of_ble_eq_true rfl⟩) hS (fun _ _ h9 => h9) (fun _ h9 => h9) (fun u t H1 locs1 ht hvm hw hB hz1 hk1 hS => ?_)
              have hw : z_11 = u := hw.symm
              subst hw
              obtain ⟨hP, hD⟩ := qm_bk ht hB
              refine lv_iinc (v := v5_8 + (1 : Int32)) (lv' := [(5, .int (v5_8 + (1 : Int32))), (0, .ref (ad (2 + k))), (1, .ref (ad (2 + o0))), (2, .int v2_3), (3, .int (rw_at (S_3.1 (12 + o0)) v2_3)), (4, .int (rw_at (S_3.1 (16 + o0)) v2_3))]) hx hb dX0_takeAll_86 hl (k := 5) rfl rfl (by decide) rfl (fun ls hl => ?_)
              refine lv_goto (tgt := 71) hx hb dX0_takeAll_89 (by decide) ?_
              exact ih (v5_8 + (1 : Int32)) z_11 z h _ _ _ hP hD hS (lv_sub hl [1, 2, 3, 4, 5, 0] rfl) kex
        obtain ⟨z_13, hz_14, h⟩ := qm_bind h
        refine loop_9 qm_F (0 : Int32) z_6 z_13 hz_14 _ _ _ hP hD hS (lv_sub hl [3, 4, 5, 2, 1, 0] rfl) (fun H locs ls hP hD hS hl => ?_)
        refine lv_iinc (v := v2_3 + (1 : Int32)) (lv' := [(2, .int (v2_3 + (1 : Int32))), (0, .ref (ad (2 + k))), (1, .ref (ad (2 + o0)))]) hx hb dX0_takeAll_92 hl (k := 2) rfl rfl (by decide) rfl (fun ls hl => ?_)
        refine lv_goto (tgt := 28) hx hb dX0_takeAll_95 (by decide) ?_
        exact ih (v2_3 + (1 : Int32)) z_13 z h _ _ _ hP hD hS (lv_sub hl [1, 2, 0] rfl) kex
  obtain ⟨z_15, hz_16, h⟩ := qm_bind h
  refine loop_4 qm_F (0 : Int32) z_1 z_15 hz_16 _ _ _ hP hD hS (lv_sub hl [1, 2, 0] rfl) (fun H locs ls hP hD hS hl => ?_)
  have h := Option.some.inj h
  subst h
  rw [hQX]
  exact W.vret hx hb hr (fun t ht hW => ⟨⟨z_15, rfl, rfl, qm_en ht hP hD⟩, hS.F ht⟩) hS.2.2 dX0_takeAll_98
