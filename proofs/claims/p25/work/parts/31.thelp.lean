noncomputable def fX0_demandRoomFor (S : qm_S) (k : Nat) (p0 : Int32) : Option (Unit) :=
  (if ((S.2.2 k) + p0) ≤ (600 : Int32) then some () else none)
set_option maxHeartbeats 4000000 in
set_option maxRecDepth 100000 in
theorem kX0_demandRoomFor (l : Launch) (D : va_G) (A : Nat → Prop) (ad : Nat → Nat) (cI cQ : ClassId) (rest : va_W) (S : qm_S) (k : Nat) (hix : k < 4) (p0 : Int32) (z : Unit) (h : fX0_demandRoomFor S k p0 = some z) : Met l yX0_demandRoomFor wsX0_demandRoomFor ({ frames := 1, cells := 0, slots := 0, locals := 20 }) (va_Pc [.ref (ad (2 + k)), .int p0] (qm_B D A (qm_T cI cQ) (qm_W ad cI cQ rest S))) (qm_Qv D A (qm_W ad cI cQ rest) S) 0 0 A := by
  refine Met.ofW (cc := cX0_demandRoomFor) (maxL := 2) (ret := none) (by decide) rfl ?_
  intro p e s m args below meth c s₁ B hml hv
  obtain ⟨rfl, hA, hP, hK, hD⟩ := hv
  have hx := B.exec
  have hb := B.bytes
  have hr := B.returns
  have hts := atoms_spec (ws := wsX0_demandRoomFor) B.pre
  have hown : s.vm.findClass RX0 = some m.cls := findClass_of_methodNamed B.named
  have hlocks := B.notSynchronized
  have hS : va_S A s.heap s.heap [] := va_S.rf
  have hl := lv_entry ([.ref (ad (2 + k)), .int p0]) (n := 2) (Nat.le_of_ble_eq_true rfl)
  rw [lg_entry_eq]
  generalize (lg_sl ([.ref (ad (2 + k)), .int p0]) ++ List.replicate (2 - (lg_sl ([.ref (ad (2 + k)), .int p0])).length) Slot.unset).toArray = ls at hl ⊢
  have hl : lv_has ls 2 [(0, .ref (ad (2 + k))), (1, .int p0)] := hl
  rw [fX0_demandRoomFor] at h
  refine lv_aload_n hx hb dX0_demandRoomFor_0 rfl (lv_at hl 0 rfl) ?_
  refine va_get (D := D) (ci := 0) (v := .ref (ad (10 + k))) (C := RX0) (T := TX0) (N := 4) hx hb hts (by decide +kernel) hown hK hP (2 + k) (qg_C hix) rfl 1 (by decide) (hts (.fieldLink RX0 21 "QueueMiddles$Counter" "numbers" "LQueueMiddles$Tally;") (by decide +kernel)) (fun _ h9 => h9) rfl dX0_demandRoomFor_1 ?_
  refine va_calli (va_runV (As := []) (rest := []) ⟨hx, hb, hml, hown, hts⟩ (nX5_total l D A ad cI cQ rest S k hix) (cwV 0 hts gX0_demandRoomFor_X5_total rfl rfl rfl (by decide +kernel) ⟨Nat.le_of_ble_eq_true rfl, Nat.le_of_ble_eq_true rfl⟩) ⟨qm_blind, va_recv hK hP (ci := 5) (q0 := (10 + k)) rfl (qg_T hix), fun U hU hW => ⟨rfl, qm_go hA hS hP hK hD hU hW⟩⟩ rfl rfl hl.1 rfl (lv_room (Nat.le_of_ble_eq_true rfl)) dX0_demandRoomFor_4 ⟨Nat.le_of_ble_eq_true rfl, Nat.le_of_ble_eq_true rfl⟩) hS (fun _ _ h9 => h9) (fun _ h9 => h9) (fun v u t H1 locs1 ht hvm hw hB hz1 hk1 hS => ?_)
  obtain ⟨hw1, hw2⟩ := hw
  have hw2 : S = u := hw2.symm
  have hw1 : (S.2.2 k) = v := hw1.symm
  subst hw1
  subst hw2
  obtain ⟨hP, hD⟩ := qm_bk ht hB
  clear hB
  refine lv_iload_n hx hb dX0_demandRoomFor_7 rfl (lv_at hl 1 rfl) ?_
  refine lv_iadd hx hb dX0_demandRoomFor_8 ?_
  refine lv_sipush (v := (600 : Int32)) hx hb dX0_demandRoomFor_9 (by decide) ?_
  refine lv_icmp_le (tgt := 25) hx hb dX0_demandRoomFor_12 (by decide) (fun c_1 => ?_) (fun c_1 => ?_)
  · rw [if_pos c_1] at h
    have h := Option.some.inj h
    subst h
    exact W.vret hx hb hr (fun t ht hW => ⟨⟨S, rfl, rfl, qm_en ht hP hD⟩, hS.F ht⟩) hS.2.2 dX0_demandRoomFor_25
  · rw [if_neg c_1] at h
    cases h
noncomputable def fX0_demandNumbers (S : qm_S) (k : Nat) : Option (Unit) :=
  (if 0 < (S.2.2 k) then some () else none)
set_option maxHeartbeats 4000000 in
set_option maxRecDepth 100000 in
theorem kX0_demandNumbers (l : Launch) (D : va_G) (A : Nat → Prop) (ad : Nat → Nat) (cI cQ : ClassId) (rest : va_W) (S : qm_S) (k : Nat) (hix : k < 4) (z : Unit) (h : fX0_demandNumbers S k = some z) : Met l yX0_demandNumbers wsX0_demandNumbers ({ frames := 1, cells := 0, slots := 0, locals := 20 }) (va_Pc [.ref (ad (2 + k))] (qm_B D A (qm_T cI cQ) (qm_W ad cI cQ rest S))) (qm_Qv D A (qm_W ad cI cQ rest) S) 0 0 A := by
  refine Met.ofW (cc := cX0_demandNumbers) (maxL := 1) (ret := none) (by decide) rfl ?_
  intro p e s m args below meth c s₁ B hml hv
  obtain ⟨rfl, hA, hP, hK, hD⟩ := hv
  have hx := B.exec
  have hb := B.bytes
  have hr := B.returns
  have hts := atoms_spec (ws := wsX0_demandNumbers) B.pre
  have hown : s.vm.findClass RX0 = some m.cls := findClass_of_methodNamed B.named
  have hlocks := B.notSynchronized
  have hS : va_S A s.heap s.heap [] := va_S.rf
  have hl := lv_entry ([.ref (ad (2 + k))]) (n := 1) (Nat.le_of_ble_eq_true rfl)
  rw [lg_entry_eq]
  generalize (lg_sl ([.ref (ad (2 + k))]) ++ List.replicate (1 - (lg_sl ([.ref (ad (2 + k))])).length) Slot.unset).toArray = ls at hl ⊢
  have hl : lv_has ls 1 [(0, .ref (ad (2 + k)))] := hl
  rw [fX0_demandNumbers] at h
  refine lv_aload_n hx hb dX0_demandNumbers_0 rfl (lv_at hl 0 rfl) ?_
  refine va_get (D := D) (ci := 0) (v := .ref (ad (10 + k))) (C := RX0) (T := TX0) (N := 4) hx hb hts (by decide +kernel) hown hK hP (2 + k) (qg_C hix) rfl 1 (by decide) (hts (.fieldLink RX0 21 "QueueMiddles$Counter" "numbers" "LQueueMiddles$Tally;") (by decide +kernel)) (fun _ h9 => h9) rfl dX0_demandNumbers_1 ?_
  refine va_calli (va_runV (As := []) (rest := []) ⟨hx, hb, hml, hown, hts⟩ (nX5_total l D A ad cI cQ rest S k hix) (cwV 0 hts gX0_demandNumbers_X5_total rfl rfl rfl (by decide +kernel) ⟨Nat.le_of_ble_eq_true rfl, Nat.le_of_ble_eq_true rfl⟩) ⟨qm_blind, va_recv hK hP (ci := 5) (q0 := (10 + k)) rfl (qg_T hix), fun U hU hW => ⟨rfl, qm_go hA hS hP hK hD hU hW⟩⟩ rfl rfl hl.1 rfl (lv_room (Nat.le_of_ble_eq_true rfl)) dX0_demandNumbers_4 ⟨Nat.le_of_ble_eq_true rfl, Nat.le_of_ble_eq_true rfl⟩) hS (fun _ _ h9 => h9) (fun _ h9 => h9) (fun v u t H1 locs1 ht hvm hw hB hz1 hk1 hS => ?_)
  obtain ⟨hw1, hw2⟩ := hw
  have hw2 : S = u := hw2.symm
  have hw1 : (S.2.2 k) = v := hw1.symm
  subst hw1
  subst hw2
  obtain ⟨hP, hD⟩ := qm_bk ht hB
  clear hB
  refine lv_if_gt (tgt := 20) hx hb dX0_demandNumbers_7 (by decide) (fun c_1 => ?_) (fun c_1 => ?_)
  · rw [if_pos c_1] at h
    have h := Option.some.inj h
    subst h
    exact W.vret hx hb hr (fun t ht hW => ⟨⟨S, rfl, rfl, qm_en ht hP hD⟩, hS.F ht⟩) hS.2.2 dX0_demandNumbers_20
  · rw [if_neg c_1] at h
    cases h
noncomputable def fX6_demandInRange (S : qm_S) (p0 : Int32) : Option (Unit) :=
  (if p0 = 0 then none else some ())
set_option maxHeartbeats 4000000 in
set_option maxRecDepth 100000 in
theorem kX6_demandInRange (l : Launch) (D : va_G) (A : Nat → Prop) (ad : Nat → Nat) (cI cQ : ClassId) (rest : va_W) (S : qm_S) (p0 : Int32) (z : Unit) (h : fX6_demandInRange S p0 = some z) : Met l yX6_demandInRange wsX6_demandInRange ({ frames := 0, cells := 0, slots := 0, locals := 0 }) (va_Pc [.int p0] (qm_B D A (qm_T cI cQ) (qm_W ad cI cQ rest S))) (qm_Qv D A (qm_W ad cI cQ rest) S) 0 0 A := by
  refine Met.ofW (cc := cX6_demandInRange) (maxL := 1) (ret := none) (by decide) rfl ?_
  intro p e s m args below meth c s₁ B hml hv
  obtain ⟨rfl, hA, hP, hK, hD⟩ := hv
  have hx := B.exec
  have hb := B.bytes
  have hr := B.returns
  have hts := atoms_spec (ws := wsX6_demandInRange) B.pre
  have hown : s.vm.findClass RX6 = some m.cls := findClass_of_methodNamed B.named
  have hlocks := B.notSynchronized
  have hS : va_S A s.heap s.heap [] := va_S.rf
  have hl := lv_entry ([.int p0]) (n := 1) (Nat.le_of_ble_eq_true rfl)
  rw [lg_entry_eq]
  generalize (lg_sl ([.int p0]) ++ List.replicate (1 - (lg_sl ([.int p0])).length) Slot.unset).toArray = ls at hl ⊢
  have hl : lv_has ls 1 [(0, .int p0)] := hl
  rw [fX6_demandInRange] at h
  refine lv_iload_n hx hb dX6_demandInRange_0 rfl (lv_at hl 0 rfl) ?_
  refine lv_if_ne (tgt := 14) hx hb dX6_demandInRange_1 (by decide) (fun c_1 => ?_) (fun c_1 => ?_)
  · rw [if_neg c_1] at h
    have h := Option.some.inj h
    subst h
    exact W.vret hx hb hr (fun t ht hW => ⟨⟨S, rfl, rfl, qm_en ht hP hD⟩, hS.F ht⟩) hS.2.2 dX6_demandInRange_14
  · rw [if_pos c_1] at h
    cases h
noncomputable def fX6_isNumber (S : qm_S) (p0 : Int32) : Option (Int32) :=
  (if p0 < (-9999 : Int32) then some (0 : Int32) else (if (9999 : Int32) < p0 then some (0 : Int32) else some (1 : Int32)))
set_option maxHeartbeats 4000000 in
set_option maxRecDepth 100000 in
theorem kX6_isNumber (l : Launch) (D : va_G) (A : Nat → Prop) (ad : Nat → Nat) (cI cQ : ClassId) (rest : va_W) (S : qm_S) (p0 : Int32) (z : Int32) (h : fX6_isNumber S p0 = some z) : Met l yX6_isNumber wsX6_isNumber ({ frames := 0, cells := 0, slots := 0, locals := 0 }) (va_Pc [.int p0] (qm_B D A (qm_T cI cQ) (qm_W ad cI cQ rest S))) (qm_Qi D A (qm_W ad cI cQ rest) (z, S)) 0 0 A := by
  refine Met.ofW (cc := cX6_isNumber) (maxL := 1) (ret := (some .boolean)) (by decide) rfl ?_
  intro p e s m args below meth c s₁ B hml hv
  obtain ⟨rfl, hA, hP, hK, hD⟩ := hv
  have hx := B.exec
  have hb := B.bytes
  have hr := B.returns
  have hts := atoms_spec (ws := wsX6_isNumber) B.pre
  have hown : s.vm.findClass RX6 = some m.cls := findClass_of_methodNamed B.named
  have hlocks := B.notSynchronized
  have hS : va_S A s.heap s.heap [] := va_S.rf
  have hl := lv_entry ([.int p0]) (n := 1) (Nat.le_of_ble_eq_true rfl)
  rw [lg_entry_eq]
  generalize (lg_sl ([.int p0]) ++ List.replicate (1 - (lg_sl ([.int p0])).length) Slot.unset).toArray = ls at hl ⊢
  have hl : lv_has ls 1 [(0, .int p0)] := hl
  rw [fX6_isNumber] at h
  refine lv_iload_n hx hb dX6_isNumber_0 rfl (lv_at hl 0 rfl) ?_
  refine lv_sipush (v := (-9999 : Int32)) hx hb dX6_isNumber_1 (by decide) ?_
  refine lv_icmp_lt (tgt := 18) hx hb dX6_isNumber_4 (by decide) (fun c_1 => ?_) (fun c_1 => ?_)
  · rw [if_pos c_1] at h
    refine lv_iconst (v := (0 : Int32)) hx hb dX6_isNumber_18 (by decide) ?_
    have h := Option.some.inj h
    subst h
    exact W.zret (v := (0 : Int32)) hx hb hr rfl (fun t ht hW => ⟨⟨(0 : Int32), S, rfl, ⟨rfl, rfl⟩, qm_en ht hP hD⟩, hS.F ht⟩) hS.2.2 dX6_isNumber_19
  · rw [if_neg c_1] at h
    refine lv_iload_n hx hb dX6_isNumber_7 rfl (lv_at hl 0 rfl) ?_
    refine lv_sipush (v := (9999 : Int32)) hx hb dX6_isNumber_8 (by decide) ?_
    refine lv_icmp_gt (tgt := 18) hx hb dX6_isNumber_11 (by decide) (fun c_2 => ?_) (fun c_2 => ?_)
    · rw [if_pos c_2] at h
      refine lv_iconst (v := (0 : Int32)) hx hb dX6_isNumber_18 (by decide) ?_
      have h := Option.some.inj h
      subst h
      exact W.zret (v := (0 : Int32)) hx hb hr rfl (fun t ht hW => ⟨⟨(0 : Int32), S, rfl, ⟨rfl, rfl⟩, qm_en ht hP hD⟩, hS.F ht⟩) hS.2.2 dX6_isNumber_19
    · rw [if_neg c_2] at h
      refine lv_iconst (v := (1 : Int32)) hx hb dX6_isNumber_14 (by decide) ?_
      refine lv_goto (tgt := 19) hx hb dX6_isNumber_15 (by decide) ?_
      have h := Option.some.inj h
      subst h
      exact W.zret (v := (1 : Int32)) hx hb hr rfl (fun t ht hW => ⟨⟨(1 : Int32), S, rfl, ⟨rfl, rfl⟩, qm_en ht hP hD⟩, hS.F ht⟩) hS.2.2 dX6_isNumber_19
noncomputable def fX6_counterAt (S : qm_S) (p0 : Int32) : Option (Nat) :=
  (if p0 < 0 then none else (if p0 < (4 : Int32) then qm_gd (vp_in p0 4) (some p0.toNatClampNeg) else none))
set_option maxHeartbeats 4000000 in
set_option maxRecDepth 100000 in
theorem kX6_counterAt (l : Launch) (D : va_G) (A : Nat → Prop) (ad : Nat → Nat) (cI cQ : ClassId) (rest : va_W) (S : qm_S) (p0 : Int32) (z : Nat) (h : fX6_counterAt S p0 = some z) : Met l yX6_counterAt wsX6_counterAt ({ frames := 0, cells := 0, slots := 0, locals := 0 }) (va_Pc [.ref (ad 0), .int p0] (qn_B D A (qm_T cI cQ) (qm_W ad cI cQ rest S))) (qn_Qr D A (qm_W ad cI cQ rest) S (fun i => ad (2 + i)) z) 0 0 A := by
  refine Met.ofW (cc := cX6_counterAt) (maxL := 2) (ret := (some (.object "QueueMiddles$Counter"))) (by decide) rfl ?_
  intro p e s m args below meth c s₁ B hml hv
  obtain ⟨rfl, ⟨hA, hP, hK, hD⟩, hZ⟩ := hv
  have hx := B.exec
  have hb := B.bytes
  have hr := B.returns
  have hts := atoms_spec (ws := wsX6_counterAt) B.pre
  have hown : s.vm.findClass RX6 = some m.cls := findClass_of_methodNamed B.named
  have hlocks := B.notSynchronized
  have hS : va_S A s.heap s.heap [] := va_S.rf
  have hl := lv_entry ([.ref (ad 0), .int p0]) (n := 2) (Nat.le_of_ble_eq_true rfl)
  rw [lg_entry_eq]
  generalize (lg_sl ([.ref (ad 0), .int p0]) ++ List.replicate (2 - (lg_sl ([.ref (ad 0), .int p0])).length) Slot.unset).toArray = ls at hl ⊢
  have hl : lv_has ls 2 [(0, .ref (ad 0)), (1, .int p0)] := hl
  rw [fX6_counterAt] at h
  refine lv_iload_n hx hb dX6_counterAt_0 rfl (lv_at hl 1 rfl) ?_
  refine lv_if_lt (tgt := 13) hx hb dX6_counterAt_1 (by decide) (fun c_1 => ?_) (fun c_1 => ?_)
  · rw [if_pos c_1] at h
    cases h
  · rw [if_neg c_1] at h
    refine lv_iload_n hx hb dX6_counterAt_4 rfl (lv_at hl 1 rfl) ?_
    refine lv_aload_n hx hb dX6_counterAt_5 rfl (lv_at hl 0 rfl) ?_
    refine va_get (D := D) (ci := 6) (v := .ref (ad 1)) (C := RX6) (T := TX6) (N := 1) hx hb hts (by decide +kernel) hown hK hP 0 qg_Q rfl 0 (by decide) (hts (.fieldLink RX6 11 "QueueMiddles" "counters" "[LQueueMiddles$Counter;") (by decide +kernel)) (fun _ h9 => h9) rfl dX6_counterAt_6 ?_
    refine va_alen hx hb hK hP 1 1 qg_CA rfl (v := (4 : Int32)) rfl dX6_counterAt_9 ?_
    refine lv_icmp_lt (tgt := 23) hx hb dX6_counterAt_10 (by decide) (fun c_2 => ?_) (fun c_2 => ?_)
    · rw [if_pos c_2] at h
      refine lv_aload_n hx hb dX6_counterAt_23 rfl (lv_at hl 0 rfl) ?_
      refine va_get (D := D) (ci := 6) (v := .ref (ad 1)) (C := RX6) (T := TX6) (N := 1) hx hb hts (by decide +kernel) hown hK hP 0 qg_Q rfl 0 (by decide) (hts (.fieldLink RX6 11 "QueueMiddles" "counters" "[LQueueMiddles$Counter;") (by decide +kernel)) (fun _ h9 => h9) rfl dX6_counterAt_24 ?_
      refine lv_iload_n hx hb dX6_counterAt_27 rfl (lv_at hl 1 rfl) ?_
      obtain ⟨g_3, h⟩ := qm_gd_some h
      refine va_aldq hx hb hK hP 1 1 qg_CA rfl g_3 dX6_counterAt_28 ?_
      refine W.eq (g2 := F0 m 29 ls [.ref (ad (2 + p0.toNatClampNeg))]) rfl ?_
      have h := Option.some.inj h
      subst h
      exact W.aret (v := .ref (ad (2 + p0.toNatClampNeg))) hx hb hr (Or.inl ⟨_, rfl⟩) (Or.inr ⟨_, rfl⟩) (fun t ht hW => ⟨⟨S, ad (2 + p0.toNatClampNeg), rfl, rfl, ⟨rfl, qm_en ht hP hD⟩⟩, hS.F ht⟩) hS.2.2 dX6_counterAt_29
    · rw [if_neg c_2] at h
      cases h
noncomputable def fX6_rowWith (S : qm_S) (p0 : Int32) (p1 : Int32) : Option (Nat) :=
  Option.bind (fX6_counterAt S p0) (fun z_1 => qm_gd (z_1 < 4) ((if p1 < 0 then none else (if p1 < ((S.1 z_1).1) then some z_1 else none))))
set_option maxHeartbeats 4000000 in
set_option maxRecDepth 100000 in
theorem kX6_rowWith (l : Launch) (D : va_G) (A : Nat → Prop) (ad : Nat → Nat) (cI cQ : ClassId) (rest : va_W) (S : qm_S) (p0 : Int32) (p1 : Int32) (z : Nat) (h : fX6_rowWith S p0 p1 = some z) : Met l yX6_rowWith wsX6_rowWith ({ frames := 2, cells := 0, slots := 0, locals := 40 }) (va_Pc [.ref (ad 0), .int p0, .int p1] (qn_B D A (qm_T cI cQ) (qm_W ad cI cQ rest S))) (qn_Qr D A (qm_W ad cI cQ rest) S (fun i => ad (6 + i)) z) 0 0 A := by
  refine Met.ofW (cc := cX6_rowWith) (maxL := 4) (ret := (some (.object "QueueMiddles$MarkRow"))) (by decide) rfl ?_
  intro p e s m args below meth c s₁ B hml hv
  obtain ⟨rfl, ⟨hA, hP, hK, hD⟩, hZ⟩ := hv
  have hx := B.exec
  have hb := B.bytes
  have hr := B.returns
  have hts := atoms_spec (ws := wsX6_rowWith) B.pre
  have hown : s.vm.findClass RX6 = some m.cls := findClass_of_methodNamed B.named
  have hlocks := B.notSynchronized
  have hS : va_S A s.heap s.heap [] := va_S.rf
  have hl := lv_entry ([.ref (ad 0), .int p0, .int p1]) (n := 4) (Nat.le_of_ble_eq_true rfl)
  rw [lg_entry_eq]
  generalize (lg_sl ([.ref (ad 0), .int p0, .int p1]) ++ List.replicate (4 - (lg_sl ([.ref (ad 0), .int p0, .int p1])).length) Slot.unset).toArray = ls at hl ⊢
  have hl : lv_has ls 4 [(0, .ref (ad 0)), (1, .int p0), (2, .int p1)] := hl
  rw [fX6_rowWith] at h
  refine lv_aload_n hx hb dX6_rowWith_0 rfl (lv_at hl 0 rfl) ?_
  refine lv_iload_n hx hb dX6_rowWith_1 rfl (lv_at hl 1 rfl) ?_
  obtain ⟨z_1, hz_2, h⟩ := qm_bind h
  refine va_callr (va_runV (As := [.int p0]) (rest := []) ⟨hx, hb, hml, hown, hts⟩ (kX6_counterAt l D A ad cI cQ rest S p0 z_1 hz_2) (cwV 1 hts gX6_rowWith_X6_counterAt rfl rfl rfl (by decide +kernel) ⟨Nat.le_of_ble_eq_true rfl, Nat.le_of_ble_eq_true rfl⟩) ⟨qn_blind, va_recv hK hP (ci := 6) (q0 := 0) rfl qg_Q, fun U hU hW => ⟨rfl, qm_go hA hS hP hK hD hU hW, qn_go hZ hW⟩⟩ rfl rfl hl.1 rfl (lv_room (Nat.le_of_ble_eq_true rfl)) dX6_rowWith_2 ⟨Nat.le_of_ble_eq_true rfl, Nat.le_of_ble_eq_true rfl⟩) hS (fun _ _ h9 => h9) (fun _ h9 => h9) (fun u ra t H1 locs1 ht hvm hw hB hz1 hk1 hS => ?_)
  obtain ⟨hra, hB⟩ := hB
  have hra : ad (2 + z_1) = ra := hra.symm
  have hw : S = u := hw.symm
  subst hra
  subst hw
  obtain ⟨hk_3, h⟩ := qm_gd_some h
  obtain ⟨hP, hD⟩ := qm_bk ht hB
  clear hB
  refine va_getN (D := D) (ci := 0) (v := .ref (ad (6 + z_1))) (C := RX0) (T := TX0) (N := 4) hx hb hts (by decide +kernel) hown hK hP (2 + z_1) (qg_C hk_3) rfl 0 (by decide) (va_Nw.use rfl (qz_frow hZ)) (fun _ h9 => h9) rfl dX6_rowWith_5 ?_
  refine lv_astore_n (lv' := [(3, .ref (ad (6 + z_1))), (0, .ref (ad 0)), (1, .int p0), (2, .int p1)]) hx hb dX6_rowWith_8 rfl hl (by decide) rfl (fun ls hl => ?_)
  refine lv_iload_n hx hb dX6_rowWith_9 rfl (lv_at hl 3 rfl) ?_
  refine lv_if_lt (tgt := 21) hx hb dX6_rowWith_10 (by decide) (fun c_4 => ?_) (fun c_4 => ?_)
  · rw [if_pos c_4] at h
    cases h
  · rw [if_neg c_4] at h
    refine lv_iload_n hx hb dX6_rowWith_13 rfl (lv_at hl 3 rfl) ?_
    refine lv_aload_n hx hb dX6_rowWith_14 rfl (lv_at hl 0 rfl) ?_
    refine va_calli (va_runV (As := []) (rest := [.int p1]) ⟨hx, hb, hml, hown, hts⟩ (nX3_length l D A ad cI cQ rest S z_1 hk_3) (cwV 0 hts gX6_rowWith_X3_length rfl rfl rfl (by decide +kernel) ⟨Nat.le_of_ble_eq_true rfl, Nat.le_of_ble_eq_true rfl⟩) ⟨qm_blind, va_recv hK hP (ci := 3) (q0 := (6 + z_1)) rfl (qg_M hk_3), fun U hU hW => ⟨rfl, qm_go hA hS hP hK hD hU hW⟩⟩ rfl rfl hl.1 rfl (lv_room (Nat.le_of_ble_eq_true rfl)) dX6_rowWith_15 ⟨Nat.le_of_ble_eq_true rfl, Nat.le_of_ble_eq_true rfl⟩) hS (fun _ _ h9 => h9) (fun _ h9 => h9) (fun v u t H1 locs1 ht hvm hw hB hz1 hk1 hS => ?_)
    obtain ⟨hw1, hw2⟩ := hw
    have hw2 : S = u := hw2.symm
    have hw1 : ((S.1 z_1).1) = v := hw1.symm
    subst hw1
    subst hw2
    obtain ⟨hP, hD⟩ := qm_bk ht hB
    clear hB
    refine lv_icmp_lt (tgt := 31) hx hb dX6_rowWith_18 (by decide) (fun c_5 => ?_) (fun c_5 => ?_)
    · rw [if_pos c_5] at h
      refine lv_aload_n hx hb dX6_rowWith_31 rfl (lv_at hl 0 rfl) ?_
      have h := Option.some.inj h
      subst h
      exact W.aret (v := .ref (ad (6 + z_1))) hx hb hr (Or.inl ⟨_, rfl⟩) (Or.inr ⟨_, rfl⟩) (fun t ht hW => ⟨⟨S, ad (6 + z_1), rfl, rfl, ⟨rfl, qm_en ht hP hD⟩⟩, hS.F ht⟩) hS.2.2 dX6_rowWith_32
    · rw [if_neg c_5] at h
      cases h
noncomputable def fX6_counterForShare (S : qm_S) (p0 : Int32) (p1 : Int32) : Option (Nat) :=
  Option.bind (fX6_counterAt S p0) (fun z_1 => qm_gd (z_1 < 4) ((if p1 < 0 then Option.bind (fX6_demandInRange S (0 : Int32)) (fun _ => Option.bind (fX0_demandNumbers S z_1) (fun _ => some z_1)) else (if (1000 : Int32) < p1 then Option.bind (fX6_demandInRange S (0 : Int32)) (fun _ => Option.bind (fX0_demandNumbers S z_1) (fun _ => some z_1)) else Option.bind (fX6_demandInRange S (1 : Int32)) (fun _ => Option.bind (fX0_demandNumbers S z_1) (fun _ => some z_1))))))
set_option maxHeartbeats 4000000 in
set_option maxRecDepth 100000 in
theorem kX6_counterForShare (l : Launch) (D : va_G) (A : Nat → Prop) (ad : Nat → Nat) (cI cQ : ClassId) (rest : va_W) (S : qm_S) (p0 : Int32) (p1 : Int32) (z : Nat) (h : fX6_counterForShare S p0 p1 = some z) : Met l yX6_counterForShare wsX6_counterForShare ({ frames := 2, cells := 0, slots := 0, locals := 40 }) (va_Pc [.ref (ad 0), .int p0, .int p1] (qn_B D A (qm_T cI cQ) (qm_W ad cI cQ rest S))) (qn_Qr D A (qm_W ad cI cQ rest) S (fun i => ad (2 + i)) z) 0 0 A := by
  refine Met.ofW (cc := cX6_counterForShare) (maxL := 4) (ret := (some (.object "QueueMiddles$Counter"))) (by decide) rfl ?_
  intro p e s m args below meth c s₁ B hml hv
  obtain ⟨rfl, ⟨hA, hP, hK, hD⟩, hZ⟩ := hv
  have hx := B.exec
  have hb := B.bytes
  have hr := B.returns
  have hts := atoms_spec (ws := wsX6_counterForShare) B.pre
  have hown : s.vm.findClass RX6 = some m.cls := findClass_of_methodNamed B.named
  have hlocks := B.notSynchronized
  have hS : va_S A s.heap s.heap [] := va_S.rf
  have hl := lv_entry ([.ref (ad 0), .int p0, .int p1]) (n := 4) (Nat.le_of_ble_eq_true rfl)
  rw [lg_entry_eq]
  generalize (lg_sl ([.ref (ad 0), .int p0, .int p1]) ++ List.replicate (4 - (lg_sl ([.ref (ad 0), .int p0, .int p1])).length) Slot.unset).toArray = ls at hl ⊢
  have hl : lv_has ls 4 [(0, .ref (ad 0)), (1, .int p0), (2, .int p1)] := hl
  rw [fX6_counterForShare] at h
  refine lv_aload_n hx hb dX6_counterForShare_0 rfl (lv_at hl 0 rfl) ?_
  refine lv_iload_n hx hb dX6_counterForShare_1 rfl (lv_at hl 1 rfl) ?_
  obtain ⟨z_1, hz_2, h⟩ := qm_bind h
  refine va_callr (va_runV (As := [.int p0]) (rest := []) ⟨hx, hb, hml, hown, hts⟩ (kX6_counterAt l D A ad cI cQ rest S p0 z_1 hz_2) (cwV 1 hts gX6_counterForShare_X6_counterAt rfl rfl rfl (by decide +kernel) ⟨Nat.le_of_ble_eq_true rfl, Nat.le_of_ble_eq_true rfl⟩) ⟨qn_blind, va_recv hK hP (ci := 6) (q0 := 0) rfl qg_Q, fun U hU hW => ⟨rfl, qm_go hA hS hP hK hD hU hW, qn_go hZ hW⟩⟩ rfl rfl hl.1 rfl (lv_room (Nat.le_of_ble_eq_true rfl)) dX6_counterForShare_2 ⟨Nat.le_of_ble_eq_true rfl, Nat.le_of_ble_eq_true rfl⟩) hS (fun _ _ h9 => h9) (fun _ h9 => h9) (fun u ra t H1 locs1 ht hvm hw hB hz1 hk1 hS => ?_)
  obtain ⟨hra, hB⟩ := hB
  have hra : ad (2 + z_1) = ra := hra.symm
  have hw : S = u := hw.symm
  subst hra
  subst hw
  obtain ⟨hk_3, h⟩ := qm_gd_some h
  obtain ⟨hP, hD⟩ := qm_bk ht hB
  clear hB
  refine lv_astore_n (lv' := [(3, .ref (ad (2 + z_1))), (0, .ref (ad 0)), (1, .int p0), (2, .int p1)]) hx hb dX6_counterForShare_5 rfl hl (by decide) rfl (fun ls hl => ?_)
  refine lv_iload_n hx hb dX6_counterForShare_6 rfl (lv_at hl 3 rfl) ?_
  refine lv_if_lt (tgt := 21) hx hb dX6_counterForShare_7 (by decide) (fun c_4 => ?_) (fun c_4 => ?_)
  · rw [if_pos c_4] at h
    refine lv_iconst (v := (0 : Int32)) hx hb dX6_counterForShare_21 (by decide) ?_
    obtain ⟨z_5, hz_6, h⟩ := qm_bind h
    refine va_callv (va_runS (As := [.int (0 : Int32)]) (rest := []) ⟨hx, hb, hml, hown, hts⟩ (kX6_demandInRange l D A ad cI cQ rest S (0 : Int32) z_5 hz_6) (va_cwS 1 hts gX6_counterForShare_X6_demandInRange rfl rfl rfl (by decide +kernel) ⟨Nat.le_of_ble_eq_true rfl, Nat.le_of_ble_eq_true rfl⟩) ⟨qm_blind, fun U hU hW => ⟨rfl, qm_go hA hS hP hK hD hU hW⟩⟩ rfl rfl hl.1 rfl (lv_room (Nat.le_of_ble_eq_true rfl)) dX6_counterForShare_22 ⟨Nat.le_of_ble_eq_true rfl, Nat.le_of_ble_eq_true rfl⟩) hS (fun _ _ h9 => h9) (fun _ h9 => h9) (fun u t H1 locs1 ht hvm hw hB hz1 hk1 hS => ?_)
    have hw : S = u := hw.symm
    subst hw
    obtain ⟨hP, hD⟩ := qm_bk ht hB
    clear hB
    refine lv_aload_n hx hb dX6_counterForShare_25 rfl (lv_at hl 0 rfl) ?_
    obtain ⟨z_7, hz_8, h⟩ := qm_bind h
    refine va_callv (va_runV (As := []) (rest := []) ⟨hx, hb, hml, hown, hts⟩ (kX0_demandNumbers l D A ad cI cQ rest S z_1 hk_3 z_7 hz_8) (cwV 0 hts gX6_counterForShare_X0_demandNumbers rfl rfl rfl (by decide +kernel) ⟨Nat.le_of_ble_eq_true rfl, Nat.le_of_ble_eq_true rfl⟩) ⟨qm_blind, va_recv hK hP (ci := 0) (q0 := (2 + z_1)) rfl (qg_C hk_3), fun U hU hW => ⟨rfl, qm_go hA hS hP hK hD hU hW⟩⟩ rfl rfl hl.1 rfl (lv_room (Nat.le_of_ble_eq_true rfl)) dX6_counterForShare_26 ⟨Nat.le_of_ble_eq_true rfl, Nat.le_of_ble_eq_true rfl⟩) hS (fun _ _ h9 => h9) (fun _ h9 => h9) (fun u t H1 locs1 ht hvm hw hB hz1 hk1 hS => ?_)
    have hw : S = u := hw.symm
    subst hw
    obtain ⟨hP, hD⟩ := qm_bk ht hB
    clear hB
    refine lv_aload_n hx hb dX6_counterForShare_29 rfl (lv_at hl 0 rfl) ?_
    have h := Option.some.inj h
    subst h
    exact W.aret (v := .ref (ad (2 + z_1))) hx hb hr (Or.inl ⟨_, rfl⟩) (Or.inr ⟨_, rfl⟩) (fun t ht hW => ⟨⟨S, ad (2 + z_1), rfl, rfl, ⟨rfl, qm_en ht hP hD⟩⟩, hS.F ht⟩) hS.2.2 dX6_counterForShare_30
  · rw [if_neg c_4] at h
    refine lv_iload_n hx hb dX6_counterForShare_10 rfl (lv_at hl 3 rfl) ?_
    refine lv_sipush (v := (1000 : Int32)) hx hb dX6_counterForShare_11 (by decide) ?_
    refine lv_icmp_gt (tgt := 21) hx hb dX6_counterForShare_14 (by decide) (fun c_9 => ?_) (fun c_9 => ?_)
    · rw [if_pos c_9] at h
      refine lv_iconst (v := (0 : Int32)) hx hb dX6_counterForShare_21 (by decide) ?_
      obtain ⟨z_10, hz_11, h⟩ := qm_bind h
      refine va_callv (va_runS (As := [.int (0 : Int32)]) (rest := []) ⟨hx, hb, hml, hown, hts⟩ (kX6_demandInRange l D A ad cI cQ rest S (0 : Int32) z_10 hz_11) (va_cwS 1 hts gX6_counterForShare_X6_demandInRange rfl rfl rfl (by decide +kernel) ⟨Nat.le_of_ble_eq_true rfl, Nat.le_of_ble_eq_true rfl⟩) ⟨qm_blind, fun U hU hW => ⟨rfl, qm_go hA hS hP hK hD hU hW⟩⟩ rfl rfl hl.1 rfl (lv_room (Nat.le_of_ble_eq_true rfl)) dX6_counterForShare_22 ⟨Nat.le_of_ble_eq_true rfl, Nat.le_of_ble_eq_true rfl⟩) hS (fun _ _ h9 => h9) (fun _ h9 => h9) (fun u t H1 locs1 ht hvm hw hB hz1 hk1 hS => ?_)
      have hw : S = u := hw.symm
      subst hw
      obtain ⟨hP, hD⟩ := qm_bk ht hB
      clear hB
      refine lv_aload_n hx hb dX6_counterForShare_25 rfl (lv_at hl 0 rfl) ?_
      obtain ⟨z_12, hz_13, h⟩ := qm_bind h
      refine va_callv (va_runV (As := []) (rest := []) ⟨hx, hb, hml, hown, hts⟩ (kX0_demandNumbers l D A ad cI cQ rest S z_1 hk_3 z_12 hz_13) (cwV 0 hts gX6_counterForShare_X0_demandNumbers rfl rfl rfl (by decide +kernel) ⟨Nat.le_of_ble_eq_true rfl, Nat.le_of_ble_eq_true rfl⟩) ⟨qm_blind, va_recv hK hP (ci := 0) (q0 := (2 + z_1)) rfl (qg_C hk_3), fun U hU hW => ⟨rfl, qm_go hA hS hP hK hD hU hW⟩⟩ rfl rfl hl.1 rfl (lv_room (Nat.le_of_ble_eq_true rfl)) dX6_counterForShare_26 ⟨Nat.le_of_ble_eq_true rfl, Nat.le_of_ble_eq_true rfl⟩) hS (fun _ _ h9 => h9) (fun _ h9 => h9) (fun u t H1 locs1 ht hvm hw hB hz1 hk1 hS => ?_)
      have hw : S = u := hw.symm
      subst hw
      obtain ⟨hP, hD⟩ := qm_bk ht hB
      clear hB
      refine lv_aload_n hx hb dX6_counterForShare_29 rfl (lv_at hl 0 rfl) ?_
      have h := Option.some.inj h
      subst h
      exact W.aret (v := .ref (ad (2 + z_1))) hx hb hr (Or.inl ⟨_, rfl⟩) (Or.inr ⟨_, rfl⟩) (fun t ht hW => ⟨⟨S, ad (2 + z_1), rfl, rfl, ⟨rfl, qm_en ht hP hD⟩⟩, hS.F ht⟩) hS.2.2 dX6_counterForShare_30
    · rw [if_neg c_9] at h
      refine lv_iconst (v := (1 : Int32)) hx hb dX6_counterForShare_17 (by decide) ?_
      refine lv_goto (tgt := 22) hx hb dX6_counterForShare_18 (by decide) ?_
      obtain ⟨z_14, hz_15, h⟩ := qm_bind h
      refine va_callv (va_runS (As := [.int (1 : Int32)]) (rest := []) ⟨hx, hb, hml, hown, hts⟩ (kX6_demandInRange l D A ad cI cQ rest S (1 : Int32) z_14 hz_15) (va_cwS 1 hts gX6_counterForShare_X6_demandInRange rfl rfl rfl (by decide +kernel) ⟨Nat.le_of_ble_eq_true rfl, Nat.le_of_ble_eq_true rfl⟩) ⟨qm_blind, fun U hU hW => ⟨rfl, qm_go hA hS hP hK hD hU hW⟩⟩ rfl rfl hl.1 rfl (lv_room (Nat.le_of_ble_eq_true rfl)) dX6_counterForShare_22 ⟨Nat.le_of_ble_eq_true rfl, Nat.le_of_ble_eq_true rfl⟩) hS (fun _ _ h9 => h9) (fun _ h9 => h9) (fun u t H1 locs1 ht hvm hw hB hz1 hk1 hS => ?_)
      have hw : S = u := hw.symm
      subst hw
      obtain ⟨hP, hD⟩ := qm_bk ht hB
      clear hB
      refine lv_aload_n hx hb dX6_counterForShare_25 rfl (lv_at hl 0 rfl) ?_
      obtain ⟨z_16, hz_17, h⟩ := qm_bind h
      refine va_callv (va_runV (As := []) (rest := []) ⟨hx, hb, hml, hown, hts⟩ (kX0_demandNumbers l D A ad cI cQ rest S z_1 hk_3 z_16 hz_17) (cwV 0 hts gX6_counterForShare_X0_demandNumbers rfl rfl rfl (by decide +kernel) ⟨Nat.le_of_ble_eq_true rfl, Nat.le_of_ble_eq_true rfl⟩) ⟨qm_blind, va_recv hK hP (ci := 0) (q0 := (2 + z_1)) rfl (qg_C hk_3), fun U hU hW => ⟨rfl, qm_go hA hS hP hK hD hU hW⟩⟩ rfl rfl hl.1 rfl (lv_room (Nat.le_of_ble_eq_true rfl)) dX6_counterForShare_26 ⟨Nat.le_of_ble_eq_true rfl, Nat.le_of_ble_eq_true rfl⟩) hS (fun _ _ h9 => h9) (fun _ h9 => h9) (fun u t H1 locs1 ht hvm hw hB hz1 hk1 hS => ?_)
      have hw : S = u := hw.symm
      subst hw
      obtain ⟨hP, hD⟩ := qm_bk ht hB
      clear hB
      refine lv_aload_n hx hb dX6_counterForShare_29 rfl (lv_at hl 0 rfl) ?_
      have h := Option.some.inj h
      subst h
      exact W.aret (v := .ref (ad (2 + z_1))) hx hb hr (Or.inl ⟨_, rfl⟩) (Or.inr ⟨_, rfl⟩) (fun t ht hW => ⟨⟨S, ad (2 + z_1), rfl, rfl, ⟨rfl, qm_en ht hP hD⟩⟩, hS.F ht⟩) hS.2.2 dX6_counterForShare_30
