noncomputable def fX0_demandRoomFor (S : qm_S) (k : Nat) (p0 : Int32) : Option (Unit ⊕ String) :=
  (if ((S.2.2 k) + p0) ≤ (600 : Int32) then some (.inl ()) else some (.inr "java/lang/IllegalStateException"))
set_option maxHeartbeats 4000000 in
set_option maxRecDepth 100000 in
theorem kX0_demandRoomFor {l : Launch} (hst : l.stackTraces = false) (_ : Launch) (D : va_G) (A : Nat → Prop) (ad : Nat → Nat) (cI cQ : ClassId) (rest : va_W) (S : qm_S) (k : Nat) (hix : k < 4) (p0 : Int32) (z : Unit ⊕ String) (h : fX0_demandRoomFor S k p0 = some z) : vx_Met l yX0_demandRoomFor wsX0_demandRoomFor ({ frames := 6, cells := 1, slots := 6, locals := 90 }) (va_Pc [.ref (ad (2 + k)), .int p0] (qm_BZ D A (qm_T cI cQ) (qm_W ad cI cQ rest S))) (qm_Yv D A (qm_W ad cI cQ rest) S z) (qm_YX D A (qm_W ad cI cQ rest S) (fun E => z = .inr E)) 1 6 A := by
  refine vx_ofW (cc := cX0_demandRoomFor) (maxL := 2) (ret := none) (by decide) rfl ?_
  intro p e s m args below meth c s₁ B hml hno hv
  obtain ⟨rfl, ⟨hA, hP, hK, hD⟩, hZ⟩ := hv
  have hx := B.exec
  have hb := B.bytes
  have hr := B.returns
  have hts := atoms_spec (ws := wsX0_demandRoomFor) B.pre
  have hown : s.vm.findClass RX0 = some m.cls := findClass_of_methodNamed B.named
  have hlocks := B.notSynchronized
  have hS : va_S A s.heap s.heap [] := va_S.rf
  have hl := lv_entry ([.ref (ad (2 + k)), .int p0]) (n := 2) (Nat.le_of_ble_eq_true rfl)
  rw [lg_entry_eq]
  generalize (lg_sl ([.ref (ad (2 + k)), .int p0]) ++ List.replicate (2 - (lg_sl ([.ref (ad (2 + k)), .int p0])).length) Slot.unset).toArray = ls at hl ⊢
  have hl : lv_has ls 2 [(0, .ref (ad (2 + k))), (1, .int p0)] := hl
  rw [fX0_demandRoomFor] at h
  refine lv_aload_n hx hb dX0_demandRoomFor_0 rfl (lv_at hl 0 rfl) ?_
  refine va_get (D := D) (ci := 0) (v := .ref (ad (10 + k))) (C := RX0) (T := TX0) (N := 4) hx hb hts (by decide +kernel) hown hK hP (2 + k) (qg_C hix) rfl 1 (by decide) (hts (.fieldLink RX0 21 "QueueMiddles$Counter" "numbers" "LQueueMiddles$Tally;") (by decide +kernel)) (fun _ h9 => h9) rfl dX0_demandRoomFor_1 ?_
  refine va_calli (va_runV (As := []) (rest := []) ⟨hx, hb, hml, hown, hts⟩ (nX5_total l D A ad cI cQ rest S k hix) (cwV 0 hts gX0_demandRoomFor_X5_total rfl rfl rfl (by decide +kernel) ⟨Nat.le_of_ble_eq_true rfl, Nat.le_of_ble_eq_true rfl⟩) ⟨qm_blind, va_recv hK hP (ci := 5) (q0 := (10 + k)) rfl (qg_T hix), fun U hU hW => ⟨rfl, qm_go hA hS hP hK hD hU hW⟩⟩ rfl rfl hl.1 rfl (lv_room (Nat.le_of_ble_eq_true rfl)) dX0_demandRoomFor_4 ⟨Nat.le_of_ble_eq_true rfl, Nat.le_of_ble_eq_true rfl⟩) hS (fun _ _ h9 => h9) (fun _ h9 => h9) (fun v u t H1 locs1 ht hvm hw hB hz1 hk1 hS => ?_)
  obtain ⟨hw1, hw2⟩ := hw
  have hw1 : (S.2.2 k) = v := hw1.symm
  have hw2 : S = u := hw2.symm
  subst hw1
  subst hw2
  obtain ⟨hP, hD⟩ := qm_bk ht hB
  refine lv_iload_n hx hb dX0_demandRoomFor_7 rfl (lv_at hl 1 rfl) ?_
  refine lv_iadd hx hb dX0_demandRoomFor_8 ?_
  refine lv_sipush (v := (600 : Int32)) hx hb dX0_demandRoomFor_9 (by decide) ?_
  refine lv_icmp_le (tgt := 25) hx hb dX0_demandRoomFor_12 (by decide) (fun c_1 => ?_) (fun c_1 => ?_)
  · rw [if_pos c_1] at h
    have h := Option.some.inj h
    subst h
    refine vx_ret ?_
    refine W.widen (k := 1) (n := 6) (Nat.le_of_ble_eq_true rfl) (Nat.le_of_ble_eq_true rfl) ?_
    exact W.vret hx hb hr (fun t ht hW => ⟨⟨S, rfl, ⟨rfl, rfl⟩, qm_en ht hP hD⟩, hS.F ht⟩) hS.2.2 dX0_demandRoomFor_25
  · rw [if_neg c_1] at h
    have h := Option.some.inj h
    subst h
    obtain ⟨sa9, hsa9⟩ := qz_s2 hZ
    exact vx_throwS hx hb hst hown (by decide +kernel) (by decide +kernel) (hts (.classLink RX0 45 "java/lang/IllegalStateException") (by decide +kernel)) (hts (.initialized "java/lang/IllegalStateException") (by decide +kernel)) hsa9 (vx_hat (B := [.declares (Bundle.initS "java/lang/RuntimeException"), .declares (Bundle.initS "java/lang/Exception"), .declares (Bundle.initS "java/lang/Throwable"), .castable "java/lang/IllegalStateException" "java/lang/IllegalStateException"]) (fun w h9 => hts w ((fun h8 => List.mem_cons_of_mem _ (List.mem_append_right _ (h8))) h9)) (by decide +kernel) (vx_c (va_Nw.use rfl (qz_d0 hZ)) (vx_c (va_Nw.use rfl (qz_d1 hZ)) (vx_c (va_Nw.use rfl (qz_d2 hZ)) (vx_c (va_Nw.use rfl (qz_c2 hZ)) vx_n))))) (by decide +kernel) (qz_u hZ) (qz_n hZ) hS (hl.1.trans hml.symm) dX0_demandRoomFor_15 dX0_demandRoomFor_18 dX0_demandRoomFor_19 dX0_demandRoomFor_21 dX0_demandRoomFor_24 (fun x9 q9 => (hno x9 q9).elim) (Nat.le_of_ble_eq_true rfl) (Nat.le_of_ble_eq_true rfl) (Nat.le_of_ble_eq_true rfl) (Nat.le_of_ble_eq_true rfl) hlocks (fun t9 hv9 hz9 hk9 => ⟨(), trivial, ⟨rfl, ⟨hP.kept (fun k q hq => hk9 q.1 ((hP k q hq).lt)), hD⟩⟩, ⟨Nat.le_trans hS.1 hz9, fun q h1 h2 => (hk9 q (Nat.lt_of_lt_of_le h1 hS.1)).trans (hS.2.1 q h1 h2)⟩⟩) hS.2.2 (Nat.le_of_ble_eq_true rfl) (Nat.le_of_ble_eq_true rfl)
noncomputable def fX0_demandNumbers (S : qm_S) (k : Nat) : Option (Unit ⊕ String) :=
  (if 0 < (S.2.2 k) then some (.inl ()) else some (.inr "java/lang/IllegalStateException"))
set_option maxHeartbeats 4000000 in
set_option maxRecDepth 100000 in
theorem kX0_demandNumbers {l : Launch} (hst : l.stackTraces = false) (_ : Launch) (D : va_G) (A : Nat → Prop) (ad : Nat → Nat) (cI cQ : ClassId) (rest : va_W) (S : qm_S) (k : Nat) (hix : k < 4) (z : Unit ⊕ String) (h : fX0_demandNumbers S k = some z) : vx_Met l yX0_demandNumbers wsX0_demandNumbers ({ frames := 6, cells := 1, slots := 6, locals := 90 }) (va_Pc [.ref (ad (2 + k))] (qm_BZ D A (qm_T cI cQ) (qm_W ad cI cQ rest S))) (qm_Yv D A (qm_W ad cI cQ rest) S z) (qm_YX D A (qm_W ad cI cQ rest S) (fun E => z = .inr E)) 1 6 A := by
  refine vx_ofW (cc := cX0_demandNumbers) (maxL := 1) (ret := none) (by decide) rfl ?_
  intro p e s m args below meth c s₁ B hml hno hv
  obtain ⟨rfl, ⟨hA, hP, hK, hD⟩, hZ⟩ := hv
  have hx := B.exec
  have hb := B.bytes
  have hr := B.returns
  have hts := atoms_spec (ws := wsX0_demandNumbers) B.pre
  have hown : s.vm.findClass RX0 = some m.cls := findClass_of_methodNamed B.named
  have hlocks := B.notSynchronized
  have hS : va_S A s.heap s.heap [] := va_S.rf
  have hl := lv_entry ([.ref (ad (2 + k))]) (n := 1) (Nat.le_of_ble_eq_true rfl)
  rw [lg_entry_eq]
  generalize (lg_sl ([.ref (ad (2 + k))]) ++ List.replicate (1 - (lg_sl ([.ref (ad (2 + k))])).length) Slot.unset).toArray = ls at hl ⊢
  have hl : lv_has ls 1 [(0, .ref (ad (2 + k)))] := hl
  rw [fX0_demandNumbers] at h
  refine lv_aload_n hx hb dX0_demandNumbers_0 rfl (lv_at hl 0 rfl) ?_
  refine va_get (D := D) (ci := 0) (v := .ref (ad (10 + k))) (C := RX0) (T := TX0) (N := 4) hx hb hts (by decide +kernel) hown hK hP (2 + k) (qg_C hix) rfl 1 (by decide) (hts (.fieldLink RX0 21 "QueueMiddles$Counter" "numbers" "LQueueMiddles$Tally;") (by decide +kernel)) (fun _ h9 => h9) rfl dX0_demandNumbers_1 ?_
  refine va_calli (va_runV (As := []) (rest := []) ⟨hx, hb, hml, hown, hts⟩ (nX5_total l D A ad cI cQ rest S k hix) (cwV 0 hts gX0_demandNumbers_X5_total rfl rfl rfl (by decide +kernel) ⟨Nat.le_of_ble_eq_true rfl, Nat.le_of_ble_eq_true rfl⟩) ⟨qm_blind, va_recv hK hP (ci := 5) (q0 := (10 + k)) rfl (qg_T hix), fun U hU hW => ⟨rfl, qm_go hA hS hP hK hD hU hW⟩⟩ rfl rfl hl.1 rfl (lv_room (Nat.le_of_ble_eq_true rfl)) dX0_demandNumbers_4 ⟨Nat.le_of_ble_eq_true rfl, Nat.le_of_ble_eq_true rfl⟩) hS (fun _ _ h9 => h9) (fun _ h9 => h9) (fun v u t H1 locs1 ht hvm hw hB hz1 hk1 hS => ?_)
  obtain ⟨hw1, hw2⟩ := hw
  have hw1 : (S.2.2 k) = v := hw1.symm
  have hw2 : S = u := hw2.symm
  subst hw1
  subst hw2
  obtain ⟨hP, hD⟩ := qm_bk ht hB
  refine lv_if_gt (tgt := 20) hx hb dX0_demandNumbers_7 (by decide) (fun c_1 => ?_) (fun c_1 => ?_)
  · rw [if_pos c_1] at h
    have h := Option.some.inj h
    subst h
    refine vx_ret ?_
    refine W.widen (k := 1) (n := 6) (Nat.le_of_ble_eq_true rfl) (Nat.le_of_ble_eq_true rfl) ?_
    exact W.vret hx hb hr (fun t ht hW => ⟨⟨S, rfl, ⟨rfl, rfl⟩, qm_en ht hP hD⟩, hS.F ht⟩) hS.2.2 dX0_demandNumbers_20
  · rw [if_neg c_1] at h
    have h := Option.some.inj h
    subst h
    obtain ⟨sa9, hsa9⟩ := qz_s5 hZ
    exact vx_throwS hx hb hst hown (by decide +kernel) (by decide +kernel) (hts (.classLink RX0 45 "java/lang/IllegalStateException") (by decide +kernel)) (hts (.initialized "java/lang/IllegalStateException") (by decide +kernel)) hsa9 (vx_hat (B := [.declares (Bundle.initS "java/lang/RuntimeException"), .declares (Bundle.initS "java/lang/Exception"), .declares (Bundle.initS "java/lang/Throwable"), .castable "java/lang/IllegalStateException" "java/lang/IllegalStateException"]) (fun w h9 => hts w ((fun h8 => List.mem_cons_of_mem _ (List.mem_append_right _ (h8))) h9)) (by decide +kernel) (vx_c (va_Nw.use rfl (qz_d0 hZ)) (vx_c (va_Nw.use rfl (qz_d1 hZ)) (vx_c (va_Nw.use rfl (qz_d2 hZ)) (vx_c (va_Nw.use rfl (qz_c2 hZ)) vx_n))))) (by decide +kernel) (qz_u hZ) (qz_n hZ) hS (hl.1.trans hml.symm) dX0_demandNumbers_10 dX0_demandNumbers_13 dX0_demandNumbers_14 dX0_demandNumbers_16 dX0_demandNumbers_19 (fun x9 q9 => (hno x9 q9).elim) (Nat.le_of_ble_eq_true rfl) (Nat.le_of_ble_eq_true rfl) (Nat.le_of_ble_eq_true rfl) (Nat.le_of_ble_eq_true rfl) hlocks (fun t9 hv9 hz9 hk9 => ⟨(), trivial, ⟨rfl, ⟨hP.kept (fun k q hq => hk9 q.1 ((hP k q hq).lt)), hD⟩⟩, ⟨Nat.le_trans hS.1 hz9, fun q h1 h2 => (hk9 q (Nat.lt_of_lt_of_le h1 hS.1)).trans (hS.2.1 q h1 h2)⟩⟩) hS.2.2 (Nat.le_of_ble_eq_true rfl) (Nat.le_of_ble_eq_true rfl)
noncomputable def fX6_demandInRange (S : qm_S) (p0 : Int32) : Option (Unit ⊕ String) :=
  (if p0 = 0 then some (.inr "java/lang/IllegalArgumentException") else some (.inl ()))
set_option maxHeartbeats 4000000 in
set_option maxRecDepth 100000 in
theorem kX6_demandInRange {l : Launch} (hst : l.stackTraces = false) (_ : Launch) (D : va_G) (A : Nat → Prop) (ad : Nat → Nat) (cI cQ : ClassId) (rest : va_W) (S : qm_S) (p0 : Int32) (z : Unit ⊕ String) (h : fX6_demandInRange S p0 = some z) : vx_Met l yX6_demandInRange wsX6_demandInRange ({ frames := 6, cells := 1, slots := 6, locals := 90 }) (va_Pc [.int p0] (qm_BZ D A (qm_T cI cQ) (qm_W ad cI cQ rest S))) (qm_Yv D A (qm_W ad cI cQ rest) S z) (qm_YX D A (qm_W ad cI cQ rest S) (fun E => z = .inr E)) 1 6 A := by
  refine vx_ofW (cc := cX6_demandInRange) (maxL := 1) (ret := none) (by decide) rfl ?_
  intro p e s m args below meth c s₁ B hml hno hv
  obtain ⟨rfl, ⟨hA, hP, hK, hD⟩, hZ⟩ := hv
  have hx := B.exec
  have hb := B.bytes
  have hr := B.returns
  have hts := atoms_spec (ws := wsX6_demandInRange) B.pre
  have hown : s.vm.findClass RX6 = some m.cls := findClass_of_methodNamed B.named
  have hlocks := B.notSynchronized
  have hS : va_S A s.heap s.heap [] := va_S.rf
  have hl := lv_entry ([.int p0]) (n := 1) (Nat.le_of_ble_eq_true rfl)
  rw [lg_entry_eq]
  generalize (lg_sl ([.int p0]) ++ List.replicate (1 - (lg_sl ([.int p0])).length) Slot.unset).toArray = ls at hl ⊢
  have hl : lv_has ls 1 [(0, .int p0)] := hl
  rw [fX6_demandInRange] at h
  refine lv_iload_n hx hb dX6_demandInRange_0 rfl (lv_at hl 0 rfl) ?_
  refine lv_if_ne (tgt := 14) hx hb dX6_demandInRange_1 (by decide) (fun c_1 => ?_) (fun c_1 => ?_)
  · rw [if_neg c_1] at h
    have h := Option.some.inj h
    subst h
    refine vx_ret ?_
    refine W.widen (k := 1) (n := 6) (Nat.le_of_ble_eq_true rfl) (Nat.le_of_ble_eq_true rfl) ?_
    exact W.vret hx hb hr (fun t ht hW => ⟨⟨S, rfl, ⟨rfl, rfl⟩, qm_en ht hP hD⟩, hS.F ht⟩) hS.2.2 dX6_demandInRange_14
  · rw [if_pos c_1] at h
    have h := Option.some.inj h
    subst h
    obtain ⟨sa9, hsa9⟩ := qz_s1 hZ
    exact vx_throwS hx hb hst hown (by decide +kernel) (by decide +kernel) (hts (.classLink RX6 63 "java/lang/IllegalArgumentException") (by decide +kernel)) (hts (.initialized "java/lang/IllegalArgumentException") (by decide +kernel)) hsa9 (vx_hat (B := [.declares (Bundle.initS "java/lang/RuntimeException"), .declares (Bundle.initS "java/lang/Exception"), .declares (Bundle.initS "java/lang/Throwable"), .castable "java/lang/IllegalArgumentException" "java/lang/IllegalArgumentException"]) (fun w h9 => hts w ((fun h8 => List.mem_cons_of_mem _ (List.mem_append_right _ (h8))) h9)) (by decide +kernel) (vx_c (va_Nw.use rfl (qz_d0 hZ)) (vx_c (va_Nw.use rfl (qz_d1 hZ)) (vx_c (va_Nw.use rfl (qz_d2 hZ)) (vx_c (va_Nw.use rfl (qz_c1 hZ)) vx_n))))) (by decide +kernel) (qz_u hZ) (qz_n hZ) hS (hl.1.trans hml.symm) dX6_demandInRange_4 dX6_demandInRange_7 dX6_demandInRange_8 dX6_demandInRange_10 dX6_demandInRange_13 (fun x9 q9 => (hno x9 q9).elim) (Nat.le_of_ble_eq_true rfl) (Nat.le_of_ble_eq_true rfl) (Nat.le_of_ble_eq_true rfl) (Nat.le_of_ble_eq_true rfl) hlocks (fun t9 hv9 hz9 hk9 => ⟨(), trivial, ⟨rfl, ⟨hP.kept (fun k q hq => hk9 q.1 ((hP k q hq).lt)), hD⟩⟩, ⟨Nat.le_trans hS.1 hz9, fun q h1 h2 => (hk9 q (Nat.lt_of_lt_of_le h1 hS.1)).trans (hS.2.1 q h1 h2)⟩⟩) hS.2.2 (Nat.le_of_ble_eq_true rfl) (Nat.le_of_ble_eq_true rfl)
noncomputable def fX6_counterAt (S : qm_S) (p0 : Int32) : Option (Nat ⊕ String) :=
  (if p0 < 0 then some (.inr "java/lang/IndexOutOfBoundsException") else (if p0 < (4 : Int32) then qm_gd (vp_in p0 4) (some (.inl p0.toNatClampNeg)) else some (.inr "java/lang/IndexOutOfBoundsException")))
set_option maxHeartbeats 4000000 in
set_option maxRecDepth 100000 in
theorem kX6_counterAt {l : Launch} (hst : l.stackTraces = false) (_ : Launch) (D : va_G) (A : Nat → Prop) (ad : Nat → Nat) (cI cQ : ClassId) (rest : va_W) (S : qm_S) (p0 : Int32) (z : Nat ⊕ String) (h : fX6_counterAt S p0 = some z) : vx_Met l yX6_counterAt wsX6_counterAt ({ frames := 6, cells := 1, slots := 6, locals := 90 }) (va_Pc [.ref (ad 0), .int p0] (qm_BZ D A (qm_T cI cQ) (qm_W ad cI cQ rest S))) (qm_Yr D A (qm_W ad cI cQ rest) S (fun i => ad (2 + i)) z) (qm_YX D A (qm_W ad cI cQ rest S) (fun E => z = .inr E)) 1 6 A := by
  refine vx_ofW (cc := cX6_counterAt) (maxL := 2) (ret := (some (.object "QueueMiddles$Counter"))) (by decide) rfl ?_
  intro p e s m args below meth c s₁ B hml hno hv
  obtain ⟨rfl, ⟨hA, hP, hK, hD⟩, hZ⟩ := hv
  have hx := B.exec
  have hb := B.bytes
  have hr := B.returns
  have hts := atoms_spec (ws := wsX6_counterAt) B.pre
  have hown : s.vm.findClass RX6 = some m.cls := findClass_of_methodNamed B.named
  have hlocks := B.notSynchronized
  have hS : va_S A s.heap s.heap [] := va_S.rf
  have hl := lv_entry ([.ref (ad 0), .int p0]) (n := 2) (Nat.le_of_ble_eq_true rfl)
  rw [lg_entry_eq]
  generalize (lg_sl ([.ref (ad 0), .int p0]) ++ List.replicate (2 - (lg_sl ([.ref (ad 0), .int p0])).length) Slot.unset).toArray = ls at hl ⊢
  have hl : lv_has ls 2 [(0, .ref (ad 0)), (1, .int p0)] := hl
  rw [fX6_counterAt] at h
  refine lv_iload_n hx hb dX6_counterAt_0 rfl (lv_at hl 1 rfl) ?_
  refine lv_if_lt (tgt := 13) hx hb dX6_counterAt_1 (by decide) (fun c_1 => ?_) (fun c_1 => ?_)
  · rw [if_pos c_1] at h
    have h := Option.some.inj h
    subst h
    obtain ⟨sa9, hsa9⟩ := qz_s0 hZ
    exact vx_throwS hx hb hst hown (by decide +kernel) (by decide +kernel) (hts (.classLink RX6 133 "java/lang/IndexOutOfBoundsException") (by decide +kernel)) (hts (.initialized "java/lang/IndexOutOfBoundsException") (by decide +kernel)) hsa9 (vx_hat (B := [.declares (Bundle.initS "java/lang/RuntimeException"), .declares (Bundle.initS "java/lang/Exception"), .declares (Bundle.initS "java/lang/Throwable"), .castable "java/lang/IndexOutOfBoundsException" "java/lang/IndexOutOfBoundsException"]) (fun w h9 => hts w ((fun h8 => List.mem_cons_of_mem _ (List.mem_append_right _ (h8))) h9)) (by decide +kernel) (vx_c (va_Nw.use rfl (qz_d0 hZ)) (vx_c (va_Nw.use rfl (qz_d1 hZ)) (vx_c (va_Nw.use rfl (qz_d2 hZ)) (vx_c (va_Nw.use rfl (qz_c0 hZ)) vx_n))))) (by decide +kernel) (qz_u hZ) (qz_n hZ) hS (hl.1.trans hml.symm) dX6_counterAt_13 dX6_counterAt_16 dX6_counterAt_17 dX6_counterAt_19 dX6_counterAt_22 (fun x9 q9 => (hno x9 q9).elim) (Nat.le_of_ble_eq_true rfl) (Nat.le_of_ble_eq_true rfl) (Nat.le_of_ble_eq_true rfl) (Nat.le_of_ble_eq_true rfl) hlocks (fun t9 hv9 hz9 hk9 => ⟨(), trivial, ⟨rfl, ⟨hP.kept (fun k q hq => hk9 q.1 ((hP k q hq).lt)), hD⟩⟩, ⟨Nat.le_trans hS.1 hz9, fun q h1 h2 => (hk9 q (Nat.lt_of_lt_of_le h1 hS.1)).trans (hS.2.1 q h1 h2)⟩⟩) hS.2.2 (Nat.le_of_ble_eq_true rfl) (Nat.le_of_ble_eq_true rfl)
  · rw [if_neg c_1] at h
    refine lv_iload_n hx hb dX6_counterAt_4 rfl (lv_at hl 1 rfl) ?_
    refine lv_aload_n hx hb dX6_counterAt_5 rfl (lv_at hl 0 rfl) ?_
    refine va_get (D := D) (ci := 6) (v := .ref (ad 1)) (C := RX6) (T := TX6) (N := 1) hx hb hts (by decide +kernel) hown hK hP 0 qg_Q rfl 0 (by decide) (hts (.fieldLink RX6 11 "QueueMiddles" "counters" "[LQueueMiddles$Counter;") (by decide +kernel)) (fun _ h9 => h9) rfl dX6_counterAt_6 ?_
    refine va_alen hx hb hK hP 1 1 qg_CA rfl (v := (4 : Int32)) rfl dX6_counterAt_9 ?_
    refine lv_icmp_lt (tgt := 23) hx hb dX6_counterAt_10 (by decide) (fun c_2 => ?_) (fun c_2 => ?_)
    · rw [if_pos c_2] at h
      refine lv_aload_n hx hb dX6_counterAt_23 rfl (lv_at hl 0 rfl) ?_
      refine va_get (D := D) (ci := 6) (v := .ref (ad 1)) (C := RX6) (T := TX6) (N := 1) hx hb hts (by decide +kernel) hown hK hP 0 qg_Q rfl 0 (by decide) (hts (.fieldLink RX6 11 "QueueMiddles" "counters" "[LQueueMiddles$Counter;") (by decide +kernel)) (fun _ h9 => h9) rfl dX6_counterAt_24 ?_
      refine lv_iload_n hx hb dX6_counterAt_27 rfl (lv_at hl 1 rfl) ?_
      obtain ⟨g_3, h⟩ := qm_gd_some h
      refine va_aldq hx hb hK hP 1 1 qg_CA rfl g_3 dX6_counterAt_28 ?_
      refine W.eq (g2 := F0 m 29 ls [.ref (ad (2 + p0.toNatClampNeg))]) rfl ?_
      have h := Option.some.inj h
      subst h
      refine vx_ret ?_
      refine W.widen (k := 1) (n := 6) (Nat.le_of_ble_eq_true rfl) (Nat.le_of_ble_eq_true rfl) ?_
      exact W.aret (v := .ref (ad (2 + p0.toNatClampNeg))) hx hb hr (Or.inl ⟨_, rfl⟩) (Or.inr ⟨_, rfl⟩) (fun t ht hW => ⟨⟨S, ad (2 + p0.toNatClampNeg), rfl, rfl, ⟨⟨p0.toNatClampNeg, rfl, rfl⟩, qm_en ht hP hD⟩⟩, hS.F ht⟩) hS.2.2 dX6_counterAt_29
    · rw [if_neg c_2] at h
      have h := Option.some.inj h
      subst h
      obtain ⟨sa9, hsa9⟩ := qz_s0 hZ
      exact vx_throwS hx hb hst hown (by decide +kernel) (by decide +kernel) (hts (.classLink RX6 133 "java/lang/IndexOutOfBoundsException") (by decide +kernel)) (hts (.initialized "java/lang/IndexOutOfBoundsException") (by decide +kernel)) hsa9 (vx_hat (B := [.declares (Bundle.initS "java/lang/RuntimeException"), .declares (Bundle.initS "java/lang/Exception"), .declares (Bundle.initS "java/lang/Throwable"), .castable "java/lang/IndexOutOfBoundsException" "java/lang/IndexOutOfBoundsException"]) (fun w h9 => hts w ((fun h8 => List.mem_cons_of_mem _ (List.mem_append_right _ (h8))) h9)) (by decide +kernel) (vx_c (va_Nw.use rfl (qz_d0 hZ)) (vx_c (va_Nw.use rfl (qz_d1 hZ)) (vx_c (va_Nw.use rfl (qz_d2 hZ)) (vx_c (va_Nw.use rfl (qz_c0 hZ)) vx_n))))) (by decide +kernel) (qz_u hZ) (qz_n hZ) hS (hl.1.trans hml.symm) dX6_counterAt_13 dX6_counterAt_16 dX6_counterAt_17 dX6_counterAt_19 dX6_counterAt_22 (fun x9 q9 => (hno x9 q9).elim) (Nat.le_of_ble_eq_true rfl) (Nat.le_of_ble_eq_true rfl) (Nat.le_of_ble_eq_true rfl) (Nat.le_of_ble_eq_true rfl) hlocks (fun t9 hv9 hz9 hk9 => ⟨(), trivial, ⟨rfl, ⟨hP.kept (fun k q hq => hk9 q.1 ((hP k q hq).lt)), hD⟩⟩, ⟨Nat.le_trans hS.1 hz9, fun q h1 h2 => (hk9 q (Nat.lt_of_lt_of_le h1 hS.1)).trans (hS.2.1 q h1 h2)⟩⟩) hS.2.2 (Nat.le_of_ble_eq_true rfl) (Nat.le_of_ble_eq_true rfl)
noncomputable def fX6_rowWith (S : qm_S) (p0 : Int32) (p1 : Int32) : Option (Nat ⊕ String) :=
  Option.bind (fX6_counterAt S p0) (fun z_1 => Sum.elim (fun a_3 => qm_gd (a_3 < 4) ((if p1 < 0 then some (.inr "java/lang/IndexOutOfBoundsException") else (if p1 < ((S.1 a_3).1) then some (.inl a_3) else some (.inr "java/lang/IndexOutOfBoundsException"))))) (fun e => some (.inr e)) z_1)
set_option maxHeartbeats 4000000 in
set_option maxRecDepth 100000 in
theorem kX6_rowWith {l : Launch} (hst : l.stackTraces = false) (_ : Launch) (D : va_G) (A : Nat → Prop) (ad : Nat → Nat) (cI cQ : ClassId) (rest : va_W) (S : qm_S) (p0 : Int32) (p1 : Int32) (z : Nat ⊕ String) (h : fX6_rowWith S p0 p1 = some z) : vx_Met l yX6_rowWith wsX6_rowWith ({ frames := 7, cells := 2, slots := 12, locals := 111 }) (va_Pc [.ref (ad 0), .int p0, .int p1] (qm_BZ D A (qm_T cI cQ) (qm_W ad cI cQ rest S))) (qm_Yr D A (qm_W ad cI cQ rest) S (fun i => ad (6 + i)) z) (qm_YX D A (qm_W ad cI cQ rest S) (fun E => z = .inr E)) 2 12 A := by
  refine vx_ofW (cc := cX6_rowWith) (maxL := 4) (ret := (some (.object "QueueMiddles$MarkRow"))) (by decide) rfl ?_
  intro p e s m args below meth c s₁ B hml hno hv
  obtain ⟨rfl, ⟨hA, hP, hK, hD⟩, hZ⟩ := hv
  have hx := B.exec
  have hb := B.bytes
  have hr := B.returns
  have hts := atoms_spec (ws := wsX6_rowWith) B.pre
  have hown : s.vm.findClass RX6 = some m.cls := findClass_of_methodNamed B.named
  have hlocks := B.notSynchronized
  have hS : va_S A s.heap s.heap [] := va_S.rf
  have hl := lv_entry ([.ref (ad 0), .int p0, .int p1]) (n := 4) (Nat.le_of_ble_eq_true rfl)
  rw [lg_entry_eq]
  generalize (lg_sl ([.ref (ad 0), .int p0, .int p1]) ++ List.replicate (4 - (lg_sl ([.ref (ad 0), .int p0, .int p1])).length) Slot.unset).toArray = ls at hl ⊢
  have hl : lv_has ls 4 [(0, .ref (ad 0)), (1, .int p0), (2, .int p1)] := hl
  rw [fX6_rowWith] at h
  refine lv_aload_n hx hb dX6_rowWith_0 rfl (lv_at hl 0 rfl) ?_
  refine lv_iload_n hx hb dX6_rowWith_1 rfl (lv_at hl 1 rfl) ?_
  obtain ⟨z_1, hz_2, h⟩ := qm_bind h
  rcases z_1 with a_3 | e_4
  · refine qx_callr (vx_runV (As := [.int p0]) (rest := []) ⟨hx, hb, hml, hown, hts⟩ (kX6_counterAt hst l D A ad cI cQ rest S p0 _ hz_2) (cwV 1 hts gX6_rowWith_X6_counterAt rfl rfl rfl (by decide +kernel) ⟨Nat.le_of_ble_eq_true rfl, Nat.le_of_ble_eq_true rfl⟩) ⟨qm_blindZ, va_recv hK hP (ci := 6) (q0 := 0) rfl qg_Q, fun U hU hW => ⟨rfl, qm_go hA hS hP hK hD hU hW, qm_Zgo hZ hS hU hW⟩⟩ rfl rfl hl.1 rfl (lv_room (Nat.le_of_ble_eq_true rfl)) dX6_rowWith_2 ⟨Nat.le_of_ble_eq_true rfl, Nat.le_of_ble_eq_true rfl⟩) hS (fun _ _ h9 => h9) (fun _ h9 => h9) (fun _ _ h9 => h9) (fun E ce q9 u9 t H1 locs1 ht hvm hw hB hz1 hk1 hS hce hcv hcl => absurd hB.1 (fun q => by cases q)) (fun u ra t H1 locs1 ht hvm hw hB hz1 hk1 hS => ?_)
    rw [Sum.elim_inl] at h
    obtain ⟨⟨i9, hi1, hi2⟩, hB⟩ := hB
    have hi1 := Sum.inl.inj hi1
    subst hi1
    have hi2 : ad (2 + a_3) = ra := hi2.symm
    subst hi2
    have hw : S = u := hw.symm
    subst hw
    obtain ⟨hk_5, h⟩ := qm_gd_some h
    obtain ⟨hP, hD⟩ := qm_bk ht hB
    refine va_getN (D := D) (ci := 0) (v := .ref (ad (6 + a_3))) (C := RX0) (T := TX0) (N := 4) hx hb hts (by decide +kernel) hown hK hP (2 + a_3) (qg_C hk_5) rfl 0 (by decide) (va_Nw.use rfl (qz_frow hZ)) (fun _ h9 => h9) rfl dX6_rowWith_5 ?_
    refine lv_astore_n (lv' := [(3, .ref (ad (6 + a_3))), (0, .ref (ad 0)), (1, .int p0), (2, .int p1)]) hx hb dX6_rowWith_8 rfl hl (by decide) rfl (fun ls hl => ?_)
    refine lv_iload_n hx hb dX6_rowWith_9 rfl (lv_at hl 3 rfl) ?_
    refine lv_if_lt (tgt := 21) hx hb dX6_rowWith_10 (by decide) (fun c_6 => ?_) (fun c_6 => ?_)
    · rw [if_pos c_6] at h
      have h := Option.some.inj h
      subst h
      obtain ⟨sa9, hsa9⟩ := qz_s4 hZ
      exact vx_throwS hx hb hst hown (by decide +kernel) (by decide +kernel) (hts (.classLink RX6 133 "java/lang/IndexOutOfBoundsException") (by decide +kernel)) (hts (.initialized "java/lang/IndexOutOfBoundsException") (by decide +kernel)) hsa9 (vx_hat (B := [.declares (Bundle.initS "java/lang/RuntimeException"), .declares (Bundle.initS "java/lang/Exception"), .declares (Bundle.initS "java/lang/Throwable"), .castable "java/lang/IndexOutOfBoundsException" "java/lang/IndexOutOfBoundsException"]) (fun w h9 => hts w ((fun h8 => List.mem_cons_of_mem _ (List.mem_append_right _ (h8))) h9)) (by decide +kernel) (vx_c (va_Nw.use rfl (qz_d0 hZ)) (vx_c (va_Nw.use rfl (qz_d1 hZ)) (vx_c (va_Nw.use rfl (qz_d2 hZ)) (vx_c (va_Nw.use rfl (qz_c0 hZ)) vx_n))))) (by decide +kernel) (qz_u hZ) (qz_n hZ) hS (hl.1.trans hml.symm) dX6_rowWith_21 dX6_rowWith_24 dX6_rowWith_25 dX6_rowWith_27 dX6_rowWith_30 (fun x9 q9 => (hno x9 q9).elim) (Nat.le_of_ble_eq_true rfl) (Nat.le_of_ble_eq_true rfl) (Nat.le_of_ble_eq_true rfl) (Nat.le_of_ble_eq_true rfl) hlocks (fun t9 hv9 hz9 hk9 => ⟨(), trivial, ⟨rfl, ⟨hP.kept (fun k q hq => hk9 q.1 ((hP k q hq).lt)), hD⟩⟩, ⟨Nat.le_trans hS.1 hz9, fun q h1 h2 => (hk9 q (Nat.lt_of_lt_of_le h1 hS.1)).trans (hS.2.1 q h1 h2)⟩⟩) hS.2.2 (Nat.le_of_ble_eq_true rfl) (Nat.le_of_ble_eq_true rfl)
    · rw [if_neg c_6] at h
      refine lv_iload_n hx hb dX6_rowWith_13 rfl (lv_at hl 3 rfl) ?_
      refine lv_aload_n hx hb dX6_rowWith_14 rfl (lv_at hl 0 rfl) ?_
      refine va_calli (va_runV (As := []) (rest := [.int p1]) ⟨hx, hb, hml, hown, hts⟩ (nX3_length l D A ad cI cQ rest S a_3 hk_5) (cwV 0 hts gX6_rowWith_X3_length rfl rfl rfl (by decide +kernel) ⟨Nat.le_of_ble_eq_true rfl, Nat.le_of_ble_eq_true rfl⟩) ⟨qm_blind, va_recv hK hP (ci := 3) (q0 := (6 + a_3)) rfl (qg_M hk_5), fun U hU hW => ⟨rfl, qm_go hA hS hP hK hD hU hW⟩⟩ rfl rfl hl.1 rfl (lv_room (Nat.le_of_ble_eq_true rfl)) dX6_rowWith_15 ⟨Nat.le_of_ble_eq_true rfl, Nat.le_of_ble_eq_true rfl⟩) hS (fun _ _ h9 => h9) (fun _ h9 => h9) (fun v u t H1 locs1 ht hvm hw hB hz1 hk1 hS => ?_)
      obtain ⟨hw1, hw2⟩ := hw
      have hw1 : ((S.1 a_3).1) = v := hw1.symm
      have hw2 : S = u := hw2.symm
      subst hw1
      subst hw2
      obtain ⟨hP, hD⟩ := qm_bk ht hB
      refine lv_icmp_lt (tgt := 31) hx hb dX6_rowWith_18 (by decide) (fun c_7 => ?_) (fun c_7 => ?_)
      · rw [if_pos c_7] at h
        refine lv_aload_n hx hb dX6_rowWith_31 rfl (lv_at hl 0 rfl) ?_
        have h := Option.some.inj h
        subst h
        refine vx_ret ?_
        refine W.widen (k := 2) (n := 12) (Nat.le_of_ble_eq_true rfl) (Nat.le_of_ble_eq_true rfl) ?_
        exact W.aret (v := .ref (ad (6 + a_3))) hx hb hr (Or.inl ⟨_, rfl⟩) (Or.inr ⟨_, rfl⟩) (fun t ht hW => ⟨⟨S, ad (6 + a_3), rfl, rfl, ⟨⟨a_3, rfl, rfl⟩, qm_en ht hP hD⟩⟩, hS.F ht⟩) hS.2.2 dX6_rowWith_32
      · rw [if_neg c_7] at h
        have h := Option.some.inj h
        subst h
        obtain ⟨sa9, hsa9⟩ := qz_s4 hZ
        exact vx_throwS hx hb hst hown (by decide +kernel) (by decide +kernel) (hts (.classLink RX6 133 "java/lang/IndexOutOfBoundsException") (by decide +kernel)) (hts (.initialized "java/lang/IndexOutOfBoundsException") (by decide +kernel)) hsa9 (vx_hat (B := [.declares (Bundle.initS "java/lang/RuntimeException"), .declares (Bundle.initS "java/lang/Exception"), .declares (Bundle.initS "java/lang/Throwable"), .castable "java/lang/IndexOutOfBoundsException" "java/lang/IndexOutOfBoundsException"]) (fun w h9 => hts w ((fun h8 => List.mem_cons_of_mem _ (List.mem_append_right _ (h8))) h9)) (by decide +kernel) (vx_c (va_Nw.use rfl (qz_d0 hZ)) (vx_c (va_Nw.use rfl (qz_d1 hZ)) (vx_c (va_Nw.use rfl (qz_d2 hZ)) (vx_c (va_Nw.use rfl (qz_c0 hZ)) vx_n))))) (by decide +kernel) (qz_u hZ) (qz_n hZ) hS (hl.1.trans hml.symm) dX6_rowWith_21 dX6_rowWith_24 dX6_rowWith_25 dX6_rowWith_27 dX6_rowWith_30 (fun x9 q9 => (hno x9 q9).elim) (Nat.le_of_ble_eq_true rfl) (Nat.le_of_ble_eq_true rfl) (Nat.le_of_ble_eq_true rfl) (Nat.le_of_ble_eq_true rfl) hlocks (fun t9 hv9 hz9 hk9 => ⟨(), trivial, ⟨rfl, ⟨hP.kept (fun k q hq => hk9 q.1 ((hP k q hq).lt)), hD⟩⟩, ⟨Nat.le_trans hS.1 hz9, fun q h1 h2 => (hk9 q (Nat.lt_of_lt_of_le h1 hS.1)).trans (hS.2.1 q h1 h2)⟩⟩) hS.2.2 (Nat.le_of_ble_eq_true rfl) (Nat.le_of_ble_eq_true rfl)
  · refine qx_callr (vx_runV (As := [.int p0]) (rest := []) ⟨hx, hb, hml, hown, hts⟩ (kX6_counterAt hst l D A ad cI cQ rest S p0 _ hz_2) (cwV 1 hts gX6_rowWith_X6_counterAt rfl rfl rfl (by decide +kernel) ⟨Nat.le_of_ble_eq_true rfl, Nat.le_of_ble_eq_true rfl⟩) ⟨qm_blindZ, va_recv hK hP (ci := 6) (q0 := 0) rfl qg_Q, fun U hU hW => ⟨rfl, qm_go hA hS hP hK hD hU hW, qm_Zgo hZ hS hU hW⟩⟩ rfl rfl hl.1 rfl (lv_room (Nat.le_of_ble_eq_true rfl)) dX6_rowWith_2 ⟨Nat.le_of_ble_eq_true rfl, Nat.le_of_ble_eq_true rfl⟩) hS (fun _ _ h9 => h9) (fun _ h9 => h9) (fun _ _ h9 => h9) (fun E ce q9 u9 t H1 locs1 ht hvm hw hB hz1 hk1 hS hce hcv hcl => ?_) (fun u ra t H1 locs1 ht hvm hw hB hz1 hk1 hS => absurd (hB.1.choose_spec.1) (fun q => by cases q))
    obtain ⟨hE1, hE2⟩ := hB
    have hE1 := Sum.inr.inj hE1
    subst hE1
    obtain ⟨hP, hD⟩ := qm_bk ht hE2
    have h := Option.some.inj h
    subst h
    exact vx_out (fun x9 q9 => (hno x9 q9).elim) hlocks hce hcv hcl (fun t9 ht9 hvm9 => ⟨(), trivial, ⟨rfl, qm_en ht9 hP hD⟩, hS.F ht9⟩) hS.2.2 (Nat.le_of_ble_eq_true rfl) (Nat.le_of_ble_eq_true rfl)
noncomputable def fX6_counterForShare (S : qm_S) (p0 : Int32) (p1 : Int32) : Option (Nat ⊕ String) :=
  Option.bind (fX6_counterAt S p0) (fun z_1 => Sum.elim (fun a_3 => qm_gd (a_3 < 4) ((if p1 < 0 then Option.bind (fX6_demandInRange S (0 : Int32)) (fun z_7 => Sum.elim (fun a_9 => Option.bind (fX0_demandNumbers S a_3) (fun z_11 => Sum.elim (fun a_13 => some (.inl a_3)) (fun e => some (.inr e)) z_11)) (fun e => some (.inr e)) z_7) else (if (1000 : Int32) < p1 then Option.bind (fX6_demandInRange S (0 : Int32)) (fun z_16 => Sum.elim (fun a_18 => Option.bind (fX0_demandNumbers S a_3) (fun z_20 => Sum.elim (fun a_22 => some (.inl a_3)) (fun e => some (.inr e)) z_20)) (fun e => some (.inr e)) z_16) else Option.bind (fX6_demandInRange S (1 : Int32)) (fun z_24 => Sum.elim (fun a_26 => Option.bind (fX0_demandNumbers S a_3) (fun z_28 => Sum.elim (fun a_30 => some (.inl a_3)) (fun e => some (.inr e)) z_28)) (fun e => some (.inr e)) z_24))))) (fun e => some (.inr e)) z_1)
set_option maxHeartbeats 4000000 in
set_option maxRecDepth 100000 in
theorem kX6_counterForShare {l : Launch} (hst : l.stackTraces = false) (_ : Launch) (D : va_G) (A : Nat → Prop) (ad : Nat → Nat) (cI cQ : ClassId) (rest : va_W) (S : qm_S) (p0 : Int32) (p1 : Int32) (z : Nat ⊕ String) (h : fX6_counterForShare S p0 p1 = some z) : vx_Met l yX6_counterForShare wsX6_counterForShare ({ frames := 7, cells := 3, slots := 18, locals := 111 }) (va_Pc [.ref (ad 0), .int p0, .int p1] (qm_BZ D A (qm_T cI cQ) (qm_W ad cI cQ rest S))) (qm_Yr D A (qm_W ad cI cQ rest) S (fun i => ad (2 + i)) z) (qm_YX D A (qm_W ad cI cQ rest S) (fun E => z = .inr E)) 3 18 A := by
  refine vx_ofW (cc := cX6_counterForShare) (maxL := 4) (ret := (some (.object "QueueMiddles$Counter"))) (by decide) rfl ?_
  intro p e s m args below meth c s₁ B hml hno hv
  obtain ⟨rfl, ⟨hA, hP, hK, hD⟩, hZ⟩ := hv
  have hx := B.exec
  have hb := B.bytes
  have hr := B.returns
  have hts := atoms_spec (ws := wsX6_counterForShare) B.pre
  have hown : s.vm.findClass RX6 = some m.cls := findClass_of_methodNamed B.named
  have hlocks := B.notSynchronized
  have hS : va_S A s.heap s.heap [] := va_S.rf
  have hl := lv_entry ([.ref (ad 0), .int p0, .int p1]) (n := 4) (Nat.le_of_ble_eq_true rfl)
  rw [lg_entry_eq]
  generalize (lg_sl ([.ref (ad 0), .int p0, .int p1]) ++ List.replicate (4 - (lg_sl ([.ref (ad 0), .int p0, .int p1])).length) Slot.unset).toArray = ls at hl ⊢
  have hl : lv_has ls 4 [(0, .ref (ad 0)), (1, .int p0), (2, .int p1)] := hl
  rw [fX6_counterForShare] at h
  refine lv_aload_n hx hb dX6_counterForShare_0 rfl (lv_at hl 0 rfl) ?_
  refine lv_iload_n hx hb dX6_counterForShare_1 rfl (lv_at hl 1 rfl) ?_
  obtain ⟨z_1, hz_2, h⟩ := qm_bind h
  rcases z_1 with a_3 | e_4
  · refine qx_callr (vx_runV (As := [.int p0]) (rest := []) ⟨hx, hb, hml, hown, hts⟩ (kX6_counterAt hst l D A ad cI cQ rest S p0 _ hz_2) (cwV 1 hts gX6_counterForShare_X6_counterAt rfl rfl rfl (by decide +kernel) ⟨Nat.le_of_ble_eq_true rfl, Nat.le_of_ble_eq_true rfl⟩) ⟨qm_blindZ, va_recv hK hP (ci := 6) (q0 := 0) rfl qg_Q, fun U hU hW => ⟨rfl, qm_go hA hS hP hK hD hU hW, qm_Zgo hZ hS hU hW⟩⟩ rfl rfl hl.1 rfl (lv_room (Nat.le_of_ble_eq_true rfl)) dX6_counterForShare_2 ⟨Nat.le_of_ble_eq_true rfl, Nat.le_of_ble_eq_true rfl⟩) hS (fun _ _ h9 => h9) (fun _ h9 => h9) (fun _ _ h9 => h9) (fun E ce q9 u9 t H1 locs1 ht hvm hw hB hz1 hk1 hS hce hcv hcl => absurd hB.1 (fun q => by cases q)) (fun u ra t H1 locs1 ht hvm hw hB hz1 hk1 hS => ?_)
    rw [Sum.elim_inl] at h
    obtain ⟨⟨i9, hi1, hi2⟩, hB⟩ := hB
    have hi1 := Sum.inl.inj hi1
    subst hi1
    have hi2 : ad (2 + a_3) = ra := hi2.symm
    subst hi2
    have hw : S = u := hw.symm
    subst hw
    obtain ⟨hk_5, h⟩ := qm_gd_some h
    obtain ⟨hP, hD⟩ := qm_bk ht hB
    refine lv_astore_n (lv' := [(3, .ref (ad (2 + a_3))), (0, .ref (ad 0)), (1, .int p0), (2, .int p1)]) hx hb dX6_counterForShare_5 rfl hl (by decide) rfl (fun ls hl => ?_)
    refine lv_iload_n hx hb dX6_counterForShare_6 rfl (lv_at hl 3 rfl) ?_
    refine lv_if_lt (tgt := 21) hx hb dX6_counterForShare_7 (by decide) (fun c_6 => ?_) (fun c_6 => ?_)
    · rw [if_pos c_6] at h
      refine lv_iconst (v := (0 : Int32)) hx hb dX6_counterForShare_21 (by decide) ?_
      obtain ⟨z_7, hz_8, h⟩ := qm_bind h
      rcases z_7 with a_9 | e_10
      · refine vx_callv (vx_runS (As := [.int (0 : Int32)]) (rest := []) ⟨hx, hb, hml, hown, hts⟩ (kX6_demandInRange hst l D A ad cI cQ rest S (0 : Int32) _ hz_8) (va_cwS 1 hts gX6_counterForShare_X6_demandInRange rfl rfl rfl (by decide +kernel) ⟨Nat.le_of_ble_eq_true rfl, Nat.le_of_ble_eq_true rfl⟩) ⟨qm_blindZ, fun U hU hW => ⟨rfl, qm_go hA hS hP hK hD hU hW, qm_Zgo hZ hS hU hW⟩⟩ rfl rfl hl.1 rfl (lv_room (Nat.le_of_ble_eq_true rfl)) dX6_counterForShare_22 ⟨Nat.le_of_ble_eq_true rfl, Nat.le_of_ble_eq_true rfl⟩) hS (fun _ _ h9 => h9) (fun _ h9 => h9) (fun _ _ h9 => h9) (fun E ce q9 u9 t H1 locs1 ht hvm hw hB hz1 hk1 hS hce hcv hcl => absurd hB.1 (fun q => by cases q)) (fun u t H1 locs1 ht hvm hw hB hz1 hk1 hS => ?_)
        rw [Sum.elim_inl] at h
        obtain ⟨hw1, hw2⟩ := hw
        have hw2 : S = u := hw2.symm
        subst hw2
        obtain ⟨hP, hD⟩ := qm_bk ht hB
        refine lv_aload_n hx hb dX6_counterForShare_25 rfl (lv_at hl 0 rfl) ?_
        obtain ⟨z_11, hz_12, h⟩ := qm_bind h
        rcases z_11 with a_13 | e_14
        · refine vx_callv (vx_runV (As := []) (rest := []) ⟨hx, hb, hml, hown, hts⟩ (kX0_demandNumbers hst l D A ad cI cQ rest S a_3 hk_5 _ hz_12) (cwV 0 hts gX6_counterForShare_X0_demandNumbers rfl rfl rfl (by decide +kernel) ⟨Nat.le_of_ble_eq_true rfl, Nat.le_of_ble_eq_true rfl⟩) ⟨qm_blindZ, va_recv hK hP (ci := 0) (q0 := (2 + a_3)) rfl (qg_C hk_5), fun U hU hW => ⟨rfl, qm_go hA hS hP hK hD hU hW, qm_Zgo hZ hS hU hW⟩⟩ rfl rfl hl.1 rfl (lv_room (Nat.le_of_ble_eq_true rfl)) dX6_counterForShare_26 ⟨Nat.le_of_ble_eq_true rfl, Nat.le_of_ble_eq_true rfl⟩) hS (fun _ _ h9 => h9) (fun _ h9 => h9) (fun _ _ h9 => h9) (fun E ce q9 u9 t H1 locs1 ht hvm hw hB hz1 hk1 hS hce hcv hcl => absurd hB.1 (fun q => by cases q)) (fun u t H1 locs1 ht hvm hw hB hz1 hk1 hS => ?_)
          rw [Sum.elim_inl] at h
          obtain ⟨hw1, hw2⟩ := hw
          have hw2 : S = u := hw2.symm
          subst hw2
          obtain ⟨hP, hD⟩ := qm_bk ht hB
          refine lv_aload_n hx hb dX6_counterForShare_29 rfl (lv_at hl 0 rfl) ?_
          have h := Option.some.inj h
          subst h
          refine vx_ret ?_
          refine W.widen (k := 3) (n := 18) (Nat.le_of_ble_eq_true rfl) (Nat.le_of_ble_eq_true rfl) ?_
          exact W.aret (v := .ref (ad (2 + a_3))) hx hb hr (Or.inl ⟨_, rfl⟩) (Or.inr ⟨_, rfl⟩) (fun t ht hW => ⟨⟨S, ad (2 + a_3), rfl, rfl, ⟨⟨a_3, rfl, rfl⟩, qm_en ht hP hD⟩⟩, hS.F ht⟩) hS.2.2 dX6_counterForShare_30
        · refine vx_callv (vx_runV (As := []) (rest := []) ⟨hx, hb, hml, hown, hts⟩ (kX0_demandNumbers hst l D A ad cI cQ rest S a_3 hk_5 _ hz_12) (cwV 0 hts gX6_counterForShare_X0_demandNumbers rfl rfl rfl (by decide +kernel) ⟨Nat.le_of_ble_eq_true rfl, Nat.le_of_ble_eq_true rfl⟩) ⟨qm_blindZ, va_recv hK hP (ci := 0) (q0 := (2 + a_3)) rfl (qg_C hk_5), fun U hU hW => ⟨rfl, qm_go hA hS hP hK hD hU hW, qm_Zgo hZ hS hU hW⟩⟩ rfl rfl hl.1 rfl (lv_room (Nat.le_of_ble_eq_true rfl)) dX6_counterForShare_26 ⟨Nat.le_of_ble_eq_true rfl, Nat.le_of_ble_eq_true rfl⟩) hS (fun _ _ h9 => h9) (fun _ h9 => h9) (fun _ _ h9 => h9) (fun E ce q9 u9 t H1 locs1 ht hvm hw hB hz1 hk1 hS hce hcv hcl => ?_) (fun u t H1 locs1 ht hvm hw hB hz1 hk1 hS => absurd (hw.1) (fun q => by cases q))
          obtain ⟨hE1, hE2⟩ := hB
          have hE1 := Sum.inr.inj hE1
          subst hE1
          obtain ⟨hP, hD⟩ := qm_bk ht hE2
          have h := Option.some.inj h
          subst h
          exact vx_out (fun x9 q9 => (hno x9 q9).elim) hlocks hce hcv hcl (fun t9 ht9 hvm9 => ⟨(), trivial, ⟨rfl, qm_en ht9 hP hD⟩, hS.F ht9⟩) hS.2.2 (Nat.le_of_ble_eq_true rfl) (Nat.le_of_ble_eq_true rfl)
      · refine vx_callv (vx_runS (As := [.int (0 : Int32)]) (rest := []) ⟨hx, hb, hml, hown, hts⟩ (kX6_demandInRange hst l D A ad cI cQ rest S (0 : Int32) _ hz_8) (va_cwS 1 hts gX6_counterForShare_X6_demandInRange rfl rfl rfl (by decide +kernel) ⟨Nat.le_of_ble_eq_true rfl, Nat.le_of_ble_eq_true rfl⟩) ⟨qm_blindZ, fun U hU hW => ⟨rfl, qm_go hA hS hP hK hD hU hW, qm_Zgo hZ hS hU hW⟩⟩ rfl rfl hl.1 rfl (lv_room (Nat.le_of_ble_eq_true rfl)) dX6_counterForShare_22 ⟨Nat.le_of_ble_eq_true rfl, Nat.le_of_ble_eq_true rfl⟩) hS (fun _ _ h9 => h9) (fun _ h9 => h9) (fun _ _ h9 => h9) (fun E ce q9 u9 t H1 locs1 ht hvm hw hB hz1 hk1 hS hce hcv hcl => ?_) (fun u t H1 locs1 ht hvm hw hB hz1 hk1 hS => absurd (hw.1) (fun q => by cases q))
        obtain ⟨hE1, hE2⟩ := hB
        have hE1 := Sum.inr.inj hE1
        subst hE1
        obtain ⟨hP, hD⟩ := qm_bk ht hE2
        have h := Option.some.inj h
        subst h
        exact vx_out (fun x9 q9 => (hno x9 q9).elim) hlocks hce hcv hcl (fun t9 ht9 hvm9 => ⟨(), trivial, ⟨rfl, qm_en ht9 hP hD⟩, hS.F ht9⟩) hS.2.2 (Nat.le_of_ble_eq_true rfl) (Nat.le_of_ble_eq_true rfl)
    · rw [if_neg c_6] at h
      refine lv_iload_n hx hb dX6_counterForShare_10 rfl (lv_at hl 3 rfl) ?_
      refine lv_sipush (v := (1000 : Int32)) hx hb dX6_counterForShare_11 (by decide) ?_
      refine lv_icmp_gt (tgt := 21) hx hb dX6_counterForShare_14 (by decide) (fun c_15 => ?_) (fun c_15 => ?_)
      · rw [if_pos c_15] at h
        refine lv_iconst (v := (0 : Int32)) hx hb dX6_counterForShare_21 (by decide) ?_
        obtain ⟨z_16, hz_17, h⟩ := qm_bind h
        rcases z_16 with a_18 | e_19
        · refine vx_callv (vx_runS (As := [.int (0 : Int32)]) (rest := []) ⟨hx, hb, hml, hown, hts⟩ (kX6_demandInRange hst l D A ad cI cQ rest S (0 : Int32) _ hz_17) (va_cwS 1 hts gX6_counterForShare_X6_demandInRange rfl rfl rfl (by decide +kernel) ⟨Nat.le_of_ble_eq_true rfl, Nat.le_of_ble_eq_true rfl⟩) ⟨qm_blindZ, fun U hU hW => ⟨rfl, qm_go hA hS hP hK hD hU hW, qm_Zgo hZ hS hU hW⟩⟩ rfl rfl hl.1 rfl (lv_room (Nat.le_of_ble_eq_true rfl)) dX6_counterForShare_22 ⟨Nat.le_of_ble_eq_true rfl, Nat.le_of_ble_eq_true rfl⟩) hS (fun _ _ h9 => h9) (fun _ h9 => h9) (fun _ _ h9 => h9) (fun E ce q9 u9 t H1 locs1 ht hvm hw hB hz1 hk1 hS hce hcv hcl => absurd hB.1 (fun q => by cases q)) (fun u t H1 locs1 ht hvm hw hB hz1 hk1 hS => ?_)
          rw [Sum.elim_inl] at h
          obtain ⟨hw1, hw2⟩ := hw
          have hw2 : S = u := hw2.symm
          subst hw2
          obtain ⟨hP, hD⟩ := qm_bk ht hB
          refine lv_aload_n hx hb dX6_counterForShare_25 rfl (lv_at hl 0 rfl) ?_
          obtain ⟨z_20, hz_21, h⟩ := qm_bind h
          rcases z_20 with a_22 | e_23
          · refine vx_callv (vx_runV (As := []) (rest := []) ⟨hx, hb, hml, hown, hts⟩ (kX0_demandNumbers hst l D A ad cI cQ rest S a_3 hk_5 _ hz_21) (cwV 0 hts gX6_counterForShare_X0_demandNumbers rfl rfl rfl (by decide +kernel) ⟨Nat.le_of_ble_eq_true rfl, Nat.le_of_ble_eq_true rfl⟩) ⟨qm_blindZ, va_recv hK hP (ci := 0) (q0 := (2 + a_3)) rfl (qg_C hk_5), fun U hU hW => ⟨rfl, qm_go hA hS hP hK hD hU hW, qm_Zgo hZ hS hU hW⟩⟩ rfl rfl hl.1 rfl (lv_room (Nat.le_of_ble_eq_true rfl)) dX6_counterForShare_26 ⟨Nat.le_of_ble_eq_true rfl, Nat.le_of_ble_eq_true rfl⟩) hS (fun _ _ h9 => h9) (fun _ h9 => h9) (fun _ _ h9 => h9) (fun E ce q9 u9 t H1 locs1 ht hvm hw hB hz1 hk1 hS hce hcv hcl => absurd hB.1 (fun q => by cases q)) (fun u t H1 locs1 ht hvm hw hB hz1 hk1 hS => ?_)
            rw [Sum.elim_inl] at h
            obtain ⟨hw1, hw2⟩ := hw
            have hw2 : S = u := hw2.symm
            subst hw2
            obtain ⟨hP, hD⟩ := qm_bk ht hB
            refine lv_aload_n hx hb dX6_counterForShare_29 rfl (lv_at hl 0 rfl) ?_
            have h := Option.some.inj h
            subst h
            refine vx_ret ?_
            refine W.widen (k := 3) (n := 18) (Nat.le_of_ble_eq_true rfl) (Nat.le_of_ble_eq_true rfl) ?_
            exact W.aret (v := .ref (ad (2 + a_3))) hx hb hr (Or.inl ⟨_, rfl⟩) (Or.inr ⟨_, rfl⟩) (fun t ht hW => ⟨⟨S, ad (2 + a_3), rfl, rfl, ⟨⟨a_3, rfl, rfl⟩, qm_en ht hP hD⟩⟩, hS.F ht⟩) hS.2.2 dX6_counterForShare_30
          · refine vx_callv (vx_runV (As := []) (rest := []) ⟨hx, hb, hml, hown, hts⟩ (kX0_demandNumbers hst l D A ad cI cQ rest S a_3 hk_5 _ hz_21) (cwV 0 hts gX6_counterForShare_X0_demandNumbers rfl rfl rfl (by decide +kernel) ⟨Nat.le_of_ble_eq_true rfl, Nat.le_of_ble_eq_true rfl⟩) ⟨qm_blindZ, va_recv hK hP (ci := 0) (q0 := (2 + a_3)) rfl (qg_C hk_5), fun U hU hW => ⟨rfl, qm_go hA hS hP hK hD hU hW, qm_Zgo hZ hS hU hW⟩⟩ rfl rfl hl.1 rfl (lv_room (Nat.le_of_ble_eq_true rfl)) dX6_counterForShare_26 ⟨Nat.le_of_ble_eq_true rfl, Nat.le_of_ble_eq_true rfl⟩) hS (fun _ _ h9 => h9) (fun _ h9 => h9) (fun _ _ h9 => h9) (fun E ce q9 u9 t H1 locs1 ht hvm hw hB hz1 hk1 hS hce hcv hcl => ?_) (fun u t H1 locs1 ht hvm hw hB hz1 hk1 hS => absurd (hw.1) (fun q => by cases q))
            obtain ⟨hE1, hE2⟩ := hB
            have hE1 := Sum.inr.inj hE1
            subst hE1
            obtain ⟨hP, hD⟩ := qm_bk ht hE2
            have h := Option.some.inj h
            subst h
            exact vx_out (fun x9 q9 => (hno x9 q9).elim) hlocks hce hcv hcl (fun t9 ht9 hvm9 => ⟨(), trivial, ⟨rfl, qm_en ht9 hP hD⟩, hS.F ht9⟩) hS.2.2 (Nat.le_of_ble_eq_true rfl) (Nat.le_of_ble_eq_true rfl)
        · refine vx_callv (vx_runS (As := [.int (0 : Int32)]) (rest := []) ⟨hx, hb, hml, hown, hts⟩ (kX6_demandInRange hst l D A ad cI cQ rest S (0 : Int32) _ hz_17) (va_cwS 1 hts gX6_counterForShare_X6_demandInRange rfl rfl rfl (by decide +kernel) ⟨Nat.le_of_ble_eq_true rfl, Nat.le_of_ble_eq_true rfl⟩) ⟨qm_blindZ, fun U hU hW => ⟨rfl, qm_go hA hS hP hK hD hU hW, qm_Zgo hZ hS hU hW⟩⟩ rfl rfl hl.1 rfl (lv_room (Nat.le_of_ble_eq_true rfl)) dX6_counterForShare_22 ⟨Nat.le_of_ble_eq_true rfl, Nat.le_of_ble_eq_true rfl⟩) hS (fun _ _ h9 => h9) (fun _ h9 => h9) (fun _ _ h9 => h9) (fun E ce q9 u9 t H1 locs1 ht hvm hw hB hz1 hk1 hS hce hcv hcl => ?_) (fun u t H1 locs1 ht hvm hw hB hz1 hk1 hS => absurd (hw.1) (fun q => by cases q))
          obtain ⟨hE1, hE2⟩ := hB
          have hE1 := Sum.inr.inj hE1
          subst hE1
          obtain ⟨hP, hD⟩ := qm_bk ht hE2
          have h := Option.some.inj h
          subst h
          exact vx_out (fun x9 q9 => (hno x9 q9).elim) hlocks hce hcv hcl (fun t9 ht9 hvm9 => ⟨(), trivial, ⟨rfl, qm_en ht9 hP hD⟩, hS.F ht9⟩) hS.2.2 (Nat.le_of_ble_eq_true rfl) (Nat.le_of_ble_eq_true rfl)
      · rw [if_neg c_15] at h
        refine lv_iconst (v := (1 : Int32)) hx hb dX6_counterForShare_17 (by decide) ?_
        refine lv_goto (tgt := 22) hx hb dX6_counterForShare_18 (by decide) ?_
        obtain ⟨z_24, hz_25, h⟩ := qm_bind h
        rcases z_24 with a_26 | e_27
        · refine vx_callv (vx_runS (As := [.int (1 : Int32)]) (rest := []) ⟨hx, hb, hml, hown, hts⟩ (kX6_demandInRange hst l D A ad cI cQ rest S (1 : Int32) _ hz_25) (va_cwS 1 hts gX6_counterForShare_X6_demandInRange rfl rfl rfl (by decide +kernel) ⟨Nat.le_of_ble_eq_true rfl, Nat.le_of_ble_eq_true rfl⟩) ⟨qm_blindZ, fun U hU hW => ⟨rfl, qm_go hA hS hP hK hD hU hW, qm_Zgo hZ hS hU hW⟩⟩ rfl rfl hl.1 rfl (lv_room (Nat.le_of_ble_eq_true rfl)) dX6_counterForShare_22 ⟨Nat.le_of_ble_eq_true rfl, Nat.le_of_ble_eq_true rfl⟩) hS (fun _ _ h9 => h9) (fun _ h9 => h9) (fun _ _ h9 => h9) (fun E ce q9 u9 t H1 locs1 ht hvm hw hB hz1 hk1 hS hce hcv hcl => absurd hB.1 (fun q => by cases q)) (fun u t H1 locs1 ht hvm hw hB hz1 hk1 hS => ?_)
          rw [Sum.elim_inl] at h
          obtain ⟨hw1, hw2⟩ := hw
          have hw2 : S = u := hw2.symm
          subst hw2
          obtain ⟨hP, hD⟩ := qm_bk ht hB
          refine lv_aload_n hx hb dX6_counterForShare_25 rfl (lv_at hl 0 rfl) ?_
          obtain ⟨z_28, hz_29, h⟩ := qm_bind h
          rcases z_28 with a_30 | e_31
          · refine vx_callv (vx_runV (As := []) (rest := []) ⟨hx, hb, hml, hown, hts⟩ (kX0_demandNumbers hst l D A ad cI cQ rest S a_3 hk_5 _ hz_29) (cwV 0 hts gX6_counterForShare_X0_demandNumbers rfl rfl rfl (by decide +kernel) ⟨Nat.le_of_ble_eq_true rfl, Nat.le_of_ble_eq_true rfl⟩) ⟨qm_blindZ, va_recv hK hP (ci := 0) (q0 := (2 + a_3)) rfl (qg_C hk_5), fun U hU hW => ⟨rfl, qm_go hA hS hP hK hD hU hW, qm_Zgo hZ hS hU hW⟩⟩ rfl rfl hl.1 rfl (lv_room (Nat.le_of_ble_eq_true rfl)) dX6_counterForShare_26 ⟨Nat.le_of_ble_eq_true rfl, Nat.le_of_ble_eq_true rfl⟩) hS (fun _ _ h9 => h9) (fun _ h9 => h9) (fun _ _ h9 => h9) (fun E ce q9 u9 t H1 locs1 ht hvm hw hB hz1 hk1 hS hce hcv hcl => absurd hB.1 (fun q => by cases q)) (fun u t H1 locs1 ht hvm hw hB hz1 hk1 hS => ?_)
            rw [Sum.elim_inl] at h
            obtain ⟨hw1, hw2⟩ := hw
            have hw2 : S = u := hw2.symm
            subst hw2
            obtain ⟨hP, hD⟩ := qm_bk ht hB
            refine lv_aload_n hx hb dX6_counterForShare_29 rfl (lv_at hl 0 rfl) ?_
            have h := Option.some.inj h
            subst h
            refine vx_ret ?_
            refine W.widen (k := 3) (n := 18) (Nat.le_of_ble_eq_true rfl) (Nat.le_of_ble_eq_true rfl) ?_
            exact W.aret (v := .ref (ad (2 + a_3))) hx hb hr (Or.inl ⟨_, rfl⟩) (Or.inr ⟨_, rfl⟩) (fun t ht hW => ⟨⟨S, ad (2 + a_3), rfl, rfl, ⟨⟨a_3, rfl, rfl⟩, qm_en ht hP hD⟩⟩, hS.F ht⟩) hS.2.2 dX6_counterForShare_30
          · refine vx_callv (vx_runV (As := []) (rest := []) ⟨hx, hb, hml, hown, hts⟩ (kX0_demandNumbers hst l D A ad cI cQ rest S a_3 hk_5 _ hz_29) (cwV 0 hts gX6_counterForShare_X0_demandNumbers rfl rfl rfl (by decide +kernel) ⟨Nat.le_of_ble_eq_true rfl, Nat.le_of_ble_eq_true rfl⟩) ⟨qm_blindZ, va_recv hK hP (ci := 0) (q0 := (2 + a_3)) rfl (qg_C hk_5), fun U hU hW => ⟨rfl, qm_go hA hS hP hK hD hU hW, qm_Zgo hZ hS hU hW⟩⟩ rfl rfl hl.1 rfl (lv_room (Nat.le_of_ble_eq_true rfl)) dX6_counterForShare_26 ⟨Nat.le_of_ble_eq_true rfl, Nat.le_of_ble_eq_true rfl⟩) hS (fun _ _ h9 => h9) (fun _ h9 => h9) (fun _ _ h9 => h9) (fun E ce q9 u9 t H1 locs1 ht hvm hw hB hz1 hk1 hS hce hcv hcl => ?_) (fun u t H1 locs1 ht hvm hw hB hz1 hk1 hS => absurd (hw.1) (fun q => by cases q))
            obtain ⟨hE1, hE2⟩ := hB
            have hE1 := Sum.inr.inj hE1
            subst hE1
            obtain ⟨hP, hD⟩ := qm_bk ht hE2
            have h := Option.some.inj h
            subst h
            exact vx_out (fun x9 q9 => (hno x9 q9).elim) hlocks hce hcv hcl (fun t9 ht9 hvm9 => ⟨(), trivial, ⟨rfl, qm_en ht9 hP hD⟩, hS.F ht9⟩) hS.2.2 (Nat.le_of_ble_eq_true rfl) (Nat.le_of_ble_eq_true rfl)
        · refine vx_callv (vx_runS (As := [.int (1 : Int32)]) (rest := []) ⟨hx, hb, hml, hown, hts⟩ (kX6_demandInRange hst l D A ad cI cQ rest S (1 : Int32) _ hz_25) (va_cwS 1 hts gX6_counterForShare_X6_demandInRange rfl rfl rfl (by decide +kernel) ⟨Nat.le_of_ble_eq_true rfl, Nat.le_of_ble_eq_true rfl⟩) ⟨qm_blindZ, fun U hU hW => ⟨rfl, qm_go hA hS hP hK hD hU hW, qm_Zgo hZ hS hU hW⟩⟩ rfl rfl hl.1 rfl (lv_room (Nat.le_of_ble_eq_true rfl)) dX6_counterForShare_22 ⟨Nat.le_of_ble_eq_true rfl, Nat.le_of_ble_eq_true rfl⟩) hS (fun _ _ h9 => h9) (fun _ h9 => h9) (fun _ _ h9 => h9) (fun E ce q9 u9 t H1 locs1 ht hvm hw hB hz1 hk1 hS hce hcv hcl => ?_) (fun u t H1 locs1 ht hvm hw hB hz1 hk1 hS => absurd (hw.1) (fun q => by cases q))
          obtain ⟨hE1, hE2⟩ := hB
          have hE1 := Sum.inr.inj hE1
          subst hE1
          obtain ⟨hP, hD⟩ := qm_bk ht hE2
          have h := Option.some.inj h
          subst h
          exact vx_out (fun x9 q9 => (hno x9 q9).elim) hlocks hce hcv hcl (fun t9 ht9 hvm9 => ⟨(), trivial, ⟨rfl, qm_en ht9 hP hD⟩, hS.F ht9⟩) hS.2.2 (Nat.le_of_ble_eq_true rfl) (Nat.le_of_ble_eq_true rfl)
  · refine qx_callr (vx_runV (As := [.int p0]) (rest := []) ⟨hx, hb, hml, hown, hts⟩ (kX6_counterAt hst l D A ad cI cQ rest S p0 _ hz_2) (cwV 1 hts gX6_counterForShare_X6_counterAt rfl rfl rfl (by decide +kernel) ⟨Nat.le_of_ble_eq_true rfl, Nat.le_of_ble_eq_true rfl⟩) ⟨qm_blindZ, va_recv hK hP (ci := 6) (q0 := 0) rfl qg_Q, fun U hU hW => ⟨rfl, qm_go hA hS hP hK hD hU hW, qm_Zgo hZ hS hU hW⟩⟩ rfl rfl hl.1 rfl (lv_room (Nat.le_of_ble_eq_true rfl)) dX6_counterForShare_2 ⟨Nat.le_of_ble_eq_true rfl, Nat.le_of_ble_eq_true rfl⟩) hS (fun _ _ h9 => h9) (fun _ h9 => h9) (fun _ _ h9 => h9) (fun E ce q9 u9 t H1 locs1 ht hvm hw hB hz1 hk1 hS hce hcv hcl => ?_) (fun u ra t H1 locs1 ht hvm hw hB hz1 hk1 hS => absurd (hB.1.choose_spec.1) (fun q => by cases q))
    obtain ⟨hE1, hE2⟩ := hB
    have hE1 := Sum.inr.inj hE1
    subst hE1
    obtain ⟨hP, hD⟩ := qm_bk ht hE2
    have h := Option.some.inj h
    subst h
    exact vx_out (fun x9 q9 => (hno x9 q9).elim) hlocks hce hcv hcl (fun t9 ht9 hvm9 => ⟨(), trivial, ⟨rfl, qm_en ht9 hP hD⟩, hS.F ht9⟩) hS.2.2 (Nat.le_of_ble_eq_true rfl) (Nat.le_of_ble_eq_true rfl)
