noncomputable def fL_areAnswersSo (S : qm_S) (p0 : Int32) (p1 : Int32) (p2 : Int32) : Option (Int32) :=
  Option.bind (fX6_count S p0) (fun z_1 => Option.bind (fX6_atLeastUpTo S p0 p2) (fun z_3 => Option.bind (fX6_reallyUpTo S p0 p2) (fun z_5 => (if z_5 < z_3 then none else Option.bind (fX6_reallyUpTo S p0 p2) (fun z_8 => Option.bind (fX6_atMostUpTo S p0 p2) (fun z_10 => (if z_10 < z_8 then none else Option.bind (fX6_atMostUpTo S p0 p2) (fun z_13 => (if z_1 < z_13 then none else (if z_1 ≤ 0 then some (1 : Int32) else Option.bind (fX6_ask S p0 p1) (fun z_17 => Option.bind (fX6_middle S p0) (fun z_19 => Option.bind (fX6_reallyUpTo S p0 z_17) (fun z_21 => Option.bind (fX6_reallyUpTo S p0 (z_17 - (1 : Int32))) (fun z_23 => (if z_21 ≤ z_23 then none else Option.bind (fX6_reallyOff S p0 p1) (fun z_26 => Option.bind (fX6_off S p0 p1) (fun z_28 => (if z_28 < z_26 then none else Option.bind (fX6_off S p0 p1) (fun z_31 => (if z_31 < 0 then none else Option.bind (fX6_middleByHeaps S p0) (fun z_34 => (if z_19 = z_34 then Option.bind (fX6_reallyUpTo S p0 z_19) (fun z_37 => (if z_37 < ((z_1 / (2 : Int32)) + (z_1 - z_1 / (2 : Int32) * (2 : Int32))) then none else Option.bind (fX6_reallyUpTo S p0 (z_19 - (1 : Int32))) (fun z_40 => (if ((z_1 / (2 : Int32)) + (z_1 - z_1 / (2 : Int32) * (2 : Int32))) ≤ z_40 then none else some (1 : Int32))))) else none))))))))))))))))))))))
set_option maxHeartbeats 4000000 in
set_option maxRecDepth 100000 in
theorem kL_areAnswersSo (l : Launch) (D : va_G) (A : Nat → Prop) (ad : Nat → Nat) (cI cQ : ClassId) (rest : va_W) (S : qm_S) (p0 : Int32) (p1 : Int32) (p2 : Int32) (z : Int32) (h : fL_areAnswersSo S p0 p1 p2 = some z) : Met l yL_areAnswersSo wsL_areAnswersSo ({ frames := 8, cells := 0, slots := 0, locals := 182 }) (va_Pc [.ref (ad 0), .int p0, .int p1, .int p2] (qn_B D A (qm_T cI cQ) (qm_W ad cI cQ rest S))) (qm_Qi D A (qm_W ad cI cQ rest) (z, S)) 0 0 A := by
  refine Met.ofW (cc := cL_areAnswersSo) (maxL := 9) (ret := (some .boolean)) (by decide) rfl ?_
  intro p e s m args below meth c s₁ B hml hv
  obtain ⟨rfl, ⟨hA, hP, hK, hD⟩, hZ⟩ := hv
  have hx := B.exec
  have hb := B.bytes
  have hr := B.returns
  have hts := atoms_spec (ws := wsL_areAnswersSo) B.pre
  have hown : s.vm.findClass RL = some m.cls := findClass_of_methodNamed B.named
  have hlocks := B.notSynchronized
  have hS : va_S A s.heap s.heap [] := va_S.rf
  have hl := lv_entry ([.ref (ad 0), .int p0, .int p1, .int p2]) (n := 9) (Nat.le_of_ble_eq_true rfl)
  rw [lg_entry_eq]
  generalize (lg_sl ([.ref (ad 0), .int p0, .int p1, .int p2]) ++ List.replicate (9 - (lg_sl ([.ref (ad 0), .int p0, .int p1, .int p2])).length) Slot.unset).toArray = ls at hl ⊢
  have hl : lv_has ls 9 [(0, .ref (ad 0)), (1, .int p0), (2, .int p1), (3, .int p2)] := hl
  rw [fL_areAnswersSo] at h
  refine lv_aload_n hx hb dL_areAnswersSo_0 rfl (lv_at hl 0 rfl) ?_
  refine lv_iload_n hx hb dL_areAnswersSo_1 rfl (lv_at hl 1 rfl) ?_
  obtain ⟨z_1, hz_2, h⟩ := qm_bind h
  refine va_calli (va_runV (As := [.int p0]) (rest := []) ⟨hx, hb, hml, hown, hts⟩ (kX6_count l D A ad cI cQ rest S p0 z_1 hz_2) (cwV 1 hts gL_areAnswersSo_X6_count rfl rfl rfl (by decide +kernel) ⟨Nat.le_of_ble_eq_true rfl, Nat.le_of_ble_eq_true rfl⟩) ⟨qn_blind, va_recv hK hP (ci := 6) (q0 := 0) rfl qg_Q, fun U hU hW => ⟨rfl, qm_go hA hS hP hK hD hU hW, qn_go hZ hW⟩⟩ rfl rfl hl.1 rfl (lv_room (Nat.le_of_ble_eq_true rfl)) dL_areAnswersSo_2 ⟨Nat.le_of_ble_eq_true rfl, Nat.le_of_ble_eq_true rfl⟩) hS (fun _ _ h9 => h9) (fun _ h9 => h9) (fun v u t H1 locs1 ht hvm hw hB hz1 hk1 hS => ?_)
  obtain ⟨hw1, hw2⟩ := hw
  have hw2 : S = u := hw2.symm
  have hw1 : z_1 = v := hw1.symm
  subst hw1
  subst hw2
  obtain ⟨hP, hD⟩ := qm_bk ht hB
  clear hB
  refine lv_istore (lv' := [(4, .int z_1), (0, .ref (ad 0)), (1, .int p0), (2, .int p1), (3, .int p2)]) hx hb dL_areAnswersSo_5 hl (by decide) rfl (fun ls hl => ?_)
  refine lv_aload_n hx hb dL_areAnswersSo_7 rfl (lv_at hl 1 rfl) ?_
  refine lv_iload_n hx hb dL_areAnswersSo_8 rfl (lv_at hl 2 rfl) ?_
  refine lv_iload_n hx hb dL_areAnswersSo_9 rfl (lv_at hl 4 rfl) ?_
  obtain ⟨z_3, hz_4, h⟩ := qm_bind h
  refine va_calli (va_runV (As := [.int p0, .int p2]) (rest := []) ⟨hx, hb, hml, hown, hts⟩ (kX6_atLeastUpTo l D A ad cI cQ rest S p0 p2 z_3 hz_4) (cwV 2 hts gL_areAnswersSo_X6_atLeastUpTo rfl rfl rfl (by decide +kernel) ⟨Nat.le_of_ble_eq_true rfl, Nat.le_of_ble_eq_true rfl⟩) ⟨qn_blind, va_recv hK hP (ci := 6) (q0 := 0) rfl qg_Q, fun U hU hW => ⟨rfl, qm_go hA hS hP hK hD hU hW, qn_go hZ hW⟩⟩ rfl rfl hl.1 rfl (lv_room (Nat.le_of_ble_eq_true rfl)) dL_areAnswersSo_10 ⟨Nat.le_of_ble_eq_true rfl, Nat.le_of_ble_eq_true rfl⟩) hS (fun _ _ h9 => h9) (fun _ h9 => h9) (fun v u t H1 locs1 ht hvm hw hB hz1 hk1 hS => ?_)
  obtain ⟨hw1, hw2⟩ := hw
  have hw2 : S = u := hw2.symm
  have hw1 : z_3 = v := hw1.symm
  subst hw1
  subst hw2
  obtain ⟨hP, hD⟩ := qm_bk ht hB
  clear hB
  refine lv_aload_n hx hb dL_areAnswersSo_13 rfl (lv_at hl 1 rfl) ?_
  refine lv_iload_n hx hb dL_areAnswersSo_14 rfl (lv_at hl 2 rfl) ?_
  refine lv_iload_n hx hb dL_areAnswersSo_15 rfl (lv_at hl 4 rfl) ?_
  obtain ⟨z_5, hz_6, h⟩ := qm_bind h
  refine va_calli (va_runV (As := [.int p0, .int p2]) (rest := [.int z_3]) ⟨hx, hb, hml, hown, hts⟩ (kX6_reallyUpTo l D A ad cI cQ rest S p0 p2 z_5 hz_6) (cwV 2 hts gL_areAnswersSo_X6_reallyUpTo rfl rfl rfl (by decide +kernel) ⟨Nat.le_of_ble_eq_true rfl, Nat.le_of_ble_eq_true rfl⟩) ⟨qn_blind, va_recv hK hP (ci := 6) (q0 := 0) rfl qg_Q, fun U hU hW => ⟨rfl, qm_go hA hS hP hK hD hU hW, qn_go hZ hW⟩⟩ rfl rfl hl.1 rfl (lv_room (Nat.le_of_ble_eq_true rfl)) dL_areAnswersSo_16 ⟨Nat.le_of_ble_eq_true rfl, Nat.le_of_ble_eq_true rfl⟩) hS (fun _ _ h9 => h9) (fun _ h9 => h9) (fun v u t H1 locs1 ht hvm hw hB hz1 hk1 hS => ?_)
  obtain ⟨hw1, hw2⟩ := hw
  have hw2 : S = u := hw2.symm
  have hw1 : z_5 = v := hw1.symm
  subst hw1
  subst hw2
  obtain ⟨hP, hD⟩ := qm_bk ht hB
  clear hB
  refine lv_icmp_gt (tgt := 52) hx hb dL_areAnswersSo_19 (by decide) (fun c_7 => ?_) (fun c_7 => ?_)
  · rw [if_pos c_7] at h
    cases h
  · rw [if_neg c_7] at h
    refine lv_aload_n hx hb dL_areAnswersSo_22 rfl (lv_at hl 1 rfl) ?_
    refine lv_iload_n hx hb dL_areAnswersSo_23 rfl (lv_at hl 2 rfl) ?_
    refine lv_iload_n hx hb dL_areAnswersSo_24 rfl (lv_at hl 4 rfl) ?_
    obtain ⟨z_8, hz_9, h⟩ := qm_bind h
    refine va_calli (va_runV (As := [.int p0, .int p2]) (rest := []) ⟨hx, hb, hml, hown, hts⟩ (kX6_reallyUpTo l D A ad cI cQ rest S p0 p2 z_8 hz_9) (cwV 2 hts gL_areAnswersSo_X6_reallyUpTo rfl rfl rfl (by decide +kernel) ⟨Nat.le_of_ble_eq_true rfl, Nat.le_of_ble_eq_true rfl⟩) ⟨qn_blind, va_recv hK hP (ci := 6) (q0 := 0) rfl qg_Q, fun U hU hW => ⟨rfl, qm_go hA hS hP hK hD hU hW, qn_go hZ hW⟩⟩ rfl rfl hl.1 rfl (lv_room (Nat.le_of_ble_eq_true rfl)) dL_areAnswersSo_25 ⟨Nat.le_of_ble_eq_true rfl, Nat.le_of_ble_eq_true rfl⟩) hS (fun _ _ h9 => h9) (fun _ h9 => h9) (fun v u t H1 locs1 ht hvm hw hB hz1 hk1 hS => ?_)
    obtain ⟨hw1, hw2⟩ := hw
    have hw2 : S = u := hw2.symm
    have hw1 : z_8 = v := hw1.symm
    subst hw1
    subst hw2
    obtain ⟨hP, hD⟩ := qm_bk ht hB
    clear hB
    refine lv_aload_n hx hb dL_areAnswersSo_28 rfl (lv_at hl 1 rfl) ?_
    refine lv_iload_n hx hb dL_areAnswersSo_29 rfl (lv_at hl 2 rfl) ?_
    refine lv_iload_n hx hb dL_areAnswersSo_30 rfl (lv_at hl 4 rfl) ?_
    obtain ⟨z_10, hz_11, h⟩ := qm_bind h
    refine va_calli (va_runV (As := [.int p0, .int p2]) (rest := [.int z_8]) ⟨hx, hb, hml, hown, hts⟩ (kX6_atMostUpTo l D A ad cI cQ rest S p0 p2 z_10 hz_11) (cwV 2 hts gL_areAnswersSo_X6_atMostUpTo rfl rfl rfl (by decide +kernel) ⟨Nat.le_of_ble_eq_true rfl, Nat.le_of_ble_eq_true rfl⟩) ⟨qn_blind, va_recv hK hP (ci := 6) (q0 := 0) rfl qg_Q, fun U hU hW => ⟨rfl, qm_go hA hS hP hK hD hU hW, qn_go hZ hW⟩⟩ rfl rfl hl.1 rfl (lv_room (Nat.le_of_ble_eq_true rfl)) dL_areAnswersSo_31 ⟨Nat.le_of_ble_eq_true rfl, Nat.le_of_ble_eq_true rfl⟩) hS (fun _ _ h9 => h9) (fun _ h9 => h9) (fun v u t H1 locs1 ht hvm hw hB hz1 hk1 hS => ?_)
    obtain ⟨hw1, hw2⟩ := hw
    have hw2 : S = u := hw2.symm
    have hw1 : z_10 = v := hw1.symm
    subst hw1
    subst hw2
    obtain ⟨hP, hD⟩ := qm_bk ht hB
    clear hB
    refine lv_icmp_gt (tgt := 52) hx hb dL_areAnswersSo_34 (by decide) (fun c_12 => ?_) (fun c_12 => ?_)
    · rw [if_pos c_12] at h
      cases h
    · rw [if_neg c_12] at h
      refine lv_aload_n hx hb dL_areAnswersSo_37 rfl (lv_at hl 1 rfl) ?_
      refine lv_iload_n hx hb dL_areAnswersSo_38 rfl (lv_at hl 2 rfl) ?_
      refine lv_iload_n hx hb dL_areAnswersSo_39 rfl (lv_at hl 4 rfl) ?_
      obtain ⟨z_13, hz_14, h⟩ := qm_bind h
      refine va_calli (va_runV (As := [.int p0, .int p2]) (rest := []) ⟨hx, hb, hml, hown, hts⟩ (kX6_atMostUpTo l D A ad cI cQ rest S p0 p2 z_13 hz_14) (cwV 2 hts gL_areAnswersSo_X6_atMostUpTo rfl rfl rfl (by decide +kernel) ⟨Nat.le_of_ble_eq_true rfl, Nat.le_of_ble_eq_true rfl⟩) ⟨qn_blind, va_recv hK hP (ci := 6) (q0 := 0) rfl qg_Q, fun U hU hW => ⟨rfl, qm_go hA hS hP hK hD hU hW, qn_go hZ hW⟩⟩ rfl rfl hl.1 rfl (lv_room (Nat.le_of_ble_eq_true rfl)) dL_areAnswersSo_40 ⟨Nat.le_of_ble_eq_true rfl, Nat.le_of_ble_eq_true rfl⟩) hS (fun _ _ h9 => h9) (fun _ h9 => h9) (fun v u t H1 locs1 ht hvm hw hB hz1 hk1 hS => ?_)
      obtain ⟨hw1, hw2⟩ := hw
      have hw2 : S = u := hw2.symm
      have hw1 : z_13 = v := hw1.symm
      subst hw1
      subst hw2
      obtain ⟨hP, hD⟩ := qm_bk ht hB
      clear hB
      refine lv_iload hx hb dL_areAnswersSo_43 (lv_at hl 0 rfl) ?_
      refine lv_icmp_gt (tgt := 52) hx hb dL_areAnswersSo_45 (by decide) (fun c_15 => ?_) (fun c_15 => ?_)
      · rw [if_pos c_15] at h
        cases h
      · rw [if_neg c_15] at h
        refine lv_iconst (v := (1 : Int32)) hx hb dL_areAnswersSo_48 (by decide) ?_
        refine lv_goto (tgt := 53) hx hb dL_areAnswersSo_49 (by decide) ?_
        refine lv_istore (lv' := [(5, .int (1 : Int32)), (4, .int z_1), (0, .ref (ad 0)), (1, .int p0), (2, .int p1), (3, .int p2)]) hx hb dL_areAnswersSo_53 hl (by decide) rfl (fun ls hl => ?_)
        refine lv_iload hx hb dL_areAnswersSo_55 (lv_at hl 1 rfl) ?_
        refine lv_if_le (tgt := 189) hx hb dL_areAnswersSo_57 (by decide) (fun c_16 => ?_) (fun c_16 => ?_)
        · rw [if_pos c_16] at h
          refine lv_iload hx hb dL_areAnswersSo_189 (lv_at hl 0 rfl) ?_
          have h := Option.some.inj h
          subst h
          exact W.zret (v := (1 : Int32)) hx hb hr rfl (fun t ht hW => ⟨⟨(1 : Int32), S, rfl, ⟨rfl, rfl⟩, qm_en ht hP hD⟩, hS.F ht⟩) hS.2.2 dL_areAnswersSo_191
        · rw [if_neg c_16] at h
          refine lv_aload_n hx hb dL_areAnswersSo_60 rfl (lv_at hl 2 rfl) ?_
          refine lv_iload_n hx hb dL_areAnswersSo_61 rfl (lv_at hl 3 rfl) ?_
          refine lv_iload_n hx hb dL_areAnswersSo_62 rfl (lv_at hl 4 rfl) ?_
          obtain ⟨z_17, hz_18, h⟩ := qm_bind h
          refine va_calli (va_runV (As := [.int p0, .int p1]) (rest := []) ⟨hx, hb, hml, hown, hts⟩ (kX6_ask l D A ad cI cQ rest S p0 p1 z_17 hz_18) (cwV 2 hts gL_areAnswersSo_X6_ask rfl rfl rfl (by decide +kernel) ⟨Nat.le_of_ble_eq_true rfl, Nat.le_of_ble_eq_true rfl⟩) ⟨qn_blind, va_recv hK hP (ci := 6) (q0 := 0) rfl qg_Q, fun U hU hW => ⟨rfl, qm_go hA hS hP hK hD hU hW, qn_go hZ hW⟩⟩ rfl rfl hl.1 rfl (lv_room (Nat.le_of_ble_eq_true rfl)) dL_areAnswersSo_63 ⟨Nat.le_of_ble_eq_true rfl, Nat.le_of_ble_eq_true rfl⟩) hS (fun _ _ h9 => h9) (fun _ h9 => h9) (fun v u t H1 locs1 ht hvm hw hB hz1 hk1 hS => ?_)
          obtain ⟨hw1, hw2⟩ := hw
          have hw2 : S = u := hw2.symm
          have hw1 : z_17 = v := hw1.symm
          subst hw1
          subst hw2
          obtain ⟨hP, hD⟩ := qm_bk ht hB
          clear hB
          refine lv_istore (lv' := [(6, .int z_17), (5, .int (1 : Int32)), (4, .int z_1), (0, .ref (ad 0)), (1, .int p0), (2, .int p1), (3, .int p2)]) hx hb dL_areAnswersSo_66 hl (by decide) rfl (fun ls hl => ?_)
          refine lv_aload_n hx hb dL_areAnswersSo_68 rfl (lv_at hl 3 rfl) ?_
          refine lv_iload_n hx hb dL_areAnswersSo_69 rfl (lv_at hl 4 rfl) ?_
          obtain ⟨z_19, hz_20, h⟩ := qm_bind h
          refine va_calli (va_runV (As := [.int p0]) (rest := []) ⟨hx, hb, hml, hown, hts⟩ (kX6_middle l D A ad cI cQ rest S p0 z_19 hz_20) (cwV 1 hts gL_areAnswersSo_X6_middle rfl rfl rfl (by decide +kernel) ⟨Nat.le_of_ble_eq_true rfl, Nat.le_of_ble_eq_true rfl⟩) ⟨qn_blind, va_recv hK hP (ci := 6) (q0 := 0) rfl qg_Q, fun U hU hW => ⟨rfl, qm_go hA hS hP hK hD hU hW, qn_go hZ hW⟩⟩ rfl rfl hl.1 rfl (lv_room (Nat.le_of_ble_eq_true rfl)) dL_areAnswersSo_70 ⟨Nat.le_of_ble_eq_true rfl, Nat.le_of_ble_eq_true rfl⟩) hS (fun _ _ h9 => h9) (fun _ h9 => h9) (fun v u t H1 locs1 ht hvm hw hB hz1 hk1 hS => ?_)
          obtain ⟨hw1, hw2⟩ := hw
          have hw2 : S = u := hw2.symm
          have hw1 : z_19 = v := hw1.symm
          subst hw1
          subst hw2
          obtain ⟨hP, hD⟩ := qm_bk ht hB
          clear hB
          refine lv_istore (lv' := [(7, .int z_19), (6, .int z_17), (5, .int (1 : Int32)), (4, .int z_1), (0, .ref (ad 0)), (1, .int p0), (2, .int p1), (3, .int p2)]) hx hb dL_areAnswersSo_73 hl (by decide) rfl (fun ls hl => ?_)
          refine lv_iload hx hb dL_areAnswersSo_75 (lv_at hl 3 rfl) ?_
          refine lv_iconst (v := (2 : Int32)) hx hb dL_areAnswersSo_77 (by decide) ?_
          refine lv_idiv hx hb dL_areAnswersSo_78 (by decide) ?_
          refine lv_iload hx hb dL_areAnswersSo_79 (lv_at hl 3 rfl) ?_
          refine lv_iconst (v := (2 : Int32)) hx hb dL_areAnswersSo_81 (by decide) ?_
          refine lv_irem hx hb dL_areAnswersSo_82 (by decide) ?_
          refine lv_iadd hx hb dL_areAnswersSo_83 ?_
          refine lv_istore (lv' := [(8, .int ((z_1 / (2 : Int32)) + (z_1 - z_1 / (2 : Int32) * (2 : Int32)))), (7, .int z_19), (6, .int z_17), (5, .int (1 : Int32)), (4, .int z_1), (0, .ref (ad 0)), (1, .int p0), (2, .int p1), (3, .int p2)]) hx hb dL_areAnswersSo_84 hl (by decide) rfl (fun ls hl => ?_)
          refine lv_iload hx hb dL_areAnswersSo_86 (lv_at hl 3 rfl) ?_
          refine lv_if_eq (tgt := 138) hx hb dL_areAnswersSo_88 (by decide) (fun c => absurd c (by decide)) (fun _ => ?_)
          refine lv_aload_n hx hb dL_areAnswersSo_91 rfl (lv_at hl 5 rfl) ?_
          refine lv_iload_n hx hb dL_areAnswersSo_92 rfl (lv_at hl 6 rfl) ?_
          refine lv_iload hx hb dL_areAnswersSo_93 (lv_at hl 2 rfl) ?_
          obtain ⟨z_21, hz_22, h⟩ := qm_bind h
          refine va_calli (va_runV (As := [.int p0, .int z_17]) (rest := []) ⟨hx, hb, hml, hown, hts⟩ (kX6_reallyUpTo l D A ad cI cQ rest S p0 z_17 z_21 hz_22) (cwV 2 hts gL_areAnswersSo_X6_reallyUpTo rfl rfl rfl (by decide +kernel) ⟨Nat.le_of_ble_eq_true rfl, Nat.le_of_ble_eq_true rfl⟩) ⟨qn_blind, va_recv hK hP (ci := 6) (q0 := 0) rfl qg_Q, fun U hU hW => ⟨rfl, qm_go hA hS hP hK hD hU hW, qn_go hZ hW⟩⟩ rfl rfl hl.1 rfl (lv_room (Nat.le_of_ble_eq_true rfl)) dL_areAnswersSo_95 ⟨Nat.le_of_ble_eq_true rfl, Nat.le_of_ble_eq_true rfl⟩) hS (fun _ _ h9 => h9) (fun _ h9 => h9) (fun v u t H1 locs1 ht hvm hw hB hz1 hk1 hS => ?_)
          obtain ⟨hw1, hw2⟩ := hw
          have hw2 : S = u := hw2.symm
          have hw1 : z_21 = v := hw1.symm
          subst hw1
          subst hw2
          obtain ⟨hP, hD⟩ := qm_bk ht hB
          clear hB
          refine lv_aload_n hx hb dL_areAnswersSo_98 rfl (lv_at hl 5 rfl) ?_
          refine lv_iload_n hx hb dL_areAnswersSo_99 rfl (lv_at hl 6 rfl) ?_
          refine lv_iload hx hb dL_areAnswersSo_100 (lv_at hl 2 rfl) ?_
          refine lv_iconst (v := (1 : Int32)) hx hb dL_areAnswersSo_102 (by decide) ?_
          refine lv_isub hx hb dL_areAnswersSo_103 ?_
          obtain ⟨z_23, hz_24, h⟩ := qm_bind h
          refine va_calli (va_runV (As := [.int p0, .int (z_17 - (1 : Int32))]) (rest := [.int z_21]) ⟨hx, hb, hml, hown, hts⟩ (kX6_reallyUpTo l D A ad cI cQ rest S p0 (z_17 - (1 : Int32)) z_23 hz_24) (cwV 2 hts gL_areAnswersSo_X6_reallyUpTo rfl rfl rfl (by decide +kernel) ⟨Nat.le_of_ble_eq_true rfl, Nat.le_of_ble_eq_true rfl⟩) ⟨qn_blind, va_recv hK hP (ci := 6) (q0 := 0) rfl qg_Q, fun U hU hW => ⟨rfl, qm_go hA hS hP hK hD hU hW, qn_go hZ hW⟩⟩ rfl rfl hl.1 rfl (lv_room (Nat.le_of_ble_eq_true rfl)) dL_areAnswersSo_104 ⟨Nat.le_of_ble_eq_true rfl, Nat.le_of_ble_eq_true rfl⟩) hS (fun _ _ h9 => h9) (fun _ h9 => h9) (fun v u t H1 locs1 ht hvm hw hB hz1 hk1 hS => ?_)
          obtain ⟨hw1, hw2⟩ := hw
          have hw2 : S = u := hw2.symm
          have hw1 : z_23 = v := hw1.symm
          subst hw1
          subst hw2
          obtain ⟨hP, hD⟩ := qm_bk ht hB
          clear hB
          refine lv_icmp_le (tgt := 138) hx hb dL_areAnswersSo_107 (by decide) (fun c_25 => ?_) (fun c_25 => ?_)
          · rw [if_pos c_25] at h
            cases h
          · rw [if_neg c_25] at h
            refine lv_aload_n hx hb dL_areAnswersSo_110 rfl (lv_at hl 5 rfl) ?_
            refine lv_iload_n hx hb dL_areAnswersSo_111 rfl (lv_at hl 6 rfl) ?_
            refine lv_iload_n hx hb dL_areAnswersSo_112 rfl (lv_at hl 7 rfl) ?_
            obtain ⟨z_26, hz_27, h⟩ := qm_bind h
            refine va_calli (va_runV (As := [.int p0, .int p1]) (rest := []) ⟨hx, hb, hml, hown, hts⟩ (kX6_reallyOff l D A ad cI cQ rest S p0 p1 z_26 hz_27) (cwV 2 hts gL_areAnswersSo_X6_reallyOff rfl rfl rfl (by decide +kernel) ⟨Nat.le_of_ble_eq_true rfl, Nat.le_of_ble_eq_true rfl⟩) ⟨qn_blind, va_recv hK hP (ci := 6) (q0 := 0) rfl qg_Q, fun U hU hW => ⟨rfl, qm_go hA hS hP hK hD hU hW, qn_go hZ hW⟩⟩ rfl rfl hl.1 rfl (lv_room (Nat.le_of_ble_eq_true rfl)) dL_areAnswersSo_113 ⟨Nat.le_of_ble_eq_true rfl, Nat.le_of_ble_eq_true rfl⟩) hS (fun _ _ h9 => h9) (fun _ h9 => h9) (fun v u t H1 locs1 ht hvm hw hB hz1 hk1 hS => ?_)
            obtain ⟨hw1, hw2⟩ := hw
            have hw2 : S = u := hw2.symm
            have hw1 : z_26 = v := hw1.symm
            subst hw1
            subst hw2
            obtain ⟨hP, hD⟩ := qm_bk ht hB
            clear hB
            refine lv_aload_n hx hb dL_areAnswersSo_116 rfl (lv_at hl 5 rfl) ?_
            refine lv_iload_n hx hb dL_areAnswersSo_117 rfl (lv_at hl 6 rfl) ?_
            refine lv_iload_n hx hb dL_areAnswersSo_118 rfl (lv_at hl 7 rfl) ?_
            obtain ⟨z_28, hz_29, h⟩ := qm_bind h
            refine va_calli (va_runV (As := [.int p0, .int p1]) (rest := [.int z_26]) ⟨hx, hb, hml, hown, hts⟩ (kX6_off l D A ad cI cQ rest S p0 p1 z_28 hz_29) (cwV 2 hts gL_areAnswersSo_X6_off rfl rfl rfl (by decide +kernel) ⟨Nat.le_of_ble_eq_true rfl, Nat.le_of_ble_eq_true rfl⟩) ⟨qn_blind, va_recv hK hP (ci := 6) (q0 := 0) rfl qg_Q, fun U hU hW => ⟨rfl, qm_go hA hS hP hK hD hU hW, qn_go hZ hW⟩⟩ rfl rfl hl.1 rfl (lv_room (Nat.le_of_ble_eq_true rfl)) dL_areAnswersSo_119 ⟨Nat.le_of_ble_eq_true rfl, Nat.le_of_ble_eq_true rfl⟩) hS (fun _ _ h9 => h9) (fun _ h9 => h9) (fun v u t H1 locs1 ht hvm hw hB hz1 hk1 hS => ?_)
            obtain ⟨hw1, hw2⟩ := hw
            have hw2 : S = u := hw2.symm
            have hw1 : z_28 = v := hw1.symm
            subst hw1
            subst hw2
            obtain ⟨hP, hD⟩ := qm_bk ht hB
            clear hB
            refine lv_icmp_gt (tgt := 138) hx hb dL_areAnswersSo_122 (by decide) (fun c_30 => ?_) (fun c_30 => ?_)
            · rw [if_pos c_30] at h
              cases h
            · rw [if_neg c_30] at h
              refine lv_aload_n hx hb dL_areAnswersSo_125 rfl (lv_at hl 5 rfl) ?_
              refine lv_iload_n hx hb dL_areAnswersSo_126 rfl (lv_at hl 6 rfl) ?_
              refine lv_iload_n hx hb dL_areAnswersSo_127 rfl (lv_at hl 7 rfl) ?_
              obtain ⟨z_31, hz_32, h⟩ := qm_bind h
              refine va_calli (va_runV (As := [.int p0, .int p1]) (rest := []) ⟨hx, hb, hml, hown, hts⟩ (kX6_off l D A ad cI cQ rest S p0 p1 z_31 hz_32) (cwV 2 hts gL_areAnswersSo_X6_off rfl rfl rfl (by decide +kernel) ⟨Nat.le_of_ble_eq_true rfl, Nat.le_of_ble_eq_true rfl⟩) ⟨qn_blind, va_recv hK hP (ci := 6) (q0 := 0) rfl qg_Q, fun U hU hW => ⟨rfl, qm_go hA hS hP hK hD hU hW, qn_go hZ hW⟩⟩ rfl rfl hl.1 rfl (lv_room (Nat.le_of_ble_eq_true rfl)) dL_areAnswersSo_128 ⟨Nat.le_of_ble_eq_true rfl, Nat.le_of_ble_eq_true rfl⟩) hS (fun _ _ h9 => h9) (fun _ h9 => h9) (fun v u t H1 locs1 ht hvm hw hB hz1 hk1 hS => ?_)
              obtain ⟨hw1, hw2⟩ := hw
              have hw2 : S = u := hw2.symm
              have hw1 : z_31 = v := hw1.symm
              subst hw1
              subst hw2
              obtain ⟨hP, hD⟩ := qm_bk ht hB
              clear hB
              refine lv_if_lt (tgt := 138) hx hb dL_areAnswersSo_131 (by decide) (fun c_33 => ?_) (fun c_33 => ?_)
              · rw [if_pos c_33] at h
                cases h
              · rw [if_neg c_33] at h
                refine lv_iconst (v := (1 : Int32)) hx hb dL_areAnswersSo_134 (by decide) ?_
                refine lv_goto (tgt := 139) hx hb dL_areAnswersSo_135 (by decide) ?_
                refine lv_istore (lv' := [(5, .int (1 : Int32)), (8, .int ((z_1 / (2 : Int32)) + (z_1 - z_1 / (2 : Int32) * (2 : Int32)))), (7, .int z_19), (6, .int z_17), (4, .int z_1), (0, .ref (ad 0)), (1, .int p0), (2, .int p1), (3, .int p2)]) hx hb dL_areAnswersSo_139 hl (by decide) rfl (fun ls hl => ?_)
                refine lv_iload hx hb dL_areAnswersSo_141 (lv_at hl 0 rfl) ?_
                refine lv_if_eq (tgt := 186) hx hb dL_areAnswersSo_143 (by decide) (fun c => absurd c (by decide)) (fun _ => ?_)
                refine lv_iload hx hb dL_areAnswersSo_146 (lv_at hl 2 rfl) ?_
                refine lv_aload_n hx hb dL_areAnswersSo_148 rfl (lv_at hl 5 rfl) ?_
                refine lv_iload_n hx hb dL_areAnswersSo_149 rfl (lv_at hl 6 rfl) ?_
                obtain ⟨z_34, hz_35, h⟩ := qm_bind h
                refine va_calli (va_runV (As := [.int p0]) (rest := [.int z_19]) ⟨hx, hb, hml, hown, hts⟩ (kX6_middleByHeaps l D A ad cI cQ rest S p0 z_34 hz_35) (cwV 1 hts gL_areAnswersSo_X6_middleByHeaps rfl rfl rfl (by decide +kernel) ⟨Nat.le_of_ble_eq_true rfl, Nat.le_of_ble_eq_true rfl⟩) ⟨qn_blind, va_recv hK hP (ci := 6) (q0 := 0) rfl qg_Q, fun U hU hW => ⟨rfl, qm_go hA hS hP hK hD hU hW, qn_go hZ hW⟩⟩ rfl rfl hl.1 rfl (lv_room (Nat.le_of_ble_eq_true rfl)) dL_areAnswersSo_150 ⟨Nat.le_of_ble_eq_true rfl, Nat.le_of_ble_eq_true rfl⟩) hS (fun _ _ h9 => h9) (fun _ h9 => h9) (fun v u t H1 locs1 ht hvm hw hB hz1 hk1 hS => ?_)
                obtain ⟨hw1, hw2⟩ := hw
                have hw2 : S = u := hw2.symm
                have hw1 : z_34 = v := hw1.symm
                subst hw1
                subst hw2
                obtain ⟨hP, hD⟩ := qm_bk ht hB
                clear hB
                refine lv_icmp_ne (tgt := 186) hx hb dL_areAnswersSo_153 (by decide) (fun c_36 => ?_) (fun c_36 => ?_)
                · rw [if_neg c_36] at h
                  cases h
                · rw [if_pos c_36] at h
                  refine lv_aload_n hx hb dL_areAnswersSo_156 rfl (lv_at hl 5 rfl) ?_
                  refine lv_iload_n hx hb dL_areAnswersSo_157 rfl (lv_at hl 6 rfl) ?_
                  refine lv_iload hx hb dL_areAnswersSo_158 (lv_at hl 2 rfl) ?_
                  obtain ⟨z_37, hz_38, h⟩ := qm_bind h
                  refine va_calli (va_runV (As := [.int p0, .int z_19]) (rest := []) ⟨hx, hb, hml, hown, hts⟩ (kX6_reallyUpTo l D A ad cI cQ rest S p0 z_19 z_37 hz_38) (cwV 2 hts gL_areAnswersSo_X6_reallyUpTo rfl rfl rfl (by decide +kernel) ⟨Nat.le_of_ble_eq_true rfl, Nat.le_of_ble_eq_true rfl⟩) ⟨qn_blind, va_recv hK hP (ci := 6) (q0 := 0) rfl qg_Q, fun U hU hW => ⟨rfl, qm_go hA hS hP hK hD hU hW, qn_go hZ hW⟩⟩ rfl rfl hl.1 rfl (lv_room (Nat.le_of_ble_eq_true rfl)) dL_areAnswersSo_160 ⟨Nat.le_of_ble_eq_true rfl, Nat.le_of_ble_eq_true rfl⟩) hS (fun _ _ h9 => h9) (fun _ h9 => h9) (fun v u t H1 locs1 ht hvm hw hB hz1 hk1 hS => ?_)
                  obtain ⟨hw1, hw2⟩ := hw
                  have hw2 : S = u := hw2.symm
                  have hw1 : z_37 = v := hw1.symm
                  subst hw1
                  subst hw2
                  obtain ⟨hP, hD⟩ := qm_bk ht hB
                  clear hB
                  refine lv_iload hx hb dL_areAnswersSo_163 (lv_at hl 1 rfl) ?_
                  refine lv_icmp_lt (tgt := 186) hx hb dL_areAnswersSo_165 (by decide) (fun c_39 => ?_) (fun c_39 => ?_)
                  · rw [if_pos c_39] at h
                    cases h
                  · rw [if_neg c_39] at h
                    refine lv_aload_n hx hb dL_areAnswersSo_168 rfl (lv_at hl 5 rfl) ?_
                    refine lv_iload_n hx hb dL_areAnswersSo_169 rfl (lv_at hl 6 rfl) ?_
                    refine lv_iload hx hb dL_areAnswersSo_170 (lv_at hl 2 rfl) ?_
                    refine lv_iconst (v := (1 : Int32)) hx hb dL_areAnswersSo_172 (by decide) ?_
                    refine lv_isub hx hb dL_areAnswersSo_173 ?_
                    obtain ⟨z_40, hz_41, h⟩ := qm_bind h
                    refine va_calli (va_runV (As := [.int p0, .int (z_19 - (1 : Int32))]) (rest := []) ⟨hx, hb, hml, hown, hts⟩ (kX6_reallyUpTo l D A ad cI cQ rest S p0 (z_19 - (1 : Int32)) z_40 hz_41) (cwV 2 hts gL_areAnswersSo_X6_reallyUpTo rfl rfl rfl (by decide +kernel) ⟨Nat.le_of_ble_eq_true rfl, Nat.le_of_ble_eq_true rfl⟩) ⟨qn_blind, va_recv hK hP (ci := 6) (q0 := 0) rfl qg_Q, fun U hU hW => ⟨rfl, qm_go hA hS hP hK hD hU hW, qn_go hZ hW⟩⟩ rfl rfl hl.1 rfl (lv_room (Nat.le_of_ble_eq_true rfl)) dL_areAnswersSo_174 ⟨Nat.le_of_ble_eq_true rfl, Nat.le_of_ble_eq_true rfl⟩) hS (fun _ _ h9 => h9) (fun _ h9 => h9) (fun v u t H1 locs1 ht hvm hw hB hz1 hk1 hS => ?_)
                    obtain ⟨hw1, hw2⟩ := hw
                    have hw2 : S = u := hw2.symm
                    have hw1 : z_40 = v := hw1.symm
                    subst hw1
                    subst hw2
                    obtain ⟨hP, hD⟩ := qm_bk ht hB
                    clear hB
                    refine lv_iload hx hb dL_areAnswersSo_177 (lv_at hl 1 rfl) ?_
                    refine lv_icmp_ge (tgt := 186) hx hb dL_areAnswersSo_179 (by decide) (fun c_42 => ?_) (fun c_42 => ?_)
                    · rw [if_pos c_42] at h
                      cases h
                    · rw [if_neg c_42] at h
                      refine lv_iconst (v := (1 : Int32)) hx hb dL_areAnswersSo_182 (by decide) ?_
                      refine lv_goto (tgt := 187) hx hb dL_areAnswersSo_183 (by decide) ?_
                      refine lv_istore (lv' := [(5, .int (1 : Int32)), (8, .int ((z_1 / (2 : Int32)) + (z_1 - z_1 / (2 : Int32) * (2 : Int32)))), (7, .int z_19), (6, .int z_17), (4, .int z_1), (0, .ref (ad 0)), (1, .int p0), (2, .int p1), (3, .int p2)]) hx hb dL_areAnswersSo_187 hl (by decide) rfl (fun ls hl => ?_)
                      refine lv_iload hx hb dL_areAnswersSo_189 (lv_at hl 0 rfl) ?_
                      have h := Option.some.inj h
                      subst h
                      exact W.zret (v := (1 : Int32)) hx hb hr rfl (fun t ht hW => ⟨⟨(1 : Int32), S, rfl, ⟨rfl, rfl⟩, qm_en ht hP hD⟩, hS.F ht⟩) hS.2.2 dL_areAnswersSo_191
