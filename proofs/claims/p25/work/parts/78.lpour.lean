noncomputable def fL_isPoured (S : qm_S) (p0 : Int32) (p1 : Int32) : Option (Int32 × qm_S) :=
  (if p0 = p1 then some ((1 : Int32), S) else Option.bind (fX6_count S p0) (fun z_2 => Option.bind (fX6_count S p1) (fun z_4 => (if (z_2 + z_4) ≤ (600 : Int32) then Option.bind (fX6_count S p1) (fun z_7 => Option.bind (fX6_marks S p1) (fun z_9 => Option.bind (fX6_bound S p1) (fun z_11 => Option.bind (fX6_bound S p0) (fun z_13 => (if z_11 ≤ z_13 then Option.bind (fX6_bound S p0) (fun z_16 => Option.bind (fX6_reallyUpTo S p0 (7 : Int32)) (fun z_18 => Option.bind (fX6_reallyUpTo S p1 (7 : Int32)) (fun z_20 => Option.bind (fX6_pour S p0 p1) (fun z_22 => Option.bind (fX6_count z_22.2 p0) (fun z_24 => (if z_22.1 = (z_7 + z_24) then Option.bind (fX6_marks z_22.2 p1) (fun z_27 => Option.bind (fX6_marks z_22.2 p0) (fun z_29 => (if z_27 = (z_9 + z_29) then Option.bind (fX6_bound z_22.2 p1) (fun z_32 => (if z_32 = z_16 then Option.bind (fX6_reallyUpTo z_22.2 p1 (7 : Int32)) (fun z_35 => (if z_35 = (z_18 + z_20) then Option.bind (fX6_reallyUpTo z_22.2 p0 (7 : Int32)) (fun z_38 => (if z_38 = z_18 then some ((1 : Int32), z_22.2) else none)) else none)) else none)) else none))) else none)))))) else Option.bind (fX6_bound S p1) (fun z_41 => Option.bind (fX6_reallyUpTo S p0 (7 : Int32)) (fun z_43 => Option.bind (fX6_reallyUpTo S p1 (7 : Int32)) (fun z_45 => Option.bind (fX6_pour S p0 p1) (fun z_47 => Option.bind (fX6_count z_47.2 p0) (fun z_49 => (if z_47.1 = (z_7 + z_49) then Option.bind (fX6_marks z_47.2 p1) (fun z_52 => Option.bind (fX6_marks z_47.2 p0) (fun z_54 => (if z_52 = (z_9 + z_54) then Option.bind (fX6_bound z_47.2 p1) (fun z_57 => (if z_57 = z_41 then Option.bind (fX6_reallyUpTo z_47.2 p1 (7 : Int32)) (fun z_60 => (if z_60 = (z_43 + z_45) then Option.bind (fX6_reallyUpTo z_47.2 p0 (7 : Int32)) (fun z_63 => (if z_63 = z_43 then some ((1 : Int32), z_47.2) else none)) else none)) else none)) else none))) else none))))))))))) else some ((1 : Int32), S)))))
set_option maxHeartbeats 4000000 in
set_option maxRecDepth 100000 in
theorem kL_isPoured (l : Launch) (D : va_G) (A : Nat → Prop) (ad : Nat → Nat) (cI cQ : ClassId) (rest : va_W) (S : qm_S) (p0 : Int32) (p1 : Int32) (z : Int32 × qm_S) (h : fL_isPoured S p0 p1 = some z) : Met l yL_isPoured wsL_isPoured ({ frames := 7, cells := 0, slots := 0, locals := 175 }) (va_Pc [.ref (ad 0), .int p0, .int p1] (qn_B D A (qm_T cI cQ) (qm_W ad cI cQ rest S))) (qm_Qi D A (qm_W ad cI cQ rest) z) 0 0 A := by
  refine Met.ofW (cc := cL_isPoured) (maxL := 9) (ret := (some .boolean)) (by decide) rfl ?_
  intro p e s m args below meth c s₁ B hml hv
  obtain ⟨rfl, ⟨hA, hP, hK, hD⟩, hZ⟩ := hv
  have hx := B.exec
  have hb := B.bytes
  have hr := B.returns
  have hts := atoms_spec (ws := wsL_isPoured) B.pre
  have hown : s.vm.findClass RL = some m.cls := findClass_of_methodNamed B.named
  have hlocks := B.notSynchronized
  have hS : va_S A s.heap s.heap [] := va_S.rf
  have hl := lv_entry ([.ref (ad 0), .int p0, .int p1]) (n := 9) (Nat.le_of_ble_eq_true rfl)
  rw [lg_entry_eq]
  generalize (lg_sl ([.ref (ad 0), .int p0, .int p1]) ++ List.replicate (9 - (lg_sl ([.ref (ad 0), .int p0, .int p1])).length) Slot.unset).toArray = ls at hl ⊢
  have hl : lv_has ls 9 [(0, .ref (ad 0)), (1, .int p0), (2, .int p1)] := hl
  rw [fL_isPoured] at h
  refine lv_iload_n hx hb dL_isPoured_0 rfl (lv_at hl 1 rfl) ?_
  refine lv_iload_n hx hb dL_isPoured_1 rfl (lv_at hl 2 rfl) ?_
  refine lv_icmp_eq (tgt := 22) hx hb dL_isPoured_2 (by decide) (fun c_1 => ?_) (fun c_1 => ?_)
  · rw [if_pos c_1] at h
    refine lv_iconst (v := (1 : Int32)) hx hb dL_isPoured_22 (by decide) ?_
    have h := Option.some.inj h
    subst h
    exact W.zret (v := (1 : Int32)) hx hb hr rfl (fun t ht hW => ⟨⟨(1 : Int32), S, rfl, ⟨rfl, rfl⟩, qm_en ht hP hD⟩, hS.F ht⟩) hS.2.2 dL_isPoured_23
  · rw [if_neg c_1] at h
    refine lv_aload_n hx hb dL_isPoured_5 rfl (lv_at hl 0 rfl) ?_
    refine lv_iload_n hx hb dL_isPoured_6 rfl (lv_at hl 1 rfl) ?_
    obtain ⟨z_2, hz_3, h⟩ := qm_bind h
    refine va_calli (va_runV (As := [.int p0]) (rest := []) ⟨hx, hb, hml, hown, hts⟩ (kX6_count l D A ad cI cQ rest S p0 z_2 hz_3) (cwV 1 hts gL_isPoured_X6_count rfl rfl rfl (by decide +kernel) ⟨Nat.le_of_ble_eq_true rfl, Nat.le_of_ble_eq_true rfl⟩) ⟨qn_blind, va_recv hK hP (ci := 6) (q0 := 0) rfl qg_Q, fun U hU hW => ⟨rfl, qm_go hA hS hP hK hD hU hW, qn_go hZ hW⟩⟩ rfl rfl hl.1 rfl (lv_room (Nat.le_of_ble_eq_true rfl)) dL_isPoured_7 ⟨Nat.le_of_ble_eq_true rfl, Nat.le_of_ble_eq_true rfl⟩) hS (fun _ _ h9 => h9) (fun _ h9 => h9) (fun v u t H1 locs1 ht hvm hw hB hz1 hk1 hS => ?_)
    obtain ⟨hw1, hw2⟩ := hw
    have hw2 : S = u := hw2.symm
    have hw1 : z_2 = v := hw1.symm
    subst hw1
    subst hw2
    obtain ⟨hP, hD⟩ := qm_bk ht hB
    clear hB
    refine lv_aload_n hx hb dL_isPoured_10 rfl (lv_at hl 0 rfl) ?_
    refine lv_iload_n hx hb dL_isPoured_11 rfl (lv_at hl 2 rfl) ?_
    obtain ⟨z_4, hz_5, h⟩ := qm_bind h
    refine va_calli (va_runV (As := [.int p1]) (rest := [.int z_2]) ⟨hx, hb, hml, hown, hts⟩ (kX6_count l D A ad cI cQ rest S p1 z_4 hz_5) (cwV 1 hts gL_isPoured_X6_count rfl rfl rfl (by decide +kernel) ⟨Nat.le_of_ble_eq_true rfl, Nat.le_of_ble_eq_true rfl⟩) ⟨qn_blind, va_recv hK hP (ci := 6) (q0 := 0) rfl qg_Q, fun U hU hW => ⟨rfl, qm_go hA hS hP hK hD hU hW, qn_go hZ hW⟩⟩ rfl rfl hl.1 rfl (lv_room (Nat.le_of_ble_eq_true rfl)) dL_isPoured_12 ⟨Nat.le_of_ble_eq_true rfl, Nat.le_of_ble_eq_true rfl⟩) hS (fun _ _ h9 => h9) (fun _ h9 => h9) (fun v u t H1 locs1 ht hvm hw hB hz1 hk1 hS => ?_)
    obtain ⟨hw1, hw2⟩ := hw
    have hw2 : S = u := hw2.symm
    have hw1 : z_4 = v := hw1.symm
    subst hw1
    subst hw2
    obtain ⟨hP, hD⟩ := qm_bk ht hB
    clear hB
    refine lv_iadd hx hb dL_isPoured_15 ?_
    refine lv_sipush (v := (600 : Int32)) hx hb dL_isPoured_16 (by decide) ?_
    refine lv_icmp_le (tgt := 24) hx hb dL_isPoured_19 (by decide) (fun c_6 => ?_) (fun c_6 => ?_)
    · rw [if_pos c_6] at h
      refine lv_aload_n hx hb dL_isPoured_24 rfl (lv_at hl 0 rfl) ?_
      refine lv_iload_n hx hb dL_isPoured_25 rfl (lv_at hl 2 rfl) ?_
      obtain ⟨z_7, hz_8, h⟩ := qm_bind h
      refine va_calli (va_runV (As := [.int p1]) (rest := []) ⟨hx, hb, hml, hown, hts⟩ (kX6_count l D A ad cI cQ rest S p1 z_7 hz_8) (cwV 1 hts gL_isPoured_X6_count rfl rfl rfl (by decide +kernel) ⟨Nat.le_of_ble_eq_true rfl, Nat.le_of_ble_eq_true rfl⟩) ⟨qn_blind, va_recv hK hP (ci := 6) (q0 := 0) rfl qg_Q, fun U hU hW => ⟨rfl, qm_go hA hS hP hK hD hU hW, qn_go hZ hW⟩⟩ rfl rfl hl.1 rfl (lv_room (Nat.le_of_ble_eq_true rfl)) dL_isPoured_26 ⟨Nat.le_of_ble_eq_true rfl, Nat.le_of_ble_eq_true rfl⟩) hS (fun _ _ h9 => h9) (fun _ h9 => h9) (fun v u t H1 locs1 ht hvm hw hB hz1 hk1 hS => ?_)
      obtain ⟨hw1, hw2⟩ := hw
      have hw2 : S = u := hw2.symm
      have hw1 : z_7 = v := hw1.symm
      subst hw1
      subst hw2
      obtain ⟨hP, hD⟩ := qm_bk ht hB
      clear hB
      refine lv_istore_n (lv' := [(3, .int z_7), (0, .ref (ad 0)), (1, .int p0), (2, .int p1)]) hx hb dL_isPoured_29 rfl hl (by decide) rfl (fun ls hl => ?_)
      refine lv_aload_n hx hb dL_isPoured_30 rfl (lv_at hl 1 rfl) ?_
      refine lv_iload_n hx hb dL_isPoured_31 rfl (lv_at hl 3 rfl) ?_
      obtain ⟨z_9, hz_10, h⟩ := qm_bind h
      refine va_calli (va_runV (As := [.int p1]) (rest := []) ⟨hx, hb, hml, hown, hts⟩ (kX6_marks l D A ad cI cQ rest S p1 z_9 hz_10) (cwV 1 hts gL_isPoured_X6_marks rfl rfl rfl (by decide +kernel) ⟨Nat.le_of_ble_eq_true rfl, Nat.le_of_ble_eq_true rfl⟩) ⟨qn_blind, va_recv hK hP (ci := 6) (q0 := 0) rfl qg_Q, fun U hU hW => ⟨rfl, qm_go hA hS hP hK hD hU hW, qn_go hZ hW⟩⟩ rfl rfl hl.1 rfl (lv_room (Nat.le_of_ble_eq_true rfl)) dL_isPoured_32 ⟨Nat.le_of_ble_eq_true rfl, Nat.le_of_ble_eq_true rfl⟩) hS (fun _ _ h9 => h9) (fun _ h9 => h9) (fun v u t H1 locs1 ht hvm hw hB hz1 hk1 hS => ?_)
      obtain ⟨hw1, hw2⟩ := hw
      have hw2 : S = u := hw2.symm
      have hw1 : z_9 = v := hw1.symm
      subst hw1
      subst hw2
      obtain ⟨hP, hD⟩ := qm_bk ht hB
      clear hB
      refine lv_istore (lv' := [(4, .int z_9), (3, .int z_7), (0, .ref (ad 0)), (1, .int p0), (2, .int p1)]) hx hb dL_isPoured_35 hl (by decide) rfl (fun ls hl => ?_)
      refine lv_aload_n hx hb dL_isPoured_37 rfl (lv_at hl 2 rfl) ?_
      refine lv_iload_n hx hb dL_isPoured_38 rfl (lv_at hl 4 rfl) ?_
      obtain ⟨z_11, hz_12, h⟩ := qm_bind h
      refine va_calli (va_runV (As := [.int p1]) (rest := []) ⟨hx, hb, hml, hown, hts⟩ (kX6_bound l D A ad cI cQ rest S p1 z_11 hz_12) (cwV 1 hts gL_isPoured_X6_bound rfl rfl rfl (by decide +kernel) ⟨Nat.le_of_ble_eq_true rfl, Nat.le_of_ble_eq_true rfl⟩) ⟨qn_blind, va_recv hK hP (ci := 6) (q0 := 0) rfl qg_Q, fun U hU hW => ⟨rfl, qm_go hA hS hP hK hD hU hW, qn_go hZ hW⟩⟩ rfl rfl hl.1 rfl (lv_room (Nat.le_of_ble_eq_true rfl)) dL_isPoured_39 ⟨Nat.le_of_ble_eq_true rfl, Nat.le_of_ble_eq_true rfl⟩) hS (fun _ _ h9 => h9) (fun _ h9 => h9) (fun v u t H1 locs1 ht hvm hw hB hz1 hk1 hS => ?_)
      obtain ⟨hw1, hw2⟩ := hw
      have hw2 : S = u := hw2.symm
      have hw1 : z_11 = v := hw1.symm
      subst hw1
      subst hw2
      obtain ⟨hP, hD⟩ := qm_bk ht hB
      clear hB
      refine lv_aload_n hx hb dL_isPoured_42 rfl (lv_at hl 2 rfl) ?_
      refine lv_iload_n hx hb dL_isPoured_43 rfl (lv_at hl 3 rfl) ?_
      obtain ⟨z_13, hz_14, h⟩ := qm_bind h
      refine va_calli (va_runV (As := [.int p0]) (rest := [.int z_11]) ⟨hx, hb, hml, hown, hts⟩ (kX6_bound l D A ad cI cQ rest S p0 z_13 hz_14) (cwV 1 hts gL_isPoured_X6_bound rfl rfl rfl (by decide +kernel) ⟨Nat.le_of_ble_eq_true rfl, Nat.le_of_ble_eq_true rfl⟩) ⟨qn_blind, va_recv hK hP (ci := 6) (q0 := 0) rfl qg_Q, fun U hU hW => ⟨rfl, qm_go hA hS hP hK hD hU hW, qn_go hZ hW⟩⟩ rfl rfl hl.1 rfl (lv_room (Nat.le_of_ble_eq_true rfl)) dL_isPoured_44 ⟨Nat.le_of_ble_eq_true rfl, Nat.le_of_ble_eq_true rfl⟩) hS (fun _ _ h9 => h9) (fun _ h9 => h9) (fun v u t H1 locs1 ht hvm hw hB hz1 hk1 hS => ?_)
      obtain ⟨hw1, hw2⟩ := hw
      have hw2 : S = u := hw2.symm
      have hw1 : z_13 = v := hw1.symm
      subst hw1
      subst hw2
      obtain ⟨hP, hD⟩ := qm_bk ht hB
      clear hB
      refine lv_icmp_le (tgt := 58) hx hb dL_isPoured_47 (by decide) (fun c_15 => ?_) (fun c_15 => ?_)
      · rw [if_pos c_15] at h
        refine lv_aload_n hx hb dL_isPoured_58 rfl (lv_at hl 2 rfl) ?_
        refine lv_iload_n hx hb dL_isPoured_59 rfl (lv_at hl 3 rfl) ?_
        obtain ⟨z_16, hz_17, h⟩ := qm_bind h
        refine va_calli (va_runV (As := [.int p0]) (rest := []) ⟨hx, hb, hml, hown, hts⟩ (kX6_bound l D A ad cI cQ rest S p0 z_16 hz_17) (cwV 1 hts gL_isPoured_X6_bound rfl rfl rfl (by decide +kernel) ⟨Nat.le_of_ble_eq_true rfl, Nat.le_of_ble_eq_true rfl⟩) ⟨qn_blind, va_recv hK hP (ci := 6) (q0 := 0) rfl qg_Q, fun U hU hW => ⟨rfl, qm_go hA hS hP hK hD hU hW, qn_go hZ hW⟩⟩ rfl rfl hl.1 rfl (lv_room (Nat.le_of_ble_eq_true rfl)) dL_isPoured_60 ⟨Nat.le_of_ble_eq_true rfl, Nat.le_of_ble_eq_true rfl⟩) hS (fun _ _ h9 => h9) (fun _ h9 => h9) (fun v u t H1 locs1 ht hvm hw hB hz1 hk1 hS => ?_)
        obtain ⟨hw1, hw2⟩ := hw
        have hw2 : S = u := hw2.symm
        have hw1 : z_16 = v := hw1.symm
        subst hw1
        subst hw2
        obtain ⟨hP, hD⟩ := qm_bk ht hB
        clear hB
        refine lv_istore (lv' := [(5, .int z_16), (4, .int z_9), (3, .int z_7), (0, .ref (ad 0)), (1, .int p0), (2, .int p1)]) hx hb dL_isPoured_63 hl (by decide) rfl (fun ls hl => ?_)
        refine lv_aload_n hx hb dL_isPoured_65 rfl (lv_at hl 3 rfl) ?_
        refine lv_iload_n hx hb dL_isPoured_66 rfl (lv_at hl 4 rfl) ?_
        refine lv_bipush (v := (7 : Int32)) hx hb dL_isPoured_67 (by decide) ?_
        obtain ⟨z_18, hz_19, h⟩ := qm_bind h
        refine va_calli (va_runV (As := [.int p0, .int (7 : Int32)]) (rest := []) ⟨hx, hb, hml, hown, hts⟩ (kX6_reallyUpTo l D A ad cI cQ rest S p0 (7 : Int32) z_18 hz_19) (cwV 2 hts gL_isPoured_X6_reallyUpTo rfl rfl rfl (by decide +kernel) ⟨Nat.le_of_ble_eq_true rfl, Nat.le_of_ble_eq_true rfl⟩) ⟨qn_blind, va_recv hK hP (ci := 6) (q0 := 0) rfl qg_Q, fun U hU hW => ⟨rfl, qm_go hA hS hP hK hD hU hW, qn_go hZ hW⟩⟩ rfl rfl hl.1 rfl (lv_room (Nat.le_of_ble_eq_true rfl)) dL_isPoured_69 ⟨Nat.le_of_ble_eq_true rfl, Nat.le_of_ble_eq_true rfl⟩) hS (fun _ _ h9 => h9) (fun _ h9 => h9) (fun v u t H1 locs1 ht hvm hw hB hz1 hk1 hS => ?_)
        obtain ⟨hw1, hw2⟩ := hw
        have hw2 : S = u := hw2.symm
        have hw1 : z_18 = v := hw1.symm
        subst hw1
        subst hw2
        obtain ⟨hP, hD⟩ := qm_bk ht hB
        clear hB
        refine lv_istore (lv' := [(6, .int z_18), (5, .int z_16), (4, .int z_9), (3, .int z_7), (0, .ref (ad 0)), (1, .int p0), (2, .int p1)]) hx hb dL_isPoured_72 hl (by decide) rfl (fun ls hl => ?_)
        refine lv_aload_n hx hb dL_isPoured_74 rfl (lv_at hl 4 rfl) ?_
        refine lv_iload_n hx hb dL_isPoured_75 rfl (lv_at hl 6 rfl) ?_
        refine lv_bipush (v := (7 : Int32)) hx hb dL_isPoured_76 (by decide) ?_
        obtain ⟨z_20, hz_21, h⟩ := qm_bind h
        refine va_calli (va_runV (As := [.int p1, .int (7 : Int32)]) (rest := []) ⟨hx, hb, hml, hown, hts⟩ (kX6_reallyUpTo l D A ad cI cQ rest S p1 (7 : Int32) z_20 hz_21) (cwV 2 hts gL_isPoured_X6_reallyUpTo rfl rfl rfl (by decide +kernel) ⟨Nat.le_of_ble_eq_true rfl, Nat.le_of_ble_eq_true rfl⟩) ⟨qn_blind, va_recv hK hP (ci := 6) (q0 := 0) rfl qg_Q, fun U hU hW => ⟨rfl, qm_go hA hS hP hK hD hU hW, qn_go hZ hW⟩⟩ rfl rfl hl.1 rfl (lv_room (Nat.le_of_ble_eq_true rfl)) dL_isPoured_78 ⟨Nat.le_of_ble_eq_true rfl, Nat.le_of_ble_eq_true rfl⟩) hS (fun _ _ h9 => h9) (fun _ h9 => h9) (fun v u t H1 locs1 ht hvm hw hB hz1 hk1 hS => ?_)
        obtain ⟨hw1, hw2⟩ := hw
        have hw2 : S = u := hw2.symm
        have hw1 : z_20 = v := hw1.symm
        subst hw1
        subst hw2
        obtain ⟨hP, hD⟩ := qm_bk ht hB
        clear hB
        refine lv_istore (lv' := [(7, .int z_20), (6, .int z_18), (5, .int z_16), (4, .int z_9), (3, .int z_7), (0, .ref (ad 0)), (1, .int p0), (2, .int p1)]) hx hb dL_isPoured_81 hl (by decide) rfl (fun ls hl => ?_)
        refine lv_aload_n hx hb dL_isPoured_83 rfl (lv_at hl 5 rfl) ?_
        refine lv_iload_n hx hb dL_isPoured_84 rfl (lv_at hl 6 rfl) ?_
        refine lv_iload_n hx hb dL_isPoured_85 rfl (lv_at hl 7 rfl) ?_
        obtain ⟨z_22, hz_23, h⟩ := qm_bind h
        refine va_calli (va_runV (As := [.int p0, .int p1]) (rest := []) ⟨hx, hb, hml, hown, hts⟩ (kX6_pour l D A ad cI cQ rest S p0 p1 z_22 hz_23) (cwV 2 hts gL_isPoured_X6_pour rfl rfl rfl (by decide +kernel) ⟨Nat.le_of_ble_eq_true rfl, Nat.le_of_ble_eq_true rfl⟩) ⟨qn_blind, va_recv hK hP (ci := 6) (q0 := 0) rfl qg_Q, fun U hU hW => ⟨rfl, qm_go hA hS hP hK hD hU hW, qn_go hZ hW⟩⟩ rfl rfl hl.1 rfl (lv_room (Nat.le_of_ble_eq_true rfl)) dL_isPoured_86 ⟨Nat.le_of_ble_eq_true rfl, Nat.le_of_ble_eq_true rfl⟩) hS (fun _ _ h9 => h9) (fun _ h9 => h9) (fun v u t H1 locs1 ht hvm hw hB hz1 hk1 hS => ?_)
        obtain ⟨hw1, hw2⟩ := hw
        have hw2 : z_22.2 = u := hw2.symm
        have hw1 : z_22.1 = v := hw1.symm
        subst hw1
        subst hw2
        obtain ⟨hP, hD⟩ := qm_bk ht hB
        clear hB
        refine lv_iload_n hx hb dL_isPoured_89 rfl (lv_at hl 4 rfl) ?_
        refine lv_aload_n hx hb dL_isPoured_90 rfl (lv_at hl 5 rfl) ?_
        refine lv_iload_n hx hb dL_isPoured_91 rfl (lv_at hl 6 rfl) ?_
        obtain ⟨z_24, hz_25, h⟩ := qm_bind h
        refine va_calli (va_runV (As := [.int p0]) (rest := [.int z_7, .int z_22.1]) ⟨hx, hb, hml, hown, hts⟩ (kX6_count l D A ad cI cQ rest z_22.2 p0 z_24 hz_25) (cwV 1 hts gL_isPoured_X6_count rfl rfl rfl (by decide +kernel) ⟨Nat.le_of_ble_eq_true rfl, Nat.le_of_ble_eq_true rfl⟩) ⟨qn_blind, va_recv hK hP (ci := 6) (q0 := 0) rfl qg_Q, fun U hU hW => ⟨rfl, qm_go hA hS hP hK hD hU hW, qn_go hZ hW⟩⟩ rfl rfl hl.1 rfl (lv_room (Nat.le_of_ble_eq_true rfl)) dL_isPoured_92 ⟨Nat.le_of_ble_eq_true rfl, Nat.le_of_ble_eq_true rfl⟩) hS (fun _ _ h9 => h9) (fun _ h9 => h9) (fun v u t H1 locs1 ht hvm hw hB hz1 hk1 hS => ?_)
        obtain ⟨hw1, hw2⟩ := hw
        have hw2 : z_22.2 = u := hw2.symm
        have hw1 : z_24 = v := hw1.symm
        subst hw1
        subst hw2
        obtain ⟨hP, hD⟩ := qm_bk ht hB
        clear hB
        refine lv_iadd hx hb dL_isPoured_95 ?_
        refine lv_icmp_ne (tgt := 129) hx hb dL_isPoured_96 (by decide) (fun c_26 => ?_) (fun c_26 => ?_)
        · rw [if_neg c_26] at h
          cases h
        · rw [if_pos c_26] at h
          refine lv_aload_n hx hb dL_isPoured_99 rfl (lv_at hl 5 rfl) ?_
          refine lv_iload_n hx hb dL_isPoured_100 rfl (lv_at hl 7 rfl) ?_
          obtain ⟨z_27, hz_28, h⟩ := qm_bind h
          refine va_calli (va_runV (As := [.int p1]) (rest := []) ⟨hx, hb, hml, hown, hts⟩ (kX6_marks l D A ad cI cQ rest z_22.2 p1 z_27 hz_28) (cwV 1 hts gL_isPoured_X6_marks rfl rfl rfl (by decide +kernel) ⟨Nat.le_of_ble_eq_true rfl, Nat.le_of_ble_eq_true rfl⟩) ⟨qn_blind, va_recv hK hP (ci := 6) (q0 := 0) rfl qg_Q, fun U hU hW => ⟨rfl, qm_go hA hS hP hK hD hU hW, qn_go hZ hW⟩⟩ rfl rfl hl.1 rfl (lv_room (Nat.le_of_ble_eq_true rfl)) dL_isPoured_101 ⟨Nat.le_of_ble_eq_true rfl, Nat.le_of_ble_eq_true rfl⟩) hS (fun _ _ h9 => h9) (fun _ h9 => h9) (fun v u t H1 locs1 ht hvm hw hB hz1 hk1 hS => ?_)
          obtain ⟨hw1, hw2⟩ := hw
          have hw2 : z_22.2 = u := hw2.symm
          have hw1 : z_27 = v := hw1.symm
          subst hw1
          subst hw2
          obtain ⟨hP, hD⟩ := qm_bk ht hB
          clear hB
          refine lv_iload hx hb dL_isPoured_104 (lv_at hl 3 rfl) ?_
          refine lv_aload_n hx hb dL_isPoured_106 rfl (lv_at hl 5 rfl) ?_
          refine lv_iload_n hx hb dL_isPoured_107 rfl (lv_at hl 6 rfl) ?_
          obtain ⟨z_29, hz_30, h⟩ := qm_bind h
          refine va_calli (va_runV (As := [.int p0]) (rest := [.int z_9, .int z_27]) ⟨hx, hb, hml, hown, hts⟩ (kX6_marks l D A ad cI cQ rest z_22.2 p0 z_29 hz_30) (cwV 1 hts gL_isPoured_X6_marks rfl rfl rfl (by decide +kernel) ⟨Nat.le_of_ble_eq_true rfl, Nat.le_of_ble_eq_true rfl⟩) ⟨qn_blind, va_recv hK hP (ci := 6) (q0 := 0) rfl qg_Q, fun U hU hW => ⟨rfl, qm_go hA hS hP hK hD hU hW, qn_go hZ hW⟩⟩ rfl rfl hl.1 rfl (lv_room (Nat.le_of_ble_eq_true rfl)) dL_isPoured_108 ⟨Nat.le_of_ble_eq_true rfl, Nat.le_of_ble_eq_true rfl⟩) hS (fun _ _ h9 => h9) (fun _ h9 => h9) (fun v u t H1 locs1 ht hvm hw hB hz1 hk1 hS => ?_)
          obtain ⟨hw1, hw2⟩ := hw
          have hw2 : z_22.2 = u := hw2.symm
          have hw1 : z_29 = v := hw1.symm
          subst hw1
          subst hw2
          obtain ⟨hP, hD⟩ := qm_bk ht hB
          clear hB
          refine lv_iadd hx hb dL_isPoured_111 ?_
          refine lv_icmp_ne (tgt := 129) hx hb dL_isPoured_112 (by decide) (fun c_31 => ?_) (fun c_31 => ?_)
          · rw [if_neg c_31] at h
            cases h
          · rw [if_pos c_31] at h
            refine lv_aload_n hx hb dL_isPoured_115 rfl (lv_at hl 5 rfl) ?_
            refine lv_iload_n hx hb dL_isPoured_116 rfl (lv_at hl 7 rfl) ?_
            obtain ⟨z_32, hz_33, h⟩ := qm_bind h
            refine va_calli (va_runV (As := [.int p1]) (rest := []) ⟨hx, hb, hml, hown, hts⟩ (kX6_bound l D A ad cI cQ rest z_22.2 p1 z_32 hz_33) (cwV 1 hts gL_isPoured_X6_bound rfl rfl rfl (by decide +kernel) ⟨Nat.le_of_ble_eq_true rfl, Nat.le_of_ble_eq_true rfl⟩) ⟨qn_blind, va_recv hK hP (ci := 6) (q0 := 0) rfl qg_Q, fun U hU hW => ⟨rfl, qm_go hA hS hP hK hD hU hW, qn_go hZ hW⟩⟩ rfl rfl hl.1 rfl (lv_room (Nat.le_of_ble_eq_true rfl)) dL_isPoured_117 ⟨Nat.le_of_ble_eq_true rfl, Nat.le_of_ble_eq_true rfl⟩) hS (fun _ _ h9 => h9) (fun _ h9 => h9) (fun v u t H1 locs1 ht hvm hw hB hz1 hk1 hS => ?_)
            obtain ⟨hw1, hw2⟩ := hw
            have hw2 : z_22.2 = u := hw2.symm
            have hw1 : z_32 = v := hw1.symm
            subst hw1
            subst hw2
            obtain ⟨hP, hD⟩ := qm_bk ht hB
            clear hB
            refine lv_iload hx hb dL_isPoured_120 (lv_at hl 2 rfl) ?_
            refine lv_icmp_ne (tgt := 129) hx hb dL_isPoured_122 (by decide) (fun c_34 => ?_) (fun c_34 => ?_)
            · rw [if_neg c_34] at h
              cases h
            · rw [if_pos c_34] at h
              refine lv_iconst (v := (1 : Int32)) hx hb dL_isPoured_125 (by decide) ?_
              refine lv_goto (tgt := 130) hx hb dL_isPoured_126 (by decide) ?_
              refine lv_istore (lv' := [(8, .int (1 : Int32)), (7, .int z_20), (6, .int z_18), (5, .int z_16), (4, .int z_9), (3, .int z_7), (0, .ref (ad 0)), (1, .int p0), (2, .int p1)]) hx hb dL_isPoured_130 hl (by decide) rfl (fun ls hl => ?_)
              refine lv_iload hx hb dL_isPoured_132 (lv_at hl 0 rfl) ?_
              refine lv_if_eq (tgt := 168) hx hb dL_isPoured_134 (by decide) (fun c => absurd c (by decide)) (fun _ => ?_)
              refine lv_aload_n hx hb dL_isPoured_137 rfl (lv_at hl 6 rfl) ?_
              refine lv_iload_n hx hb dL_isPoured_138 rfl (lv_at hl 8 rfl) ?_
              refine lv_bipush (v := (7 : Int32)) hx hb dL_isPoured_139 (by decide) ?_
              obtain ⟨z_35, hz_36, h⟩ := qm_bind h
              refine va_calli (va_runV (As := [.int p1, .int (7 : Int32)]) (rest := []) ⟨hx, hb, hml, hown, hts⟩ (kX6_reallyUpTo l D A ad cI cQ rest z_22.2 p1 (7 : Int32) z_35 hz_36) (cwV 2 hts gL_isPoured_X6_reallyUpTo rfl rfl rfl (by decide +kernel) ⟨Nat.le_of_ble_eq_true rfl, Nat.le_of_ble_eq_true rfl⟩) ⟨qn_blind, va_recv hK hP (ci := 6) (q0 := 0) rfl qg_Q, fun U hU hW => ⟨rfl, qm_go hA hS hP hK hD hU hW, qn_go hZ hW⟩⟩ rfl rfl hl.1 rfl (lv_room (Nat.le_of_ble_eq_true rfl)) dL_isPoured_141 ⟨Nat.le_of_ble_eq_true rfl, Nat.le_of_ble_eq_true rfl⟩) hS (fun _ _ h9 => h9) (fun _ h9 => h9) (fun v u t H1 locs1 ht hvm hw hB hz1 hk1 hS => ?_)
              obtain ⟨hw1, hw2⟩ := hw
              have hw2 : z_22.2 = u := hw2.symm
              have hw1 : z_35 = v := hw1.symm
              subst hw1
              subst hw2
              obtain ⟨hP, hD⟩ := qm_bk ht hB
              clear hB
              refine lv_iload hx hb dL_isPoured_144 (lv_at hl 2 rfl) ?_
              refine lv_iload hx hb dL_isPoured_146 (lv_at hl 1 rfl) ?_
              refine lv_iadd hx hb dL_isPoured_148 ?_
              refine lv_icmp_ne (tgt := 168) hx hb dL_isPoured_149 (by decide) (fun c_37 => ?_) (fun c_37 => ?_)
              · rw [if_neg c_37] at h
                cases h
              · rw [if_pos c_37] at h
                refine lv_aload_n hx hb dL_isPoured_152 rfl (lv_at hl 6 rfl) ?_
                refine lv_iload_n hx hb dL_isPoured_153 rfl (lv_at hl 7 rfl) ?_
                refine lv_bipush (v := (7 : Int32)) hx hb dL_isPoured_154 (by decide) ?_
                obtain ⟨z_38, hz_39, h⟩ := qm_bind h
                refine va_calli (va_runV (As := [.int p0, .int (7 : Int32)]) (rest := []) ⟨hx, hb, hml, hown, hts⟩ (kX6_reallyUpTo l D A ad cI cQ rest z_22.2 p0 (7 : Int32) z_38 hz_39) (cwV 2 hts gL_isPoured_X6_reallyUpTo rfl rfl rfl (by decide +kernel) ⟨Nat.le_of_ble_eq_true rfl, Nat.le_of_ble_eq_true rfl⟩) ⟨qn_blind, va_recv hK hP (ci := 6) (q0 := 0) rfl qg_Q, fun U hU hW => ⟨rfl, qm_go hA hS hP hK hD hU hW, qn_go hZ hW⟩⟩ rfl rfl hl.1 rfl (lv_room (Nat.le_of_ble_eq_true rfl)) dL_isPoured_156 ⟨Nat.le_of_ble_eq_true rfl, Nat.le_of_ble_eq_true rfl⟩) hS (fun _ _ h9 => h9) (fun _ h9 => h9) (fun v u t H1 locs1 ht hvm hw hB hz1 hk1 hS => ?_)
                obtain ⟨hw1, hw2⟩ := hw
                have hw2 : z_22.2 = u := hw2.symm
                have hw1 : z_38 = v := hw1.symm
                subst hw1
                subst hw2
                obtain ⟨hP, hD⟩ := qm_bk ht hB
                clear hB
                refine lv_iload hx hb dL_isPoured_159 (lv_at hl 2 rfl) ?_
                refine lv_icmp_ne (tgt := 168) hx hb dL_isPoured_161 (by decide) (fun c_40 => ?_) (fun c_40 => ?_)
                · rw [if_neg c_40] at h
                  cases h
                · rw [if_pos c_40] at h
                  refine lv_iconst (v := (1 : Int32)) hx hb dL_isPoured_164 (by decide) ?_
                  refine lv_goto (tgt := 169) hx hb dL_isPoured_165 (by decide) ?_
                  have h := Option.some.inj h
                  subst h
                  exact W.zret (v := (1 : Int32)) hx hb hr rfl (fun t ht hW => ⟨⟨(1 : Int32), z_22.2, rfl, ⟨rfl, rfl⟩, qm_en ht hP hD⟩, hS.F ht⟩) hS.2.2 dL_isPoured_169
      · rw [if_neg c_15] at h
        refine lv_aload_n hx hb dL_isPoured_50 rfl (lv_at hl 2 rfl) ?_
        refine lv_iload_n hx hb dL_isPoured_51 rfl (lv_at hl 4 rfl) ?_
        obtain ⟨z_41, hz_42, h⟩ := qm_bind h
        refine va_calli (va_runV (As := [.int p1]) (rest := []) ⟨hx, hb, hml, hown, hts⟩ (kX6_bound l D A ad cI cQ rest S p1 z_41 hz_42) (cwV 1 hts gL_isPoured_X6_bound rfl rfl rfl (by decide +kernel) ⟨Nat.le_of_ble_eq_true rfl, Nat.le_of_ble_eq_true rfl⟩) ⟨qn_blind, va_recv hK hP (ci := 6) (q0 := 0) rfl qg_Q, fun U hU hW => ⟨rfl, qm_go hA hS hP hK hD hU hW, qn_go hZ hW⟩⟩ rfl rfl hl.1 rfl (lv_room (Nat.le_of_ble_eq_true rfl)) dL_isPoured_52 ⟨Nat.le_of_ble_eq_true rfl, Nat.le_of_ble_eq_true rfl⟩) hS (fun _ _ h9 => h9) (fun _ h9 => h9) (fun v u t H1 locs1 ht hvm hw hB hz1 hk1 hS => ?_)
        obtain ⟨hw1, hw2⟩ := hw
        have hw2 : S = u := hw2.symm
        have hw1 : z_41 = v := hw1.symm
        subst hw1
        subst hw2
        obtain ⟨hP, hD⟩ := qm_bk ht hB
        clear hB
        refine lv_goto (tgt := 63) hx hb dL_isPoured_55 (by decide) ?_
        refine lv_istore (lv' := [(5, .int z_41), (4, .int z_9), (3, .int z_7), (0, .ref (ad 0)), (1, .int p0), (2, .int p1)]) hx hb dL_isPoured_63 hl (by decide) rfl (fun ls hl => ?_)
        refine lv_aload_n hx hb dL_isPoured_65 rfl (lv_at hl 3 rfl) ?_
        refine lv_iload_n hx hb dL_isPoured_66 rfl (lv_at hl 4 rfl) ?_
        refine lv_bipush (v := (7 : Int32)) hx hb dL_isPoured_67 (by decide) ?_
        obtain ⟨z_43, hz_44, h⟩ := qm_bind h
        refine va_calli (va_runV (As := [.int p0, .int (7 : Int32)]) (rest := []) ⟨hx, hb, hml, hown, hts⟩ (kX6_reallyUpTo l D A ad cI cQ rest S p0 (7 : Int32) z_43 hz_44) (cwV 2 hts gL_isPoured_X6_reallyUpTo rfl rfl rfl (by decide +kernel) ⟨Nat.le_of_ble_eq_true rfl, Nat.le_of_ble_eq_true rfl⟩) ⟨qn_blind, va_recv hK hP (ci := 6) (q0 := 0) rfl qg_Q, fun U hU hW => ⟨rfl, qm_go hA hS hP hK hD hU hW, qn_go hZ hW⟩⟩ rfl rfl hl.1 rfl (lv_room (Nat.le_of_ble_eq_true rfl)) dL_isPoured_69 ⟨Nat.le_of_ble_eq_true rfl, Nat.le_of_ble_eq_true rfl⟩) hS (fun _ _ h9 => h9) (fun _ h9 => h9) (fun v u t H1 locs1 ht hvm hw hB hz1 hk1 hS => ?_)
        obtain ⟨hw1, hw2⟩ := hw
        have hw2 : S = u := hw2.symm
        have hw1 : z_43 = v := hw1.symm
        subst hw1
        subst hw2
        obtain ⟨hP, hD⟩ := qm_bk ht hB
        clear hB
        refine lv_istore (lv' := [(6, .int z_43), (5, .int z_41), (4, .int z_9), (3, .int z_7), (0, .ref (ad 0)), (1, .int p0), (2, .int p1)]) hx hb dL_isPoured_72 hl (by decide) rfl (fun ls hl => ?_)
        refine lv_aload_n hx hb dL_isPoured_74 rfl (lv_at hl 4 rfl) ?_
        refine lv_iload_n hx hb dL_isPoured_75 rfl (lv_at hl 6 rfl) ?_
        refine lv_bipush (v := (7 : Int32)) hx hb dL_isPoured_76 (by decide) ?_
        obtain ⟨z_45, hz_46, h⟩ := qm_bind h
        refine va_calli (va_runV (As := [.int p1, .int (7 : Int32)]) (rest := []) ⟨hx, hb, hml, hown, hts⟩ (kX6_reallyUpTo l D A ad cI cQ rest S p1 (7 : Int32) z_45 hz_46) (cwV 2 hts gL_isPoured_X6_reallyUpTo rfl rfl rfl (by decide +kernel) ⟨Nat.le_of_ble_eq_true rfl, Nat.le_of_ble_eq_true rfl⟩) ⟨qn_blind, va_recv hK hP (ci := 6) (q0 := 0) rfl qg_Q, fun U hU hW => ⟨rfl, qm_go hA hS hP hK hD hU hW, qn_go hZ hW⟩⟩ rfl rfl hl.1 rfl (lv_room (Nat.le_of_ble_eq_true rfl)) dL_isPoured_78 ⟨Nat.le_of_ble_eq_true rfl, Nat.le_of_ble_eq_true rfl⟩) hS (fun _ _ h9 => h9) (fun _ h9 => h9) (fun v u t H1 locs1 ht hvm hw hB hz1 hk1 hS => ?_)
        obtain ⟨hw1, hw2⟩ := hw
        have hw2 : S = u := hw2.symm
        have hw1 : z_45 = v := hw1.symm
        subst hw1
        subst hw2
        obtain ⟨hP, hD⟩ := qm_bk ht hB
        clear hB
        refine lv_istore (lv' := [(7, .int z_45), (6, .int z_43), (5, .int z_41), (4, .int z_9), (3, .int z_7), (0, .ref (ad 0)), (1, .int p0), (2, .int p1)]) hx hb dL_isPoured_81 hl (by decide) rfl (fun ls hl => ?_)
        refine lv_aload_n hx hb dL_isPoured_83 rfl (lv_at hl 5 rfl) ?_
        refine lv_iload_n hx hb dL_isPoured_84 rfl (lv_at hl 6 rfl) ?_
        refine lv_iload_n hx hb dL_isPoured_85 rfl (lv_at hl 7 rfl) ?_
        obtain ⟨z_47, hz_48, h⟩ := qm_bind h
        refine va_calli (va_runV (As := [.int p0, .int p1]) (rest := []) ⟨hx, hb, hml, hown, hts⟩ (kX6_pour l D A ad cI cQ rest S p0 p1 z_47 hz_48) (cwV 2 hts gL_isPoured_X6_pour rfl rfl rfl (by decide +kernel) ⟨Nat.le_of_ble_eq_true rfl, Nat.le_of_ble_eq_true rfl⟩) ⟨qn_blind, va_recv hK hP (ci := 6) (q0 := 0) rfl qg_Q, fun U hU hW => ⟨rfl, qm_go hA hS hP hK hD hU hW, qn_go hZ hW⟩⟩ rfl rfl hl.1 rfl (lv_room (Nat.le_of_ble_eq_true rfl)) dL_isPoured_86 ⟨Nat.le_of_ble_eq_true rfl, Nat.le_of_ble_eq_true rfl⟩) hS (fun _ _ h9 => h9) (fun _ h9 => h9) (fun v u t H1 locs1 ht hvm hw hB hz1 hk1 hS => ?_)
        obtain ⟨hw1, hw2⟩ := hw
        have hw2 : z_47.2 = u := hw2.symm
        have hw1 : z_47.1 = v := hw1.symm
        subst hw1
        subst hw2
        obtain ⟨hP, hD⟩ := qm_bk ht hB
        clear hB
        refine lv_iload_n hx hb dL_isPoured_89 rfl (lv_at hl 4 rfl) ?_
        refine lv_aload_n hx hb dL_isPoured_90 rfl (lv_at hl 5 rfl) ?_
        refine lv_iload_n hx hb dL_isPoured_91 rfl (lv_at hl 6 rfl) ?_
        obtain ⟨z_49, hz_50, h⟩ := qm_bind h
        refine va_calli (va_runV (As := [.int p0]) (rest := [.int z_7, .int z_47.1]) ⟨hx, hb, hml, hown, hts⟩ (kX6_count l D A ad cI cQ rest z_47.2 p0 z_49 hz_50) (cwV 1 hts gL_isPoured_X6_count rfl rfl rfl (by decide +kernel) ⟨Nat.le_of_ble_eq_true rfl, Nat.le_of_ble_eq_true rfl⟩) ⟨qn_blind, va_recv hK hP (ci := 6) (q0 := 0) rfl qg_Q, fun U hU hW => ⟨rfl, qm_go hA hS hP hK hD hU hW, qn_go hZ hW⟩⟩ rfl rfl hl.1 rfl (lv_room (Nat.le_of_ble_eq_true rfl)) dL_isPoured_92 ⟨Nat.le_of_ble_eq_true rfl, Nat.le_of_ble_eq_true rfl⟩) hS (fun _ _ h9 => h9) (fun _ h9 => h9) (fun v u t H1 locs1 ht hvm hw hB hz1 hk1 hS => ?_)
        obtain ⟨hw1, hw2⟩ := hw
        have hw2 : z_47.2 = u := hw2.symm
        have hw1 : z_49 = v := hw1.symm
        subst hw1
        subst hw2
        obtain ⟨hP, hD⟩ := qm_bk ht hB
        clear hB
        refine lv_iadd hx hb dL_isPoured_95 ?_
        refine lv_icmp_ne (tgt := 129) hx hb dL_isPoured_96 (by decide) (fun c_51 => ?_) (fun c_51 => ?_)
        · rw [if_neg c_51] at h
          cases h
        · rw [if_pos c_51] at h
          refine lv_aload_n hx hb dL_isPoured_99 rfl (lv_at hl 5 rfl) ?_
          refine lv_iload_n hx hb dL_isPoured_100 rfl (lv_at hl 7 rfl) ?_
          obtain ⟨z_52, hz_53, h⟩ := qm_bind h
          refine va_calli (va_runV (As := [.int p1]) (rest := []) ⟨hx, hb, hml, hown, hts⟩ (kX6_marks l D A ad cI cQ rest z_47.2 p1 z_52 hz_53) (cwV 1 hts gL_isPoured_X6_marks rfl rfl rfl (by decide +kernel) ⟨Nat.le_of_ble_eq_true rfl, Nat.le_of_ble_eq_true rfl⟩) ⟨qn_blind, va_recv hK hP (ci := 6) (q0 := 0) rfl qg_Q, fun U hU hW => ⟨rfl, qm_go hA hS hP hK hD hU hW, qn_go hZ hW⟩⟩ rfl rfl hl.1 rfl (lv_room (Nat.le_of_ble_eq_true rfl)) dL_isPoured_101 ⟨Nat.le_of_ble_eq_true rfl, Nat.le_of_ble_eq_true rfl⟩) hS (fun _ _ h9 => h9) (fun _ h9 => h9) (fun v u t H1 locs1 ht hvm hw hB hz1 hk1 hS => ?_)
          obtain ⟨hw1, hw2⟩ := hw
          have hw2 : z_47.2 = u := hw2.symm
          have hw1 : z_52 = v := hw1.symm
          subst hw1
          subst hw2
          obtain ⟨hP, hD⟩ := qm_bk ht hB
          clear hB
          refine lv_iload hx hb dL_isPoured_104 (lv_at hl 3 rfl) ?_
          refine lv_aload_n hx hb dL_isPoured_106 rfl (lv_at hl 5 rfl) ?_
          refine lv_iload_n hx hb dL_isPoured_107 rfl (lv_at hl 6 rfl) ?_
          obtain ⟨z_54, hz_55, h⟩ := qm_bind h
          refine va_calli (va_runV (As := [.int p0]) (rest := [.int z_9, .int z_52]) ⟨hx, hb, hml, hown, hts⟩ (kX6_marks l D A ad cI cQ rest z_47.2 p0 z_54 hz_55) (cwV 1 hts gL_isPoured_X6_marks rfl rfl rfl (by decide +kernel) ⟨Nat.le_of_ble_eq_true rfl, Nat.le_of_ble_eq_true rfl⟩) ⟨qn_blind, va_recv hK hP (ci := 6) (q0 := 0) rfl qg_Q, fun U hU hW => ⟨rfl, qm_go hA hS hP hK hD hU hW, qn_go hZ hW⟩⟩ rfl rfl hl.1 rfl (lv_room (Nat.le_of_ble_eq_true rfl)) dL_isPoured_108 ⟨Nat.le_of_ble_eq_true rfl, Nat.le_of_ble_eq_true rfl⟩) hS (fun _ _ h9 => h9) (fun _ h9 => h9) (fun v u t H1 locs1 ht hvm hw hB hz1 hk1 hS => ?_)
          obtain ⟨hw1, hw2⟩ := hw
          have hw2 : z_47.2 = u := hw2.symm
          have hw1 : z_54 = v := hw1.symm
          subst hw1
          subst hw2
          obtain ⟨hP, hD⟩ := qm_bk ht hB
          clear hB
          refine lv_iadd hx hb dL_isPoured_111 ?_
          refine lv_icmp_ne (tgt := 129) hx hb dL_isPoured_112 (by decide) (fun c_56 => ?_) (fun c_56 => ?_)
          · rw [if_neg c_56] at h
            cases h
          · rw [if_pos c_56] at h
            refine lv_aload_n hx hb dL_isPoured_115 rfl (lv_at hl 5 rfl) ?_
            refine lv_iload_n hx hb dL_isPoured_116 rfl (lv_at hl 7 rfl) ?_
            obtain ⟨z_57, hz_58, h⟩ := qm_bind h
            refine va_calli (va_runV (As := [.int p1]) (rest := []) ⟨hx, hb, hml, hown, hts⟩ (kX6_bound l D A ad cI cQ rest z_47.2 p1 z_57 hz_58) (cwV 1 hts gL_isPoured_X6_bound rfl rfl rfl (by decide +kernel) ⟨Nat.le_of_ble_eq_true rfl, Nat.le_of_ble_eq_true rfl⟩) ⟨qn_blind, va_recv hK hP (ci := 6) (q0 := 0) rfl qg_Q, fun U hU hW => ⟨rfl, qm_go hA hS hP hK hD hU hW, qn_go hZ hW⟩⟩ rfl rfl hl.1 rfl (lv_room (Nat.le_of_ble_eq_true rfl)) dL_isPoured_117 ⟨Nat.le_of_ble_eq_true rfl, Nat.le_of_ble_eq_true rfl⟩) hS (fun _ _ h9 => h9) (fun _ h9 => h9) (fun v u t H1 locs1 ht hvm hw hB hz1 hk1 hS => ?_)
            obtain ⟨hw1, hw2⟩ := hw
            have hw2 : z_47.2 = u := hw2.symm
            have hw1 : z_57 = v := hw1.symm
            subst hw1
            subst hw2
            obtain ⟨hP, hD⟩ := qm_bk ht hB
            clear hB
            refine lv_iload hx hb dL_isPoured_120 (lv_at hl 2 rfl) ?_
            refine lv_icmp_ne (tgt := 129) hx hb dL_isPoured_122 (by decide) (fun c_59 => ?_) (fun c_59 => ?_)
            · rw [if_neg c_59] at h
              cases h
            · rw [if_pos c_59] at h
              refine lv_iconst (v := (1 : Int32)) hx hb dL_isPoured_125 (by decide) ?_
              refine lv_goto (tgt := 130) hx hb dL_isPoured_126 (by decide) ?_
              refine lv_istore (lv' := [(8, .int (1 : Int32)), (7, .int z_45), (6, .int z_43), (5, .int z_41), (4, .int z_9), (3, .int z_7), (0, .ref (ad 0)), (1, .int p0), (2, .int p1)]) hx hb dL_isPoured_130 hl (by decide) rfl (fun ls hl => ?_)
              refine lv_iload hx hb dL_isPoured_132 (lv_at hl 0 rfl) ?_
              refine lv_if_eq (tgt := 168) hx hb dL_isPoured_134 (by decide) (fun c => absurd c (by decide)) (fun _ => ?_)
              refine lv_aload_n hx hb dL_isPoured_137 rfl (lv_at hl 6 rfl) ?_
              refine lv_iload_n hx hb dL_isPoured_138 rfl (lv_at hl 8 rfl) ?_
              refine lv_bipush (v := (7 : Int32)) hx hb dL_isPoured_139 (by decide) ?_
              obtain ⟨z_60, hz_61, h⟩ := qm_bind h
              refine va_calli (va_runV (As := [.int p1, .int (7 : Int32)]) (rest := []) ⟨hx, hb, hml, hown, hts⟩ (kX6_reallyUpTo l D A ad cI cQ rest z_47.2 p1 (7 : Int32) z_60 hz_61) (cwV 2 hts gL_isPoured_X6_reallyUpTo rfl rfl rfl (by decide +kernel) ⟨Nat.le_of_ble_eq_true rfl, Nat.le_of_ble_eq_true rfl⟩) ⟨qn_blind, va_recv hK hP (ci := 6) (q0 := 0) rfl qg_Q, fun U hU hW => ⟨rfl, qm_go hA hS hP hK hD hU hW, qn_go hZ hW⟩⟩ rfl rfl hl.1 rfl (lv_room (Nat.le_of_ble_eq_true rfl)) dL_isPoured_141 ⟨Nat.le_of_ble_eq_true rfl, Nat.le_of_ble_eq_true rfl⟩) hS (fun _ _ h9 => h9) (fun _ h9 => h9) (fun v u t H1 locs1 ht hvm hw hB hz1 hk1 hS => ?_)
              obtain ⟨hw1, hw2⟩ := hw
              have hw2 : z_47.2 = u := hw2.symm
              have hw1 : z_60 = v := hw1.symm
              subst hw1
              subst hw2
              obtain ⟨hP, hD⟩ := qm_bk ht hB
              clear hB
              refine lv_iload hx hb dL_isPoured_144 (lv_at hl 2 rfl) ?_
              refine lv_iload hx hb dL_isPoured_146 (lv_at hl 1 rfl) ?_
              refine lv_iadd hx hb dL_isPoured_148 ?_
              refine lv_icmp_ne (tgt := 168) hx hb dL_isPoured_149 (by decide) (fun c_62 => ?_) (fun c_62 => ?_)
              · rw [if_neg c_62] at h
                cases h
              · rw [if_pos c_62] at h
                refine lv_aload_n hx hb dL_isPoured_152 rfl (lv_at hl 6 rfl) ?_
                refine lv_iload_n hx hb dL_isPoured_153 rfl (lv_at hl 7 rfl) ?_
                refine lv_bipush (v := (7 : Int32)) hx hb dL_isPoured_154 (by decide) ?_
                obtain ⟨z_63, hz_64, h⟩ := qm_bind h
                refine va_calli (va_runV (As := [.int p0, .int (7 : Int32)]) (rest := []) ⟨hx, hb, hml, hown, hts⟩ (kX6_reallyUpTo l D A ad cI cQ rest z_47.2 p0 (7 : Int32) z_63 hz_64) (cwV 2 hts gL_isPoured_X6_reallyUpTo rfl rfl rfl (by decide +kernel) ⟨Nat.le_of_ble_eq_true rfl, Nat.le_of_ble_eq_true rfl⟩) ⟨qn_blind, va_recv hK hP (ci := 6) (q0 := 0) rfl qg_Q, fun U hU hW => ⟨rfl, qm_go hA hS hP hK hD hU hW, qn_go hZ hW⟩⟩ rfl rfl hl.1 rfl (lv_room (Nat.le_of_ble_eq_true rfl)) dL_isPoured_156 ⟨Nat.le_of_ble_eq_true rfl, Nat.le_of_ble_eq_true rfl⟩) hS (fun _ _ h9 => h9) (fun _ h9 => h9) (fun v u t H1 locs1 ht hvm hw hB hz1 hk1 hS => ?_)
                obtain ⟨hw1, hw2⟩ := hw
                have hw2 : z_47.2 = u := hw2.symm
                have hw1 : z_63 = v := hw1.symm
                subst hw1
                subst hw2
                obtain ⟨hP, hD⟩ := qm_bk ht hB
                clear hB
                refine lv_iload hx hb dL_isPoured_159 (lv_at hl 2 rfl) ?_
                refine lv_icmp_ne (tgt := 168) hx hb dL_isPoured_161 (by decide) (fun c_65 => ?_) (fun c_65 => ?_)
                · rw [if_neg c_65] at h
                  cases h
                · rw [if_pos c_65] at h
                  refine lv_iconst (v := (1 : Int32)) hx hb dL_isPoured_164 (by decide) ?_
                  refine lv_goto (tgt := 169) hx hb dL_isPoured_165 (by decide) ?_
                  have h := Option.some.inj h
                  subst h
                  exact W.zret (v := (1 : Int32)) hx hb hr rfl (fun t ht hW => ⟨⟨(1 : Int32), z_47.2, rfl, ⟨rfl, rfl⟩, qm_en ht hP hD⟩, hS.F ht⟩) hS.2.2 dL_isPoured_169
    · rw [if_neg c_6] at h
      refine lv_iconst (v := (1 : Int32)) hx hb dL_isPoured_22 (by decide) ?_
      have h := Option.some.inj h
      subst h
      exact W.zret (v := (1 : Int32)) hx hb hr rfl (fun t ht hW => ⟨⟨(1 : Int32), S, rfl, ⟨rfl, rfl⟩, qm_en ht hP hD⟩, hS.F ht⟩) hS.2.2 dL_isPoured_23
