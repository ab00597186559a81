noncomputable def fL_does (S : qm_S) (p0 : Int32) (p1 : Int32) (p2 : Int32) : Option (Int32 × qm_S) :=
  Option.bind (fX6_count S p0) (fun z_1 => Option.bind (fX6_marks S p0) (fun z_3 => (if (p1 &&& (15 : Int32)) = (0 : Int32) then Option.bind (fL_low S (p2 >>> ((3 : Int32) &&& 31)) (196 : Int32)) (fun z_6 => (if 0 < (p2 &&& (7 : Int32)) then some ((1 : Int32), S) else Option.bind (fX6_begin S p0 ((5 : Int32) + z_6)) (fun z_9 => (if z_9.1 = z_1 then Option.bind (fX6_count z_9.2 p0) (fun z_12 => (if z_12 = 0 then Option.bind (fX6_marks z_9.2 p0) (fun z_15 => (if z_15 = 0 then Option.bind (fX6_bound z_9.2 p0) (fun z_18 => (if z_18 = ((5 : Int32) + z_6) then some ((1 : Int32), z_9.2) else none)) else none)) else none)) else none)))) else (if (p1 &&& (15 : Int32)) = (1 : Int32) ∨ (p1 &&& (15 : Int32)) = (2 : Int32) ∨ (p1 &&& (15 : Int32)) = (3 : Int32) ∨ (p1 &&& (15 : Int32)) = (4 : Int32) then Option.bind (fL_low S (p2 >>> ((4 : Int32) &&& 31)) (40 : Int32)) (fun z_22 => (if (p2 &&& (4 : Int32)) = 0 then Option.bind (fL_low S p2 (10000 : Int32)) (fun z_36 => (if (600 : Int32) < (z_1 + ((1 : Int32) + z_22)) then some ((1 : Int32), S) else Option.bind (fL_number S p2) (fun z_39 => Option.bind (fX6_showRow S p0 z_39 z_36 ((1 : Int32) + z_22)) (fun z_41 => (if z_41.1 = (z_3 + ((1 : Int32) + z_22)) then Option.bind (fX6_count z_41.2 p0) (fun z_44 => (if z_44 = (z_1 + ((1 : Int32) + z_22)) then some ((1 : Int32), z_41.2) else none)) else none))))) else Option.bind (fL_low S p2 (8 : Int32)) (fun z_25 => (if (600 : Int32) < (z_1 + ((1 : Int32) + z_22)) then some ((1 : Int32), S) else Option.bind (fL_number S p2) (fun z_28 => Option.bind (fX6_showRow S p0 z_28 z_25 ((1 : Int32) + z_22)) (fun z_30 => (if z_30.1 = (z_3 + ((1 : Int32) + z_22)) then Option.bind (fX6_count z_30.2 p0) (fun z_33 => (if z_33 = (z_1 + ((1 : Int32) + z_22)) then some ((1 : Int32), z_30.2) else none)) else none))))))) else (if (p1 &&& (15 : Int32)) = (5 : Int32) ∨ (p1 &&& (15 : Int32)) = (6 : Int32) ∨ (p1 &&& (15 : Int32)) = (7 : Int32) then Option.bind (fX6_thinOut S p0) (fun z_48 => Option.bind (fX6_thinOut z_48.2 p0) (fun z_50 => Option.bind (fX6_marks z_50.2 p0) (fun z_52 => (if z_52 = ((z_3 - z_48.1) - z_50.1) then (if z_48.1 < z_50.1 then none else (if (3 : Int32) ≤ z_3 then Option.bind (fX6_marks z_50.2 p0) (fun z_57 => (if z_57 < (2 : Int32) then none else Option.bind (fX6_count z_50.2 p0) (fun z_60 => (if z_60 = z_1 then some ((1 : Int32), z_50.2) else none)))) else (if z_48.1 = 0 then Option.bind (fX6_count z_50.2 p0) (fun z_64 => (if z_64 = z_1 then some ((1 : Int32), z_50.2) else none)) else none))) else none)))) else (if (p1 &&& (15 : Int32)) = (8 : Int32) then Option.bind (fL_low S p2 (4 : Int32)) (fun z_68 => Option.bind (fL_isPoured S z_68 p0) (fun z_70 => qm_gd (z_70.1 = 1) (some ((1 : Int32), z_70.2)))) else (if z_1 = (600 : Int32) then some ((1 : Int32), S) else Option.bind (fL_number S p2) (fun z_74 => Option.bind (fX6_show S p0 z_74) (fun z_76 => (if z_76.1 = (z_3 + (1 : Int32)) then Option.bind (fX6_count z_76.2 p0) (fun z_79 => (if z_79 = (z_1 + (1 : Int32)) then Option.bind (fL_number z_76.2 p2) (fun z_82 => Option.bind (fX6_reallyUpTo z_76.2 p0 z_82) (fun z_84 => (if z_84 ≤ 0 then none else some ((1 : Int32), z_76.2)))) else none)) else none))))))))))
set_option maxHeartbeats 4000000 in
set_option maxRecDepth 100000 in
theorem kL_does (l : Launch) (D : va_G) (A : Nat → Prop) (ad : Nat → Nat) (cI cQ : ClassId) (rest : va_W) (S : qm_S) (p0 : Int32) (p1 : Int32) (p2 : Int32) (z : Int32 × qm_S) (h : fL_does S p0 p1 p2 = some z) : Met l yL_does wsL_does ({ frames := 8, cells := 0, slots := 0, locals := 203 }) (va_Pc [.ref (ad 0), .int p0, .int p1, .int p2] (qn_B D A (qm_T cI cQ) (qm_W ad cI cQ rest S))) (qm_Qi D A (qm_W ad cI cQ rest) z) 0 0 A := by
  refine Met.ofW (cc := cL_does) (maxL := 11) (ret := (some .boolean)) (by decide) rfl ?_
  intro p e s m args below meth c s₁ B hml hv
  obtain ⟨rfl, ⟨hA, hP, hK, hD⟩, hZ⟩ := hv
  have hx := B.exec
  have hb := B.bytes
  have hr := B.returns
  have hts := atoms_spec (ws := wsL_does) B.pre
  have hown : s.vm.findClass RL = some m.cls := findClass_of_methodNamed B.named
  have hlocks := B.notSynchronized
  have hS : va_S A s.heap s.heap [] := va_S.rf
  have hl := lv_entry ([.ref (ad 0), .int p0, .int p1, .int p2]) (n := 11) (Nat.le_of_ble_eq_true rfl)
  rw [lg_entry_eq]
  generalize (lg_sl ([.ref (ad 0), .int p0, .int p1, .int p2]) ++ List.replicate (11 - (lg_sl ([.ref (ad 0), .int p0, .int p1, .int p2])).length) Slot.unset).toArray = ls at hl ⊢
  have hl : lv_has ls 11 [(0, .ref (ad 0)), (1, .int p0), (2, .int p1), (3, .int p2)] := hl
  rw [fL_does] at h
  refine lv_aload_n hx hb dL_does_0 rfl (lv_at hl 0 rfl) ?_
  refine lv_iload_n hx hb dL_does_1 rfl (lv_at hl 1 rfl) ?_
  obtain ⟨z_1, hz_2, h⟩ := qm_bind h
  refine va_calli (va_runV (As := [.int p0]) (rest := []) ⟨hx, hb, hml, hown, hts⟩ (kX6_count l D A ad cI cQ rest S p0 z_1 hz_2) (cwV 1 hts gL_does_X6_count rfl rfl rfl (by decide +kernel) ⟨Nat.le_of_ble_eq_true rfl, Nat.le_of_ble_eq_true rfl⟩) ⟨qn_blind, va_recv hK hP (ci := 6) (q0 := 0) rfl qg_Q, fun U hU hW => ⟨rfl, qm_go hA hS hP hK hD hU hW, qn_go hZ hW⟩⟩ rfl rfl hl.1 rfl (lv_room (Nat.le_of_ble_eq_true rfl)) dL_does_2 ⟨Nat.le_of_ble_eq_true rfl, Nat.le_of_ble_eq_true rfl⟩) hS (fun _ _ h9 => h9) (fun _ h9 => h9) (fun v u t H1 locs1 ht hvm hw hB hz1 hk1 hS => ?_)
  obtain ⟨hw1, hw2⟩ := hw
  have hw2 : S = u := hw2.symm
  have hw1 : z_1 = v := hw1.symm
  subst hw1
  subst hw2
  obtain ⟨hP, hD⟩ := qm_bk ht hB
  clear hB
  refine lv_istore (lv' := [(4, .int z_1), (0, .ref (ad 0)), (1, .int p0), (2, .int p1), (3, .int p2)]) hx hb dL_does_5 hl (by decide) rfl (fun ls hl => ?_)
  refine lv_aload_n hx hb dL_does_7 rfl (lv_at hl 1 rfl) ?_
  refine lv_iload_n hx hb dL_does_8 rfl (lv_at hl 2 rfl) ?_
  obtain ⟨z_3, hz_4, h⟩ := qm_bind h
  refine va_calli (va_runV (As := [.int p0]) (rest := []) ⟨hx, hb, hml, hown, hts⟩ (kX6_marks l D A ad cI cQ rest S p0 z_3 hz_4) (cwV 1 hts gL_does_X6_marks rfl rfl rfl (by decide +kernel) ⟨Nat.le_of_ble_eq_true rfl, Nat.le_of_ble_eq_true rfl⟩) ⟨qn_blind, va_recv hK hP (ci := 6) (q0 := 0) rfl qg_Q, fun U hU hW => ⟨rfl, qm_go hA hS hP hK hD hU hW, qn_go hZ hW⟩⟩ rfl rfl hl.1 rfl (lv_room (Nat.le_of_ble_eq_true rfl)) dL_does_9 ⟨Nat.le_of_ble_eq_true rfl, Nat.le_of_ble_eq_true rfl⟩) hS (fun _ _ h9 => h9) (fun _ h9 => h9) (fun v u t H1 locs1 ht hvm hw hB hz1 hk1 hS => ?_)
  obtain ⟨hw1, hw2⟩ := hw
  have hw2 : S = u := hw2.symm
  have hw1 : z_3 = v := hw1.symm
  subst hw1
  subst hw2
  obtain ⟨hP, hD⟩ := qm_bk ht hB
  clear hB
  refine lv_istore (lv' := [(5, .int z_3), (4, .int z_1), (0, .ref (ad 0)), (1, .int p0), (2, .int p1), (3, .int p2)]) hx hb dL_does_12 hl (by decide) rfl (fun ls hl => ?_)
  refine lv_iload_n hx hb dL_does_14 rfl (lv_at hl 4 rfl) ?_
  refine lv_bipush (v := (15 : Int32)) hx hb dL_does_15 (by decide) ?_
  refine lv_iand hx hb dL_does_17 ?_
  by_cases c_5 : (p1 &&& (15 : Int32)) = (0 : Int32)
  · rw [if_pos c_5] at h
    refine lv_tableIn (off := 50) (tgt := 68) hx hb dL_does_18 (by rw [c_5] <;> decide) (by rw [c_5] <;> decide) (by rw [c_5] <;> rfl) (by decide) ?_
    refine lv_iconst (v := (5 : Int32)) hx hb dL_does_68 (by decide) ?_
    refine lv_iload_n hx hb dL_does_69 rfl (lv_at hl 5 rfl) ?_
    refine lv_iconst (v := (3 : Int32)) hx hb dL_does_70 (by decide) ?_
    refine lv_ishr hx hb dL_does_71 ?_
    refine lv_sipush (v := (196 : Int32)) hx hb dL_does_72 (by decide) ?_
    obtain ⟨z_6, hz_7, h⟩ := qm_bind h
    refine va_calli (va_runS (As := [.int (p2 >>> ((3 : Int32) &&& 31)), .int (196 : Int32)]) (rest := [.int (5 : Int32)]) ⟨hx, hb, hml, hown, hts⟩ (kL_low l D A ad cI cQ rest S (p2 >>> ((3 : Int32) &&& 31)) (196 : Int32) z_6 hz_7) (va_cwS 2 hts gL_does_L_low rfl rfl rfl (by decide +kernel) ⟨Nat.le_of_ble_eq_true rfl, Nat.le_of_ble_eq_true rfl⟩) ⟨qm_blind, fun U hU hW => ⟨rfl, qm_go hA hS hP hK hD hU hW⟩⟩ rfl rfl hl.1 rfl (lv_room (Nat.le_of_ble_eq_true rfl)) dL_does_75 ⟨Nat.le_of_ble_eq_true rfl, Nat.le_of_ble_eq_true rfl⟩) hS (fun _ _ h9 => h9) (fun _ h9 => h9) (fun v u t H1 locs1 ht hvm hw hB hz1 hk1 hS => ?_)
    obtain ⟨hw1, hw2⟩ := hw
    have hw2 : S = u := hw2.symm
    have hw1 : z_6 = v := hw1.symm
    subst hw1
    subst hw2
    obtain ⟨hP, hD⟩ := qm_bk ht hB
    clear hB
    refine lv_iadd hx hb dL_does_78 ?_
    refine lv_istore (lv' := [(6, .int ((5 : Int32) + z_6)), (5, .int z_3), (4, .int z_1), (0, .ref (ad 0)), (1, .int p0), (2, .int p1), (3, .int p2)]) hx hb dL_does_79 hl (by decide) rfl (fun ls hl => ?_)
    refine lv_iload_n hx hb dL_does_81 rfl (lv_at hl 6 rfl) ?_
    refine lv_bipush (v := (7 : Int32)) hx hb dL_does_82 (by decide) ?_
    refine lv_iand hx hb dL_does_84 ?_
    refine lv_if_gt (tgt := 126) hx hb dL_does_85 (by decide) (fun c_8 => ?_) (fun c_8 => ?_)
    · rw [if_pos c_8] at h
      refine lv_iconst (v := (1 : Int32)) hx hb dL_does_126 (by decide) ?_
      refine lv_goto (tgt := 131) hx hb dL_does_127 (by decide) ?_
      have h := Option.some.inj h
      subst h
      exact W.zret (v := (1 : Int32)) hx hb hr rfl (fun t ht hW => ⟨⟨(1 : Int32), S, rfl, ⟨rfl, rfl⟩, qm_en ht hP hD⟩, hS.F ht⟩) hS.2.2 dL_does_131
    · rw [if_neg c_8] at h
      refine lv_aload_n hx hb dL_does_88 rfl (lv_at hl 3 rfl) ?_
      refine lv_iload_n hx hb dL_does_89 rfl (lv_at hl 4 rfl) ?_
      refine lv_iload hx hb dL_does_90 (lv_at hl 0 rfl) ?_
      obtain ⟨z_9, hz_10, h⟩ := qm_bind h
      refine va_calli (va_runV (As := [.int p0, .int ((5 : Int32) + z_6)]) (rest := []) ⟨hx, hb, hml, hown, hts⟩ (kX6_begin l D A ad cI cQ rest S p0 ((5 : Int32) + z_6) z_9 hz_10) (cwV 2 hts gL_does_X6_begin rfl rfl rfl (by decide +kernel) ⟨Nat.le_of_ble_eq_true rfl, Nat.le_of_ble_eq_true rfl⟩) ⟨qn_blind, va_recv hK hP (ci := 6) (q0 := 0) rfl qg_Q, fun U hU hW => ⟨rfl, qm_go hA hS hP hK hD hU hW, qn_go hZ hW⟩⟩ rfl rfl hl.1 rfl (lv_room (Nat.le_of_ble_eq_true rfl)) dL_does_92 ⟨Nat.le_of_ble_eq_true rfl, Nat.le_of_ble_eq_true rfl⟩) hS (fun _ _ h9 => h9) (fun _ h9 => h9) (fun v u t H1 locs1 ht hvm hw hB hz1 hk1 hS => ?_)
      obtain ⟨hw1, hw2⟩ := hw
      have hw2 : z_9.2 = u := hw2.symm
      have hw1 : z_9.1 = v := hw1.symm
      subst hw1
      subst hw2
      obtain ⟨hP, hD⟩ := qm_bk ht hB
      clear hB
      refine lv_iload hx hb dL_does_95 (lv_at hl 2 rfl) ?_
      refine lv_icmp_ne (tgt := 130) hx hb dL_does_97 (by decide) (fun c_11 => ?_) (fun c_11 => ?_)
      · rw [if_neg c_11] at h
        cases h
      · rw [if_pos c_11] at h
        refine lv_aload_n hx hb dL_does_100 rfl (lv_at hl 3 rfl) ?_
        refine lv_iload_n hx hb dL_does_101 rfl (lv_at hl 4 rfl) ?_
        obtain ⟨z_12, hz_13, h⟩ := qm_bind h
        refine va_calli (va_runV (As := [.int p0]) (rest := []) ⟨hx, hb, hml, hown, hts⟩ (kX6_count l D A ad cI cQ rest z_9.2 p0 z_12 hz_13) (cwV 1 hts gL_does_X6_count rfl rfl rfl (by decide +kernel) ⟨Nat.le_of_ble_eq_true rfl, Nat.le_of_ble_eq_true rfl⟩) ⟨qn_blind, va_recv hK hP (ci := 6) (q0 := 0) rfl qg_Q, fun U hU hW => ⟨rfl, qm_go hA hS hP hK hD hU hW, qn_go hZ hW⟩⟩ rfl rfl hl.1 rfl (lv_room (Nat.le_of_ble_eq_true rfl)) dL_does_102 ⟨Nat.le_of_ble_eq_true rfl, Nat.le_of_ble_eq_true rfl⟩) hS (fun _ _ h9 => h9) (fun _ h9 => h9) (fun v u t H1 locs1 ht hvm hw hB hz1 hk1 hS => ?_)
        obtain ⟨hw1, hw2⟩ := hw
        have hw2 : z_9.2 = u := hw2.symm
        have hw1 : z_12 = v := hw1.symm
        subst hw1
        subst hw2
        obtain ⟨hP, hD⟩ := qm_bk ht hB
        clear hB
        refine lv_if_ne (tgt := 130) hx hb dL_does_105 (by decide) (fun c_14 => ?_) (fun c_14 => ?_)
        · rw [if_neg c_14] at h
          cases h
        · rw [if_pos c_14] at h
          refine lv_aload_n hx hb dL_does_108 rfl (lv_at hl 3 rfl) ?_
          refine lv_iload_n hx hb dL_does_109 rfl (lv_at hl 4 rfl) ?_
          obtain ⟨z_15, hz_16, h⟩ := qm_bind h
          refine va_calli (va_runV (As := [.int p0]) (rest := []) ⟨hx, hb, hml, hown, hts⟩ (kX6_marks l D A ad cI cQ rest z_9.2 p0 z_15 hz_16) (cwV 1 hts gL_does_X6_marks rfl rfl rfl (by decide +kernel) ⟨Nat.le_of_ble_eq_true rfl, Nat.le_of_ble_eq_true rfl⟩) ⟨qn_blind, va_recv hK hP (ci := 6) (q0 := 0) rfl qg_Q, fun U hU hW => ⟨rfl, qm_go hA hS hP hK hD hU hW, qn_go hZ hW⟩⟩ rfl rfl hl.1 rfl (lv_room (Nat.le_of_ble_eq_true rfl)) dL_does_110 ⟨Nat.le_of_ble_eq_true rfl, Nat.le_of_ble_eq_true rfl⟩) hS (fun _ _ h9 => h9) (fun _ h9 => h9) (fun v u t H1 locs1 ht hvm hw hB hz1 hk1 hS => ?_)
          obtain ⟨hw1, hw2⟩ := hw
          have hw2 : z_9.2 = u := hw2.symm
          have hw1 : z_15 = v := hw1.symm
          subst hw1
          subst hw2
          obtain ⟨hP, hD⟩ := qm_bk ht hB
          clear hB
          refine lv_if_ne (tgt := 130) hx hb dL_does_113 (by decide) (fun c_17 => ?_) (fun c_17 => ?_)
          · rw [if_neg c_17] at h
            cases h
          · rw [if_pos c_17] at h
            refine lv_aload_n hx hb dL_does_116 rfl (lv_at hl 3 rfl) ?_
            refine lv_iload_n hx hb dL_does_117 rfl (lv_at hl 4 rfl) ?_
            obtain ⟨z_18, hz_19, h⟩ := qm_bind h
            refine va_calli (va_runV (As := [.int p0]) (rest := []) ⟨hx, hb, hml, hown, hts⟩ (kX6_bound l D A ad cI cQ rest z_9.2 p0 z_18 hz_19) (cwV 1 hts gL_does_X6_bound rfl rfl rfl (by decide +kernel) ⟨Nat.le_of_ble_eq_true rfl, Nat.le_of_ble_eq_true rfl⟩) ⟨qn_blind, va_recv hK hP (ci := 6) (q0 := 0) rfl qg_Q, fun U hU hW => ⟨rfl, qm_go hA hS hP hK hD hU hW, qn_go hZ hW⟩⟩ rfl rfl hl.1 rfl (lv_room (Nat.le_of_ble_eq_true rfl)) dL_does_118 ⟨Nat.le_of_ble_eq_true rfl, Nat.le_of_ble_eq_true rfl⟩) hS (fun _ _ h9 => h9) (fun _ h9 => h9) (fun v u t H1 locs1 ht hvm hw hB hz1 hk1 hS => ?_)
            obtain ⟨hw1, hw2⟩ := hw
            have hw2 : z_9.2 = u := hw2.symm
            have hw1 : z_18 = v := hw1.symm
            subst hw1
            subst hw2
            obtain ⟨hP, hD⟩ := qm_bk ht hB
            clear hB
            refine lv_iload hx hb dL_does_121 (lv_at hl 0 rfl) ?_
            refine lv_icmp_ne (tgt := 130) hx hb dL_does_123 (by decide) (fun c_20 => ?_) (fun c_20 => ?_)
            · rw [if_neg c_20] at h
              cases h
            · rw [if_pos c_20] at h
              refine lv_iconst (v := (1 : Int32)) hx hb dL_does_126 (by decide) ?_
              refine lv_goto (tgt := 131) hx hb dL_does_127 (by decide) ?_
              have h := Option.some.inj h
              subst h
              exact W.zret (v := (1 : Int32)) hx hb hr rfl (fun t ht hW => ⟨⟨(1 : Int32), z_9.2, rfl, ⟨rfl, rfl⟩, qm_en ht hP hD⟩, hS.F ht⟩) hS.2.2 dL_does_131
  · rw [if_neg c_5] at h
    by_cases c_21 : (p1 &&& (15 : Int32)) = (1 : Int32) ∨ (p1 &&& (15 : Int32)) = (2 : Int32) ∨ (p1 &&& (15 : Int32)) = (3 : Int32) ∨ (p1 &&& (15 : Int32)) = (4 : Int32)
    · rw [if_pos c_21] at h
      refine lv_tableIn (off := 114) (tgt := 132) hx hb dL_does_18 (by rcases c_21 with e9 | e9 | e9 | e9 <;> rw [e9] <;> decide) (by rcases c_21 with e9 | e9 | e9 | e9 <;> rw [e9] <;> decide) (by rcases c_21 with e9 | e9 | e9 | e9 <;> rw [e9] <;> rfl) (by decide) ?_
      refine lv_iconst (v := (1 : Int32)) hx hb dL_does_132 (by decide) ?_
      refine lv_iload_n hx hb dL_does_133 rfl (lv_at hl 5 rfl) ?_
      refine lv_iconst (v := (4 : Int32)) hx hb dL_does_134 (by decide) ?_
      refine lv_ishr hx hb dL_does_135 ?_
      refine lv_bipush (v := (40 : Int32)) hx hb dL_does_136 (by decide) ?_
      obtain ⟨z_22, hz_23, h⟩ := qm_bind h
      refine va_calli (va_runS (As := [.int (p2 >>> ((4 : Int32) &&& 31)), .int (40 : Int32)]) (rest := [.int (1 : Int32)]) ⟨hx, hb, hml, hown, hts⟩ (kL_low l D A ad cI cQ rest S (p2 >>> ((4 : Int32) &&& 31)) (40 : Int32) z_22 hz_23) (va_cwS 2 hts gL_does_L_low rfl rfl rfl (by decide +kernel) ⟨Nat.le_of_ble_eq_true rfl, Nat.le_of_ble_eq_true rfl⟩) ⟨qm_blind, fun U hU hW => ⟨rfl, qm_go hA hS hP hK hD hU hW⟩⟩ rfl rfl hl.1 rfl (lv_room (Nat.le_of_ble_eq_true rfl)) dL_does_138 ⟨Nat.le_of_ble_eq_true rfl, Nat.le_of_ble_eq_true rfl⟩) hS (fun _ _ h9 => h9) (fun _ h9 => h9) (fun v u t H1 locs1 ht hvm hw hB hz1 hk1 hS => ?_)
      obtain ⟨hw1, hw2⟩ := hw
      have hw2 : S = u := hw2.symm
      have hw1 : z_22 = v := hw1.symm
      subst hw1
      subst hw2
      obtain ⟨hP, hD⟩ := qm_bk ht hB
      clear hB
      refine lv_iadd hx hb dL_does_141 ?_
      refine lv_istore (lv' := [(7, .int ((1 : Int32) + z_22)), (5, .int z_3), (4, .int z_1), (0, .ref (ad 0)), (1, .int p0), (2, .int p1), (3, .int p2)]) hx hb dL_does_142 hl (by decide) rfl (fun ls hl => ?_)
      refine lv_iload_n hx hb dL_does_144 rfl (lv_at hl 6 rfl) ?_
      refine lv_iconst (v := (4 : Int32)) hx hb dL_does_145 (by decide) ?_
      refine lv_iand hx hb dL_does_146 ?_
      refine lv_if_ne (tgt := 160) hx hb dL_does_147 (by decide) (fun c_24 => ?_) (fun c_24 => ?_)
      · rw [if_neg c_24] at h
        refine lv_iload_n hx hb dL_does_160 rfl (lv_at hl 6 rfl) ?_
        refine lv_bipush (v := (8 : Int32)) hx hb dL_does_161 (by decide) ?_
        obtain ⟨z_25, hz_26, h⟩ := qm_bind h
        refine va_calli (va_runS (As := [.int p2, .int (8 : Int32)]) (rest := []) ⟨hx, hb, hml, hown, hts⟩ (kL_low l D A ad cI cQ rest S p2 (8 : Int32) z_25 hz_26) (va_cwS 2 hts gL_does_L_low rfl rfl rfl (by decide +kernel) ⟨Nat.le_of_ble_eq_true rfl, Nat.le_of_ble_eq_true rfl⟩) ⟨qm_blind, fun U hU hW => ⟨rfl, qm_go hA hS hP hK hD hU hW⟩⟩ rfl rfl hl.1 rfl (lv_room (Nat.le_of_ble_eq_true rfl)) dL_does_163 ⟨Nat.le_of_ble_eq_true rfl, Nat.le_of_ble_eq_true rfl⟩) hS (fun _ _ h9 => h9) (fun _ h9 => h9) (fun v u t H1 locs1 ht hvm hw hB hz1 hk1 hS => ?_)
        obtain ⟨hw1, hw2⟩ := hw
        have hw2 : S = u := hw2.symm
        have hw1 : z_25 = v := hw1.symm
        subst hw1
        subst hw2
        obtain ⟨hP, hD⟩ := qm_bk ht hB
        clear hB
        refine lv_istore (lv' := [(8, .int z_25), (7, .int ((1 : Int32) + z_22)), (5, .int z_3), (4, .int z_1), (0, .ref (ad 0)), (1, .int p0), (2, .int p1), (3, .int p2)]) hx hb dL_does_166 hl (by decide) rfl (fun ls hl => ?_)
        refine lv_iload hx hb dL_does_168 (lv_at hl 3 rfl) ?_
        refine lv_iload hx hb dL_does_170 (lv_at hl 1 rfl) ?_
        refine lv_iadd hx hb dL_does_172 ?_
        refine lv_sipush (v := (600 : Int32)) hx hb dL_does_173 (by decide) ?_
        refine lv_icmp_gt (tgt := 213) hx hb dL_does_176 (by decide) (fun c_27 => ?_) (fun c_27 => ?_)
        · rw [if_pos c_27] at h
          refine lv_iconst (v := (1 : Int32)) hx hb dL_does_213 (by decide) ?_
          refine lv_goto (tgt := 218) hx hb dL_does_214 (by decide) ?_
          have h := Option.some.inj h
          subst h
          exact W.zret (v := (1 : Int32)) hx hb hr rfl (fun t ht hW => ⟨⟨(1 : Int32), S, rfl, ⟨rfl, rfl⟩, qm_en ht hP hD⟩, hS.F ht⟩) hS.2.2 dL_does_218
        · rw [if_neg c_27] at h
          refine lv_aload_n hx hb dL_does_179 rfl (lv_at hl 4 rfl) ?_
          refine lv_iload_n hx hb dL_does_180 rfl (lv_at hl 5 rfl) ?_
          refine lv_iload_n hx hb dL_does_181 rfl (lv_at hl 7 rfl) ?_
          obtain ⟨z_28, hz_29, h⟩ := qm_bind h
          refine va_calli (va_runS (As := [.int p2]) (rest := [.int p0, .ref (ad 0)]) ⟨hx, hb, hml, hown, hts⟩ (kL_number l D A ad cI cQ rest S p2 z_28 hz_29) (va_cwS 1 hts gL_does_L_number rfl rfl rfl (by decide +kernel) ⟨Nat.le_of_ble_eq_true rfl, Nat.le_of_ble_eq_true rfl⟩) ⟨qm_blind, fun U hU hW => ⟨rfl, qm_go hA hS hP hK hD hU hW⟩⟩ rfl rfl hl.1 rfl (lv_room (Nat.le_of_ble_eq_true rfl)) dL_does_182 ⟨Nat.le_of_ble_eq_true rfl, Nat.le_of_ble_eq_true rfl⟩) hS (fun _ _ h9 => h9) (fun _ h9 => h9) (fun v u t H1 locs1 ht hvm hw hB hz1 hk1 hS => ?_)
          obtain ⟨hw1, hw2⟩ := hw
          have hw2 : S = u := hw2.symm
          have hw1 : z_28 = v := hw1.symm
          subst hw1
          subst hw2
          obtain ⟨hP, hD⟩ := qm_bk ht hB
          clear hB
          refine lv_iload hx hb dL_does_185 (lv_at hl 0 rfl) ?_
          refine lv_iload hx hb dL_does_187 (lv_at hl 1 rfl) ?_
          obtain ⟨z_30, hz_31, h⟩ := qm_bind h
          refine va_calli (va_runV (As := [.int p0, .int z_28, .int z_25, .int ((1 : Int32) + z_22)]) (rest := []) ⟨hx, hb, hml, hown, hts⟩ (kX6_showRow l D A ad cI cQ rest S p0 z_28 z_25 ((1 : Int32) + z_22) z_30 hz_31) (cwV 4 hts gL_does_X6_showRow rfl rfl rfl (by decide +kernel) ⟨Nat.le_of_ble_eq_true rfl, Nat.le_of_ble_eq_true rfl⟩) ⟨qn_blind, va_recv hK hP (ci := 6) (q0 := 0) rfl qg_Q, fun U hU hW => ⟨rfl, qm_go hA hS hP hK hD hU hW, qn_go hZ hW⟩⟩ rfl rfl hl.1 rfl (lv_room (Nat.le_of_ble_eq_true rfl)) dL_does_189 ⟨Nat.le_of_ble_eq_true rfl, Nat.le_of_ble_eq_true rfl⟩) hS (fun _ _ h9 => h9) (fun _ h9 => h9) (fun v u t H1 locs1 ht hvm hw hB hz1 hk1 hS => ?_)
          obtain ⟨hw1, hw2⟩ := hw
          have hw2 : z_30.2 = u := hw2.symm
          have hw1 : z_30.1 = v := hw1.symm
          subst hw1
          subst hw2
          obtain ⟨hP, hD⟩ := qm_bk ht hB
          clear hB
          refine lv_iload hx hb dL_does_192 (lv_at hl 2 rfl) ?_
          refine lv_iload hx hb dL_does_194 (lv_at hl 1 rfl) ?_
          refine lv_iadd hx hb dL_does_196 ?_
          refine lv_icmp_ne (tgt := 217) hx hb dL_does_197 (by decide) (fun c_32 => ?_) (fun c_32 => ?_)
          · rw [if_neg c_32] at h
            cases h
          · rw [if_pos c_32] at h
            refine lv_aload_n hx hb dL_does_200 rfl (lv_at hl 4 rfl) ?_
            refine lv_iload_n hx hb dL_does_201 rfl (lv_at hl 5 rfl) ?_
            obtain ⟨z_33, hz_34, h⟩ := qm_bind h
            refine va_calli (va_runV (As := [.int p0]) (rest := []) ⟨hx, hb, hml, hown, hts⟩ (kX6_count l D A ad cI cQ rest z_30.2 p0 z_33 hz_34) (cwV 1 hts gL_does_X6_count rfl rfl rfl (by decide +kernel) ⟨Nat.le_of_ble_eq_true rfl, Nat.le_of_ble_eq_true rfl⟩) ⟨qn_blind, va_recv hK hP (ci := 6) (q0 := 0) rfl qg_Q, fun U hU hW => ⟨rfl, qm_go hA hS hP hK hD hU hW, qn_go hZ hW⟩⟩ rfl rfl hl.1 rfl (lv_room (Nat.le_of_ble_eq_true rfl)) dL_does_202 ⟨Nat.le_of_ble_eq_true rfl, Nat.le_of_ble_eq_true rfl⟩) hS (fun _ _ h9 => h9) (fun _ h9 => h9) (fun v u t H1 locs1 ht hvm hw hB hz1 hk1 hS => ?_)
            obtain ⟨hw1, hw2⟩ := hw
            have hw2 : z_30.2 = u := hw2.symm
            have hw1 : z_33 = v := hw1.symm
            subst hw1
            subst hw2
            obtain ⟨hP, hD⟩ := qm_bk ht hB
            clear hB
            refine lv_iload hx hb dL_does_205 (lv_at hl 3 rfl) ?_
            refine lv_iload hx hb dL_does_207 (lv_at hl 1 rfl) ?_
            refine lv_iadd hx hb dL_does_209 ?_
            refine lv_icmp_ne (tgt := 217) hx hb dL_does_210 (by decide) (fun c_35 => ?_) (fun c_35 => ?_)
            · rw [if_neg c_35] at h
              cases h
            · rw [if_pos c_35] at h
              refine lv_iconst (v := (1 : Int32)) hx hb dL_does_213 (by decide) ?_
              refine lv_goto (tgt := 218) hx hb dL_does_214 (by decide) ?_
              have h := Option.some.inj h
              subst h
              exact W.zret (v := (1 : Int32)) hx hb hr rfl (fun t ht hW => ⟨⟨(1 : Int32), z_30.2, rfl, ⟨rfl, rfl⟩, qm_en ht hP hD⟩, hS.F ht⟩) hS.2.2 dL_does_218
      · rw [if_pos c_24] at h
        refine lv_iload_n hx hb dL_does_150 rfl (lv_at hl 6 rfl) ?_
        refine lv_sipush (v := (10000 : Int32)) hx hb dL_does_151 (by decide) ?_
        obtain ⟨z_36, hz_37, h⟩ := qm_bind h
        refine va_calli (va_runS (As := [.int p2, .int (10000 : Int32)]) (rest := []) ⟨hx, hb, hml, hown, hts⟩ (kL_low l D A ad cI cQ rest S p2 (10000 : Int32) z_36 hz_37) (va_cwS 2 hts gL_does_L_low rfl rfl rfl (by decide +kernel) ⟨Nat.le_of_ble_eq_true rfl, Nat.le_of_ble_eq_true rfl⟩) ⟨qm_blind, fun U hU hW => ⟨rfl, qm_go hA hS hP hK hD hU hW⟩⟩ rfl rfl hl.1 rfl (lv_room (Nat.le_of_ble_eq_true rfl)) dL_does_154 ⟨Nat.le_of_ble_eq_true rfl, Nat.le_of_ble_eq_true rfl⟩) hS (fun _ _ h9 => h9) (fun _ h9 => h9) (fun v u t H1 locs1 ht hvm hw hB hz1 hk1 hS => ?_)
        obtain ⟨hw1, hw2⟩ := hw
        have hw2 : S = u := hw2.symm
        have hw1 : z_36 = v := hw1.symm
        subst hw1
        subst hw2
        obtain ⟨hP, hD⟩ := qm_bk ht hB
        clear hB
        refine lv_goto (tgt := 166) hx hb dL_does_157 (by decide) ?_
        refine lv_istore (lv' := [(8, .int z_36), (7, .int ((1 : Int32) + z_22)), (5, .int z_3), (4, .int z_1), (0, .ref (ad 0)), (1, .int p0), (2, .int p1), (3, .int p2)]) hx hb dL_does_166 hl (by decide) rfl (fun ls hl => ?_)
        refine lv_iload hx hb dL_does_168 (lv_at hl 3 rfl) ?_
        refine lv_iload hx hb dL_does_170 (lv_at hl 1 rfl) ?_
        refine lv_iadd hx hb dL_does_172 ?_
        refine lv_sipush (v := (600 : Int32)) hx hb dL_does_173 (by decide) ?_
        refine lv_icmp_gt (tgt := 213) hx hb dL_does_176 (by decide) (fun c_38 => ?_) (fun c_38 => ?_)
        · rw [if_pos c_38] at h
          refine lv_iconst (v := (1 : Int32)) hx hb dL_does_213 (by decide) ?_
          refine lv_goto (tgt := 218) hx hb dL_does_214 (by decide) ?_
          have h := Option.some.inj h
          subst h
          exact W.zret (v := (1 : Int32)) hx hb hr rfl (fun t ht hW => ⟨⟨(1 : Int32), S, rfl, ⟨rfl, rfl⟩, qm_en ht hP hD⟩, hS.F ht⟩) hS.2.2 dL_does_218
        · rw [if_neg c_38] at h
          refine lv_aload_n hx hb dL_does_179 rfl (lv_at hl 4 rfl) ?_
          refine lv_iload_n hx hb dL_does_180 rfl (lv_at hl 5 rfl) ?_
          refine lv_iload_n hx hb dL_does_181 rfl (lv_at hl 7 rfl) ?_
          obtain ⟨z_39, hz_40, h⟩ := qm_bind h
          refine va_calli (va_runS (As := [.int p2]) (rest := [.int p0, .ref (ad 0)]) ⟨hx, hb, hml, hown, hts⟩ (kL_number l D A ad cI cQ rest S p2 z_39 hz_40) (va_cwS 1 hts gL_does_L_number rfl rfl rfl (by decide +kernel) ⟨Nat.le_of_ble_eq_true rfl, Nat.le_of_ble_eq_true rfl⟩) ⟨qm_blind, fun U hU hW => ⟨rfl, qm_go hA hS hP hK hD hU hW⟩⟩ rfl rfl hl.1 rfl (lv_room (Nat.le_of_ble_eq_true rfl)) dL_does_182 ⟨Nat.le_of_ble_eq_true rfl, Nat.le_of_ble_eq_true rfl⟩) hS (fun _ _ h9 => h9) (fun _ h9 => h9) (fun v u t H1 locs1 ht hvm hw hB hz1 hk1 hS => ?_)
          obtain ⟨hw1, hw2⟩ := hw
          have hw2 : S = u := hw2.symm
          have hw1 : z_39 = v := hw1.symm
          subst hw1
          subst hw2
          obtain ⟨hP, hD⟩ := qm_bk ht hB
          clear hB
          refine lv_iload hx hb dL_does_185 (lv_at hl 0 rfl) ?_
          refine lv_iload hx hb dL_does_187 (lv_at hl 1 rfl) ?_
          obtain ⟨z_41, hz_42, h⟩ := qm_bind h
          refine va_calli (va_runV (As := [.int p0, .int z_39, .int z_36, .int ((1 : Int32) + z_22)]) (rest := []) ⟨hx, hb, hml, hown, hts⟩ (kX6_showRow l D A ad cI cQ rest S p0 z_39 z_36 ((1 : Int32) + z_22) z_41 hz_42) (cwV 4 hts gL_does_X6_showRow rfl rfl rfl (by decide +kernel) ⟨Nat.le_of_ble_eq_true rfl, Nat.le_of_ble_eq_true rfl⟩) ⟨qn_blind, va_recv hK hP (ci := 6) (q0 := 0) rfl qg_Q, fun U hU hW => ⟨rfl, qm_go hA hS hP hK hD hU hW, qn_go hZ hW⟩⟩ rfl rfl hl.1 rfl (lv_room (Nat.le_of_ble_eq_true rfl)) dL_does_189 ⟨Nat.le_of_ble_eq_true rfl, Nat.le_of_ble_eq_true rfl⟩) hS (fun _ _ h9 => h9) (fun _ h9 => h9) (fun v u t H1 locs1 ht hvm hw hB hz1 hk1 hS => ?_)
          obtain ⟨hw1, hw2⟩ := hw
          have hw2 : z_41.2 = u := hw2.symm
          have hw1 : z_41.1 = v := hw1.symm
          subst hw1
          subst hw2
          obtain ⟨hP, hD⟩ := qm_bk ht hB
          clear hB
          refine lv_iload hx hb dL_does_192 (lv_at hl 2 rfl) ?_
          refine lv_iload hx hb dL_does_194 (lv_at hl 1 rfl) ?_
          refine lv_iadd hx hb dL_does_196 ?_
          refine lv_icmp_ne (tgt := 217) hx hb dL_does_197 (by decide) (fun c_43 => ?_) (fun c_43 => ?_)
          · rw [if_neg c_43] at h
            cases h
          · rw [if_pos c_43] at h
            refine lv_aload_n hx hb dL_does_200 rfl (lv_at hl 4 rfl) ?_
            refine lv_iload_n hx hb dL_does_201 rfl (lv_at hl 5 rfl) ?_
            obtain ⟨z_44, hz_45, h⟩ := qm_bind h
            refine va_calli (va_runV (As := [.int p0]) (rest := []) ⟨hx, hb, hml, hown, hts⟩ (kX6_count l D A ad cI cQ rest z_41.2 p0 z_44 hz_45) (cwV 1 hts gL_does_X6_count rfl rfl rfl (by decide +kernel) ⟨Nat.le_of_ble_eq_true rfl, Nat.le_of_ble_eq_true rfl⟩) ⟨qn_blind, va_recv hK hP (ci := 6) (q0 := 0) rfl qg_Q, fun U hU hW => ⟨rfl, qm_go hA hS hP hK hD hU hW, qn_go hZ hW⟩⟩ rfl rfl hl.1 rfl (lv_room (Nat.le_of_ble_eq_true rfl)) dL_does_202 ⟨Nat.le_of_ble_eq_true rfl, Nat.le_of_ble_eq_true rfl⟩) hS (fun _ _ h9 => h9) (fun _ h9 => h9) (fun v u t H1 locs1 ht hvm hw hB hz1 hk1 hS => ?_)
            obtain ⟨hw1, hw2⟩ := hw
            have hw2 : z_41.2 = u := hw2.symm
            have hw1 : z_44 = v := hw1.symm
            subst hw1
            subst hw2
            obtain ⟨hP, hD⟩ := qm_bk ht hB
            clear hB
            refine lv_iload hx hb dL_does_205 (lv_at hl 3 rfl) ?_
            refine lv_iload hx hb dL_does_207 (lv_at hl 1 rfl) ?_
            refine lv_iadd hx hb dL_does_209 ?_
            refine lv_icmp_ne (tgt := 217) hx hb dL_does_210 (by decide) (fun c_46 => ?_) (fun c_46 => ?_)
            · rw [if_neg c_46] at h
              cases h
            · rw [if_pos c_46] at h
              refine lv_iconst (v := (1 : Int32)) hx hb dL_does_213 (by decide) ?_
              refine lv_goto (tgt := 218) hx hb dL_does_214 (by decide) ?_
              have h := Option.some.inj h
              subst h
              exact W.zret (v := (1 : Int32)) hx hb hr rfl (fun t ht hW => ⟨⟨(1 : Int32), z_41.2, rfl, ⟨rfl, rfl⟩, qm_en ht hP hD⟩, hS.F ht⟩) hS.2.2 dL_does_218
    · rw [if_neg c_21] at h
      by_cases c_47 : (p1 &&& (15 : Int32)) = (5 : Int32) ∨ (p1 &&& (15 : Int32)) = (6 : Int32) ∨ (p1 &&& (15 : Int32)) = (7 : Int32)
      · rw [if_pos c_47] at h
        refine lv_tableIn (off := 201) (tgt := 219) hx hb dL_does_18 (by rcases c_47 with e9 | e9 | e9 <;> rw [e9] <;> decide) (by rcases c_47 with e9 | e9 | e9 <;> rw [e9] <;> decide) (by rcases c_47 with e9 | e9 | e9 <;> rw [e9] <;> rfl) (by decide) ?_
        refine lv_aload_n hx hb dL_does_219 rfl (lv_at hl 2 rfl) ?_
        refine lv_iload_n hx hb dL_does_220 rfl (lv_at hl 3 rfl) ?_
        obtain ⟨z_48, hz_49, h⟩ := qm_bind h
        refine va_calli (va_runV (As := [.int p0]) (rest := []) ⟨hx, hb, hml, hown, hts⟩ (kX6_thinOut l D A ad cI cQ rest S p0 z_48 hz_49) (cwV 1 hts gL_does_X6_thinOut rfl rfl rfl (by decide +kernel) ⟨Nat.le_of_ble_eq_true rfl, Nat.le_of_ble_eq_true rfl⟩) ⟨qn_blind, va_recv hK hP (ci := 6) (q0 := 0) rfl qg_Q, fun U hU hW => ⟨rfl, qm_go hA hS hP hK hD hU hW, qn_go hZ hW⟩⟩ rfl rfl hl.1 rfl (lv_room (Nat.le_of_ble_eq_true rfl)) dL_does_221 ⟨Nat.le_of_ble_eq_true rfl, Nat.le_of_ble_eq_true rfl⟩) hS (fun _ _ h9 => h9) (fun _ h9 => h9) (fun v u t H1 locs1 ht hvm hw hB hz1 hk1 hS => ?_)
        obtain ⟨hw1, hw2⟩ := hw
        have hw2 : z_48.2 = u := hw2.symm
        have hw1 : z_48.1 = v := hw1.symm
        subst hw1
        subst hw2
        obtain ⟨hP, hD⟩ := qm_bk ht hB
        clear hB
        refine lv_istore (lv' := [(9, .int z_48.1), (5, .int z_3), (4, .int z_1), (0, .ref (ad 0)), (1, .int p0), (2, .int p1), (3, .int p2)]) hx hb dL_does_224 hl (by decide) rfl (fun ls hl => ?_)
        refine lv_aload_n hx hb dL_does_226 rfl (lv_at hl 3 rfl) ?_
        refine lv_iload_n hx hb dL_does_227 rfl (lv_at hl 4 rfl) ?_
        obtain ⟨z_50, hz_51, h⟩ := qm_bind h
        refine va_calli (va_runV (As := [.int p0]) (rest := []) ⟨hx, hb, hml, hown, hts⟩ (kX6_thinOut l D A ad cI cQ rest z_48.2 p0 z_50 hz_51) (cwV 1 hts gL_does_X6_thinOut rfl rfl rfl (by decide +kernel) ⟨Nat.le_of_ble_eq_true rfl, Nat.le_of_ble_eq_true rfl⟩) ⟨qn_blind, va_recv hK hP (ci := 6) (q0 := 0) rfl qg_Q, fun U hU hW => ⟨rfl, qm_go hA hS hP hK hD hU hW, qn_go hZ hW⟩⟩ rfl rfl hl.1 rfl (lv_room (Nat.le_of_ble_eq_true rfl)) dL_does_228 ⟨Nat.le_of_ble_eq_true rfl, Nat.le_of_ble_eq_true rfl⟩) hS (fun _ _ h9 => h9) (fun _ h9 => h9) (fun v u t H1 locs1 ht hvm hw hB hz1 hk1 hS => ?_)
        obtain ⟨hw1, hw2⟩ := hw
        have hw2 : z_50.2 = u := hw2.symm
        have hw1 : z_50.1 = v := hw1.symm
        subst hw1
        subst hw2
        obtain ⟨hP, hD⟩ := qm_bk ht hB
        clear hB
        refine lv_istore (lv' := [(10, .int z_50.1), (9, .int z_48.1), (5, .int z_3), (4, .int z_1), (0, .ref (ad 0)), (1, .int p0), (2, .int p1), (3, .int p2)]) hx hb dL_does_231 hl (by decide) rfl (fun ls hl => ?_)
        refine lv_aload_n hx hb dL_does_233 rfl (lv_at hl 4 rfl) ?_
        refine lv_iload_n hx hb dL_does_234 rfl (lv_at hl 5 rfl) ?_
        obtain ⟨z_52, hz_53, h⟩ := qm_bind h
        refine va_calli (va_runV (As := [.int p0]) (rest := []) ⟨hx, hb, hml, hown, hts⟩ (kX6_marks l D A ad cI cQ rest z_50.2 p0 z_52 hz_53) (cwV 1 hts gL_does_X6_marks rfl rfl rfl (by decide +kernel) ⟨Nat.le_of_ble_eq_true rfl, Nat.le_of_ble_eq_true rfl⟩) ⟨qn_blind, va_recv hK hP (ci := 6) (q0 := 0) rfl qg_Q, fun U hU hW => ⟨rfl, qm_go hA hS hP hK hD hU hW, qn_go hZ hW⟩⟩ rfl rfl hl.1 rfl (lv_room (Nat.le_of_ble_eq_true rfl)) dL_does_235 ⟨Nat.le_of_ble_eq_true rfl, Nat.le_of_ble_eq_true rfl⟩) hS (fun _ _ h9 => h9) (fun _ h9 => h9) (fun v u t H1 locs1 ht hvm hw hB hz1 hk1 hS => ?_)
        obtain ⟨hw1, hw2⟩ := hw
        have hw2 : z_50.2 = u := hw2.symm
        have hw1 : z_52 = v := hw1.symm
        subst hw1
        subst hw2
        obtain ⟨hP, hD⟩ := qm_bk ht hB
        clear hB
        refine lv_iload hx hb dL_does_238 (lv_at hl 2 rfl) ?_
        refine lv_iload hx hb dL_does_240 (lv_at hl 1 rfl) ?_
        refine lv_isub hx hb dL_does_242 ?_
        refine lv_iload hx hb dL_does_243 (lv_at hl 0 rfl) ?_
        refine lv_isub hx hb dL_does_245 ?_
        refine lv_icmp_ne (tgt := 293) hx hb dL_does_246 (by decide) (fun c_54 => ?_) (fun c_54 => ?_)
        · rw [if_neg c_54] at h
          cases h
        · rw [if_pos c_54] at h
          refine lv_iload hx hb dL_does_249 (lv_at hl 0 rfl) ?_
          refine lv_iload hx hb dL_does_251 (lv_at hl 1 rfl) ?_
          refine lv_icmp_gt (tgt := 293) hx hb dL_does_253 (by decide) (fun c_55 => ?_) (fun c_55 => ?_)
          · rw [if_pos c_55] at h
            cases h
          · rw [if_neg c_55] at h
            refine lv_iload hx hb dL_does_256 (lv_at hl 2 rfl) ?_
            refine lv_iconst (v := (3 : Int32)) hx hb dL_does_258 (by decide) ?_
            refine lv_icmp_ge (tgt := 270) hx hb dL_does_259 (by decide) (fun c_56 => ?_) (fun c_56 => ?_)
            · rw [if_pos c_56] at h
              refine lv_aload_n hx hb dL_does_270 rfl (lv_at hl 4 rfl) ?_
              refine lv_iload_n hx hb dL_does_271 rfl (lv_at hl 5 rfl) ?_
              obtain ⟨z_57, hz_58, h⟩ := qm_bind h
              refine va_calli (va_runV (As := [.int p0]) (rest := []) ⟨hx, hb, hml, hown, hts⟩ (kX6_marks l D A ad cI cQ rest z_50.2 p0 z_57 hz_58) (cwV 1 hts gL_does_X6_marks rfl rfl rfl (by decide +kernel) ⟨Nat.le_of_ble_eq_true rfl, Nat.le_of_ble_eq_true rfl⟩) ⟨qn_blind, va_recv hK hP (ci := 6) (q0 := 0) rfl qg_Q, fun U hU hW => ⟨rfl, qm_go hA hS hP hK hD hU hW, qn_go hZ hW⟩⟩ rfl rfl hl.1 rfl (lv_room (Nat.le_of_ble_eq_true rfl)) dL_does_272 ⟨Nat.le_of_ble_eq_true rfl, Nat.le_of_ble_eq_true rfl⟩) hS (fun _ _ h9 => h9) (fun _ h9 => h9) (fun v u t H1 locs1 ht hvm hw hB hz1 hk1 hS => ?_)
              obtain ⟨hw1, hw2⟩ := hw
              have hw2 : z_50.2 = u := hw2.symm
              have hw1 : z_57 = v := hw1.symm
              subst hw1
              subst hw2
              obtain ⟨hP, hD⟩ := qm_bk ht hB
              clear hB
              refine lv_iconst (v := (2 : Int32)) hx hb dL_does_275 (by decide) ?_
              refine lv_icmp_lt (tgt := 293) hx hb dL_does_276 (by decide) (fun c_59 => ?_) (fun c_59 => ?_)
              · rw [if_pos c_59] at h
                cases h
              · rw [if_neg c_59] at h
                refine lv_aload_n hx hb dL_does_279 rfl (lv_at hl 4 rfl) ?_
                refine lv_iload_n hx hb dL_does_280 rfl (lv_at hl 5 rfl) ?_
                obtain ⟨z_60, hz_61, h⟩ := qm_bind h
                refine va_calli (va_runV (As := [.int p0]) (rest := []) ⟨hx, hb, hml, hown, hts⟩ (kX6_count l D A ad cI cQ rest z_50.2 p0 z_60 hz_61) (cwV 1 hts gL_does_X6_count rfl rfl rfl (by decide +kernel) ⟨Nat.le_of_ble_eq_true rfl, Nat.le_of_ble_eq_true rfl⟩) ⟨qn_blind, va_recv hK hP (ci := 6) (q0 := 0) rfl qg_Q, fun U hU hW => ⟨rfl, qm_go hA hS hP hK hD hU hW, qn_go hZ hW⟩⟩ rfl rfl hl.1 rfl (lv_room (Nat.le_of_ble_eq_true rfl)) dL_does_281 ⟨Nat.le_of_ble_eq_true rfl, Nat.le_of_ble_eq_true rfl⟩) hS (fun _ _ h9 => h9) (fun _ h9 => h9) (fun v u t H1 locs1 ht hvm hw hB hz1 hk1 hS => ?_)
                obtain ⟨hw1, hw2⟩ := hw
                have hw2 : z_50.2 = u := hw2.symm
                have hw1 : z_60 = v := hw1.symm
                subst hw1
                subst hw2
                obtain ⟨hP, hD⟩ := qm_bk ht hB
                clear hB
                refine lv_iload hx hb dL_does_284 (lv_at hl 3 rfl) ?_
                refine lv_icmp_ne (tgt := 293) hx hb dL_does_286 (by decide) (fun c_62 => ?_) (fun c_62 => ?_)
                · rw [if_neg c_62] at h
                  cases h
                · rw [if_pos c_62] at h
                  refine lv_iconst (v := (1 : Int32)) hx hb dL_does_289 (by decide) ?_
                  refine lv_goto (tgt := 294) hx hb dL_does_290 (by decide) ?_
                  have h := Option.some.inj h
                  subst h
                  exact W.zret (v := (1 : Int32)) hx hb hr rfl (fun t ht hW => ⟨⟨(1 : Int32), z_50.2, rfl, ⟨rfl, rfl⟩, qm_en ht hP hD⟩, hS.F ht⟩) hS.2.2 dL_does_294
            · rw [if_neg c_56] at h
              refine lv_iload hx hb dL_does_262 (lv_at hl 1 rfl) ?_
              refine lv_if_ne (tgt := 293) hx hb dL_does_264 (by decide) (fun c_63 => ?_) (fun c_63 => ?_)
              · rw [if_neg c_63] at h
                cases h
              · rw [if_pos c_63] at h
                refine lv_goto (tgt := 279) hx hb dL_does_267 (by decide) ?_
                refine lv_aload_n hx hb dL_does_279 rfl (lv_at hl 4 rfl) ?_
                refine lv_iload_n hx hb dL_does_280 rfl (lv_at hl 5 rfl) ?_
                obtain ⟨z_64, hz_65, h⟩ := qm_bind h
                refine va_calli (va_runV (As := [.int p0]) (rest := []) ⟨hx, hb, hml, hown, hts⟩ (kX6_count l D A ad cI cQ rest z_50.2 p0 z_64 hz_65) (cwV 1 hts gL_does_X6_count rfl rfl rfl (by decide +kernel) ⟨Nat.le_of_ble_eq_true rfl, Nat.le_of_ble_eq_true rfl⟩) ⟨qn_blind, va_recv hK hP (ci := 6) (q0 := 0) rfl qg_Q, fun U hU hW => ⟨rfl, qm_go hA hS hP hK hD hU hW, qn_go hZ hW⟩⟩ rfl rfl hl.1 rfl (lv_room (Nat.le_of_ble_eq_true rfl)) dL_does_281 ⟨Nat.le_of_ble_eq_true rfl, Nat.le_of_ble_eq_true rfl⟩) hS (fun _ _ h9 => h9) (fun _ h9 => h9) (fun v u t H1 locs1 ht hvm hw hB hz1 hk1 hS => ?_)
                obtain ⟨hw1, hw2⟩ := hw
                have hw2 : z_50.2 = u := hw2.symm
                have hw1 : z_64 = v := hw1.symm
                subst hw1
                subst hw2
                obtain ⟨hP, hD⟩ := qm_bk ht hB
                clear hB
                refine lv_iload hx hb dL_does_284 (lv_at hl 3 rfl) ?_
                refine lv_icmp_ne (tgt := 293) hx hb dL_does_286 (by decide) (fun c_66 => ?_) (fun c_66 => ?_)
                · rw [if_neg c_66] at h
                  cases h
                · rw [if_pos c_66] at h
                  refine lv_iconst (v := (1 : Int32)) hx hb dL_does_289 (by decide) ?_
                  refine lv_goto (tgt := 294) hx hb dL_does_290 (by decide) ?_
                  have h := Option.some.inj h
                  subst h
                  exact W.zret (v := (1 : Int32)) hx hb hr rfl (fun t ht hW => ⟨⟨(1 : Int32), z_50.2, rfl, ⟨rfl, rfl⟩, qm_en ht hP hD⟩, hS.F ht⟩) hS.2.2 dL_does_294
      · rw [if_neg c_47] at h
        by_cases c_67 : (p1 &&& (15 : Int32)) = (8 : Int32)
        · rw [if_pos c_67] at h
          refine lv_tableIn (off := 277) (tgt := 295) hx hb dL_does_18 (by rw [c_67] <;> decide) (by rw [c_67] <;> decide) (by rw [c_67] <;> rfl) (by decide) ?_
          refine lv_aload_n hx hb dL_does_295 rfl (lv_at hl 2 rfl) ?_
          refine lv_iload_n hx hb dL_does_296 rfl (lv_at hl 5 rfl) ?_
          refine lv_iconst (v := (4 : Int32)) hx hb dL_does_297 (by decide) ?_
          obtain ⟨z_68, hz_69, h⟩ := qm_bind h
          refine va_calli (va_runS (As := [.int p2, .int (4 : Int32)]) (rest := [.ref (ad 0)]) ⟨hx, hb, hml, hown, hts⟩ (kL_low l D A ad cI cQ rest S p2 (4 : Int32) z_68 hz_69) (va_cwS 2 hts gL_does_L_low rfl rfl rfl (by decide +kernel) ⟨Nat.le_of_ble_eq_true rfl, Nat.le_of_ble_eq_true rfl⟩) ⟨qm_blind, fun U hU hW => ⟨rfl, qm_go hA hS hP hK hD hU hW⟩⟩ rfl rfl hl.1 rfl (lv_room (Nat.le_of_ble_eq_true rfl)) dL_does_298 ⟨Nat.le_of_ble_eq_true rfl, Nat.le_of_ble_eq_true rfl⟩) hS (fun _ _ h9 => h9) (fun _ h9 => h9) (fun v u t H1 locs1 ht hvm hw hB hz1 hk1 hS => ?_)
          obtain ⟨hw1, hw2⟩ := hw
          have hw2 : S = u := hw2.symm
          have hw1 : z_68 = v := hw1.symm
          subst hw1
          subst hw2
          obtain ⟨hP, hD⟩ := qm_bk ht hB
          clear hB
          refine lv_iload_n hx hb dL_does_301 rfl (lv_at hl 3 rfl) ?_
          obtain ⟨z_70, hz_71, h⟩ := qm_bind h
          refine va_calli (va_runS (As := [.ref (ad 0), .int z_68, .int p0]) (rest := []) ⟨hx, hb, hml, hown, hts⟩ (kL_isPoured l D A ad cI cQ rest S z_68 p0 z_70 hz_71) (va_cwS 3 hts gL_does_L_isPoured rfl rfl rfl (by decide +kernel) ⟨Nat.le_of_ble_eq_true rfl, Nat.le_of_ble_eq_true rfl⟩) ⟨qn_blind, fun U hU hW => ⟨rfl, qm_go hA hS hP hK hD hU hW, qn_go hZ hW⟩⟩ rfl rfl hl.1 rfl (lv_room (Nat.le_of_ble_eq_true rfl)) dL_does_302 ⟨Nat.le_of_ble_eq_true rfl, Nat.le_of_ble_eq_true rfl⟩) hS (fun _ _ h9 => h9) (fun _ h9 => h9) (fun v u t H1 locs1 ht hvm hw hB hz1 hk1 hS => ?_)
          obtain ⟨hw1, hw2⟩ := hw
          have hw2 : z_70.2 = u := hw2.symm
          obtain ⟨g_72, h⟩ := qm_gd_some h
          have hw1 : v = (1 : Int32) := hw1.trans g_72
          subst hw1
          subst hw2
          obtain ⟨hP, hD⟩ := qm_bk ht hB
          clear hB
          have h := Option.some.inj h
          subst h
          exact W.zret (v := (1 : Int32)) hx hb hr rfl (fun t ht hW => ⟨⟨(1 : Int32), z_70.2, rfl, ⟨rfl, rfl⟩, qm_en ht hP hD⟩, hS.F ht⟩) hS.2.2 dL_does_305
        · rw [if_neg c_67] at h
          refine lv_tableOut (tgt := 306) hx hb dL_does_18 (pl_out c_5 c_21 c_47 c_67) (by decide) ?_
          refine lv_iload hx hb dL_does_306 (lv_at hl 1 rfl) ?_
          refine lv_sipush (v := (600 : Int32)) hx hb dL_does_308 (by decide) ?_
          refine lv_icmp_eq (tgt := 354) hx hb dL_does_311 (by decide) (fun c_73 => ?_) (fun c_73 => ?_)
          · rw [if_pos c_73] at h
            refine lv_iconst (v := (1 : Int32)) hx hb dL_does_354 (by decide) ?_
            refine lv_goto (tgt := 359) hx hb dL_does_355 (by decide) ?_
            have h := Option.some.inj h
            subst h
            exact W.zret (v := (1 : Int32)) hx hb hr rfl (fun t ht hW => ⟨⟨(1 : Int32), S, rfl, ⟨rfl, rfl⟩, qm_en ht hP hD⟩, hS.F ht⟩) hS.2.2 dL_does_359
          · rw [if_neg c_73] at h
            refine lv_aload_n hx hb dL_does_314 rfl (lv_at hl 2 rfl) ?_
            refine lv_iload_n hx hb dL_does_315 rfl (lv_at hl 3 rfl) ?_
            refine lv_iload_n hx hb dL_does_316 rfl (lv_at hl 5 rfl) ?_
            obtain ⟨z_74, hz_75, h⟩ := qm_bind h
            refine va_calli (va_runS (As := [.int p2]) (rest := [.int p0, .ref (ad 0)]) ⟨hx, hb, hml, hown, hts⟩ (kL_number l D A ad cI cQ rest S p2 z_74 hz_75) (va_cwS 1 hts gL_does_L_number rfl rfl rfl (by decide +kernel) ⟨Nat.le_of_ble_eq_true rfl, Nat.le_of_ble_eq_true rfl⟩) ⟨qm_blind, fun U hU hW => ⟨rfl, qm_go hA hS hP hK hD hU hW⟩⟩ rfl rfl hl.1 rfl (lv_room (Nat.le_of_ble_eq_true rfl)) dL_does_317 ⟨Nat.le_of_ble_eq_true rfl, Nat.le_of_ble_eq_true rfl⟩) hS (fun _ _ h9 => h9) (fun _ h9 => h9) (fun v u t H1 locs1 ht hvm hw hB hz1 hk1 hS => ?_)
            obtain ⟨hw1, hw2⟩ := hw
            have hw2 : S = u := hw2.symm
            have hw1 : z_74 = v := hw1.symm
            subst hw1
            subst hw2
            obtain ⟨hP, hD⟩ := qm_bk ht hB
            clear hB
            obtain ⟨z_76, hz_77, h⟩ := qm_bind h
            refine va_calli (va_runV (As := [.int p0, .int z_74]) (rest := []) ⟨hx, hb, hml, hown, hts⟩ (kX6_show l D A ad cI cQ rest S p0 z_74 z_76 hz_77) (cwV 2 hts gL_does_X6_show rfl rfl rfl (by decide +kernel) ⟨Nat.le_of_ble_eq_true rfl, Nat.le_of_ble_eq_true rfl⟩) ⟨qn_blind, va_recv hK hP (ci := 6) (q0 := 0) rfl qg_Q, fun U hU hW => ⟨rfl, qm_go hA hS hP hK hD hU hW, qn_go hZ hW⟩⟩ rfl rfl hl.1 rfl (lv_room (Nat.le_of_ble_eq_true rfl)) dL_does_320 ⟨Nat.le_of_ble_eq_true rfl, Nat.le_of_ble_eq_true rfl⟩) hS (fun _ _ h9 => h9) (fun _ h9 => h9) (fun v u t H1 locs1 ht hvm hw hB hz1 hk1 hS => ?_)
            obtain ⟨hw1, hw2⟩ := hw
            have hw2 : z_76.2 = u := hw2.symm
            have hw1 : z_76.1 = v := hw1.symm
            subst hw1
            subst hw2
            obtain ⟨hP, hD⟩ := qm_bk ht hB
            clear hB
            refine lv_iload hx hb dL_does_323 (lv_at hl 0 rfl) ?_
            refine lv_iconst (v := (1 : Int32)) hx hb dL_does_325 (by decide) ?_
            refine lv_iadd hx hb dL_does_326 ?_
            refine lv_icmp_ne (tgt := 358) hx hb dL_does_327 (by decide) (fun c_78 => ?_) (fun c_78 => ?_)
            · rw [if_neg c_78] at h
              cases h
            · rw [if_pos c_78] at h
              refine lv_aload_n hx hb dL_does_330 rfl (lv_at hl 2 rfl) ?_
              refine lv_iload_n hx hb dL_does_331 rfl (lv_at hl 3 rfl) ?_
              obtain ⟨z_79, hz_80, h⟩ := qm_bind h
              refine va_calli (va_runV (As := [.int p0]) (rest := []) ⟨hx, hb, hml, hown, hts⟩ (kX6_count l D A ad cI cQ rest z_76.2 p0 z_79 hz_80) (cwV 1 hts gL_does_X6_count rfl rfl rfl (by decide +kernel) ⟨Nat.le_of_ble_eq_true rfl, Nat.le_of_ble_eq_true rfl⟩) ⟨qn_blind, va_recv hK hP (ci := 6) (q0 := 0) rfl qg_Q, fun U hU hW => ⟨rfl, qm_go hA hS hP hK hD hU hW, qn_go hZ hW⟩⟩ rfl rfl hl.1 rfl (lv_room (Nat.le_of_ble_eq_true rfl)) dL_does_332 ⟨Nat.le_of_ble_eq_true rfl, Nat.le_of_ble_eq_true rfl⟩) hS (fun _ _ h9 => h9) (fun _ h9 => h9) (fun v u t H1 locs1 ht hvm hw hB hz1 hk1 hS => ?_)
              obtain ⟨hw1, hw2⟩ := hw
              have hw2 : z_76.2 = u := hw2.symm
              have hw1 : z_79 = v := hw1.symm
              subst hw1
              subst hw2
              obtain ⟨hP, hD⟩ := qm_bk ht hB
              clear hB
              refine lv_iload hx hb dL_does_335 (lv_at hl 1 rfl) ?_
              refine lv_iconst (v := (1 : Int32)) hx hb dL_does_337 (by decide) ?_
              refine lv_iadd hx hb dL_does_338 ?_
              refine lv_icmp_ne (tgt := 358) hx hb dL_does_339 (by decide) (fun c_81 => ?_) (fun c_81 => ?_)
              · rw [if_neg c_81] at h
                cases h
              · rw [if_pos c_81] at h
                refine lv_aload_n hx hb dL_does_342 rfl (lv_at hl 2 rfl) ?_
                refine lv_iload_n hx hb dL_does_343 rfl (lv_at hl 3 rfl) ?_
                refine lv_iload_n hx hb dL_does_344 rfl (lv_at hl 5 rfl) ?_
                obtain ⟨z_82, hz_83, h⟩ := qm_bind h
                refine va_calli (va_runS (As := [.int p2]) (rest := [.int p0, .ref (ad 0)]) ⟨hx, hb, hml, hown, hts⟩ (kL_number l D A ad cI cQ rest z_76.2 p2 z_82 hz_83) (va_cwS 1 hts gL_does_L_number rfl rfl rfl (by decide +kernel) ⟨Nat.le_of_ble_eq_true rfl, Nat.le_of_ble_eq_true rfl⟩) ⟨qm_blind, fun U hU hW => ⟨rfl, qm_go hA hS hP hK hD hU hW⟩⟩ rfl rfl hl.1 rfl (lv_room (Nat.le_of_ble_eq_true rfl)) dL_does_345 ⟨Nat.le_of_ble_eq_true rfl, Nat.le_of_ble_eq_true rfl⟩) hS (fun _ _ h9 => h9) (fun _ h9 => h9) (fun v u t H1 locs1 ht hvm hw hB hz1 hk1 hS => ?_)
                obtain ⟨hw1, hw2⟩ := hw
                have hw2 : z_76.2 = u := hw2.symm
                have hw1 : z_82 = v := hw1.symm
                subst hw1
                subst hw2
                obtain ⟨hP, hD⟩ := qm_bk ht hB
                clear hB
                obtain ⟨z_84, hz_85, h⟩ := qm_bind h
                refine va_calli (va_runV (As := [.int p0, .int z_82]) (rest := []) ⟨hx, hb, hml, hown, hts⟩ (kX6_reallyUpTo l D A ad cI cQ rest z_76.2 p0 z_82 z_84 hz_85) (cwV 2 hts gL_does_X6_reallyUpTo rfl rfl rfl (by decide +kernel) ⟨Nat.le_of_ble_eq_true rfl, Nat.le_of_ble_eq_true rfl⟩) ⟨qn_blind, va_recv hK hP (ci := 6) (q0 := 0) rfl qg_Q, fun U hU hW => ⟨rfl, qm_go hA hS hP hK hD hU hW, qn_go hZ hW⟩⟩ rfl rfl hl.1 rfl (lv_room (Nat.le_of_ble_eq_true rfl)) dL_does_348 ⟨Nat.le_of_ble_eq_true rfl, Nat.le_of_ble_eq_true rfl⟩) hS (fun _ _ h9 => h9) (fun _ h9 => h9) (fun v u t H1 locs1 ht hvm hw hB hz1 hk1 hS => ?_)
                obtain ⟨hw1, hw2⟩ := hw
                have hw2 : z_76.2 = u := hw2.symm
                have hw1 : z_84 = v := hw1.symm
                subst hw1
                subst hw2
                obtain ⟨hP, hD⟩ := qm_bk ht hB
                clear hB
                refine lv_if_le (tgt := 358) hx hb dL_does_351 (by decide) (fun c_86 => ?_) (fun c_86 => ?_)
                · rw [if_pos c_86] at h
                  cases h
                · rw [if_neg c_86] at h
                  refine lv_iconst (v := (1 : Int32)) hx hb dL_does_354 (by decide) ?_
                  refine lv_goto (tgt := 359) hx hb dL_does_355 (by decide) ?_
                  have h := Option.some.inj h
                  subst h
                  exact W.zret (v := (1 : Int32)) hx hb hr rfl (fun t ht hW => ⟨⟨(1 : Int32), z_76.2, rfl, ⟨rfl, rfl⟩, qm_en ht hP hD⟩, hS.F ht⟩) hS.2.2 dL_does_359
