noncomputable def fX5_withRank_L4 (n0 : Nat) (x1 : Int32) : Nat → Int32 → Int32 → qm_S → Option (Int32)
  | 0, _, _, _ => none
  | fuel + 1, v2, v3, S =>
    (if ((S.1 (12 + n0)).1) ≤ v3 then some (0 : Int32) else (if (v2 + (rw_at (S.1 (16 + n0)) v3)) < x1 then fX5_withRank_L4 n0 x1 fuel (v2 + (rw_at (S.1 (16 + n0)) v3)) (v3 + (1 : Int32)) S else some (rw_at (S.1 (12 + n0)) v3)))
noncomputable def fX5_withRank (S : qm_S) (k : Nat) (p0 : Int32) : Option (Int32) :=
  fX5_withRank_L4 k p0 qm_F (0 : Int32) (0 : Int32) S
set_option maxHeartbeats 4000000 in
set_option maxRecDepth 100000 in
theorem kX5_withRank (l : Launch) (D : va_G) (A : Nat → Prop) (ad : Nat → Nat) (cI cQ : ClassId) (rest : va_W) (S : qm_S) (k : Nat) (hix : k < 4) (p0 : Int32) (z : Int32) (h : fX5_withRank S k p0 = some z) : Met l yX5_withRank wsX5_withRank ({ frames := 2, cells := 0, slots := 0, locals := 42 }) (va_Pc [.ref (ad (10 + k)), .int p0] (qm_B D A (qm_T cI cQ) (qm_W ad cI cQ rest S))) (qm_Qi D A (qm_W ad cI cQ rest) (z, S)) 0 0 A := by
  refine Met.ofW (cc := cX5_withRank) (maxL := 4) (ret := (some .int)) (by decide) rfl ?_
  intro p e s m args below meth c s₁ B hml hv
  obtain ⟨rfl, hA, hP, hK, hD⟩ := hv
  have hx := B.exec
  have hb := B.bytes
  have hr := B.returns
  have hts := atoms_spec (ws := wsX5_withRank) B.pre
  have hown : s.vm.findClass RX5 = some m.cls := findClass_of_methodNamed B.named
  have hlocks := B.notSynchronized
  have hS : va_S A s.heap s.heap [] := va_S.rf
  have hl := lv_entry ([.ref (ad (10 + k)), .int p0]) (n := 4) (Nat.le_of_ble_eq_true rfl)
  rw [lg_entry_eq]
  generalize (lg_sl ([.ref (ad (10 + k)), .int p0]) ++ List.replicate (4 - (lg_sl ([.ref (ad (10 + k)), .int p0])).length) Slot.unset).toArray = ls at hl ⊢
  have hl : lv_has ls 4 [(0, .ref (ad (10 + k))), (1, .int p0)] := hl
  obtain ⟨QX, hQX⟩ : ∃ q, q = MQ below (qm_Qi D A (qm_W ad cI cQ rest) (z, S)) ([.ref (ad (10 + k)), .int p0] : List Value).toArray s 0 0 A := ⟨_, rfl⟩
  rw [← hQX]
  rw [fX5_withRank] at h
  refine lv_iconst (v := (0 : Int32)) hx hb dX5_withRank_0 (by decide) ?_
  refine lv_istore_n (lv' := [(2, .int (0 : Int32)), (0, .ref (ad (10 + k))), (1, .int p0)]) hx hb dX5_withRank_1 rfl hl (by decide) rfl (fun ls hl => ?_)
  refine lv_iconst (v := (0 : Int32)) hx hb dX5_withRank_2 (by decide) ?_
  refine lv_istore_n (lv' := [(3, .int (0 : Int32)), (2, .int (0 : Int32)), (0, .ref (ad (10 + k))), (1, .int p0)]) hx hb dX5_withRank_3 rfl hl (by decide) rfl (fun ls hl => ?_)
  have loop_1 : ∀ (fuel : Nat) (v2_1 v3_1 : Int32), fX5_withRank_L4 k p0 fuel v2_1 v3_1 S = some z → ∀ (H : Heap) (locs : List Loc) (ls : Array Slot), va_P D vwCl (qm_W ad cI cQ rest S) H → va_D A (qm_W ad cI cQ rest S) → va_S A s.heap H locs → lv_has ls 4 [(0, .ref (ad (10 + k))), (1, .int p0), (2, .int v2_1), (3, .int v3_1)] → W p l e ({ frames := 2, cells := 0, slots := 0, locals := 42 } : Room) s m ([.ref (ad (10 + k)), .int p0] : List Value).toArray below meth c H locs 0 0 QX (F0 m 4 ls []) := by
    intro fuel
    induction fuel with
    | zero =>
      intro v2_1 v3_1 h
      rw [fX5_withRank_L4] at h
      cases h
    | succ fuel ih =>
      intro v2_1 v3_1 h H locs ls hP hD hS hl
      rw [fX5_withRank_L4] at h
      refine lv_iload_n hx hb dX5_withRank_4 rfl (lv_at hl 3 rfl) ?_
      refine lv_aload_n hx hb dX5_withRank_5 rfl (lv_at hl 0 rfl) ?_
      refine va_get (D := D) (ci := 5) (v := .ref (ad (26 + (12 + k)))) (C := RX5) (T := TX5) (N := 3) hx hb hts (by decide +kernel) hown hK hP (10 + k) (qg_T hix) rfl 0 (by decide) (hts (.fieldLink RX5 10 "QueueMiddles$Tally" "kinds" "LQueueMiddles$Row;") (by decide +kernel)) (fun _ h9 => h9) rfl dX5_withRank_6 ?_
      refine va_calli (va_runV (As := []) (rest := [.int v3_1]) ⟨hx, hb, hml, hown, hts⟩ (nX4_size l D A ad cI cQ rest S (12 + k) (qb_12 hix)) (cwV 0 hts gX5_withRank_X4_size rfl rfl rfl (by decide +kernel) ⟨Nat.le_of_ble_eq_true rfl, Nat.le_of_ble_eq_true rfl⟩) ⟨qm_blind, va_recv hK hP (ci := 4) (q0 := (26 + (12 + k))) rfl (qg_R (qb_12 hix)), fun U hU hW => ⟨rfl, qm_go hA hS hP hK hD hU hW⟩⟩ rfl rfl hl.1 rfl (lv_room (Nat.le_of_ble_eq_true rfl)) dX5_withRank_9 ⟨Nat.le_of_ble_eq_true rfl, Nat.le_of_ble_eq_true rfl⟩) hS (fun _ _ h9 => h9) (fun _ h9 => h9) (fun v u t H1 locs1 ht hvm hw hB hz1 hk1 hS => ?_)
      obtain ⟨hw1, hw2⟩ := hw
      have hw2 : S = u := hw2.symm
      have hw1 : (S.1 (12 + k)).1 = v := hw1.symm
      subst hw1
      subst hw2
      obtain ⟨hP, hD⟩ := qm_bk ht hB
      clear hB
      refine lv_icmp_ge (tgt := 46) hx hb dX5_withRank_12 (by decide) (fun c_2 => ?_) (fun c_2 => ?_)
      · rw [if_pos c_2] at h
        refine lv_iconst (v := (0 : Int32)) hx hb dX5_withRank_46 (by decide) ?_
        have h := Option.some.inj h
        subst h
        rw [hQX]
        exact W.iret (v := (0 : Int32)) hx hb hr (fun t ht hW => ⟨⟨(0 : Int32), S, rfl, ⟨rfl, rfl⟩, qm_en ht hP hD⟩, hS.F ht⟩) hS.2.2 dX5_withRank_47
      · rw [if_neg c_2] at h
        refine lv_iload_n hx hb dX5_withRank_15 rfl (lv_at hl 2 rfl) ?_
        refine lv_aload_n hx hb dX5_withRank_16 rfl (lv_at hl 0 rfl) ?_
        refine va_get (D := D) (ci := 5) (v := .ref (ad (26 + (16 + k)))) (C := RX5) (T := TX5) (N := 3) hx hb hts (by decide +kernel) hown hK hP (10 + k) (qg_T hix) rfl 1 (by decide) (hts (.fieldLink RX5 16 "QueueMiddles$Tally" "times" "LQueueMiddles$Row;") (by decide +kernel)) (fun _ h9 => h9) rfl dX5_withRank_17 ?_
        refine lv_iload_n hx hb dX5_withRank_20 rfl (lv_at hl 3 rfl) ?_
        refine va_calli (va_runV (As := [.int v3_1]) (rest := [.int v2_1]) ⟨hx, hb, hml, hown, hts⟩ (nX4_at l D A ad cI cQ rest S (16 + k) (qb_16 hix) v3_1) (cwV 1 hts gX5_withRank_X4_at rfl rfl rfl (by decide +kernel) ⟨Nat.le_of_ble_eq_true rfl, Nat.le_of_ble_eq_true rfl⟩) ⟨qm_blind, va_recv hK hP (ci := 4) (q0 := (26 + (16 + k))) rfl (qg_R (qb_16 hix)), fun U hU hW => ⟨rfl, qm_go hA hS hP hK hD hU hW⟩⟩ rfl rfl hl.1 rfl (lv_room (Nat.le_of_ble_eq_true rfl)) dX5_withRank_21 ⟨Nat.le_of_ble_eq_true rfl, Nat.le_of_ble_eq_true rfl⟩) hS (fun _ _ h9 => h9) (fun _ h9 => h9) (fun v u t H1 locs1 ht hvm hw hB hz1 hk1 hS => ?_)
        obtain ⟨hw1, hw2⟩ := hw
        have hw2 : S = u := hw2.symm
        have hw1 : rw_at (S.1 (16 + k)) v3_1 = v := hw1.symm
        subst hw1
        subst hw2
        obtain ⟨hP, hD⟩ := qm_bk ht hB
        clear hB
        refine lv_iadd hx hb dX5_withRank_24 ?_
        refine lv_istore_n (lv' := [(2, .int (v2_1 + (rw_at (S.1 (16 + k)) v3_1))), (0, .ref (ad (10 + k))), (1, .int p0), (3, .int v3_1)]) hx hb dX5_withRank_25 rfl hl (by decide) rfl (fun ls hl => ?_)
        refine lv_iload_n hx hb dX5_withRank_26 rfl (lv_at hl 0 rfl) ?_
        refine lv_iload_n hx hb dX5_withRank_27 rfl (lv_at hl 2 rfl) ?_
        refine lv_icmp_lt (tgt := 40) hx hb dX5_withRank_28 (by decide) (fun c_3 => ?_) (fun c_3 => ?_)
        · rw [if_pos c_3] at h
          refine lv_iinc (v := v3_1 + (1 : Int32)) (lv' := [(3, .int (v3_1 + (1 : Int32))), (2, .int (v2_1 + (rw_at (S.1 (16 + k)) v3_1))), (0, .ref (ad (10 + k))), (1, .int p0)]) hx hb dX5_withRank_40 hl (k := 3) rfl rfl (by decide) rfl (fun ls hl => ?_)
          refine lv_goto (tgt := 4) hx hb dX5_withRank_43 (by decide) ?_
          exact ih (v2_1 + (rw_at (S.1 (16 + k)) v3_1)) (v3_1 + (1 : Int32)) h _ _ _ hP hD hS (lv_sub hl [2, 3, 1, 0] rfl)
        · rw [if_neg c_3] at h
          refine lv_aload_n hx hb dX5_withRank_31 rfl (lv_at hl 1 rfl) ?_
          refine va_get (D := D) (ci := 5) (v := .ref (ad (26 + (12 + k)))) (C := RX5) (T := TX5) (N := 3) hx hb hts (by decide +kernel) hown hK hP (10 + k) (qg_T hix) rfl 0 (by decide) (hts (.fieldLink RX5 10 "QueueMiddles$Tally" "kinds" "LQueueMiddles$Row;") (by decide +kernel)) (fun _ h9 => h9) rfl dX5_withRank_32 ?_
          refine lv_iload_n hx hb dX5_withRank_35 rfl (lv_at hl 3 rfl) ?_
          refine va_calli (va_runV (As := [.int v3_1]) (rest := []) ⟨hx, hb, hml, hown, hts⟩ (nX4_at l D A ad cI cQ rest S (12 + k) (qb_12 hix) v3_1) (cwV 1 hts gX5_withRank_X4_at rfl rfl rfl (by decide +kernel) ⟨Nat.le_of_ble_eq_true rfl, Nat.le_of_ble_eq_true rfl⟩) ⟨qm_blind, va_recv hK hP (ci := 4) (q0 := (26 + (12 + k))) rfl (qg_R (qb_12 hix)), fun U hU hW => ⟨rfl, qm_go hA hS hP hK hD hU hW⟩⟩ rfl rfl hl.1 rfl (lv_room (Nat.le_of_ble_eq_true rfl)) dX5_withRank_36 ⟨Nat.le_of_ble_eq_true rfl, Nat.le_of_ble_eq_true rfl⟩) hS (fun _ _ h9 => h9) (fun _ h9 => h9) (fun v u t H1 locs1 ht hvm hw hB hz1 hk1 hS => ?_)
          obtain ⟨hw1, hw2⟩ := hw
          have hw2 : S = u := hw2.symm
          have hw1 : rw_at (S.1 (12 + k)) v3_1 = v := hw1.symm
          subst hw1
          subst hw2
          obtain ⟨hP, hD⟩ := qm_bk ht hB
          clear hB
          have h := Option.some.inj h
          subst h
          rw [hQX]
          exact W.iret (v := rw_at (S.1 (12 + k)) v3_1) hx hb hr (fun t ht hW => ⟨⟨rw_at (S.1 (12 + k)) v3_1, S, rfl, ⟨rfl, rfl⟩, qm_en ht hP hD⟩, hS.F ht⟩) hS.2.2 dX5_withRank_39
  exact loop_1 qm_F (0 : Int32) (0 : Int32) h _ _ _ hP hD hS (lv_sub hl [2, 3, 1, 0] rfl)
noncomputable def fX6_middle (S : qm_S) (p0 : Int32) : Option (Int32) :=
  Option.bind (fX6_counterAt S p0) (fun z_1 => qm_gd (z_1 < 4) (Option.bind (fX0_demandNumbers S z_1) (fun _ => Option.bind (fX5_withRank S z_1 (((S.2.2 z_1) + (1 : Int32)) / (2 : Int32))) (fun z_6 => some z_6))))
set_option maxHeartbeats 4000000 in
set_option maxRecDepth 100000 in
theorem kX6_middle (l : Launch) (D : va_G) (A : Nat → Prop) (ad : Nat → Nat) (cI cQ : ClassId) (rest : va_W) (S : qm_S) (p0 : Int32) (z : Int32) (h : fX6_middle S p0 = some z) : Met l yX6_middle wsX6_middle ({ frames := 3, cells := 0, slots := 0, locals := 65 }) (va_Pc [.ref (ad 0), .int p0] (qn_B D A (qm_T cI cQ) (qm_W ad cI cQ rest S))) (qm_Qi D A (qm_W ad cI cQ rest) (z, S)) 0 0 A := by
  refine Met.ofW (cc := cX6_middle) (maxL := 3) (ret := (some .int)) (by decide) rfl ?_
  intro p e s m args below meth c s₁ B hml hv
  obtain ⟨rfl, ⟨hA, hP, hK, hD⟩, hZ⟩ := hv
  have hx := B.exec
  have hb := B.bytes
  have hr := B.returns
  have hts := atoms_spec (ws := wsX6_middle) B.pre
  have hown : s.vm.findClass RX6 = some m.cls := findClass_of_methodNamed B.named
  have hlocks := B.notSynchronized
  have hS : va_S A s.heap s.heap [] := va_S.rf
  have hl := lv_entry ([.ref (ad 0), .int p0]) (n := 3) (Nat.le_of_ble_eq_true rfl)
  rw [lg_entry_eq]
  generalize (lg_sl ([.ref (ad 0), .int p0]) ++ List.replicate (3 - (lg_sl ([.ref (ad 0), .int p0])).length) Slot.unset).toArray = ls at hl ⊢
  have hl : lv_has ls 3 [(0, .ref (ad 0)), (1, .int p0)] := hl
  rw [fX6_middle] at h
  refine lv_aload_n hx hb dX6_middle_0 rfl (lv_at hl 0 rfl) ?_
  refine lv_iload_n hx hb dX6_middle_1 rfl (lv_at hl 1 rfl) ?_
  obtain ⟨z_1, hz_2, h⟩ := qm_bind h
  refine va_callr (va_runV (As := [.int p0]) (rest := []) ⟨hx, hb, hml, hown, hts⟩ (kX6_counterAt l D A ad cI cQ rest S p0 z_1 hz_2) (cwV 1 hts gX6_middle_X6_counterAt rfl rfl rfl (by decide +kernel) ⟨Nat.le_of_ble_eq_true rfl, Nat.le_of_ble_eq_true rfl⟩) ⟨qn_blind, va_recv hK hP (ci := 6) (q0 := 0) rfl qg_Q, fun U hU hW => ⟨rfl, qm_go hA hS hP hK hD hU hW, qn_go hZ hW⟩⟩ rfl rfl hl.1 rfl (lv_room (Nat.le_of_ble_eq_true rfl)) dX6_middle_2 ⟨Nat.le_of_ble_eq_true rfl, Nat.le_of_ble_eq_true rfl⟩) hS (fun _ _ h9 => h9) (fun _ h9 => h9) (fun u ra t H1 locs1 ht hvm hw hB hz1 hk1 hS => ?_)
  obtain ⟨hra, hB⟩ := hB
  have hra : ad (2 + z_1) = ra := hra.symm
  have hw : S = u := hw.symm
  subst hra
  subst hw
  obtain ⟨hk_3, h⟩ := qm_gd_some h
  obtain ⟨hP, hD⟩ := qm_bk ht hB
  clear hB
  refine lv_astore_n (lv' := [(2, .ref (ad (2 + z_1))), (0, .ref (ad 0)), (1, .int p0)]) hx hb dX6_middle_5 rfl hl (by decide) rfl (fun ls hl => ?_)
  refine lv_aload_n hx hb dX6_middle_6 rfl (lv_at hl 0 rfl) ?_
  obtain ⟨z_4, hz_5, h⟩ := qm_bind h
  refine va_callv (va_runV (As := []) (rest := []) ⟨hx, hb, hml, hown, hts⟩ (kX0_demandNumbers l D A ad cI cQ rest S z_1 hk_3 z_4 hz_5) (cwV 0 hts gX6_middle_X0_demandNumbers rfl rfl rfl (by decide +kernel) ⟨Nat.le_of_ble_eq_true rfl, Nat.le_of_ble_eq_true rfl⟩) ⟨qm_blind, va_recv hK hP (ci := 0) (q0 := (2 + z_1)) rfl (qg_C hk_3), fun U hU hW => ⟨rfl, qm_go hA hS hP hK hD hU hW⟩⟩ rfl rfl hl.1 rfl (lv_room (Nat.le_of_ble_eq_true rfl)) dX6_middle_7 ⟨Nat.le_of_ble_eq_true rfl, Nat.le_of_ble_eq_true rfl⟩) hS (fun _ _ h9 => h9) (fun _ h9 => h9) (fun u t H1 locs1 ht hvm hw hB hz1 hk1 hS => ?_)
  have hw : S = u := hw.symm
  subst hw
  obtain ⟨hP, hD⟩ := qm_bk ht hB
  clear hB
  refine lv_aload_n hx hb dX6_middle_10 rfl (lv_at hl 0 rfl) ?_
  refine va_getN (D := D) (ci := 0) (v := .ref (ad (10 + z_1))) (C := RX0) (T := TX0) (N := 4) hx hb hts (by decide +kernel) hown hK hP (2 + z_1) (qg_C hk_3) rfl 1 (by decide) (va_Nw.use rfl (qz_fnumbers hZ)) (fun _ h9 => h9) rfl dX6_middle_11 ?_
  refine lv_aload_n hx hb dX6_middle_14 rfl (lv_at hl 0 rfl) ?_
  refine va_getN (D := D) (ci := 0) (v := .ref (ad (10 + z_1))) (C := RX0) (T := TX0) (N := 4) hx hb hts (by decide +kernel) hown hK hP (2 + z_1) (qg_C hk_3) rfl 1 (by decide) (va_Nw.use rfl (qz_fnumbers hZ)) (fun _ h9 => h9) rfl dX6_middle_15 ?_
  refine va_calli (va_runV (As := []) (rest := [.ref (ad (10 + z_1))]) ⟨hx, hb, hml, hown, hts⟩ (nX5_total l D A ad cI cQ rest S z_1 hk_3) (cwV 0 hts gX6_middle_X5_total rfl rfl rfl (by decide +kernel) ⟨Nat.le_of_ble_eq_true rfl, Nat.le_of_ble_eq_true rfl⟩) ⟨qm_blind, va_recv hK hP (ci := 5) (q0 := (10 + z_1)) rfl (qg_T hk_3), fun U hU hW => ⟨rfl, qm_go hA hS hP hK hD hU hW⟩⟩ rfl rfl hl.1 rfl (lv_room (Nat.le_of_ble_eq_true rfl)) dX6_middle_18 ⟨Nat.le_of_ble_eq_true rfl, Nat.le_of_ble_eq_true rfl⟩) hS (fun _ _ h9 => h9) (fun _ h9 => h9) (fun v u t H1 locs1 ht hvm hw hB hz1 hk1 hS => ?_)
  obtain ⟨hw1, hw2⟩ := hw
  have hw2 : S = u := hw2.symm
  have hw1 : (S.2.2 z_1) = v := hw1.symm
  subst hw1
  subst hw2
  obtain ⟨hP, hD⟩ := qm_bk ht hB
  clear hB
  refine lv_iconst (v := (1 : Int32)) hx hb dX6_middle_21 (by decide) ?_
  refine lv_iadd hx hb dX6_middle_22 ?_
  refine lv_iconst (v := (2 : Int32)) hx hb dX6_middle_23 (by decide) ?_
  refine lv_idiv hx hb dX6_middle_24 (by decide) ?_
  obtain ⟨z_6, hz_7, h⟩ := qm_bind h
  refine va_calli (va_runV (As := [.int (((S.2.2 z_1) + (1 : Int32)) / (2 : Int32))]) (rest := []) ⟨hx, hb, hml, hown, hts⟩ (kX5_withRank l D A ad cI cQ rest S z_1 hk_3 (((S.2.2 z_1) + (1 : Int32)) / (2 : Int32)) z_6 hz_7) (cwV 1 hts gX6_middle_X5_withRank rfl rfl rfl (by decide +kernel) ⟨Nat.le_of_ble_eq_true rfl, Nat.le_of_ble_eq_true rfl⟩) ⟨qm_blind, va_recv hK hP (ci := 5) (q0 := (10 + z_1)) rfl (qg_T hk_3), fun U hU hW => ⟨rfl, qm_go hA hS hP hK hD hU hW⟩⟩ rfl rfl hl.1 rfl (lv_room (Nat.le_of_ble_eq_true rfl)) dX6_middle_25 ⟨Nat.le_of_ble_eq_true rfl, Nat.le_of_ble_eq_true rfl⟩) hS (fun _ _ h9 => h9) (fun _ h9 => h9) (fun v u t H1 locs1 ht hvm hw hB hz1 hk1 hS => ?_)
  obtain ⟨hw1, hw2⟩ := hw
  have hw2 : S = u := hw2.symm
  have hw1 : z_6 = v := hw1.symm
  subst hw1
  subst hw2
  obtain ⟨hP, hD⟩ := qm_bk ht hB
  clear hB
  have h := Option.some.inj h
  subst h
  exact W.iret (v := z_6) hx hb hr (fun t ht hW => ⟨⟨z_6, S, rfl, ⟨rfl, rfl⟩, qm_en ht hP hD⟩, hS.F ht⟩) hS.2.2 dX6_middle_28
noncomputable def fX6_middleByHeaps (S : qm_S) (p0 : Int32) : Option (Int32) :=
  Option.bind (fX6_counterAt S p0) (fun z_1 => qm_gd (z_1 < 4) (Option.bind (fX0_demandNumbers S z_1) (fun _ => some (-(rw_at (S.1 (20 + (2 * z_1))) (0 : Int32))))))
set_option maxHeartbeats 4000000 in
set_option maxRecDepth 100000 in
theorem kX6_middleByHeaps (l : Launch) (D : va_G) (A : Nat → Prop) (ad : Nat → Nat) (cI cQ : ClassId) (rest : va_W) (S : qm_S) (p0 : Int32) (z : Int32) (h : fX6_middleByHeaps S p0 = some z) : Met l yX6_middleByHeaps wsX6_middleByHeaps ({ frames := 4, cells := 0, slots := 0, locals := 82 }) (va_Pc [.ref (ad 0), .int p0] (qn_B D A (qm_T cI cQ) (qm_W ad cI cQ rest S))) (qm_Qi D A (qm_W ad cI cQ rest) (z, S)) 0 0 A := by
  refine Met.ofW (cc := cX6_middleByHeaps) (maxL := 3) (ret := (some .int)) (by decide) rfl ?_
  intro p e s m args below meth c s₁ B hml hv
  obtain ⟨rfl, ⟨hA, hP, hK, hD⟩, hZ⟩ := hv
  have hx := B.exec
  have hb := B.bytes
  have hr := B.returns
  have hts := atoms_spec (ws := wsX6_middleByHeaps) B.pre
  have hown : s.vm.findClass RX6 = some m.cls := findClass_of_methodNamed B.named
  have hlocks := B.notSynchronized
  have hS : va_S A s.heap s.heap [] := va_S.rf
  have hl := lv_entry ([.ref (ad 0), .int p0]) (n := 3) (Nat.le_of_ble_eq_true rfl)
  rw [lg_entry_eq]
  generalize (lg_sl ([.ref (ad 0), .int p0]) ++ List.replicate (3 - (lg_sl ([.ref (ad 0), .int p0])).length) Slot.unset).toArray = ls at hl ⊢
  have hl : lv_has ls 3 [(0, .ref (ad 0)), (1, .int p0)] := hl
  rw [fX6_middleByHeaps] at h
  refine lv_aload_n hx hb dX6_middleByHeaps_0 rfl (lv_at hl 0 rfl) ?_
  refine lv_iload_n hx hb dX6_middleByHeaps_1 rfl (lv_at hl 1 rfl) ?_
  obtain ⟨z_1, hz_2, h⟩ := qm_bind h
  refine va_callr (va_runV (As := [.int p0]) (rest := []) ⟨hx, hb, hml, hown, hts⟩ (kX6_counterAt l D A ad cI cQ rest S p0 z_1 hz_2) (cwV 1 hts gX6_middleByHeaps_X6_counterAt rfl rfl rfl (by decide +kernel) ⟨Nat.le_of_ble_eq_true rfl, Nat.le_of_ble_eq_true rfl⟩) ⟨qn_blind, va_recv hK hP (ci := 6) (q0 := 0) rfl qg_Q, fun U hU hW => ⟨rfl, qm_go hA hS hP hK hD hU hW, qn_go hZ hW⟩⟩ rfl rfl hl.1 rfl (lv_room (Nat.le_of_ble_eq_true rfl)) dX6_middleByHeaps_2 ⟨Nat.le_of_ble_eq_true rfl, Nat.le_of_ble_eq_true rfl⟩) hS (fun _ _ h9 => h9) (fun _ h9 => h9) (fun u ra t H1 locs1 ht hvm hw hB hz1 hk1 hS => ?_)
  obtain ⟨hra, hB⟩ := hB
  have hra : ad (2 + z_1) = ra := hra.symm
  have hw : S = u := hw.symm
  subst hra
  subst hw
  obtain ⟨hk_3, h⟩ := qm_gd_some h
  obtain ⟨hP, hD⟩ := qm_bk ht hB
  clear hB
  refine lv_astore_n (lv' := [(2, .ref (ad (2 + z_1))), (0, .ref (ad 0)), (1, .int p0)]) hx hb dX6_middleByHeaps_5 rfl hl (by decide) rfl (fun ls hl => ?_)
  refine lv_aload_n hx hb dX6_middleByHeaps_6 rfl (lv_at hl 0 rfl) ?_
  obtain ⟨z_4, hz_5, h⟩ := qm_bind h
  refine va_callv (va_runV (As := []) (rest := []) ⟨hx, hb, hml, hown, hts⟩ (kX0_demandNumbers l D A ad cI cQ rest S z_1 hk_3 z_4 hz_5) (cwV 0 hts gX6_middleByHeaps_X0_demandNumbers rfl rfl rfl (by decide +kernel) ⟨Nat.le_of_ble_eq_true rfl, Nat.le_of_ble_eq_true rfl⟩) ⟨qm_blind, va_recv hK hP (ci := 0) (q0 := (2 + z_1)) rfl (qg_C hk_3), fun U hU hW => ⟨rfl, qm_go hA hS hP hK hD hU hW⟩⟩ rfl rfl hl.1 rfl (lv_room (Nat.le_of_ble_eq_true rfl)) dX6_middleByHeaps_7 ⟨Nat.le_of_ble_eq_true rfl, Nat.le_of_ble_eq_true rfl⟩) hS (fun _ _ h9 => h9) (fun _ h9 => h9) (fun u t H1 locs1 ht hvm hw hB hz1 hk1 hS => ?_)
  have hw : S = u := hw.symm
  subst hw
  obtain ⟨hP, hD⟩ := qm_bk ht hB
  clear hB
  refine lv_aload_n hx hb dX6_middleByHeaps_10 rfl (lv_at hl 0 rfl) ?_
  refine va_getN (D := D) (ci := 0) (v := .ref (ad (14 + z_1))) (C := RX0) (T := TX0) (N := 4) hx hb hts (by decide +kernel) hown hK hP (2 + z_1) (qg_C hk_3) rfl 2 (by decide) (va_Nw.use rfl (qz_fhalves hZ)) (fun _ h9 => h9) rfl dX6_middleByHeaps_11 ?_
  refine va_calli (va_runV (As := []) (rest := []) ⟨hx, hb, hml, hown, hts⟩ (nX1_greatestOfLesser l D A ad cI cQ rest S z_1 hk_3) (cwV 0 hts gX6_middleByHeaps_X1_greatestOfLesser rfl rfl rfl (by decide +kernel) ⟨Nat.le_of_ble_eq_true rfl, Nat.le_of_ble_eq_true rfl⟩) ⟨qm_blind, va_recv hK hP (ci := 1) (q0 := (14 + z_1)) rfl (qg_H hk_3), fun U hU hW => ⟨rfl, qm_go hA hS hP hK hD hU hW⟩⟩ rfl rfl hl.1 rfl (lv_room (Nat.le_of_ble_eq_true rfl)) dX6_middleByHeaps_14 ⟨Nat.le_of_ble_eq_true rfl, Nat.le_of_ble_eq_true rfl⟩) hS (fun _ _ h9 => h9) (fun _ h9 => h9) (fun v u t H1 locs1 ht hvm hw hB hz1 hk1 hS => ?_)
  obtain ⟨hw1, hw2⟩ := hw
  have hw2 : S = u := hw2.symm
  have hw1 : (-(rw_at (S.1 (20 + (2 * z_1))) (0 : Int32))) = v := hw1.symm
  subst hw1
  subst hw2
  obtain ⟨hP, hD⟩ := qm_bk ht hB
  clear hB
  have h := Option.some.inj h
  subst h
  exact W.iret (v := (-(rw_at (S.1 (20 + (2 * z_1))) (0 : Int32)))) hx hb hr (fun t ht hW => ⟨⟨(-(rw_at (S.1 (20 + (2 * z_1))) (0 : Int32))), S, rfl, ⟨rfl, rfl⟩, qm_en ht hP hD⟩, hS.F ht⟩) hS.2.2 dX6_middleByHeaps_17
noncomputable def fX6_part (S : qm_S) (p0 : Int32) : Option (UInt64) :=
  Option.bind (fX6_counterAt S p0) (fun z_1 => qm_gd (z_1 < 4) ((if (S.2.2 z_1) ≤ 0 then some FP.dconst0 else qm_gd (vf_n64 (FP.ddiv (FP.i2d ((S.1 z_1).1)) (FP.i2d (S.2.2 z_1)))) (some (FP.ddiv (FP.i2d ((S.1 z_1).1)) (FP.i2d (S.2.2 z_1)))))))
set_option maxHeartbeats 4000000 in
set_option maxRecDepth 100000 in
theorem kX6_part (l : Launch) (D : va_G) (A : Nat → Prop) (ad : Nat → Nat) (cI cQ : ClassId) (rest : va_W) (S : qm_S) (p0 : Int32) (z : UInt64) (h : fX6_part S p0 = some z) : Met l yX6_part wsX6_part ({ frames := 2, cells := 0, slots := 0, locals := 40 }) (va_Pc [.ref (ad 0), .int p0] (qn_B D A (qm_T cI cQ) (qm_W ad cI cQ rest S))) (qm_Qd D A (qm_W ad cI cQ rest) (z, S)) 0 0 A := by
  refine Met.ofW (cc := cX6_part) (maxL := 4) (ret := (some .double)) (by decide) rfl ?_
  intro p e s m args below meth c s₁ B hml hv
  obtain ⟨rfl, ⟨hA, hP, hK, hD⟩, hZ⟩ := hv
  have hx := B.exec
  have hb := B.bytes
  have hr := B.returns
  have hts := atoms_spec (ws := wsX6_part) B.pre
  have hown : s.vm.findClass RX6 = some m.cls := findClass_of_methodNamed B.named
  have hlocks := B.notSynchronized
  have hS : va_S A s.heap s.heap [] := va_S.rf
  have hl := lv_entry ([.ref (ad 0), .int p0]) (n := 4) (Nat.le_of_ble_eq_true rfl)
  rw [lg_entry_eq]
  generalize (lg_sl ([.ref (ad 0), .int p0]) ++ List.replicate (4 - (lg_sl ([.ref (ad 0), .int p0])).length) Slot.unset).toArray = ls at hl ⊢
  have hl : lv_has ls 4 [(0, .ref (ad 0)), (1, .int p0)] := hl
  rw [fX6_part] at h
  refine lv_aload_n hx hb dX6_part_0 rfl (lv_at hl 0 rfl) ?_
  refine lv_iload_n hx hb dX6_part_1 rfl (lv_at hl 1 rfl) ?_
  obtain ⟨z_1, hz_2, h⟩ := qm_bind h
  refine va_callr (va_runV (As := [.int p0]) (rest := []) ⟨hx, hb, hml, hown, hts⟩ (kX6_counterAt l D A ad cI cQ rest S p0 z_1 hz_2) (cwV 1 hts gX6_part_X6_counterAt rfl rfl rfl (by decide +kernel) ⟨Nat.le_of_ble_eq_true rfl, Nat.le_of_ble_eq_true rfl⟩) ⟨qn_blind, va_recv hK hP (ci := 6) (q0 := 0) rfl qg_Q, fun U hU hW => ⟨rfl, qm_go hA hS hP hK hD hU hW, qn_go hZ hW⟩⟩ rfl rfl hl.1 rfl (lv_room (Nat.le_of_ble_eq_true rfl)) dX6_part_2 ⟨Nat.le_of_ble_eq_true rfl, Nat.le_of_ble_eq_true rfl⟩) hS (fun _ _ h9 => h9) (fun _ h9 => h9) (fun u ra t H1 locs1 ht hvm hw hB hz1 hk1 hS => ?_)
  obtain ⟨hra, hB⟩ := hB
  have hra : ad (2 + z_1) = ra := hra.symm
  have hw : S = u := hw.symm
  subst hra
  subst hw
  obtain ⟨hk_3, h⟩ := qm_gd_some h
  obtain ⟨hP, hD⟩ := qm_bk ht hB
  clear hB
  refine lv_astore_n (lv' := [(2, .ref (ad (2 + z_1))), (0, .ref (ad 0)), (1, .int p0)]) hx hb dX6_part_5 rfl hl (by decide) rfl (fun ls hl => ?_)
  refine lv_aload_n hx hb dX6_part_6 rfl (lv_at hl 0 rfl) ?_
  refine va_getN (D := D) (ci := 0) (v := .ref (ad (10 + z_1))) (C := RX0) (T := TX0) (N := 4) hx hb hts (by decide +kernel) hown hK hP (2 + z_1) (qg_C hk_3) rfl 1 (by decide) (va_Nw.use rfl (qz_fnumbers hZ)) (fun _ h9 => h9) rfl dX6_part_7 ?_
  refine va_calli (va_runV (As := []) (rest := []) ⟨hx, hb, hml, hown, hts⟩ (nX5_total l D A ad cI cQ rest S z_1 hk_3) (cwV 0 hts gX6_part_X5_total rfl rfl rfl (by decide +kernel) ⟨Nat.le_of_ble_eq_true rfl, Nat.le_of_ble_eq_true rfl⟩) ⟨qm_blind, va_recv hK hP (ci := 5) (q0 := (10 + z_1)) rfl (qg_T hk_3), fun U hU hW => ⟨rfl, qm_go hA hS hP hK hD hU hW⟩⟩ rfl rfl hl.1 rfl (lv_room (Nat.le_of_ble_eq_true rfl)) dX6_part_10 ⟨Nat.le_of_ble_eq_true rfl, Nat.le_of_ble_eq_true rfl⟩) hS (fun _ _ h9 => h9) (fun _ h9 => h9) (fun v u t H1 locs1 ht hvm hw hB hz1 hk1 hS => ?_)
  obtain ⟨hw1, hw2⟩ := hw
  have hw2 : S = u := hw2.symm
  have hw1 : (S.2.2 z_1) = v := hw1.symm
  subst hw1
  subst hw2
  obtain ⟨hP, hD⟩ := qm_bk ht hB
  clear hB
  refine lv_istore_n (lv' := [(3, .int (S.2.2 z_1)), (2, .ref (ad (2 + z_1))), (0, .ref (ad 0)), (1, .int p0)]) hx hb dX6_part_13 rfl hl (by decide) rfl (fun ls hl => ?_)
  refine lv_iload_n hx hb dX6_part_14 rfl (lv_at hl 0 rfl) ?_
  refine lv_if_le (tgt := 32) hx hb dX6_part_15 (by decide) (fun c_4 => ?_) (fun c_4 => ?_)
  · rw [if_pos c_4] at h
    refine lv_dconst0 hx hb dX6_part_32 ?_
    have h := Option.some.inj h
    subst h
    exact W.dret (v := FP.dconst0) hx hb hr (fun t ht hW => ⟨⟨FP.dconst0, S, rfl, ⟨rfl, rfl⟩, qm_en ht hP hD⟩, hS.F ht⟩) hS.2.2 dX6_part_33
  · rw [if_neg c_4] at h
    refine lv_aload_n hx hb dX6_part_18 rfl (lv_at hl 1 rfl) ?_
    refine va_getN (D := D) (ci := 0) (v := .ref (ad (6 + z_1))) (C := RX0) (T := TX0) (N := 4) hx hb hts (by decide +kernel) hown hK hP (2 + z_1) (qg_C hk_3) rfl 0 (by decide) (va_Nw.use rfl (qz_frow hZ)) (fun _ h9 => h9) rfl dX6_part_19 ?_
    refine va_calli (va_runV (As := []) (rest := []) ⟨hx, hb, hml, hown, hts⟩ (nX3_length l D A ad cI cQ rest S z_1 hk_3) (cwV 0 hts gX6_part_X3_length rfl rfl rfl (by decide +kernel) ⟨Nat.le_of_ble_eq_true rfl, Nat.le_of_ble_eq_true rfl⟩) ⟨qm_blind, va_recv hK hP (ci := 3) (q0 := (6 + z_1)) rfl (qg_M hk_3), fun U hU hW => ⟨rfl, qm_go hA hS hP hK hD hU hW⟩⟩ rfl rfl hl.1 rfl (lv_room (Nat.le_of_ble_eq_true rfl)) dX6_part_22 ⟨Nat.le_of_ble_eq_true rfl, Nat.le_of_ble_eq_true rfl⟩) hS (fun _ _ h9 => h9) (fun _ h9 => h9) (fun v u t H1 locs1 ht hvm hw hB hz1 hk1 hS => ?_)
    obtain ⟨hw1, hw2⟩ := hw
    have hw2 : S = u := hw2.symm
    have hw1 : ((S.1 z_1).1) = v := hw1.symm
    subst hw1
    subst hw2
    obtain ⟨hP, hD⟩ := qm_bk ht hB
    clear hB
    refine lv_i2d hx hb dX6_part_25 ?_
    refine lv_iload_n hx hb dX6_part_26 rfl (lv_at hl 0 rfl) ?_
    refine lv_i2d hx hb dX6_part_27 ?_
    obtain ⟨g_5, h⟩ := qm_gd_some h
    refine lv_ddiv hx hb dX6_part_28 g_5 ?_
    refine lv_goto (tgt := 33) hx hb dX6_part_29 (by decide) ?_
    have h := Option.some.inj h
    subst h
    exact W.dret (v := FP.ddiv (FP.i2d ((S.1 z_1).1)) (FP.i2d (S.2.2 z_1))) hx hb hr (fun t ht hW => ⟨⟨FP.ddiv (FP.i2d ((S.1 z_1).1)) (FP.i2d (S.2.2 z_1)), S, rfl, ⟨rfl, rfl⟩, qm_en ht hP hD⟩, hS.F ht⟩) hS.2.2 dX6_part_33
noncomputable def fX6_showRow_L67 (x3 : Int32) (x4 : Int32) (n5 : Nat) : Nat → Int32 → Int32 → qm_S → Option (qm_S)
  | 0, _, _, _ => none
  | fuel + 1, v6, v7, S =>
    (if x4 ≤ v7 then some S else Option.bind (fX0_take S n5 v6) (fun z_17 => (if (v6 + x3) ≤ (9999 : Int32) then fX6_showRow_L67 x3 x4 n5 fuel (v6 + x3) (v7 + (1 : Int32)) z_17 else fX6_showRow_L67 x3 x4 n5 fuel ((v6 + x3) + (-20000 : Int32)) (v7 + (1 : Int32)) z_17)))
noncomputable def fX6_showRow (S : qm_S) (p0 : Int32) (p1 : Int32) (p2 : Int32) (p3 : Int32) : Option (Int32 × qm_S) :=
  Option.bind (fX6_counterAt S p0) (fun z_1 => qm_gd (z_1 < 4) (Option.bind (fX6_isNumber S p1) (fun z_4 => Option.bind (fX6_demandInRange S z_4) (fun _ => (if p2 < 0 then Option.bind (fX6_demandInRange S (0 : Int32)) (fun _ => (if p3 < (1 : Int32) then Option.bind (fX6_demandInRange S (0 : Int32)) (fun _ => Option.bind (fX0_demandRoomFor S z_1 p3) (fun _ => Option.bind (fX6_showRow_L67 p2 p3 z_1 qm_F p1 (0 : Int32) S) (fun z_22 => some (((z_22.1 z_1).1), z_22)))) else (if (100 : Int32) < p3 then Option.bind (fX6_demandInRange S (0 : Int32)) (fun _ => Option.bind (fX0_demandRoomFor S z_1 p3) (fun _ => Option.bind (fX6_showRow_L67 p2 p3 z_1 qm_F p1 (0 : Int32) S) (fun z_35 => some (((z_35.1 z_1).1), z_35)))) else Option.bind (fX6_demandInRange S (1 : Int32)) (fun _ => Option.bind (fX0_demandRoomFor S z_1 p3) (fun _ => Option.bind (fX6_showRow_L67 p2 p3 z_1 qm_F p1 (0 : Int32) S) (fun z_47 => some (((z_47.1 z_1).1), z_47))))))) else (if (9999 : Int32) < p2 then Option.bind (fX6_demandInRange S (0 : Int32)) (fun _ => (if p3 < (1 : Int32) then Option.bind (fX6_demandInRange S (0 : Int32)) (fun _ => Option.bind (fX0_demandRoomFor S z_1 p3) (fun _ => Option.bind (fX6_showRow_L67 p2 p3 z_1 qm_F p1 (0 : Int32) S) (fun z_63 => some (((z_63.1 z_1).1), z_63)))) else (if (100 : Int32) < p3 then Option.bind (fX6_demandInRange S (0 : Int32)) (fun _ => Option.bind (fX0_demandRoomFor S z_1 p3) (fun _ => Option.bind (fX6_showRow_L67 p2 p3 z_1 qm_F p1 (0 : Int32) S) (fun z_76 => some (((z_76.1 z_1).1), z_76)))) else Option.bind (fX6_demandInRange S (1 : Int32)) (fun _ => Option.bind (fX0_demandRoomFor S z_1 p3) (fun _ => Option.bind (fX6_showRow_L67 p2 p3 z_1 qm_F p1 (0 : Int32) S) (fun z_88 => some (((z_88.1 z_1).1), z_88))))))) else Option.bind (fX6_demandInRange S (1 : Int32)) (fun _ => (if p3 < (1 : Int32) then Option.bind (fX6_demandInRange S (0 : Int32)) (fun _ => Option.bind (fX0_demandRoomFor S z_1 p3) (fun _ => Option.bind (fX6_showRow_L67 p2 p3 z_1 qm_F p1 (0 : Int32) S) (fun z_103 => some (((z_103.1 z_1).1), z_103)))) else (if (100 : Int32) < p3 then Option.bind (fX6_demandInRange S (0 : Int32)) (fun _ => Option.bind (fX0_demandRoomFor S z_1 p3) (fun _ => Option.bind (fX6_showRow_L67 p2 p3 z_1 qm_F p1 (0 : Int32) S) (fun z_116 => some (((z_116.1 z_1).1), z_116)))) else Option.bind (fX6_demandInRange S (1 : Int32)) (fun _ => Option.bind (fX0_demandRoomFor S z_1 p3) (fun _ => Option.bind (fX6_showRow_L67 p2 p3 z_1 qm_F p1 (0 : Int32) S) (fun z_128 => some (((z_128.1 z_1).1), z_128)))))))))))))
set_option maxHeartbeats 4000000 in
set_option maxRecDepth 100000 in
theorem kX6_showRow (l : Launch) (D : va_G) (A : Nat → Prop) (ad : Nat → Nat) (cI cQ : ClassId) (rest : va_W) (S : qm_S) (p0 : Int32) (p1 : Int32) (p2 : Int32) (p3 : Int32) (z : Int32 × qm_S) (h : fX6_showRow S p0 p1 p2 p3 = some z) : Met l yX6_showRow wsX6_showRow ({ frames := 6, cells := 0, slots := 0, locals := 147 }) (va_Pc [.ref (ad 0), .int p0, .int p1, .int p2, .int p3] (qn_B D A (qm_T cI cQ) (qm_W ad cI cQ rest S))) (qm_Qi D A (qm_W ad cI cQ rest) z) 0 0 A := by
  refine Met.ofW (cc := cX6_showRow) (maxL := 8) (ret := (some .int)) (by decide) rfl ?_
  intro p e s m args below meth c s₁ B hml hv
  obtain ⟨rfl, ⟨hA, hP, hK, hD⟩, hZ⟩ := hv
  have hx := B.exec
  have hb := B.bytes
  have hr := B.returns
  have hts := atoms_spec (ws := wsX6_showRow) B.pre
  have hown : s.vm.findClass RX6 = some m.cls := findClass_of_methodNamed B.named
  have hlocks := B.notSynchronized
  have hS : va_S A s.heap s.heap [] := va_S.rf
  have hl := lv_entry ([.ref (ad 0), .int p0, .int p1, .int p2, .int p3]) (n := 8) (Nat.le_of_ble_eq_true rfl)
  rw [lg_entry_eq]
  generalize (lg_sl ([.ref (ad 0), .int p0, .int p1, .int p2, .int p3]) ++ List.replicate (8 - (lg_sl ([.ref (ad 0), .int p0, .int p1, .int p2, .int p3])).length) Slot.unset).toArray = ls at hl ⊢
  have hl : lv_has ls 8 [(0, .ref (ad 0)), (1, .int p0), (2, .int p1), (3, .int p2), (4, .int p3)] := hl
  obtain ⟨QX, hQX⟩ : ∃ q, q = MQ below (qm_Qi D A (qm_W ad cI cQ rest) z) ([.ref (ad 0), .int p0, .int p1, .int p2, .int p3] : List Value).toArray s 0 0 A := ⟨_, rfl⟩
  rw [← hQX]
  rw [fX6_showRow] at h
  refine lv_aload_n hx hb dX6_showRow_0 rfl (lv_at hl 0 rfl) ?_
  refine lv_iload_n hx hb dX6_showRow_1 rfl (lv_at hl 1 rfl) ?_
  obtain ⟨z_1, hz_2, h⟩ := qm_bind h
  refine va_callr (va_runV (As := [.int p0]) (rest := []) ⟨hx, hb, hml, hown, hts⟩ (kX6_counterAt l D A ad cI cQ rest S p0 z_1 hz_2) (cwV 1 hts gX6_showRow_X6_counterAt rfl rfl rfl (by decide +kernel) ⟨Nat.le_of_ble_eq_true rfl, Nat.le_of_ble_eq_true rfl⟩) ⟨qn_blind, va_recv hK hP (ci := 6) (q0 := 0) rfl qg_Q, fun U hU hW => ⟨rfl, qm_go hA hS hP hK hD hU hW, qn_go hZ hW⟩⟩ rfl rfl hl.1 rfl (lv_room (Nat.le_of_ble_eq_true rfl)) dX6_showRow_2 ⟨Nat.le_of_ble_eq_true rfl, Nat.le_of_ble_eq_true rfl⟩) hS (fun _ _ h9 => h9) (fun _ h9 => h9) (fun u ra t H1 locs1 ht hvm hw hB hz1 hk1 hS => ?_)
  obtain ⟨hra, hB⟩ := hB
  have hra : ad (2 + z_1) = ra := hra.symm
  have hw : S = u := hw.symm
  subst hra
  subst hw
  obtain ⟨hk_3, h⟩ := qm_gd_some h
  obtain ⟨hP, hD⟩ := qm_bk ht hB
  clear hB
  refine lv_astore (lv' := [(5, .ref (ad (2 + z_1))), (0, .ref (ad 0)), (1, .int p0), (2, .int p1), (3, .int p2), (4, .int p3)]) hx hb dX6_showRow_5 hl (by decide) rfl (fun ls hl => ?_)
  refine lv_iload_n hx hb dX6_showRow_7 rfl (lv_at hl 3 rfl) ?_
  obtain ⟨z_4, hz_5, h⟩ := qm_bind h
  refine va_calli (va_runS (As := [.int p1]) (rest := []) ⟨hx, hb, hml, hown, hts⟩ (kX6_isNumber l D A ad cI cQ rest S p1 z_4 hz_5) (va_cwS 1 hts gX6_showRow_X6_isNumber rfl rfl rfl (by decide +kernel) ⟨Nat.le_of_ble_eq_true rfl, Nat.le_of_ble_eq_true rfl⟩) ⟨qm_blind, fun U hU hW => ⟨rfl, qm_go hA hS hP hK hD hU hW⟩⟩ rfl rfl hl.1 rfl (lv_room (Nat.le_of_ble_eq_true rfl)) dX6_showRow_8 ⟨Nat.le_of_ble_eq_true rfl, Nat.le_of_ble_eq_true rfl⟩) hS (fun _ _ h9 => h9) (fun _ h9 => h9) (fun v u t H1 locs1 ht hvm hw hB hz1 hk1 hS => ?_)
  obtain ⟨hw1, hw2⟩ := hw
  have hw2 : S = u := hw2.symm
  have hw1 : z_4 = v := hw1.symm
  subst hw1
  subst hw2
  obtain ⟨hP, hD⟩ := qm_bk ht hB
  clear hB
  obtain ⟨z_6, hz_7, h⟩ := qm_bind h
  refine va_callv (va_runS (As := [.int z_4]) (rest := []) ⟨hx, hb, hml, hown, hts⟩ (kX6_demandInRange l D A ad cI cQ rest S z_4 z_6 hz_7) (va_cwS 1 hts gX6_showRow_X6_demandInRange rfl rfl rfl (by decide +kernel) ⟨Nat.le_of_ble_eq_true rfl, Nat.le_of_ble_eq_true rfl⟩) ⟨qm_blind, fun U hU hW => ⟨rfl, qm_go hA hS hP hK hD hU hW⟩⟩ rfl rfl hl.1 rfl (lv_room (Nat.le_of_ble_eq_true rfl)) dX6_showRow_11 ⟨Nat.le_of_ble_eq_true rfl, Nat.le_of_ble_eq_true rfl⟩) hS (fun _ _ h9 => h9) (fun _ h9 => h9) (fun u t H1 locs1 ht hvm hw hB hz1 hk1 hS => ?_)
  have hw : S = u := hw.symm
  subst hw
  obtain ⟨hP, hD⟩ := qm_bk ht hB
  clear hB
  refine lv_iload_n hx hb dX6_showRow_14 rfl (lv_at hl 4 rfl) ?_
  refine lv_if_lt (tgt := 29) hx hb dX6_showRow_15 (by decide) (fun c_8 => ?_) (fun c_8 => ?_)
  · rw [if_pos c_8] at h
    refine lv_iconst (v := (0 : Int32)) hx hb dX6_showRow_29 (by decide) ?_
    obtain ⟨z_9, hz_10, h⟩ := qm_bind h
    refine va_callv (va_runS (As := [.int (0 : Int32)]) (rest := []) ⟨hx, hb, hml, hown, hts⟩ (kX6_demandInRange l D A ad cI cQ rest S (0 : Int32) z_9 hz_10) (va_cwS 1 hts gX6_showRow_X6_demandInRange rfl rfl rfl (by decide +kernel) ⟨Nat.le_of_ble_eq_true rfl, Nat.le_of_ble_eq_true rfl⟩) ⟨qm_blind, fun U hU hW => ⟨rfl, qm_go hA hS hP hK hD hU hW⟩⟩ rfl rfl hl.1 rfl (lv_room (Nat.le_of_ble_eq_true rfl)) dX6_showRow_30 ⟨Nat.le_of_ble_eq_true rfl, Nat.le_of_ble_eq_true rfl⟩) hS (fun _ _ h9 => h9) (fun _ h9 => h9) (fun u t H1 locs1 ht hvm hw hB hz1 hk1 hS => ?_)
    have hw : S = u := hw.symm
    subst hw
    obtain ⟨hP, hD⟩ := qm_bk ht hB
    clear hB
    refine lv_iload hx hb dX6_showRow_33 (lv_at hl 5 rfl) ?_
    refine lv_iconst (v := (1 : Int32)) hx hb dX6_showRow_35 (by decide) ?_
    refine lv_icmp_lt (tgt := 50) hx hb dX6_showRow_36 (by decide) (fun c_11 => ?_) (fun c_11 => ?_)
    · rw [if_pos c_11] at h
      refine lv_iconst (v := (0 : Int32)) hx hb dX6_showRow_50 (by decide) ?_
      obtain ⟨z_12, hz_13, h⟩ := qm_bind h
      refine va_callv (va_runS (As := [.int (0 : Int32)]) (rest := []) ⟨hx, hb, hml, hown, hts⟩ (kX6_demandInRange l D A ad cI cQ rest S (0 : Int32) z_12 hz_13) (va_cwS 1 hts gX6_showRow_X6_demandInRange rfl rfl rfl (by decide +kernel) ⟨Nat.le_of_ble_eq_true rfl, Nat.le_of_ble_eq_true rfl⟩) ⟨qm_blind, fun U hU hW => ⟨rfl, qm_go hA hS hP hK hD hU hW⟩⟩ rfl rfl hl.1 rfl (lv_room (Nat.le_of_ble_eq_true rfl)) dX6_showRow_51 ⟨Nat.le_of_ble_eq_true rfl, Nat.le_of_ble_eq_true rfl⟩) hS (fun _ _ h9 => h9) (fun _ h9 => h9) (fun u t H1 locs1 ht hvm hw hB hz1 hk1 hS => ?_)
      have hw : S = u := hw.symm
      subst hw
      obtain ⟨hP, hD⟩ := qm_bk ht hB
      clear hB
      refine lv_aload hx hb dX6_showRow_54 (lv_at hl 0 rfl) ?_
      refine lv_iload hx hb dX6_showRow_56 (lv_at hl 5 rfl) ?_
      obtain ⟨z_14, hz_15, h⟩ := qm_bind h
      refine va_callv (va_runV (As := [.int p3]) (rest := []) ⟨hx, hb, hml, hown, hts⟩ (kX0_demandRoomFor l D A ad cI cQ rest S z_1 hk_3 p3 z_14 hz_15) (cwV 1 hts gX6_showRow_X0_demandRoomFor rfl rfl rfl (by decide +kernel) ⟨Nat.le_of_ble_eq_true rfl, Nat.le_of_ble_eq_true rfl⟩) ⟨qm_blind, va_recv hK hP (ci := 0) (q0 := (2 + z_1)) rfl (qg_C hk_3), fun U hU hW => ⟨rfl, qm_go hA hS hP hK hD hU hW⟩⟩ rfl rfl hl.1 rfl (lv_room (Nat.le_of_ble_eq_true rfl)) dX6_showRow_58 ⟨Nat.le_of_ble_eq_true rfl, Nat.le_of_ble_eq_true rfl⟩) hS (fun _ _ h9 => h9) (fun _ h9 => h9) (fun u t H1 locs1 ht hvm hw hB hz1 hk1 hS => ?_)
      have hw : S = u := hw.symm
      subst hw
      obtain ⟨hP, hD⟩ := qm_bk ht hB
      clear hB
      refine lv_iload_n hx hb dX6_showRow_61 rfl (lv_at hl 3 rfl) ?_
      refine lv_istore (lv' := [(6, .int p1), (5, .ref (ad (2 + z_1))), (0, .ref (ad 0)), (1, .int p0), (2, .int p1), (3, .int p2), (4, .int p3)]) hx hb dX6_showRow_62 hl (by decide) rfl (fun ls hl => ?_)
      refine lv_iconst (v := (0 : Int32)) hx hb dX6_showRow_64 (by decide) ?_
      refine lv_istore (lv' := [(7, .int (0 : Int32)), (6, .int p1), (5, .ref (ad (2 + z_1))), (0, .ref (ad 0)), (1, .int p0), (2, .int p1), (3, .int p2), (4, .int p3)]) hx hb dX6_showRow_65 hl (by decide) rfl (fun ls hl => ?_)
      have loop_17 : ∀ (fuel : Nat) (v6_16 v7_16 : Int32) (S_16 : qm_S) (z : qm_S), fX6_showRow_L67 p2 p3 z_1 fuel v6_16 v7_16 S_16 = some z → ∀ (H : Heap) (locs : List Loc) (ls : Array Slot), va_P D vwCl (qm_W ad cI cQ rest S_16) H → va_D A (qm_W ad cI cQ rest S_16) → va_S A s.heap H locs → lv_has ls 8 [(3, .int p2), (4, .int p3), (5, .ref (ad (2 + z_1))), (6, .int v6_16), (7, .int v7_16)] → (∀ (H : Heap) (locs : List Loc) (ls : Array Slot), va_P D vwCl (qm_W ad cI cQ rest z) H → va_D A (qm_W ad cI cQ rest z) → va_S A s.heap H locs → lv_has ls 8 [(5, .ref (ad (2 + z_1)))] → W p l e ({ frames := 6, cells := 0, slots := 0, locals := 147 } : Room) s m ([.ref (ad 0), .int p0, .int p1, .int p2, .int p3] : List Value).toArray below meth c H locs 0 0 QX (F0 m 107 ls [])) → W p l e ({ frames := 6, cells := 0, slots := 0, locals := 147 } : Room) s m ([.ref (ad 0), .int p0, .int p1, .int p2, .int p3] : List Value).toArray below meth c H locs 0 0 QX (F0 m 67 ls []) := by
        intro fuel
        induction fuel with
        | zero =>
          intro v6_16 v7_16 S_16 z h
          rw [fX6_showRow_L67] at h
          cases h
        | succ fuel ih =>
          intro v6_16 v7_16 S_16 z h H locs ls hP hD hS hl kex
          rw [fX6_showRow_L67] at h
          refine lv_iload hx hb dX6_showRow_67 (lv_at hl 4 rfl) ?_
          refine lv_iload hx hb dX6_showRow_69 (lv_at hl 1 rfl) ?_
          refine lv_icmp_ge (tgt := 107) hx hb dX6_showRow_71 (by decide) (fun c_18 => ?_) (fun c_18 => ?_)
          · rw [if_pos c_18] at h
            have h := Option.some.inj h
            subst h
            exact kex _ _ _ hP hD hS (lv_sub hl [2] rfl)
          · rw [if_neg c_18] at h
            refine lv_aload hx hb dX6_showRow_74 (lv_at hl 2 rfl) ?_
            refine lv_iload hx hb dX6_showRow_76 (lv_at hl 3 rfl) ?_
            obtain ⟨z_19, hz_20, h⟩ := qm_bind h
            refine va_callv (va_runV (As := [.int v6_16]) (rest := []) ⟨hx, hb, hml, hown, hts⟩ (kX0_take l D A ad cI cQ rest S_16 z_1 hk_3 v6_16 z_19 hz_20) (cwV 1 hts gX6_showRow_X0_take rfl rfl rfl (by decide +kernel) ⟨Nat.le_of_ble_eq_true rfl, Nat.le_of_ble_eq_true rfl⟩) ⟨qm_blind, va_recv hK hP (ci := 0) (q0 := (2 + z_1)) rfl (qg_C hk_3), fun U hU hW => ⟨rfl, qm_go hA hS hP hK hD hU hW⟩⟩ rfl rfl hl.1 rfl (lv_room (Nat.le_of_ble_eq_true rfl)) dX6_showRow_78 ⟨Nat.le_of_ble_eq_true rfl, Nat.le_of_ble_eq_true rfl⟩) hS (fun _ _ h9 => h9) (fun _ h9 => h9) (fun u t H1 locs1 ht hvm hw hB hz1 hk1 hS => ?_)
            have hw : z_19 = u := hw.symm
            subst hw
            obtain ⟨hP, hD⟩ := qm_bk ht hB
            clear hB
            refine lv_iload hx hb dX6_showRow_81 (lv_at hl 3 rfl) ?_
            refine lv_iload_n hx hb dX6_showRow_83 rfl (lv_at hl 0 rfl) ?_
            refine lv_iadd hx hb dX6_showRow_84 ?_
            refine lv_istore (lv' := [(6, .int (v6_16 + p2)), (3, .int p2), (4, .int p3), (5, .ref (ad (2 + z_1))), (7, .int v7_16)]) hx hb dX6_showRow_85 hl (by decide) rfl (fun ls hl => ?_)
            refine lv_iload hx hb dX6_showRow_87 (lv_at hl 0 rfl) ?_
            refine lv_sipush (v := (9999 : Int32)) hx hb dX6_showRow_89 (by decide) ?_
            refine lv_icmp_le (tgt := 101) hx hb dX6_showRow_92 (by decide) (fun c_21 => ?_) (fun c_21 => ?_)
            · rw [if_pos c_21] at h
              refine lv_iinc (v := v7_16 + (1 : Int32)) (lv' := [(7, .int (v7_16 + (1 : Int32))), (6, .int (v6_16 + p2)), (3, .int p2), (4, .int p3), (5, .ref (ad (2 + z_1)))]) hx hb dX6_showRow_101 hl (k := 4) rfl rfl (by decide) rfl (fun ls hl => ?_)
              refine lv_goto (tgt := 67) hx hb dX6_showRow_104 (by decide) ?_
              exact ih (v6_16 + p2) (v7_16 + (1 : Int32)) z_19 z h _ _ _ hP hD hS (lv_sub hl [2, 3, 4, 1, 0] rfl) kex
            · rw [if_neg c_21] at h
              refine lv_iincW (v := (v6_16 + p2) + (-20000 : Int32)) (lv' := [(6, .int ((v6_16 + p2) + (-20000 : Int32))), (3, .int p2), (4, .int p3), (5, .ref (ad (2 + z_1))), (7, .int v7_16)]) hx hb dX6_showRow_95 hl (k := 0) rfl (congrArg (fun q9 : Int32 => (v6_16 + p2) + q9) (show Int32.ofInt (-20000) = (-20000 : Int32) by decide)) (by decide) rfl (fun ls hl => ?_)
              refine lv_iinc (v := v7_16 + (1 : Int32)) (lv' := [(7, .int (v7_16 + (1 : Int32))), (6, .int ((v6_16 + p2) + (-20000 : Int32))), (3, .int p2), (4, .int p3), (5, .ref (ad (2 + z_1)))]) hx hb dX6_showRow_101 hl (k := 4) rfl rfl (by decide) rfl (fun ls hl => ?_)
              refine lv_goto (tgt := 67) hx hb dX6_showRow_104 (by decide) ?_
              exact ih ((v6_16 + p2) + (-20000 : Int32)) (v7_16 + (1 : Int32)) z_19 z h _ _ _ hP hD hS (lv_sub hl [2, 3, 4, 1, 0] rfl) kex
      obtain ⟨z_22, hz_23, h⟩ := qm_bind h
      refine loop_17 qm_F p1 (0 : Int32) S z_22 hz_23 _ _ _ hP hD hS (lv_sub hl [6, 7, 2, 1, 0] rfl) (fun H locs ls hP hD hS hl => ?_)
      refine lv_aload hx hb dX6_showRow_107 (lv_at hl 0 rfl) ?_
      refine va_getN (D := D) (ci := 0) (v := .ref (ad (6 + z_1))) (C := RX0) (T := TX0) (N := 4) hx hb hts (by decide +kernel) hown hK hP (2 + z_1) (qg_C hk_3) rfl 0 (by decide) (va_Nw.use rfl (qz_frow hZ)) (fun _ h9 => h9) rfl dX6_showRow_109 ?_
      refine va_calli (va_runV (As := []) (rest := []) ⟨hx, hb, hml, hown, hts⟩ (nX3_length l D A ad cI cQ rest z_22 z_1 hk_3) (cwV 0 hts gX6_showRow_X3_length rfl rfl rfl (by decide +kernel) ⟨Nat.le_of_ble_eq_true rfl, Nat.le_of_ble_eq_true rfl⟩) ⟨qm_blind, va_recv hK hP (ci := 3) (q0 := (6 + z_1)) rfl (qg_M hk_3), fun U hU hW => ⟨rfl, qm_go hA hS hP hK hD hU hW⟩⟩ rfl rfl hl.1 rfl (lv_room (Nat.le_of_ble_eq_true rfl)) dX6_showRow_112 ⟨Nat.le_of_ble_eq_true rfl, Nat.le_of_ble_eq_true rfl⟩) hS (fun _ _ h9 => h9) (fun _ h9 => h9) (fun v u t H1 locs1 ht hvm hw hB hz1 hk1 hS => ?_)
      obtain ⟨hw1, hw2⟩ := hw
      have hw2 : z_22 = u := hw2.symm
      have hw1 : ((z_22.1 z_1).1) = v := hw1.symm
      subst hw1
      subst hw2
      obtain ⟨hP, hD⟩ := qm_bk ht hB
      clear hB
      have h := Option.some.inj h
      subst h
      rw [hQX]
      exact W.iret (v := ((z_22.1 z_1).1)) hx hb hr (fun t ht hW => ⟨⟨((z_22.1 z_1).1), z_22, rfl, ⟨rfl, rfl⟩, qm_en ht hP hD⟩, hS.F ht⟩) hS.2.2 dX6_showRow_115
    · rw [if_neg c_11] at h
      refine lv_iload hx hb dX6_showRow_39 (lv_at hl 5 rfl) ?_
      refine lv_bipush (v := (100 : Int32)) hx hb dX6_showRow_41 (by decide) ?_
      refine lv_icmp_gt (tgt := 50) hx hb dX6_showRow_43 (by decide) (fun c_24 => ?_) (fun c_24 => ?_)
      · rw [if_pos c_24] at h
        refine lv_iconst (v := (0 : Int32)) hx hb dX6_showRow_50 (by decide) ?_
        obtain ⟨z_25, hz_26, h⟩ := qm_bind h
        refine va_callv (va_runS (As := [.int (0 : Int32)]) (rest := []) ⟨hx, hb, hml, hown, hts⟩ (kX6_demandInRange l D A ad cI cQ rest S (0 : Int32) z_25 hz_26) (va_cwS 1 hts gX6_showRow_X6_demandInRange rfl rfl rfl (by decide +kernel) ⟨Nat.le_of_ble_eq_true rfl, Nat.le_of_ble_eq_true rfl⟩) ⟨qm_blind, fun U hU hW => ⟨rfl, qm_go hA hS hP hK hD hU hW⟩⟩ rfl rfl hl.1 rfl (lv_room (Nat.le_of_ble_eq_true rfl)) dX6_showRow_51 ⟨Nat.le_of_ble_eq_true rfl, Nat.le_of_ble_eq_true rfl⟩) hS (fun _ _ h9 => h9) (fun _ h9 => h9) (fun u t H1 locs1 ht hvm hw hB hz1 hk1 hS => ?_)
        have hw : S = u := hw.symm
        subst hw
        obtain ⟨hP, hD⟩ := qm_bk ht hB
        clear hB
        refine lv_aload hx hb dX6_showRow_54 (lv_at hl 0 rfl) ?_
        refine lv_iload hx hb dX6_showRow_56 (lv_at hl 5 rfl) ?_
        obtain ⟨z_27, hz_28, h⟩ := qm_bind h
        refine va_callv (va_runV (As := [.int p3]) (rest := []) ⟨hx, hb, hml, hown, hts⟩ (kX0_demandRoomFor l D A ad cI cQ rest S z_1 hk_3 p3 z_27 hz_28) (cwV 1 hts gX6_showRow_X0_demandRoomFor rfl rfl rfl (by decide +kernel) ⟨Nat.le_of_ble_eq_true rfl, Nat.le_of_ble_eq_true rfl⟩) ⟨qm_blind, va_recv hK hP (ci := 0) (q0 := (2 + z_1)) rfl (qg_C hk_3), fun U hU hW => ⟨rfl, qm_go hA hS hP hK hD hU hW⟩⟩ rfl rfl hl.1 rfl (lv_room (Nat.le_of_ble_eq_true rfl)) dX6_showRow_58 ⟨Nat.le_of_ble_eq_true rfl, Nat.le_of_ble_eq_true rfl⟩) hS (fun _ _ h9 => h9) (fun _ h9 => h9) (fun u t H1 locs1 ht hvm hw hB hz1 hk1 hS => ?_)
        have hw : S = u := hw.symm
        subst hw
        obtain ⟨hP, hD⟩ := qm_bk ht hB
        clear hB
        refine lv_iload_n hx hb dX6_showRow_61 rfl (lv_at hl 3 rfl) ?_
        refine lv_istore (lv' := [(6, .int p1), (5, .ref (ad (2 + z_1))), (0, .ref (ad 0)), (1, .int p0), (2, .int p1), (3, .int p2), (4, .int p3)]) hx hb dX6_showRow_62 hl (by decide) rfl (fun ls hl => ?_)
        refine lv_iconst (v := (0 : Int32)) hx hb dX6_showRow_64 (by decide) ?_
        refine lv_istore (lv' := [(7, .int (0 : Int32)), (6, .int p1), (5, .ref (ad (2 + z_1))), (0, .ref (ad 0)), (1, .int p0), (2, .int p1), (3, .int p2), (4, .int p3)]) hx hb dX6_showRow_65 hl (by decide) rfl (fun ls hl => ?_)
        have loop_30 : ∀ (fuel : Nat) (v6_29 v7_29 : Int32) (S_29 : qm_S) (z : qm_S), fX6_showRow_L67 p2 p3 z_1 fuel v6_29 v7_29 S_29 = some z → ∀ (H : Heap) (locs : List Loc) (ls : Array Slot), va_P D vwCl (qm_W ad cI cQ rest S_29) H → va_D A (qm_W ad cI cQ rest S_29) → va_S A s.heap H locs → lv_has ls 8 [(3, .int p2), (4, .int p3), (5, .ref (ad (2 + z_1))), (6, .int v6_29), (7, .int v7_29)] → (∀ (H : Heap) (locs : List Loc) (ls : Array Slot), va_P D vwCl (qm_W ad cI cQ rest z) H → va_D A (qm_W ad cI cQ rest z) → va_S A s.heap H locs → lv_has ls 8 [(5, .ref (ad (2 + z_1)))] → W p l e ({ frames := 6, cells := 0, slots := 0, locals := 147 } : Room) s m ([.ref (ad 0), .int p0, .int p1, .int p2, .int p3] : List Value).toArray below meth c H locs 0 0 QX (F0 m 107 ls [])) → W p l e ({ frames := 6, cells := 0, slots := 0, locals := 147 } : Room) s m ([.ref (ad 0), .int p0, .int p1, .int p2, .int p3] : List Value).toArray below meth c H locs 0 0 QX (F0 m 67 ls []) := by
          intro fuel
          induction fuel with
          | zero =>
            intro v6_29 v7_29 S_29 z h
            rw [fX6_showRow_L67] at h
            cases h
          | succ fuel ih =>
            intro v6_29 v7_29 S_29 z h H locs ls hP hD hS hl kex
            rw [fX6_showRow_L67] at h
            refine lv_iload hx hb dX6_showRow_67 (lv_at hl 4 rfl) ?_
            refine lv_iload hx hb dX6_showRow_69 (lv_at hl 1 rfl) ?_
            refine lv_icmp_ge (tgt := 107) hx hb dX6_showRow_71 (by decide) (fun c_31 => ?_) (fun c_31 => ?_)
            · rw [if_pos c_31] at h
              have h := Option.some.inj h
              subst h
              exact kex _ _ _ hP hD hS (lv_sub hl [2] rfl)
            · rw [if_neg c_31] at h
              refine lv_aload hx hb dX6_showRow_74 (lv_at hl 2 rfl) ?_
              refine lv_iload hx hb dX6_showRow_76 (lv_at hl 3 rfl) ?_
              obtain ⟨z_32, hz_33, h⟩ := qm_bind h
              refine va_callv (va_runV (As := [.int v6_29]) (rest := []) ⟨hx, hb, hml, hown, hts⟩ (kX0_take l D A ad cI cQ rest S_29 z_1 hk_3 v6_29 z_32 hz_33) (cwV 1 hts gX6_showRow_X0_take rfl rfl rfl (by decide +kernel) ⟨Nat.le_of_ble_eq_true rfl, Nat.le_of_ble_eq_true rfl⟩) ⟨qm_blind, va_recv hK hP (ci := 0) (q0 := (2 + z_1)) rfl (qg_C hk_3), fun U hU hW => ⟨rfl, qm_go hA hS hP hK hD hU hW⟩⟩ rfl rfl hl.1 rfl (lv_room (Nat.le_of_ble_eq_true rfl)) dX6_showRow_78 ⟨Nat.le_of_ble_eq_true rfl, Nat.le_of_ble_eq_true rfl⟩) hS (fun _ _ h9 => h9) (fun _ h9 => h9) (fun u t H1 locs1 ht hvm hw hB hz1 hk1 hS => ?_)
              have hw : z_32 = u := hw.symm
              subst hw
              obtain ⟨hP, hD⟩ := qm_bk ht hB
              clear hB
              refine lv_iload hx hb dX6_showRow_81 (lv_at hl 3 rfl) ?_
              refine lv_iload_n hx hb dX6_showRow_83 rfl (lv_at hl 0 rfl) ?_
              refine lv_iadd hx hb dX6_showRow_84 ?_
              refine lv_istore (lv' := [(6, .int (v6_29 + p2)), (3, .int p2), (4, .int p3), (5, .ref (ad (2 + z_1))), (7, .int v7_29)]) hx hb dX6_showRow_85 hl (by decide) rfl (fun ls hl => ?_)
              refine lv_iload hx hb dX6_showRow_87 (lv_at hl 0 rfl) ?_
              refine lv_sipush (v := (9999 : Int32)) hx hb dX6_showRow_89 (by decide) ?_
              refine lv_icmp_le (tgt := 101) hx hb dX6_showRow_92 (by decide) (fun c_34 => ?_) (fun c_34 => ?_)
              · rw [if_pos c_34] at h
                refine lv_iinc (v := v7_29 + (1 : Int32)) (lv' := [(7, .int (v7_29 + (1 : Int32))), (6, .int (v6_29 + p2)), (3, .int p2), (4, .int p3), (5, .ref (ad (2 + z_1)))]) hx hb dX6_showRow_101 hl (k := 4) rfl rfl (by decide) rfl (fun ls hl => ?_)
                refine lv_goto (tgt := 67) hx hb dX6_showRow_104 (by decide) ?_
                exact ih (v6_29 + p2) (v7_29 + (1 : Int32)) z_32 z h _ _ _ hP hD hS (lv_sub hl [2, 3, 4, 1, 0] rfl) kex
              · rw [if_neg c_34] at h
                refine lv_iincW (v := (v6_29 + p2) + (-20000 : Int32)) (lv' := [(6, .int ((v6_29 + p2) + (-20000 : Int32))), (3, .int p2), (4, .int p3), (5, .ref (ad (2 + z_1))), (7, .int v7_29)]) hx hb dX6_showRow_95 hl (k := 0) rfl (congrArg (fun q9 : Int32 => (v6_29 + p2) + q9) (show Int32.ofInt (-20000) = (-20000 : Int32) by decide)) (by decide) rfl (fun ls hl => ?_)
                refine lv_iinc (v := v7_29 + (1 : Int32)) (lv' := [(7, .int (v7_29 + (1 : Int32))), (6, .int ((v6_29 + p2) + (-20000 : Int32))), (3, .int p2), (4, .int p3), (5, .ref (ad (2 + z_1)))]) hx hb dX6_showRow_101 hl (k := 4) rfl rfl (by decide) rfl (fun ls hl => ?_)
                refine lv_goto (tgt := 67) hx hb dX6_showRow_104 (by decide) ?_
                exact ih ((v6_29 + p2) + (-20000 : Int32)) (v7_29 + (1 : Int32)) z_32 z h _ _ _ hP hD hS (lv_sub hl [2, 3, 4, 1, 0] rfl) kex
        obtain ⟨z_35, hz_36, h⟩ := qm_bind h
        refine loop_30 qm_F p1 (0 : Int32) S z_35 hz_36 _ _ _ hP hD hS (lv_sub hl [6, 7, 2, 1, 0] rfl) (fun H locs ls hP hD hS hl => ?_)
        refine lv_aload hx hb dX6_showRow_107 (lv_at hl 0 rfl) ?_
        refine va_getN (D := D) (ci := 0) (v := .ref (ad (6 + z_1))) (C := RX0) (T := TX0) (N := 4) hx hb hts (by decide +kernel) hown hK hP (2 + z_1) (qg_C hk_3) rfl 0 (by decide) (va_Nw.use rfl (qz_frow hZ)) (fun _ h9 => h9) rfl dX6_showRow_109 ?_
        refine va_calli (va_runV (As := []) (rest := []) ⟨hx, hb, hml, hown, hts⟩ (nX3_length l D A ad cI cQ rest z_35 z_1 hk_3) (cwV 0 hts gX6_showRow_X3_length rfl rfl rfl (by decide +kernel) ⟨Nat.le_of_ble_eq_true rfl, Nat.le_of_ble_eq_true rfl⟩) ⟨qm_blind, va_recv hK hP (ci := 3) (q0 := (6 + z_1)) rfl (qg_M hk_3), fun U hU hW => ⟨rfl, qm_go hA hS hP hK hD hU hW⟩⟩ rfl rfl hl.1 rfl (lv_room (Nat.le_of_ble_eq_true rfl)) dX6_showRow_112 ⟨Nat.le_of_ble_eq_true rfl, Nat.le_of_ble_eq_true rfl⟩) hS (fun _ _ h9 => h9) (fun _ h9 => h9) (fun v u t H1 locs1 ht hvm hw hB hz1 hk1 hS => ?_)
        obtain ⟨hw1, hw2⟩ := hw
        have hw2 : z_35 = u := hw2.symm
        have hw1 : ((z_35.1 z_1).1) = v := hw1.symm
        subst hw1
        subst hw2
        obtain ⟨hP, hD⟩ := qm_bk ht hB
        clear hB
        have h := Option.some.inj h
        subst h
        rw [hQX]
        exact W.iret (v := ((z_35.1 z_1).1)) hx hb hr (fun t ht hW => ⟨⟨((z_35.1 z_1).1), z_35, rfl, ⟨rfl, rfl⟩, qm_en ht hP hD⟩, hS.F ht⟩) hS.2.2 dX6_showRow_115
      · rw [if_neg c_24] at h
        refine lv_iconst (v := (1 : Int32)) hx hb dX6_showRow_46 (by decide) ?_
        refine lv_goto (tgt := 51) hx hb dX6_showRow_47 (by decide) ?_
        obtain ⟨z_37, hz_38, h⟩ := qm_bind h
        refine va_callv (va_runS (As := [.int (1 : Int32)]) (rest := []) ⟨hx, hb, hml, hown, hts⟩ (kX6_demandInRange l D A ad cI cQ rest S (1 : Int32) z_37 hz_38) (va_cwS 1 hts gX6_showRow_X6_demandInRange rfl rfl rfl (by decide +kernel) ⟨Nat.le_of_ble_eq_true rfl, Nat.le_of_ble_eq_true rfl⟩) ⟨qm_blind, fun U hU hW => ⟨rfl, qm_go hA hS hP hK hD hU hW⟩⟩ rfl rfl hl.1 rfl (lv_room (Nat.le_of_ble_eq_true rfl)) dX6_showRow_51 ⟨Nat.le_of_ble_eq_true rfl, Nat.le_of_ble_eq_true rfl⟩) hS (fun _ _ h9 => h9) (fun _ h9 => h9) (fun u t H1 locs1 ht hvm hw hB hz1 hk1 hS => ?_)
        have hw : S = u := hw.symm
        subst hw
        obtain ⟨hP, hD⟩ := qm_bk ht hB
        clear hB
        refine lv_aload hx hb dX6_showRow_54 (lv_at hl 0 rfl) ?_
        refine lv_iload hx hb dX6_showRow_56 (lv_at hl 5 rfl) ?_
        obtain ⟨z_39, hz_40, h⟩ := qm_bind h
        refine va_callv (va_runV (As := [.int p3]) (rest := []) ⟨hx, hb, hml, hown, hts⟩ (kX0_demandRoomFor l D A ad cI cQ rest S z_1 hk_3 p3 z_39 hz_40) (cwV 1 hts gX6_showRow_X0_demandRoomFor rfl rfl rfl (by decide +kernel) ⟨Nat.le_of_ble_eq_true rfl, Nat.le_of_ble_eq_true rfl⟩) ⟨qm_blind, va_recv hK hP (ci := 0) (q0 := (2 + z_1)) rfl (qg_C hk_3), fun U hU hW => ⟨rfl, qm_go hA hS hP hK hD hU hW⟩⟩ rfl rfl hl.1 rfl (lv_room (Nat.le_of_ble_eq_true rfl)) dX6_showRow_58 ⟨Nat.le_of_ble_eq_true rfl, Nat.le_of_ble_eq_true rfl⟩) hS (fun _ _ h9 => h9) (fun _ h9 => h9) (fun u t H1 locs1 ht hvm hw hB hz1 hk1 hS => ?_)
        have hw : S = u := hw.symm
        subst hw
        obtain ⟨hP, hD⟩ := qm_bk ht hB
        clear hB
        refine lv_iload_n hx hb dX6_showRow_61 rfl (lv_at hl 3 rfl) ?_
        refine lv_istore (lv' := [(6, .int p1), (5, .ref (ad (2 + z_1))), (0, .ref (ad 0)), (1, .int p0), (2, .int p1), (3, .int p2), (4, .int p3)]) hx hb dX6_showRow_62 hl (by decide) rfl (fun ls hl => ?_)
        refine lv_iconst (v := (0 : Int32)) hx hb dX6_showRow_64 (by decide) ?_
        refine lv_istore (lv' := [(7, .int (0 : Int32)), (6, .int p1), (5, .ref (ad (2 + z_1))), (0, .ref (ad 0)), (1, .int p0), (2, .int p1), (3, .int p2), (4, .int p3)]) hx hb dX6_showRow_65 hl (by decide) rfl (fun ls hl => ?_)
        have loop_42 : ∀ (fuel : Nat) (v6_41 v7_41 : Int32) (S_41 : qm_S) (z : qm_S), fX6_showRow_L67 p2 p3 z_1 fuel v6_41 v7_41 S_41 = some z → ∀ (H : Heap) (locs : List Loc) (ls : Array Slot), va_P D vwCl (qm_W ad cI cQ rest S_41) H → va_D A (qm_W ad cI cQ rest S_41) → va_S A s.heap H locs → lv_has ls 8 [(3, .int p2), (4, .int p3), (5, .ref (ad (2 + z_1))), (6, .int v6_41), (7, .int v7_41)] → (∀ (H : Heap) (locs : List Loc) (ls : Array Slot), va_P D vwCl (qm_W ad cI cQ rest z) H → va_D A (qm_W ad cI cQ rest z) → va_S A s.heap H locs → lv_has ls 8 [(5, .ref (ad (2 + z_1)))] → W p l e ({ frames := 6, cells := 0, slots := 0, locals := 147 } : Room) s m ([.ref (ad 0), .int p0, .int p1, .int p2, .int p3] : List Value).toArray below meth c H locs 0 0 QX (F0 m 107 ls [])) → W p l e ({ frames := 6, cells := 0, slots := 0, locals := 147 } : Room) s m ([.ref (ad 0), .int p0, .int p1, .int p2, .int p3] : List Value).toArray below meth c H locs 0 0 QX (F0 m 67 ls []) := by
          intro fuel
          induction fuel with
          | zero =>
            intro v6_41 v7_41 S_41 z h
            rw [fX6_showRow_L67] at h
            cases h
          | succ fuel ih =>
            intro v6_41 v7_41 S_41 z h H locs ls hP hD hS hl kex
            rw [fX6_showRow_L67] at h
            refine lv_iload hx hb dX6_showRow_67 (lv_at hl 4 rfl) ?_
            refine lv_iload hx hb dX6_showRow_69 (lv_at hl 1 rfl) ?_
            refine lv_icmp_ge (tgt := 107) hx hb dX6_showRow_71 (by decide) (fun c_43 => ?_) (fun c_43 => ?_)
            · rw [if_pos c_43] at h
              have h := Option.some.inj h
              subst h
              exact kex _ _ _ hP hD hS (lv_sub hl [2] rfl)
            · rw [if_neg c_43] at h
              refine lv_aload hx hb dX6_showRow_74 (lv_at hl 2 rfl) ?_
              refine lv_iload hx hb dX6_showRow_76 (lv_at hl 3 rfl) ?_
              obtain ⟨z_44, hz_45, h⟩ := qm_bind h
              refine va_callv (va_runV (As := [.int v6_41]) (rest := []) ⟨hx, hb, hml, hown, hts⟩ (kX0_take l D A ad cI cQ rest S_41 z_1 hk_3 v6_41 z_44 hz_45) (cwV 1 hts gX6_showRow_X0_take rfl rfl rfl (by decide +kernel) ⟨Nat.le_of_ble_eq_true rfl, Nat.le_of_ble_eq_true rfl⟩) ⟨qm_blind, va_recv hK hP (ci := 0) (q0 := (2 + z_1)) rfl (qg_C hk_3), fun U hU hW => ⟨rfl, qm_go hA hS hP hK hD hU hW⟩⟩ rfl rfl hl.1 rfl (lv_room (Nat.le_of_ble_eq_true rfl)) dX6_showRow_78 ⟨Nat.le_of_ble_eq_true rfl, Nat.le_of_ble_eq_true rfl⟩) hS (fun _ _ h9 => h9) (fun _ h9 => h9) (fun u t H1 locs1 ht hvm hw hB hz1 hk1 hS => ?_)
              have hw : z_44 = u := hw.symm
              subst hw
              obtain ⟨hP, hD⟩ := qm_bk ht hB
              clear hB
              refine lv_iload hx hb dX6_showRow_81 (lv_at hl 3 rfl) ?_
              refine lv_iload_n hx hb dX6_showRow_83 rfl (lv_at hl 0 rfl) ?_
              refine lv_iadd hx hb dX6_showRow_84 ?_
              refine lv_istore (lv' := [(6, .int (v6_41 + p2)), (3, .int p2), (4, .int p3), (5, .ref (ad (2 + z_1))), (7, .int v7_41)]) hx hb dX6_showRow_85 hl (by decide) rfl (fun ls hl => ?_)
              refine lv_iload hx hb dX6_showRow_87 (lv_at hl 0 rfl) ?_
              refine lv_sipush (v := (9999 : Int32)) hx hb dX6_showRow_89 (by decide) ?_
              refine lv_icmp_le (tgt := 101) hx hb dX6_showRow_92 (by decide) (fun c_46 => ?_) (fun c_46 => ?_)
              · rw [if_pos c_46] at h
                refine lv_iinc (v := v7_41 + (1 : Int32)) (lv' := [(7, .int (v7_41 + (1 : Int32))), (6, .int (v6_41 + p2)), (3, .int p2), (4, .int p3), (5, .ref (ad (2 + z_1)))]) hx hb dX6_showRow_101 hl (k := 4) rfl rfl (by decide) rfl (fun ls hl => ?_)
                refine lv_goto (tgt := 67) hx hb dX6_showRow_104 (by decide) ?_
                exact ih (v6_41 + p2) (v7_41 + (1 : Int32)) z_44 z h _ _ _ hP hD hS (lv_sub hl [2, 3, 4, 1, 0] rfl) kex
              · rw [if_neg c_46] at h
                refine lv_iincW (v := (v6_41 + p2) + (-20000 : Int32)) (lv' := [(6, .int ((v6_41 + p2) + (-20000 : Int32))), (3, .int p2), (4, .int p3), (5, .ref (ad (2 + z_1))), (7, .int v7_41)]) hx hb dX6_showRow_95 hl (k := 0) rfl (congrArg (fun q9 : Int32 => (v6_41 + p2) + q9) (show Int32.ofInt (-20000) = (-20000 : Int32) by decide)) (by decide) rfl (fun ls hl => ?_)
                refine lv_iinc (v := v7_41 + (1 : Int32)) (lv' := [(7, .int (v7_41 + (1 : Int32))), (6, .int ((v6_41 + p2) + (-20000 : Int32))), (3, .int p2), (4, .int p3), (5, .ref (ad (2 + z_1)))]) hx hb dX6_showRow_101 hl (k := 4) rfl rfl (by decide) rfl (fun ls hl => ?_)
                refine lv_goto (tgt := 67) hx hb dX6_showRow_104 (by decide) ?_
                exact ih ((v6_41 + p2) + (-20000 : Int32)) (v7_41 + (1 : Int32)) z_44 z h _ _ _ hP hD hS (lv_sub hl [2, 3, 4, 1, 0] rfl) kex
        obtain ⟨z_47, hz_48, h⟩ := qm_bind h
        refine loop_42 qm_F p1 (0 : Int32) S z_47 hz_48 _ _ _ hP hD hS (lv_sub hl [6, 7, 2, 1, 0] rfl) (fun H locs ls hP hD hS hl => ?_)
        refine lv_aload hx hb dX6_showRow_107 (lv_at hl 0 rfl) ?_
        refine va_getN (D := D) (ci := 0) (v := .ref (ad (6 + z_1))) (C := RX0) (T := TX0) (N := 4) hx hb hts (by decide +kernel) hown hK hP (2 + z_1) (qg_C hk_3) rfl 0 (by decide) (va_Nw.use rfl (qz_frow hZ)) (fun _ h9 => h9) rfl dX6_showRow_109 ?_
        refine va_calli (va_runV (As := []) (rest := []) ⟨hx, hb, hml, hown, hts⟩ (nX3_length l D A ad cI cQ rest z_47 z_1 hk_3) (cwV 0 hts gX6_showRow_X3_length rfl rfl rfl (by decide +kernel) ⟨Nat.le_of_ble_eq_true rfl, Nat.le_of_ble_eq_true rfl⟩) ⟨qm_blind, va_recv hK hP (ci := 3) (q0 := (6 + z_1)) rfl (qg_M hk_3), fun U hU hW => ⟨rfl, qm_go hA hS hP hK hD hU hW⟩⟩ rfl rfl hl.1 rfl (lv_room (Nat.le_of_ble_eq_true rfl)) dX6_showRow_112 ⟨Nat.le_of_ble_eq_true rfl, Nat.le_of_ble_eq_true rfl⟩) hS (fun _ _ h9 => h9) (fun _ h9 => h9) (fun v u t H1 locs1 ht hvm hw hB hz1 hk1 hS => ?_)
        obtain ⟨hw1, hw2⟩ := hw
        have hw2 : z_47 = u := hw2.symm
        have hw1 : ((z_47.1 z_1).1) = v := hw1.symm
        subst hw1
        subst hw2
        obtain ⟨hP, hD⟩ := qm_bk ht hB
        clear hB
        have h := Option.some.inj h
        subst h
        rw [hQX]
        exact W.iret (v := ((z_47.1 z_1).1)) hx hb hr (fun t ht hW => ⟨⟨((z_47.1 z_1).1), z_47, rfl, ⟨rfl, rfl⟩, qm_en ht hP hD⟩, hS.F ht⟩) hS.2.2 dX6_showRow_115
  · rw [if_neg c_8] at h
    refine lv_iload_n hx hb dX6_showRow_18 rfl (lv_at hl 4 rfl) ?_
    refine lv_sipush (v := (9999 : Int32)) hx hb dX6_showRow_19 (by decide) ?_
    refine lv_icmp_gt (tgt := 29) hx hb dX6_showRow_22 (by decide) (fun c_49 => ?_) (fun c_49 => ?_)
    · rw [if_pos c_49] at h
      refine lv_iconst (v := (0 : Int32)) hx hb dX6_showRow_29 (by decide) ?_
      obtain ⟨z_50, hz_51, h⟩ := qm_bind h
      refine va_callv (va_runS (As := [.int (0 : Int32)]) (rest := []) ⟨hx, hb, hml, hown, hts⟩ (kX6_demandInRange l D A ad cI cQ rest S (0 : Int32) z_50 hz_51) (va_cwS 1 hts gX6_showRow_X6_demandInRange rfl rfl rfl (by decide +kernel) ⟨Nat.le_of_ble_eq_true rfl, Nat.le_of_ble_eq_true rfl⟩) ⟨qm_blind, fun U hU hW => ⟨rfl, qm_go hA hS hP hK hD hU hW⟩⟩ rfl rfl hl.1 rfl (lv_room (Nat.le_of_ble_eq_true rfl)) dX6_showRow_30 ⟨Nat.le_of_ble_eq_true rfl, Nat.le_of_ble_eq_true rfl⟩) hS (fun _ _ h9 => h9) (fun _ h9 => h9) (fun u t H1 locs1 ht hvm hw hB hz1 hk1 hS => ?_)
      have hw : S = u := hw.symm
      subst hw
      obtain ⟨hP, hD⟩ := qm_bk ht hB
      clear hB
      refine lv_iload hx hb dX6_showRow_33 (lv_at hl 5 rfl) ?_
      refine lv_iconst (v := (1 : Int32)) hx hb dX6_showRow_35 (by decide) ?_
      refine lv_icmp_lt (tgt := 50) hx hb dX6_showRow_36 (by decide) (fun c_52 => ?_) (fun c_52 => ?_)
      · rw [if_pos c_52] at h
        refine lv_iconst (v := (0 : Int32)) hx hb dX6_showRow_50 (by decide) ?_
        obtain ⟨z_53, hz_54, h⟩ := qm_bind h
        refine va_callv (va_runS (As := [.int (0 : Int32)]) (rest := []) ⟨hx, hb, hml, hown, hts⟩ (kX6_demandInRange l D A ad cI cQ rest S (0 : Int32) z_53 hz_54) (va_cwS 1 hts gX6_showRow_X6_demandInRange rfl rfl rfl (by decide +kernel) ⟨Nat.le_of_ble_eq_true rfl, Nat.le_of_ble_eq_true rfl⟩) ⟨qm_blind, fun U hU hW => ⟨rfl, qm_go hA hS hP hK hD hU hW⟩⟩ rfl rfl hl.1 rfl (lv_room (Nat.le_of_ble_eq_true rfl)) dX6_showRow_51 ⟨Nat.le_of_ble_eq_true rfl, Nat.le_of_ble_eq_true rfl⟩) hS (fun _ _ h9 => h9) (fun _ h9 => h9) (fun u t H1 locs1 ht hvm hw hB hz1 hk1 hS => ?_)
        have hw : S = u := hw.symm
        subst hw
        obtain ⟨hP, hD⟩ := qm_bk ht hB
        clear hB
        refine lv_aload hx hb dX6_showRow_54 (lv_at hl 0 rfl) ?_
        refine lv_iload hx hb dX6_showRow_56 (lv_at hl 5 rfl) ?_
        obtain ⟨z_55, hz_56, h⟩ := qm_bind h
        refine va_callv (va_runV (As := [.int p3]) (rest := []) ⟨hx, hb, hml, hown, hts⟩ (kX0_demandRoomFor l D A ad cI cQ rest S z_1 hk_3 p3 z_55 hz_56) (cwV 1 hts gX6_showRow_X0_demandRoomFor rfl rfl rfl (by decide +kernel) ⟨Nat.le_of_ble_eq_true rfl, Nat.le_of_ble_eq_true rfl⟩) ⟨qm_blind, va_recv hK hP (ci := 0) (q0 := (2 + z_1)) rfl (qg_C hk_3), fun U hU hW => ⟨rfl, qm_go hA hS hP hK hD hU hW⟩⟩ rfl rfl hl.1 rfl (lv_room (Nat.le_of_ble_eq_true rfl)) dX6_showRow_58 ⟨Nat.le_of_ble_eq_true rfl, Nat.le_of_ble_eq_true rfl⟩) hS (fun _ _ h9 => h9) (fun _ h9 => h9) (fun u t H1 locs1 ht hvm hw hB hz1 hk1 hS => ?_)
        have hw : S = u := hw.symm
        subst hw
        obtain ⟨hP, hD⟩ := qm_bk ht hB
        clear hB
        refine lv_iload_n hx hb dX6_showRow_61 rfl (lv_at hl 3 rfl) ?_
        refine lv_istore (lv' := [(6, .int p1), (5, .ref (ad (2 + z_1))), (0, .ref (ad 0)), (1, .int p0), (2, .int p1), (3, .int p2), (4, .int p3)]) hx hb dX6_showRow_62 hl (by decide) rfl (fun ls hl => ?_)
        refine lv_iconst (v := (0 : Int32)) hx hb dX6_showRow_64 (by decide) ?_
        refine lv_istore (lv' := [(7, .int (0 : Int32)), (6, .int p1), (5, .ref (ad (2 + z_1))), (0, .ref (ad 0)), (1, .int p0), (2, .int p1), (3, .int p2), (4, .int p3)]) hx hb dX6_showRow_65 hl (by decide) rfl (fun ls hl => ?_)
        have loop_58 : ∀ (fuel : Nat) (v6_57 v7_57 : Int32) (S_57 : qm_S) (z : qm_S), fX6_showRow_L67 p2 p3 z_1 fuel v6_57 v7_57 S_57 = some z → ∀ (H : Heap) (locs : List Loc) (ls : Array Slot), va_P D vwCl (qm_W ad cI cQ rest S_57) H → va_D A (qm_W ad cI cQ rest S_57) → va_S A s.heap H locs → lv_has ls 8 [(3, .int p2), (4, .int p3), (5, .ref (ad (2 + z_1))), (6, .int v6_57), (7, .int v7_57)] → (∀ (H : Heap) (locs : List Loc) (ls : Array Slot), va_P D vwCl (qm_W ad cI cQ rest z) H → va_D A (qm_W ad cI cQ rest z) → va_S A s.heap H locs → lv_has ls 8 [(5, .ref (ad (2 + z_1)))] → W p l e ({ frames := 6, cells := 0, slots := 0, locals := 147 } : Room) s m ([.ref (ad 0), .int p0, .int p1, .int p2, .int p3] : List Value).toArray below meth c H locs 0 0 QX (F0 m 107 ls [])) → W p l e ({ frames := 6, cells := 0, slots := 0, locals := 147 } : Room) s m ([.ref (ad 0), .int p0, .int p1, .int p2, .int p3] : List Value).toArray below meth c H locs 0 0 QX (F0 m 67 ls []) := by
          intro fuel
          induction fuel with
          | zero =>
            intro v6_57 v7_57 S_57 z h
            rw [fX6_showRow_L67] at h
            cases h
          | succ fuel ih =>
            intro v6_57 v7_57 S_57 z h H locs ls hP hD hS hl kex
            rw [fX6_showRow_L67] at h
            refine lv_iload hx hb dX6_showRow_67 (lv_at hl 4 rfl) ?_
            refine lv_iload hx hb dX6_showRow_69 (lv_at hl 1 rfl) ?_
            refine lv_icmp_ge (tgt := 107) hx hb dX6_showRow_71 (by decide) (fun c_59 => ?_) (fun c_59 => ?_)
            · rw [if_pos c_59] at h
              have h := Option.some.inj h
              subst h
              exact kex _ _ _ hP hD hS (lv_sub hl [2] rfl)
            · rw [if_neg c_59] at h
              refine lv_aload hx hb dX6_showRow_74 (lv_at hl 2 rfl) ?_
              refine lv_iload hx hb dX6_showRow_76 (lv_at hl 3 rfl) ?_
              obtain ⟨z_60, hz_61, h⟩ := qm_bind h
              refine va_callv (va_runV (As := [.int v6_57]) (rest := []) ⟨hx, hb, hml, hown, hts⟩ (kX0_take l D A ad cI cQ rest S_57 z_1 hk_3 v6_57 z_60 hz_61) (cwV 1 hts gX6_showRow_X0_take rfl rfl rfl (by decide +kernel) ⟨Nat.le_of_ble_eq_true rfl, Nat.le_of_ble_eq_true rfl⟩) ⟨qm_blind, va_recv hK hP (ci := 0) (q0 := (2 + z_1)) rfl (qg_C hk_3), fun U hU hW => ⟨rfl, qm_go hA hS hP hK hD hU hW⟩⟩ rfl rfl hl.1 rfl (lv_room (Nat.le_of_ble_eq_true rfl)) dX6_showRow_78 ⟨Nat.le_of_ble_eq_true rfl, Nat.le_of_ble_eq_true rfl⟩) hS (fun _ _ h9 => h9) (fun _ h9 => h9) (fun u t H1 locs1 ht hvm hw hB hz1 hk1 hS => ?_)
              have hw : z_60 = u := hw.symm
              subst hw
              obtain ⟨hP, hD⟩ := qm_bk ht hB
              clear hB
              refine lv_iload hx hb dX6_showRow_81 (lv_at hl 3 rfl) ?_
              refine lv_iload_n hx hb dX6_showRow_83 rfl (lv_at hl 0 rfl) ?_
              refine lv_iadd hx hb dX6_showRow_84 ?_
              refine lv_istore (lv' := [(6, .int (v6_57 + p2)), (3, .int p2), (4, .int p3), (5, .ref (ad (2 + z_1))), (7, .int v7_57)]) hx hb dX6_showRow_85 hl (by decide) rfl (fun ls hl => ?_)
              refine lv_iload hx hb dX6_showRow_87 (lv_at hl 0 rfl) ?_
              refine lv_sipush (v := (9999 : Int32)) hx hb dX6_showRow_89 (by decide) ?_
              refine lv_icmp_le (tgt := 101) hx hb dX6_showRow_92 (by decide) (fun c_62 => ?_) (fun c_62 => ?_)
              · rw [if_pos c_62] at h
                refine lv_iinc (v := v7_57 + (1 : Int32)) (lv' := [(7, .int (v7_57 + (1 : Int32))), (6, .int (v6_57 + p2)), (3, .int p2), (4, .int p3), (5, .ref (ad (2 + z_1)))]) hx hb dX6_showRow_101 hl (k := 4) rfl rfl (by decide) rfl (fun ls hl => ?_)
                refine lv_goto (tgt := 67) hx hb dX6_showRow_104 (by decide) ?_
                exact ih (v6_57 + p2) (v7_57 + (1 : Int32)) z_60 z h _ _ _ hP hD hS (lv_sub hl [2, 3, 4, 1, 0] rfl) kex
              · rw [if_neg c_62] at h
                refine lv_iincW (v := (v6_57 + p2) + (-20000 : Int32)) (lv' := [(6, .int ((v6_57 + p2) + (-20000 : Int32))), (3, .int p2), (4, .int p3), (5, .ref (ad (2 + z_1))), (7, .int v7_57)]) hx hb dX6_showRow_95 hl (k := 0) rfl (congrArg (fun q9 : Int32 => (v6_57 + p2) + q9) (show Int32.ofInt (-20000) = (-20000 : Int32) by decide)) (by decide) rfl (fun ls hl => ?_)
                refine lv_iinc (v := v7_57 + (1 : Int32)) (lv' := [(7, .int (v7_57 + (1 : Int32))), (6, .int ((v6_57 + p2) + (-20000 : Int32))), (3, .int p2), (4, .int p3), (5, .ref (ad (2 + z_1)))]) hx hb dX6_showRow_101 hl (k := 4) rfl rfl (by decide) rfl (fun ls hl => ?_)
                refine lv_goto (tgt := 67) hx hb dX6_showRow_104 (by decide) ?_
                exact ih ((v6_57 + p2) + (-20000 : Int32)) (v7_57 + (1 : Int32)) z_60 z h _ _ _ hP hD hS (lv_sub hl [2, 3, 4, 1, 0] rfl) kex
        obtain ⟨z_63, hz_64, h⟩ := qm_bind h
        refine loop_58 qm_F p1 (0 : Int32) S z_63 hz_64 _ _ _ hP hD hS (lv_sub hl [6, 7, 2, 1, 0] rfl) (fun H locs ls hP hD hS hl => ?_)
        refine lv_aload hx hb dX6_showRow_107 (lv_at hl 0 rfl) ?_
        refine va_getN (D := D) (ci := 0) (v := .ref (ad (6 + z_1))) (C := RX0) (T := TX0) (N := 4) hx hb hts (by decide +kernel) hown hK hP (2 + z_1) (qg_C hk_3) rfl 0 (by decide) (va_Nw.use rfl (qz_frow hZ)) (fun _ h9 => h9) rfl dX6_showRow_109 ?_
        refine va_calli (va_runV (As := []) (rest := []) ⟨hx, hb, hml, hown, hts⟩ (nX3_length l D A ad cI cQ rest z_63 z_1 hk_3) (cwV 0 hts gX6_showRow_X3_length rfl rfl rfl (by decide +kernel) ⟨Nat.le_of_ble_eq_true rfl, Nat.le_of_ble_eq_true rfl⟩) ⟨qm_blind, va_recv hK hP (ci := 3) (q0 := (6 + z_1)) rfl (qg_M hk_3), fun U hU hW => ⟨rfl, qm_go hA hS hP hK hD hU hW⟩⟩ rfl rfl hl.1 rfl (lv_room (Nat.le_of_ble_eq_true rfl)) dX6_showRow_112 ⟨Nat.le_of_ble_eq_true rfl, Nat.le_of_ble_eq_true rfl⟩) hS (fun _ _ h9 => h9) (fun _ h9 => h9) (fun v u t H1 locs1 ht hvm hw hB hz1 hk1 hS => ?_)
        obtain ⟨hw1, hw2⟩ := hw
        have hw2 : z_63 = u := hw2.symm
        have hw1 : ((z_63.1 z_1).1) = v := hw1.symm
        subst hw1
        subst hw2
        obtain ⟨hP, hD⟩ := qm_bk ht hB
        clear hB
        have h := Option.some.inj h
        subst h
        rw [hQX]
        exact W.iret (v := ((z_63.1 z_1).1)) hx hb hr (fun t ht hW => ⟨⟨((z_63.1 z_1).1), z_63, rfl, ⟨rfl, rfl⟩, qm_en ht hP hD⟩, hS.F ht⟩) hS.2.2 dX6_showRow_115
      · rw [if_neg c_52] at h
        refine lv_iload hx hb dX6_showRow_39 (lv_at hl 5 rfl) ?_
        refine lv_bipush (v := (100 : Int32)) hx hb dX6_showRow_41 (by decide) ?_
        refine lv_icmp_gt (tgt := 50) hx hb dX6_showRow_43 (by decide) (fun c_65 => ?_) (fun c_65 => ?_)
        · rw [if_pos c_65] at h
          refine lv_iconst (v := (0 : Int32)) hx hb dX6_showRow_50 (by decide) ?_
          obtain ⟨z_66, hz_67, h⟩ := qm_bind h
          refine va_callv (va_runS (As := [.int (0 : Int32)]) (rest := []) ⟨hx, hb, hml, hown, hts⟩ (kX6_demandInRange l D A ad cI cQ rest S (0 : Int32) z_66 hz_67) (va_cwS 1 hts gX6_showRow_X6_demandInRange rfl rfl rfl (by decide +kernel) ⟨Nat.le_of_ble_eq_true rfl, Nat.le_of_ble_eq_true rfl⟩) ⟨qm_blind, fun U hU hW => ⟨rfl, qm_go hA hS hP hK hD hU hW⟩⟩ rfl rfl hl.1 rfl (lv_room (Nat.le_of_ble_eq_true rfl)) dX6_showRow_51 ⟨Nat.le_of_ble_eq_true rfl, Nat.le_of_ble_eq_true rfl⟩) hS (fun _ _ h9 => h9) (fun _ h9 => h9) (fun u t H1 locs1 ht hvm hw hB hz1 hk1 hS => ?_)
          have hw : S = u := hw.symm
          subst hw
          obtain ⟨hP, hD⟩ := qm_bk ht hB
          clear hB
          refine lv_aload hx hb dX6_showRow_54 (lv_at hl 0 rfl) ?_
          refine lv_iload hx hb dX6_showRow_56 (lv_at hl 5 rfl) ?_
          obtain ⟨z_68, hz_69, h⟩ := qm_bind h
          refine va_callv (va_runV (As := [.int p3]) (rest := []) ⟨hx, hb, hml, hown, hts⟩ (kX0_demandRoomFor l D A ad cI cQ rest S z_1 hk_3 p3 z_68 hz_69) (cwV 1 hts gX6_showRow_X0_demandRoomFor rfl rfl rfl (by decide +kernel) ⟨Nat.le_of_ble_eq_true rfl, Nat.le_of_ble_eq_true rfl⟩) ⟨qm_blind, va_recv hK hP (ci := 0) (q0 := (2 + z_1)) rfl (qg_C hk_3), fun U hU hW => ⟨rfl, qm_go hA hS hP hK hD hU hW⟩⟩ rfl rfl hl.1 rfl (lv_room (Nat.le_of_ble_eq_true rfl)) dX6_showRow_58 ⟨Nat.le_of_ble_eq_true rfl, Nat.le_of_ble_eq_true rfl⟩) hS (fun _ _ h9 => h9) (fun _ h9 => h9) (fun u t H1 locs1 ht hvm hw hB hz1 hk1 hS => ?_)
          have hw : S = u := hw.symm
          subst hw
          obtain ⟨hP, hD⟩ := qm_bk ht hB
          clear hB
          refine lv_iload_n hx hb dX6_showRow_61 rfl (lv_at hl 3 rfl) ?_
          refine lv_istore (lv' := [(6, .int p1), (5, .ref (ad (2 + z_1))), (0, .ref (ad 0)), (1, .int p0), (2, .int p1), (3, .int p2), (4, .int p3)]) hx hb dX6_showRow_62 hl (by decide) rfl (fun ls hl => ?_)
          refine lv_iconst (v := (0 : Int32)) hx hb dX6_showRow_64 (by decide) ?_
          refine lv_istore (lv' := [(7, .int (0 : Int32)), (6, .int p1), (5, .ref (ad (2 + z_1))), (0, .ref (ad 0)), (1, .int p0), (2, .int p1), (3, .int p2), (4, .int p3)]) hx hb dX6_showRow_65 hl (by decide) rfl (fun ls hl => ?_)
          have loop_71 : ∀ (fuel : Nat) (v6_70 v7_70 : Int32) (S_70 : qm_S) (z : qm_S), fX6_showRow_L67 p2 p3 z_1 fuel v6_70 v7_70 S_70 = some z → ∀ (H : Heap) (locs : List Loc) (ls : Array Slot), va_P D vwCl (qm_W ad cI cQ rest S_70) H → va_D A (qm_W ad cI cQ rest S_70) → va_S A s.heap H locs → lv_has ls 8 [(3, .int p2), (4, .int p3), (5, .ref (ad (2 + z_1))), (6, .int v6_70), (7, .int v7_70)] → (∀ (H : Heap) (locs : List Loc) (ls : Array Slot), va_P D vwCl (qm_W ad cI cQ rest z) H → va_D A (qm_W ad cI cQ rest z) → va_S A s.heap H locs → lv_has ls 8 [(5, .ref (ad (2 + z_1)))] → W p l e ({ frames := 6, cells := 0, slots := 0, locals := 147 } : Room) s m ([.ref (ad 0), .int p0, .int p1, .int p2, .int p3] : List Value).toArray below meth c H locs 0 0 QX (F0 m 107 ls [])) → W p l e ({ frames := 6, cells := 0, slots := 0, locals := 147 } : Room) s m ([.ref (ad 0), .int p0, .int p1, .int p2, .int p3] : List Value).toArray below meth c H locs 0 0 QX (F0 m 67 ls []) := by
            intro fuel
            induction fuel with
            | zero =>
              intro v6_70 v7_70 S_70 z h
              rw [fX6_showRow_L67] at h
              cases h
            | succ fuel ih =>
              intro v6_70 v7_70 S_70 z h H locs ls hP hD hS hl kex
              rw [fX6_showRow_L67] at h
              refine lv_iload hx hb dX6_showRow_67 (lv_at hl 4 rfl) ?_
              refine lv_iload hx hb dX6_showRow_69 (lv_at hl 1 rfl) ?_
              refine lv_icmp_ge (tgt := 107) hx hb dX6_showRow_71 (by decide) (fun c_72 => ?_) (fun c_72 => ?_)
              · rw [if_pos c_72] at h
                have h := Option.some.inj h
                subst h
                exact kex _ _ _ hP hD hS (lv_sub hl [2] rfl)
              · rw [if_neg c_72] at h
                refine lv_aload hx hb dX6_showRow_74 (lv_at hl 2 rfl) ?_
                refine lv_iload hx hb dX6_showRow_76 (lv_at hl 3 rfl) ?_
                obtain ⟨z_73, hz_74, h⟩ := qm_bind h
                refine va_callv (va_runV (As := [.int v6_70]) (rest := []) ⟨hx, hb, hml, hown, hts⟩ (kX0_take l D A ad cI cQ rest S_70 z_1 hk_3 v6_70 z_73 hz_74) (cwV 1 hts gX6_showRow_X0_take rfl rfl rfl (by decide +kernel) ⟨Nat.le_of_ble_eq_true rfl, Nat.le_of_ble_eq_true rfl⟩) ⟨qm_blind, va_recv hK hP (ci := 0) (q0 := (2 + z_1)) rfl (qg_C hk_3), fun U hU hW => ⟨rfl, qm_go hA hS hP hK hD hU hW⟩⟩ rfl rfl hl.1 rfl (lv_room (Nat.le_of_ble_eq_true rfl)) dX6_showRow_78 ⟨Nat.le_of_ble_eq_true rfl, Nat.le_of_ble_eq_true rfl⟩) hS (fun _ _ h9 => h9) (fun _ h9 => h9) (fun u t H1 locs1 ht hvm hw hB hz1 hk1 hS => ?_)
                have hw : z_73 = u := hw.symm
                subst hw
                obtain ⟨hP, hD⟩ := qm_bk ht hB
                clear hB
                refine lv_iload hx hb dX6_showRow_81 (lv_at hl 3 rfl) ?_
                refine lv_iload_n hx hb dX6_showRow_83 rfl (lv_at hl 0 rfl) ?_
                refine lv_iadd hx hb dX6_showRow_84 ?_
                refine lv_istore (lv' := [(6, .int (v6_70 + p2)), (3, .int p2), (4, .int p3), (5, .ref (ad (2 + z_1))), (7, .int v7_70)]) hx hb dX6_showRow_85 hl (by decide) rfl (fun ls hl => ?_)
                refine lv_iload hx hb dX6_showRow_87 (lv_at hl 0 rfl) ?_
                refine lv_sipush (v := (9999 : Int32)) hx hb dX6_showRow_89 (by decide) ?_
                refine lv_icmp_le (tgt := 101) hx hb dX6_showRow_92 (by decide) (fun c_75 => ?_) (fun c_75 => ?_)
                · rw [if_pos c_75] at h
                  refine lv_iinc (v := v7_70 + (1 : Int32)) (lv' := [(7, .int (v7_70 + (1 : Int32))), (6, .int (v6_70 + p2)), (3, .int p2), (4, .int p3), (5, .ref (ad (2 + z_1)))]) hx hb dX6_showRow_101 hl (k := 4) rfl rfl (by decide) rfl (fun ls hl => ?_)
                  refine lv_goto (tgt := 67) hx hb dX6_showRow_104 (by decide) ?_
                  exact ih (v6_70 + p2) (v7_70 + (1 : Int32)) z_73 z h _ _ _ hP hD hS (lv_sub hl [2, 3, 4, 1, 0] rfl) kex
                · rw [if_neg c_75] at h
                  refine lv_iincW (v := (v6_70 + p2) + (-20000 : Int32)) (lv' := [(6, .int ((v6_70 + p2) + (-20000 : Int32))), (3, .int p2), (4, .int p3), (5, .ref (ad (2 + z_1))), (7, .int v7_70)]) hx hb dX6_showRow_95 hl (k := 0) rfl (congrArg (fun q9 : Int32 => (v6_70 + p2) + q9) (show Int32.ofInt (-20000) = (-20000 : Int32) by decide)) (by decide) rfl (fun ls hl => ?_)
                  refine lv_iinc (v := v7_70 + (1 : Int32)) (lv' := [(7, .int (v7_70 + (1 : Int32))), (6, .int ((v6_70 + p2) + (-20000 : Int32))), (3, .int p2), (4, .int p3), (5, .ref (ad (2 + z_1)))]) hx hb dX6_showRow_101 hl (k := 4) rfl rfl (by decide) rfl (fun ls hl => ?_)
                  refine lv_goto (tgt := 67) hx hb dX6_showRow_104 (by decide) ?_
                  exact ih ((v6_70 + p2) + (-20000 : Int32)) (v7_70 + (1 : Int32)) z_73 z h _ _ _ hP hD hS (lv_sub hl [2, 3, 4, 1, 0] rfl) kex
          obtain ⟨z_76, hz_77, h⟩ := qm_bind h
          refine loop_71 qm_F p1 (0 : Int32) S z_76 hz_77 _ _ _ hP hD hS (lv_sub hl [6, 7, 2, 1, 0] rfl) (fun H locs ls hP hD hS hl => ?_)
          refine lv_aload hx hb dX6_showRow_107 (lv_at hl 0 rfl) ?_
          refine va_getN (D := D) (ci := 0) (v := .ref (ad (6 + z_1))) (C := RX0) (T := TX0) (N := 4) hx hb hts (by decide +kernel) hown hK hP (2 + z_1) (qg_C hk_3) rfl 0 (by decide) (va_Nw.use rfl (qz_frow hZ)) (fun _ h9 => h9) rfl dX6_showRow_109 ?_
          refine va_calli (va_runV (As := []) (rest := []) ⟨hx, hb, hml, hown, hts⟩ (nX3_length l D A ad cI cQ rest z_76 z_1 hk_3) (cwV 0 hts gX6_showRow_X3_length rfl rfl rfl (by decide +kernel) ⟨Nat.le_of_ble_eq_true rfl, Nat.le_of_ble_eq_true rfl⟩) ⟨qm_blind, va_recv hK hP (ci := 3) (q0 := (6 + z_1)) rfl (qg_M hk_3), fun U hU hW => ⟨rfl, qm_go hA hS hP hK hD hU hW⟩⟩ rfl rfl hl.1 rfl (lv_room (Nat.le_of_ble_eq_true rfl)) dX6_showRow_112 ⟨Nat.le_of_ble_eq_true rfl, Nat.le_of_ble_eq_true rfl⟩) hS (fun _ _ h9 => h9) (fun _ h9 => h9) (fun v u t H1 locs1 ht hvm hw hB hz1 hk1 hS => ?_)
          obtain ⟨hw1, hw2⟩ := hw
          have hw2 : z_76 = u := hw2.symm
          have hw1 : ((z_76.1 z_1).1) = v := hw1.symm
          subst hw1
          subst hw2
          obtain ⟨hP, hD⟩ := qm_bk ht hB
          clear hB
          have h := Option.some.inj h
          subst h
          rw [hQX]
          exact W.iret (v := ((z_76.1 z_1).1)) hx hb hr (fun t ht hW => ⟨⟨((z_76.1 z_1).1), z_76, rfl, ⟨rfl, rfl⟩, qm_en ht hP hD⟩, hS.F ht⟩) hS.2.2 dX6_showRow_115
        · rw [if_neg c_65] at h
          refine lv_iconst (v := (1 : Int32)) hx hb dX6_showRow_46 (by decide) ?_
          refine lv_goto (tgt := 51) hx hb dX6_showRow_47 (by decide) ?_
          obtain ⟨z_78, hz_79, h⟩ := qm_bind h
          refine va_callv (va_runS (As := [.int (1 : Int32)]) (rest := []) ⟨hx, hb, hml, hown, hts⟩ (kX6_demandInRange l D A ad cI cQ rest S (1 : Int32) z_78 hz_79) (va_cwS 1 hts gX6_showRow_X6_demandInRange rfl rfl rfl (by decide +kernel) ⟨Nat.le_of_ble_eq_true rfl, Nat.le_of_ble_eq_true rfl⟩) ⟨qm_blind, fun U hU hW => ⟨rfl, qm_go hA hS hP hK hD hU hW⟩⟩ rfl rfl hl.1 rfl (lv_room (Nat.le_of_ble_eq_true rfl)) dX6_showRow_51 ⟨Nat.le_of_ble_eq_true rfl, Nat.le_of_ble_eq_true rfl⟩) hS (fun _ _ h9 => h9) (fun _ h9 => h9) (fun u t H1 locs1 ht hvm hw hB hz1 hk1 hS => ?_)
          have hw : S = u := hw.symm
          subst hw
          obtain ⟨hP, hD⟩ := qm_bk ht hB
          clear hB
          refine lv_aload hx hb dX6_showRow_54 (lv_at hl 0 rfl) ?_
          refine lv_iload hx hb dX6_showRow_56 (lv_at hl 5 rfl) ?_
          obtain ⟨z_80, hz_81, h⟩ := qm_bind h
          refine va_callv (va_runV (As := [.int p3]) (rest := []) ⟨hx, hb, hml, hown, hts⟩ (kX0_demandRoomFor l D A ad cI cQ rest S z_1 hk_3 p3 z_80 hz_81) (cwV 1 hts gX6_showRow_X0_demandRoomFor rfl rfl rfl (by decide +kernel) ⟨Nat.le_of_ble_eq_true rfl, Nat.le_of_ble_eq_true rfl⟩) ⟨qm_blind, va_recv hK hP (ci := 0) (q0 := (2 + z_1)) rfl (qg_C hk_3), fun U hU hW => ⟨rfl, qm_go hA hS hP hK hD hU hW⟩⟩ rfl rfl hl.1 rfl (lv_room (Nat.le_of_ble_eq_true rfl)) dX6_showRow_58 ⟨Nat.le_of_ble_eq_true rfl, Nat.le_of_ble_eq_true rfl⟩) hS (fun _ _ h9 => h9) (fun _ h9 => h9) (fun u t H1 locs1 ht hvm hw hB hz1 hk1 hS => ?_)
          have hw : S = u := hw.symm
          subst hw
          obtain ⟨hP, hD⟩ := qm_bk ht hB
          clear hB
          refine lv_iload_n hx hb dX6_showRow_61 rfl (lv_at hl 3 rfl) ?_
          refine lv_istore (lv' := [(6, .int p1), (5, .ref (ad (2 + z_1))), (0, .ref (ad 0)), (1, .int p0), (2, .int p1), (3, .int p2), (4, .int p3)]) hx hb dX6_showRow_62 hl (by decide) rfl (fun ls hl => ?_)
          refine lv_iconst (v := (0 : Int32)) hx hb dX6_showRow_64 (by decide) ?_
          refine lv_istore (lv' := [(7, .int (0 : Int32)), (6, .int p1), (5, .ref (ad (2 + z_1))), (0, .ref (ad 0)), (1, .int p0), (2, .int p1), (3, .int p2), (4, .int p3)]) hx hb dX6_showRow_65 hl (by decide) rfl (fun ls hl => ?_)
          have loop_83 : ∀ (fuel : Nat) (v6_82 v7_82 : Int32) (S_82 : qm_S) (z : qm_S), fX6_showRow_L67 p2 p3 z_1 fuel v6_82 v7_82 S_82 = some z → ∀ (H : Heap) (locs : List Loc) (ls : Array Slot), va_P D vwCl (qm_W ad cI cQ rest S_82) H → va_D A (qm_W ad cI cQ rest S_82) → va_S A s.heap H locs → lv_has ls 8 [(3, .int p2), (4, .int p3), (5, .ref (ad (2 + z_1))), (6, .int v6_82), (7, .int v7_82)] → (∀ (H : Heap) (locs : List Loc) (ls : Array Slot), va_P D vwCl (qm_W ad cI cQ rest z) H → va_D A (qm_W ad cI cQ rest z) → va_S A s.heap H locs → lv_has ls 8 [(5, .ref (ad (2 + z_1)))] → W p l e ({ frames := 6, cells := 0, slots := 0, locals := 147 } : Room) s m ([.ref (ad 0), .int p0, .int p1, .int p2, .int p3] : List Value).toArray below meth c H locs 0 0 QX (F0 m 107 ls [])) → W p l e ({ frames := 6, cells := 0, slots := 0, locals := 147 } : Room) s m ([.ref (ad 0), .int p0, .int p1, .int p2, .int p3] : List Value).toArray below meth c H locs 0 0 QX (F0 m 67 ls []) := by
            intro fuel
            induction fuel with
            | zero =>
              intro v6_82 v7_82 S_82 z h
              rw [fX6_showRow_L67] at h
              cases h
            | succ fuel ih =>
              intro v6_82 v7_82 S_82 z h H locs ls hP hD hS hl kex
              rw [fX6_showRow_L67] at h
              refine lv_iload hx hb dX6_showRow_67 (lv_at hl 4 rfl) ?_
              refine lv_iload hx hb dX6_showRow_69 (lv_at hl 1 rfl) ?_
              refine lv_icmp_ge (tgt := 107) hx hb dX6_showRow_71 (by decide) (fun c_84 => ?_) (fun c_84 => ?_)
              · rw [if_pos c_84] at h
                have h := Option.some.inj h
                subst h
                exact kex _ _ _ hP hD hS (lv_sub hl [2] rfl)
              · rw [if_neg c_84] at h
                refine lv_aload hx hb dX6_showRow_74 (lv_at hl 2 rfl) ?_
                refine lv_iload hx hb dX6_showRow_76 (lv_at hl 3 rfl) ?_
                obtain ⟨z_85, hz_86, h⟩ := qm_bind h
                refine va_callv (va_runV (As := [.int v6_82]) (rest := []) ⟨hx, hb, hml, hown, hts⟩ (kX0_take l D A ad cI cQ rest S_82 z_1 hk_3 v6_82 z_85 hz_86) (cwV 1 hts gX6_showRow_X0_take rfl rfl rfl (by decide +kernel) ⟨Nat.le_of_ble_eq_true rfl, Nat.le_of_ble_eq_true rfl⟩) ⟨qm_blind, va_recv hK hP (ci := 0) (q0 := (2 + z_1)) rfl (qg_C hk_3), fun U hU hW => ⟨rfl, qm_go hA hS hP hK hD hU hW⟩⟩ rfl rfl hl.1 rfl (lv_room (Nat.le_of_ble_eq_true rfl)) dX6_showRow_78 ⟨Nat.le_of_ble_eq_true rfl, Nat.le_of_ble_eq_true rfl⟩) hS (fun _ _ h9 => h9) (fun _ h9 => h9) (fun u t H1 locs1 ht hvm hw hB hz1 hk1 hS => ?_)
                have hw : z_85 = u := hw.symm
                subst hw
                obtain ⟨hP, hD⟩ := qm_bk ht hB
                clear hB
                refine lv_iload hx hb dX6_showRow_81 (lv_at hl 3 rfl) ?_
                refine lv_iload_n hx hb dX6_showRow_83 rfl (lv_at hl 0 rfl) ?_
                refine lv_iadd hx hb dX6_showRow_84 ?_
                refine lv_istore (lv' := [(6, .int (v6_82 + p2)), (3, .int p2), (4, .int p3), (5, .ref (ad (2 + z_1))), (7, .int v7_82)]) hx hb dX6_showRow_85 hl (by decide) rfl (fun ls hl => ?_)
                refine lv_iload hx hb dX6_showRow_87 (lv_at hl 0 rfl) ?_
                refine lv_sipush (v := (9999 : Int32)) hx hb dX6_showRow_89 (by decide) ?_
                refine lv_icmp_le (tgt := 101) hx hb dX6_showRow_92 (by decide) (fun c_87 => ?_) (fun c_87 => ?_)
                · rw [if_pos c_87] at h
                  refine lv_iinc (v := v7_82 + (1 : Int32)) (lv' := [(7, .int (v7_82 + (1 : Int32))), (6, .int (v6_82 + p2)), (3, .int p2), (4, .int p3), (5, .ref (ad (2 + z_1)))]) hx hb dX6_showRow_101 hl (k := 4) rfl rfl (by decide) rfl (fun ls hl => ?_)
                  refine lv_goto (tgt := 67) hx hb dX6_showRow_104 (by decide) ?_
                  exact ih (v6_82 + p2) (v7_82 + (1 : Int32)) z_85 z h _ _ _ hP hD hS (lv_sub hl [2, 3, 4, 1, 0] rfl) kex
                · rw [if_neg c_87] at h
                  refine lv_iincW (v := (v6_82 + p2) + (-20000 : Int32)) (lv' := [(6, .int ((v6_82 + p2) + (-20000 : Int32))), (3, .int p2), (4, .int p3), (5, .ref (ad (2 + z_1))), (7, .int v7_82)]) hx hb dX6_showRow_95 hl (k := 0) rfl (congrArg (fun q9 : Int32 => (v6_82 + p2) + q9) (show Int32.ofInt (-20000) = (-20000 : Int32) by decide)) (by decide) rfl (fun ls hl => ?_)
                  refine lv_iinc (v := v7_82 + (1 : Int32)) (lv' := [(7, .int (v7_82 + (1 : Int32))), (6, .int ((v6_82 + p2) + (-20000 : Int32))), (3, .int p2), (4, .int p3), (5, .ref (ad (2 + z_1)))]) hx hb dX6_showRow_101 hl (k := 4) rfl rfl (by decide) rfl (fun ls hl => ?_)
                  refine lv_goto (tgt := 67) hx hb dX6_showRow_104 (by decide) ?_
                  exact ih ((v6_82 + p2) + (-20000 : Int32)) (v7_82 + (1 : Int32)) z_85 z h _ _ _ hP hD hS (lv_sub hl [2, 3, 4, 1, 0] rfl) kex
          obtain ⟨z_88, hz_89, h⟩ := qm_bind h
          refine loop_83 qm_F p1 (0 : Int32) S z_88 hz_89 _ _ _ hP hD hS (lv_sub hl [6, 7, 2, 1, 0] rfl) (fun H locs ls hP hD hS hl => ?_)
          refine lv_aload hx hb dX6_showRow_107 (lv_at hl 0 rfl) ?_
          refine va_getN (D := D) (ci := 0) (v := .ref (ad (6 + z_1))) (C := RX0) (T := TX0) (N := 4) hx hb hts (by decide +kernel) hown hK hP (2 + z_1) (qg_C hk_3) rfl 0 (by decide) (va_Nw.use rfl (qz_frow hZ)) (fun _ h9 => h9) rfl dX6_showRow_109 ?_
          refine va_calli (va_runV (As := []) (rest := []) ⟨hx, hb, hml, hown, hts⟩ (nX3_length l D A ad cI cQ rest z_88 z_1 hk_3) (cwV 0 hts gX6_showRow_X3_length rfl rfl rfl (by decide +kernel) ⟨Nat.le_of_ble_eq_true rfl, Nat.le_of_ble_eq_true rfl⟩) ⟨qm_blind, va_recv hK hP (ci := 3) (q0 := (6 + z_1)) rfl (qg_M hk_3), fun U hU hW => ⟨rfl, qm_go hA hS hP hK hD hU hW⟩⟩ rfl rfl hl.1 rfl (lv_room (Nat.le_of_ble_eq_true rfl)) dX6_showRow_112 ⟨Nat.le_of_ble_eq_true rfl, Nat.le_of_ble_eq_true rfl⟩) hS (fun _ _ h9 => h9) (fun _ h9 => h9) (fun v u t H1 locs1 ht hvm hw hB hz1 hk1 hS => ?_)
          obtain ⟨hw1, hw2⟩ := hw
          have hw2 : z_88 = u := hw2.symm
          have hw1 : ((z_88.1 z_1).1) = v := hw1.symm
          subst hw1
          subst hw2
          obtain ⟨hP, hD⟩ := qm_bk ht hB
          clear hB
          have h := Option.some.inj h
          subst h
          rw [hQX]
          exact W.iret (v := ((z_88.1 z_1).1)) hx hb hr (fun t ht hW => ⟨⟨((z_88.1 z_1).1), z_88, rfl, ⟨rfl, rfl⟩, qm_en ht hP hD⟩, hS.F ht⟩) hS.2.2 dX6_showRow_115
    · rw [if_neg c_49] at h
      refine lv_iconst (v := (1 : Int32)) hx hb dX6_showRow_25 (by decide) ?_
      refine lv_goto (tgt := 30) hx hb dX6_showRow_26 (by decide) ?_
      obtain ⟨z_90, hz_91, h⟩ := qm_bind h
      refine va_callv (va_runS (As := [.int (1 : Int32)]) (rest := []) ⟨hx, hb, hml, hown, hts⟩ (kX6_demandInRange l D A ad cI cQ rest S (1 : Int32) z_90 hz_91) (va_cwS 1 hts gX6_showRow_X6_demandInRange rfl rfl rfl (by decide +kernel) ⟨Nat.le_of_ble_eq_true rfl, Nat.le_of_ble_eq_true rfl⟩) ⟨qm_blind, fun U hU hW => ⟨rfl, qm_go hA hS hP hK hD hU hW⟩⟩ rfl rfl hl.1 rfl (lv_room (Nat.le_of_ble_eq_true rfl)) dX6_showRow_30 ⟨Nat.le_of_ble_eq_true rfl, Nat.le_of_ble_eq_true rfl⟩) hS (fun _ _ h9 => h9) (fun _ h9 => h9) (fun u t H1 locs1 ht hvm hw hB hz1 hk1 hS => ?_)
      have hw : S = u := hw.symm
      subst hw
      obtain ⟨hP, hD⟩ := qm_bk ht hB
      clear hB
      refine lv_iload hx hb dX6_showRow_33 (lv_at hl 5 rfl) ?_
      refine lv_iconst (v := (1 : Int32)) hx hb dX6_showRow_35 (by decide) ?_
      refine lv_icmp_lt (tgt := 50) hx hb dX6_showRow_36 (by decide) (fun c_92 => ?_) (fun c_92 => ?_)
      · rw [if_pos c_92] at h
        refine lv_iconst (v := (0 : Int32)) hx hb dX6_showRow_50 (by decide) ?_
        obtain ⟨z_93, hz_94, h⟩ := qm_bind h
        refine va_callv (va_runS (As := [.int (0 : Int32)]) (rest := []) ⟨hx, hb, hml, hown, hts⟩ (kX6_demandInRange l D A ad cI cQ rest S (0 : Int32) z_93 hz_94) (va_cwS 1 hts gX6_showRow_X6_demandInRange rfl rfl rfl (by decide +kernel) ⟨Nat.le_of_ble_eq_true rfl, Nat.le_of_ble_eq_true rfl⟩) ⟨qm_blind, fun U hU hW => ⟨rfl, qm_go hA hS hP hK hD hU hW⟩⟩ rfl rfl hl.1 rfl (lv_room (Nat.le_of_ble_eq_true rfl)) dX6_showRow_51 ⟨Nat.le_of_ble_eq_true rfl, Nat.le_of_ble_eq_true rfl⟩) hS (fun _ _ h9 => h9) (fun _ h9 => h9) (fun u t H1 locs1 ht hvm hw hB hz1 hk1 hS => ?_)
        have hw : S = u := hw.symm
        subst hw
        obtain ⟨hP, hD⟩ := qm_bk ht hB
        clear hB
        refine lv_aload hx hb dX6_showRow_54 (lv_at hl 0 rfl) ?_
        refine lv_iload hx hb dX6_showRow_56 (lv_at hl 5 rfl) ?_
        obtain ⟨z_95, hz_96, h⟩ := qm_bind h
        refine va_callv (va_runV (As := [.int p3]) (rest := []) ⟨hx, hb, hml, hown, hts⟩ (kX0_demandRoomFor l D A ad cI cQ rest S z_1 hk_3 p3 z_95 hz_96) (cwV 1 hts gX6_showRow_X0_demandRoomFor rfl rfl rfl (by decide +kernel) ⟨Nat.le_of_ble_eq_true rfl, Nat.le_of_ble_eq_true rfl⟩) ⟨qm_blind, va_recv hK hP (ci := 0) (q0 := (2 + z_1)) rfl (qg_C hk_3), fun U hU hW => ⟨rfl, qm_go hA hS hP hK hD hU hW⟩⟩ rfl rfl hl.1 rfl (lv_room (Nat.le_of_ble_eq_true rfl)) dX6_showRow_58 ⟨Nat.le_of_ble_eq_true rfl, Nat.le_of_ble_eq_true rfl⟩) hS (fun _ _ h9 => h9) (fun _ h9 => h9) (fun u t H1 locs1 ht hvm hw hB hz1 hk1 hS => ?_)
        have hw : S = u := hw.symm
        subst hw
        obtain ⟨hP, hD⟩ := qm_bk ht hB
        clear hB
        refine lv_iload_n hx hb dX6_showRow_61 rfl (lv_at hl 3 rfl) ?_
        refine lv_istore (lv' := [(6, .int p1), (5, .ref (ad (2 + z_1))), (0, .ref (ad 0)), (1, .int p0), (2, .int p1), (3, .int p2), (4, .int p3)]) hx hb dX6_showRow_62 hl (by decide) rfl (fun ls hl => ?_)
        refine lv_iconst (v := (0 : Int32)) hx hb dX6_showRow_64 (by decide) ?_
        refine lv_istore (lv' := [(7, .int (0 : Int32)), (6, .int p1), (5, .ref (ad (2 + z_1))), (0, .ref (ad 0)), (1, .int p0), (2, .int p1), (3, .int p2), (4, .int p3)]) hx hb dX6_showRow_65 hl (by decide) rfl (fun ls hl => ?_)
        have loop_98 : ∀ (fuel : Nat) (v6_97 v7_97 : Int32) (S_97 : qm_S) (z : qm_S), fX6_showRow_L67 p2 p3 z_1 fuel v6_97 v7_97 S_97 = some z → ∀ (H : Heap) (locs : List Loc) (ls : Array Slot), va_P D vwCl (qm_W ad cI cQ rest S_97) H → va_D A (qm_W ad cI cQ rest S_97) → va_S A s.heap H locs → lv_has ls 8 [(3, .int p2), (4, .int p3), (5, .ref (ad (2 + z_1))), (6, .int v6_97), (7, .int v7_97)] → (∀ (H : Heap) (locs : List Loc) (ls : Array Slot), va_P D vwCl (qm_W ad cI cQ rest z) H → va_D A (qm_W ad cI cQ rest z) → va_S A s.heap H locs → lv_has ls 8 [(5, .ref (ad (2 + z_1)))] → W p l e ({ frames := 6, cells := 0, slots := 0, locals := 147 } : Room) s m ([.ref (ad 0), .int p0, .int p1, .int p2, .int p3] : List Value).toArray below meth c H locs 0 0 QX (F0 m 107 ls [])) → W p l e ({ frames := 6, cells := 0, slots := 0, locals := 147 } : Room) s m ([.ref (ad 0), .int p0, .int p1, .int p2, .int p3] : List Value).toArray below meth c H locs 0 0 QX (F0 m 67 ls []) := by
          intro fuel
          induction fuel with
          | zero =>
            intro v6_97 v7_97 S_97 z h
            rw [fX6_showRow_L67] at h
            cases h
          | succ fuel ih =>
            intro v6_97 v7_97 S_97 z h H locs ls hP hD hS hl kex
            rw [fX6_showRow_L67] at h
            refine lv_iload hx hb dX6_showRow_67 (lv_at hl 4 rfl) ?_
            refine lv_iload hx hb dX6_showRow_69 (lv_at hl 1 rfl) ?_
            refine lv_icmp_ge (tgt := 107) hx hb dX6_showRow_71 (by decide) (fun c_99 => ?_) (fun c_99 => ?_)
            · rw [if_pos c_99] at h
              have h := Option.some.inj h
              subst h
              exact kex _ _ _ hP hD hS (lv_sub hl [2] rfl)
            · rw [if_neg c_99] at h
              refine lv_aload hx hb dX6_showRow_74 (lv_at hl 2 rfl) ?_
              refine lv_iload hx hb dX6_showRow_76 (lv_at hl 3 rfl) ?_
              obtain ⟨z_100, hz_101, h⟩ := qm_bind h
              refine va_callv (va_runV (As := [.int v6_97]) (rest := []) ⟨hx, hb, hml, hown, hts⟩ (kX0_take l D A ad cI cQ rest S_97 z_1 hk_3 v6_97 z_100 hz_101) (cwV 1 hts gX6_showRow_X0_take rfl rfl rfl (by decide +kernel) ⟨Nat.le_of_ble_eq_true rfl, Nat.le_of_ble_eq_true rfl⟩) ⟨qm_blind, va_recv hK hP (ci := 0) (q0 := (2 + z_1)) rfl (qg_C hk_3), fun U hU hW => ⟨rfl, qm_go hA hS hP hK hD hU hW⟩⟩ rfl rfl hl.1 rfl (lv_room (Nat.le_of_ble_eq_true rfl)) dX6_showRow_78 ⟨Nat.le_of_ble_eq_true rfl, Nat.le_of_ble_eq_true rfl⟩) hS (fun _ _ h9 => h9) (fun _ h9 => h9) (fun u t H1 locs1 ht hvm hw hB hz1 hk1 hS => ?_)
              have hw : z_100 = u := hw.symm
              subst hw
              obtain ⟨hP, hD⟩ := qm_bk ht hB
              clear hB
              refine lv_iload hx hb dX6_showRow_81 (lv_at hl 3 rfl) ?_
              refine lv_iload_n hx hb dX6_showRow_83 rfl (lv_at hl 0 rfl) ?_
              refine lv_iadd hx hb dX6_showRow_84 ?_
              refine lv_istore (lv' := [(6, .int (v6_97 + p2)), (3, .int p2), (4, .int p3), (5, .ref (ad (2 + z_1))), (7, .int v7_97)]) hx hb dX6_showRow_85 hl (by decide) rfl (fun ls hl => ?_)
              refine lv_iload hx hb dX6_showRow_87 (lv_at hl 0 rfl) ?_
              refine lv_sipush (v := (9999 : Int32)) hx hb dX6_showRow_89 (by decide) ?_
              refine lv_icmp_le (tgt := 101) hx hb dX6_showRow_92 (by decide) (fun c_102 => ?_) (fun c_102 => ?_)
              · rw [if_pos c_102] at h
                refine lv_iinc (v := v7_97 + (1 : Int32)) (lv' := [(7, .int (v7_97 + (1 : Int32))), (6, .int (v6_97 + p2)), (3, .int p2), (4, .int p3), (5, .ref (ad (2 + z_1)))]) hx hb dX6_showRow_101 hl (k := 4) rfl rfl (by decide) rfl (fun ls hl => ?_)
                refine lv_goto (tgt := 67) hx hb dX6_showRow_104 (by decide) ?_
                exact ih (v6_97 + p2) (v7_97 + (1 : Int32)) z_100 z h _ _ _ hP hD hS (lv_sub hl [2, 3, 4, 1, 0] rfl) kex
              · rw [if_neg c_102] at h
                refine lv_iincW (v := (v6_97 + p2) + (-20000 : Int32)) (lv' := [(6, .int ((v6_97 + p2) + (-20000 : Int32))), (3, .int p2), (4, .int p3), (5, .ref (ad (2 + z_1))), (7, .int v7_97)]) hx hb dX6_showRow_95 hl (k := 0) rfl (congrArg (fun q9 : Int32 => (v6_97 + p2) + q9) (show Int32.ofInt (-20000) = (-20000 : Int32) by decide)) (by decide) rfl (fun ls hl => ?_)
                refine lv_iinc (v := v7_97 + (1 : Int32)) (lv' := [(7, .int (v7_97 + (1 : Int32))), (6, .int ((v6_97 + p2) + (-20000 : Int32))), (3, .int p2), (4, .int p3), (5, .ref (ad (2 + z_1)))]) hx hb dX6_showRow_101 hl (k := 4) rfl rfl (by decide) rfl (fun ls hl => ?_)
                refine lv_goto (tgt := 67) hx hb dX6_showRow_104 (by decide) ?_
                exact ih ((v6_97 + p2) + (-20000 : Int32)) (v7_97 + (1 : Int32)) z_100 z h _ _ _ hP hD hS (lv_sub hl [2, 3, 4, 1, 0] rfl) kex
        obtain ⟨z_103, hz_104, h⟩ := qm_bind h
        refine loop_98 qm_F p1 (0 : Int32) S z_103 hz_104 _ _ _ hP hD hS (lv_sub hl [6, 7, 2, 1, 0] rfl) (fun H locs ls hP hD hS hl => ?_)
        refine lv_aload hx hb dX6_showRow_107 (lv_at hl 0 rfl) ?_
        refine va_getN (D := D) (ci := 0) (v := .ref (ad (6 + z_1))) (C := RX0) (T := TX0) (N := 4) hx hb hts (by decide +kernel) hown hK hP (2 + z_1) (qg_C hk_3) rfl 0 (by decide) (va_Nw.use rfl (qz_frow hZ)) (fun _ h9 => h9) rfl dX6_showRow_109 ?_
        refine va_calli (va_runV (As := []) (rest := []) ⟨hx, hb, hml, hown, hts⟩ (nX3_length l D A ad cI cQ rest z_103 z_1 hk_3) (cwV 0 hts gX6_showRow_X3_length rfl rfl rfl (by decide +kernel) ⟨Nat.le_of_ble_eq_true rfl, Nat.le_of_ble_eq_true rfl⟩) ⟨qm_blind, va_recv hK hP (ci := 3) (q0 := (6 + z_1)) rfl (qg_M hk_3), fun U hU hW => ⟨rfl, qm_go hA hS hP hK hD hU hW⟩⟩ rfl rfl hl.1 rfl (lv_room (Nat.le_of_ble_eq_true rfl)) dX6_showRow_112 ⟨Nat.le_of_ble_eq_true rfl, Nat.le_of_ble_eq_true rfl⟩) hS (fun _ _ h9 => h9) (fun _ h9 => h9) (fun v u t H1 locs1 ht hvm hw hB hz1 hk1 hS => ?_)
        obtain ⟨hw1, hw2⟩ := hw
        have hw2 : z_103 = u := hw2.symm
        have hw1 : ((z_103.1 z_1).1) = v := hw1.symm
        subst hw1
        subst hw2
        obtain ⟨hP, hD⟩ := qm_bk ht hB
        clear hB
        have h := Option.some.inj h
        subst h
        rw [hQX]
        exact W.iret (v := ((z_103.1 z_1).1)) hx hb hr (fun t ht hW => ⟨⟨((z_103.1 z_1).1), z_103, rfl, ⟨rfl, rfl⟩, qm_en ht hP hD⟩, hS.F ht⟩) hS.2.2 dX6_showRow_115
      · rw [if_neg c_92] at h
        refine lv_iload hx hb dX6_showRow_39 (lv_at hl 5 rfl) ?_
        refine lv_bipush (v := (100 : Int32)) hx hb dX6_showRow_41 (by decide) ?_
        refine lv_icmp_gt (tgt := 50) hx hb dX6_showRow_43 (by decide) (fun c_105 => ?_) (fun c_105 => ?_)
        · rw [if_pos c_105] at h
          refine lv_iconst (v := (0 : Int32)) hx hb dX6_showRow_50 (by decide) ?_
          obtain ⟨z_106, hz_107, h⟩ := qm_bind h
          refine va_callv (va_runS (As := [.int (0 : Int32)]) (rest := []) ⟨hx, hb, hml, hown, hts⟩ (kX6_demandInRange l D A ad cI cQ rest S (0 : Int32) z_106 hz_107) (va_cwS 1 hts gX6_showRow_X6_demandInRange rfl rfl rfl (by decide +kernel) ⟨Nat.le_of_ble_eq_true rfl, Nat.le_of_ble_eq_true rfl⟩) ⟨qm_blind, fun U hU hW => ⟨rfl, qm_go hA hS hP hK hD hU hW⟩⟩ rfl rfl hl.1 rfl (lv_room (Nat.le_of_ble_eq_true rfl)) dX6_showRow_51 ⟨Nat.le_of_ble_eq_true rfl, Nat.le_of_ble_eq_true rfl⟩) hS (fun _ _ h9 => h9) (fun _ h9 => h9) (fun u t H1 locs1 ht hvm hw hB hz1 hk1 hS => ?_)
          have hw : S = u := hw.symm
          subst hw
          obtain ⟨hP, hD⟩ := qm_bk ht hB
          clear hB
          refine lv_aload hx hb dX6_showRow_54 (lv_at hl 0 rfl) ?_
          refine lv_iload hx hb dX6_showRow_56 (lv_at hl 5 rfl) ?_
          obtain ⟨z_108, hz_109, h⟩ := qm_bind h
          refine va_callv (va_runV (As := [.int p3]) (rest := []) ⟨hx, hb, hml, hown, hts⟩ (kX0_demandRoomFor l D A ad cI cQ rest S z_1 hk_3 p3 z_108 hz_109) (cwV 1 hts gX6_showRow_X0_demandRoomFor rfl rfl rfl (by decide +kernel) ⟨Nat.le_of_ble_eq_true rfl, Nat.le_of_ble_eq_true rfl⟩) ⟨qm_blind, va_recv hK hP (ci := 0) (q0 := (2 + z_1)) rfl (qg_C hk_3), fun U hU hW => ⟨rfl, qm_go hA hS hP hK hD hU hW⟩⟩ rfl rfl hl.1 rfl (lv_room (Nat.le_of_ble_eq_true rfl)) dX6_showRow_58 ⟨Nat.le_of_ble_eq_true rfl, Nat.le_of_ble_eq_true rfl⟩) hS (fun _ _ h9 => h9) (fun _ h9 => h9) (fun u t H1 locs1 ht hvm hw hB hz1 hk1 hS => ?_)
          have hw : S = u := hw.symm
          subst hw
          obtain ⟨hP, hD⟩ := qm_bk ht hB
          clear hB
          refine lv_iload_n hx hb dX6_showRow_61 rfl (lv_at hl 3 rfl) ?_
          refine lv_istore (lv' := [(6, .int p1), (5, .ref (ad (2 + z_1))), (0, .ref (ad 0)), (1, .int p0), (2, .int p1), (3, .int p2), (4, .int p3)]) hx hb dX6_showRow_62 hl (by decide) rfl (fun ls hl => ?_)
          refine lv_iconst (v := (0 : Int32)) hx hb dX6_showRow_64 (by decide) ?_
          refine lv_istore (lv' := [(7, .int (0 : Int32)), (6, .int p1), (5, .ref (ad (2 + z_1))), (0, .ref (ad 0)), (1, .int p0), (2, .int p1), (3, .int p2), (4, .int p3)]) hx hb dX6_showRow_65 hl (by decide) rfl (fun ls hl => ?_)
          have loop_111 : ∀ (fuel : Nat) (v6_110 v7_110 : Int32) (S_110 : qm_S) (z : qm_S), fX6_showRow_L67 p2 p3 z_1 fuel v6_110 v7_110 S_110 = some z → ∀ (H : Heap) (locs : List Loc) (ls : Array Slot), va_P D vwCl (qm_W ad cI cQ rest S_110) H → va_D A (qm_W ad cI cQ rest S_110) → va_S A s.heap H locs → lv_has ls 8 [(3, .int p2), (4, .int p3), (5, .ref (ad (2 + z_1))), (6, .int v6_110), (7, .int v7_110)] → (∀ (H : Heap) (locs : List Loc) (ls : Array Slot), va_P D vwCl (qm_W ad cI cQ rest z) H → va_D A (qm_W ad cI cQ rest z) → va_S A s.heap H locs → lv_has ls 8 [(5, .ref (ad (2 + z_1)))] → W p l e ({ frames := 6, cells := 0, slots := 0, locals := 147 } : Room) s m ([.ref (ad 0), .int p0, .int p1, .int p2, .int p3] : List Value).toArray below meth c H locs 0 0 QX (F0 m 107 ls [])) → W p l e ({ frames := 6, cells := 0, slots := 0, locals := 147 } : Room) s m ([.ref (ad 0), .int p0, .int p1, .int p2, .int p3] : List Value).toArray below meth c H locs 0 0 QX (F0 m 67 ls []) := by
            intro fuel
            induction fuel with
            | zero =>
              intro v6_110 v7_110 S_110 z h
              rw [fX6_showRow_L67] at h
              cases h
            | succ fuel ih =>
              intro v6_110 v7_110 S_110 z h H locs ls hP hD hS hl kex
              rw [fX6_showRow_L67] at h
              refine lv_iload hx hb dX6_showRow_67 (lv_at hl 4 rfl) ?_
              refine lv_iload hx hb dX6_showRow_69 (lv_at hl 1 rfl) ?_
              refine lv_icmp_ge (tgt := 107) hx hb dX6_showRow_71 (by decide) (fun c_112 => ?_) (fun c_112 => ?_)
              · rw [if_pos c_112] at h
                have h := Option.some.inj h
                subst h
                exact kex _ _ _ hP hD hS (lv_sub hl [2] rfl)
              · rw [if_neg c_112] at h
                refine lv_aload hx hb dX6_showRow_74 (lv_at hl 2 rfl) ?_
                refine lv_iload hx hb dX6_showRow_76 (lv_at hl 3 rfl) ?_
                obtain ⟨z_113, hz_114, h⟩ := qm_bind h
                refine va_callv (va_runV (As := [.int v6_110]) (rest := []) ⟨hx, hb, hml, hown, hts⟩ (kX0_take l D A ad cI cQ rest S_110 z_1 hk_3 v6_110 z_113 hz_114) (cwV 1 hts gX6_showRow_X0_take rfl rfl rfl (by decide +kernel) ⟨Nat.le_of_ble_eq_true rfl, Nat.le_of_ble_eq_true rfl⟩) ⟨qm_blind, va_recv hK hP (ci := 0) (q0 := (2 + z_1)) rfl (qg_C hk_3), fun U hU hW => ⟨rfl, qm_go hA hS hP hK hD hU hW⟩⟩ rfl rfl hl.1 rfl (lv_room (Nat.le_of_ble_eq_true rfl)) dX6_showRow_78 ⟨Nat.le_of_ble_eq_true rfl, Nat.le_of_ble_eq_true rfl⟩) hS (fun _ _ h9 => h9) (fun _ h9 => h9) (fun u t H1 locs1 ht hvm hw hB hz1 hk1 hS => ?_)
                have hw : z_113 = u := hw.symm
                subst hw
                obtain ⟨hP, hD⟩ := qm_bk ht hB
                clear hB
                refine lv_iload hx hb dX6_showRow_81 (lv_at hl 3 rfl) ?_
                refine lv_iload_n hx hb dX6_showRow_83 rfl (lv_at hl 0 rfl) ?_
                refine lv_iadd hx hb dX6_showRow_84 ?_
                refine lv_istore (lv' := [(6, .int (v6_110 + p2)), (3, .int p2), (4, .int p3), (5, .ref (ad (2 + z_1))), (7, .int v7_110)]) hx hb dX6_showRow_85 hl (by decide) rfl (fun ls hl => ?_)
                refine lv_iload hx hb dX6_showRow_87 (lv_at hl 0 rfl) ?_
                refine lv_sipush (v := (9999 : Int32)) hx hb dX6_showRow_89 (by decide) ?_
                refine lv_icmp_le (tgt := 101) hx hb dX6_showRow_92 (by decide) (fun c_115 => ?_) (fun c_115 => ?_)
                · rw [if_pos c_115] at h
                  refine lv_iinc (v := v7_110 + (1 : Int32)) (lv' := [(7, .int (v7_110 + (1 : Int32))), (6, .int (v6_110 + p2)), (3, .int p2), (4, .int p3), (5, .ref (ad (2 + z_1)))]) hx hb dX6_showRow_101 hl (k := 4) rfl rfl (by decide) rfl (fun ls hl => ?_)
                  refine lv_goto (tgt := 67) hx hb dX6_showRow_104 (by decide) ?_
                  exact ih (v6_110 + p2) (v7_110 + (1 : Int32)) z_113 z h _ _ _ hP hD hS (lv_sub hl [2, 3, 4, 1, 0] rfl) kex
                · rw [if_neg c_115] at h
                  refine lv_iincW (v := (v6_110 + p2) + (-20000 : Int32)) (lv' := [(6, .int ((v6_110 + p2) + (-20000 : Int32))), (3, .int p2), (4, .int p3), (5, .ref (ad (2 + z_1))), (7, .int v7_110)]) hx hb dX6_showRow_95 hl (k := 0) rfl (congrArg (fun q9 : Int32 => (v6_110 + p2) + q9) (show Int32.ofInt (-20000) = (-20000 : Int32) by decide)) (by decide) rfl (fun ls hl => ?_)
                  refine lv_iinc (v := v7_110 + (1 : Int32)) (lv' := [(7, .int (v7_110 + (1 : Int32))), (6, .int ((v6_110 + p2) + (-20000 : Int32))), (3, .int p2), (4, .int p3), (5, .ref (ad (2 + z_1)))]) hx hb dX6_showRow_101 hl (k := 4) rfl rfl (by decide) rfl (fun ls hl => ?_)
                  refine lv_goto (tgt := 67) hx hb dX6_showRow_104 (by decide) ?_
                  exact ih ((v6_110 + p2) + (-20000 : Int32)) (v7_110 + (1 : Int32)) z_113 z h _ _ _ hP hD hS (lv_sub hl [2, 3, 4, 1, 0] rfl) kex
          obtain ⟨z_116, hz_117, h⟩ := qm_bind h
          refine loop_111 qm_F p1 (0 : Int32) S z_116 hz_117 _ _ _ hP hD hS (lv_sub hl [6, 7, 2, 1, 0] rfl) (fun H locs ls hP hD hS hl => ?_)
          refine lv_aload hx hb dX6_showRow_107 (lv_at hl 0 rfl) ?_
          refine va_getN (D := D) (ci := 0) (v := .ref (ad (6 + z_1))) (C := RX0) (T := TX0) (N := 4) hx hb hts (by decide +kernel) hown hK hP (2 + z_1) (qg_C hk_3) rfl 0 (by decide) (va_Nw.use rfl (qz_frow hZ)) (fun _ h9 => h9) rfl dX6_showRow_109 ?_
          refine va_calli (va_runV (As := []) (rest := []) ⟨hx, hb, hml, hown, hts⟩ (nX3_length l D A ad cI cQ rest z_116 z_1 hk_3) (cwV 0 hts gX6_showRow_X3_length rfl rfl rfl (by decide +kernel) ⟨Nat.le_of_ble_eq_true rfl, Nat.le_of_ble_eq_true rfl⟩) ⟨qm_blind, va_recv hK hP (ci := 3) (q0 := (6 + z_1)) rfl (qg_M hk_3), fun U hU hW => ⟨rfl, qm_go hA hS hP hK hD hU hW⟩⟩ rfl rfl hl.1 rfl (lv_room (Nat.le_of_ble_eq_true rfl)) dX6_showRow_112 ⟨Nat.le_of_ble_eq_true rfl, Nat.le_of_ble_eq_true rfl⟩) hS (fun _ _ h9 => h9) (fun _ h9 => h9) (fun v u t H1 locs1 ht hvm hw hB hz1 hk1 hS => ?_)
          obtain ⟨hw1, hw2⟩ := hw
          have hw2 : z_116 = u := hw2.symm
          have hw1 : ((z_116.1 z_1).1) = v := hw1.symm
          subst hw1
          subst hw2
          obtain ⟨hP, hD⟩ := qm_bk ht hB
          clear hB
          have h := Option.some.inj h
          subst h
          rw [hQX]
          exact W.iret (v := ((z_116.1 z_1).1)) hx hb hr (fun t ht hW => ⟨⟨((z_116.1 z_1).1), z_116, rfl, ⟨rfl, rfl⟩, qm_en ht hP hD⟩, hS.F ht⟩) hS.2.2 dX6_showRow_115
        · rw [if_neg c_105] at h
          refine lv_iconst (v := (1 : Int32)) hx hb dX6_showRow_46 (by decide) ?_
          refine lv_goto (tgt := 51) hx hb dX6_showRow_47 (by decide) ?_
          obtain ⟨z_118, hz_119, h⟩ := qm_bind h
          refine va_callv (va_runS (As := [.int (1 : Int32)]) (rest := []) ⟨hx, hb, hml, hown, hts⟩ (kX6_demandInRange l D A ad cI cQ rest S (1 : Int32) z_118 hz_119) (va_cwS 1 hts gX6_showRow_X6_demandInRange rfl rfl rfl (by decide +kernel) ⟨Nat.le_of_ble_eq_true rfl, Nat.le_of_ble_eq_true rfl⟩) ⟨qm_blind, fun U hU hW => ⟨rfl, qm_go hA hS hP hK hD hU hW⟩⟩ rfl rfl hl.1 rfl (lv_room (Nat.le_of_ble_eq_true rfl)) dX6_showRow_51 ⟨Nat.le_of_ble_eq_true rfl, Nat.le_of_ble_eq_true rfl⟩) hS (fun _ _ h9 => h9) (fun _ h9 => h9) (fun u t H1 locs1 ht hvm hw hB hz1 hk1 hS => ?_)
          have hw : S = u := hw.symm
          subst hw
          obtain ⟨hP, hD⟩ := qm_bk ht hB
          clear hB
          refine lv_aload hx hb dX6_showRow_54 (lv_at hl 0 rfl) ?_
          refine lv_iload hx hb dX6_showRow_56 (lv_at hl 5 rfl) ?_
          obtain ⟨z_120, hz_121, h⟩ := qm_bind h
          refine va_callv (va_runV (As := [.int p3]) (rest := []) ⟨hx, hb, hml, hown, hts⟩ (kX0_demandRoomFor l D A ad cI cQ rest S z_1 hk_3 p3 z_120 hz_121) (cwV 1 hts gX6_showRow_X0_demandRoomFor rfl rfl rfl (by decide +kernel) ⟨Nat.le_of_ble_eq_true rfl, Nat.le_of_ble_eq_true rfl⟩) ⟨qm_blind, va_recv hK hP (ci := 0) (q0 := (2 + z_1)) rfl (qg_C hk_3), fun U hU hW => ⟨rfl, qm_go hA hS hP hK hD hU hW⟩⟩ rfl rfl hl.1 rfl (lv_room (Nat.le_of_ble_eq_true rfl)) dX6_showRow_58 ⟨Nat.le_of_ble_eq_true rfl, Nat.le_of_ble_eq_true rfl⟩) hS (fun _ _ h9 => h9) (fun _ h9 => h9) (fun u t H1 locs1 ht hvm hw hB hz1 hk1 hS => ?_)
          have hw : S = u := hw.symm
          subst hw
          obtain ⟨hP, hD⟩ := qm_bk ht hB
          clear hB
          refine lv_iload_n hx hb dX6_showRow_61 rfl (lv_at hl 3 rfl) ?_
          refine lv_istore (lv' := [(6, .int p1), (5, .ref (ad (2 + z_1))), (0, .ref (ad 0)), (1, .int p0), (2, .int p1), (3, .int p2), (4, .int p3)]) hx hb dX6_showRow_62 hl (by decide) rfl (fun ls hl => ?_)
          refine lv_iconst (v := (0 : Int32)) hx hb dX6_showRow_64 (by decide) ?_
          refine lv_istore (lv' := [(7, .int (0 : Int32)), (6, .int p1), (5, .ref (ad (2 + z_1))), (0, .ref (ad 0)), (1, .int p0), (2, .int p1), (3, .int p2), (4, .int p3)]) hx hb dX6_showRow_65 hl (by decide) rfl (fun ls hl => ?_)
          have loop_123 : ∀ (fuel : Nat) (v6_122 v7_122 : Int32) (S_122 : qm_S) (z : qm_S), fX6_showRow_L67 p2 p3 z_1 fuel v6_122 v7_122 S_122 = some z → ∀ (H : Heap) (locs : List Loc) (ls : Array Slot), va_P D vwCl (qm_W ad cI cQ rest S_122) H → va_D A (qm_W ad cI cQ rest S_122) → va_S A s.heap H locs → lv_has ls 8 [(3, .int p2), (4, .int p3), (5, .ref (ad (2 + z_1))), (6, .int v6_122), (7, .int v7_122)] → (∀ (H : Heap) (locs : List Loc) (ls : Array Slot), va_P D vwCl (qm_W ad cI cQ rest z) H → va_D A (qm_W ad cI cQ rest z) → va_S A s.heap H locs → lv_has ls 8 [(5, .ref (ad (2 + z_1)))] → W p l e ({ frames := 6, cells := 0, slots := 0, locals := 147 } : Room) s m ([.ref (ad 0), .int p0, .int p1, .int p2, .int p3] : List Value).toArray below meth c H locs 0 0 QX (F0 m 107 ls [])) → W p l e ({ frames := 6, cells := 0, slots := 0, locals := 147 } : Room) s m ([.ref (ad 0), .int p0, .int p1, .int p2, .int p3] : List Value).toArray below meth c H locs 0 0 QX (F0 m 67 ls []) := by
            intro fuel
            induction fuel with
            | zero =>
              intro v6_122 v7_122 S_122 z h
              rw [fX6_showRow_L67] at h
              cases h
            | succ fuel ih =>
              intro v6_122 v7_122 S_122 z h H locs ls hP hD hS hl kex
              rw [fX6_showRow_L67] at h
              refine lv_iload hx hb dX6_showRow_67 (lv_at hl 4 rfl) ?_
              refine lv_iload hx hb dX6_showRow_69 (lv_at hl 1 rfl) ?_
              refine lv_icmp_ge (tgt := 107) hx hb dX6_showRow_71 (by decide) (fun c_124 => ?_) (fun c_124 => ?_)
              · rw [if_pos c_124] at h
                have h := Option.some.inj h
                subst h
                exact kex _ _ _ hP hD hS (lv_sub hl [2] rfl)
              · rw [if_neg c_124] at h
                refine lv_aload hx hb dX6_showRow_74 (lv_at hl 2 rfl) ?_
                refine lv_iload hx hb dX6_showRow_76 (lv_at hl 3 rfl) ?_
                obtain ⟨z_125, hz_126, h⟩ := qm_bind h
                refine va_callv (va_runV (As := [.int v6_122]) (rest := []) ⟨hx, hb, hml, hown, hts⟩ (kX0_take l D A ad cI cQ rest S_122 z_1 hk_3 v6_122 z_125 hz_126) (cwV 1 hts gX6_showRow_X0_take rfl rfl rfl (by decide +kernel) ⟨Nat.le_of_ble_eq_true rfl, Nat.le_of_ble_eq_true rfl⟩) ⟨qm_blind, va_recv hK hP (ci := 0) (q0 := (2 + z_1)) rfl (qg_C hk_3), fun U hU hW => ⟨rfl, qm_go hA hS hP hK hD hU hW⟩⟩ rfl rfl hl.1 rfl (lv_room (Nat.le_of_ble_eq_true rfl)) dX6_showRow_78 ⟨Nat.le_of_ble_eq_true rfl, Nat.le_of_ble_eq_true rfl⟩) hS (fun _ _ h9 => h9) (fun _ h9 => h9) (fun u t H1 locs1 ht hvm hw hB hz1 hk1 hS => ?_)
                have hw : z_125 = u := hw.symm
                subst hw
                obtain ⟨hP, hD⟩ := qm_bk ht hB
                clear hB
                refine lv_iload hx hb dX6_showRow_81 (lv_at hl 3 rfl) ?_
                refine lv_iload_n hx hb dX6_showRow_83 rfl (lv_at hl 0 rfl) ?_
                refine lv_iadd hx hb dX6_showRow_84 ?_
                refine lv_istore (lv' := [(6, .int (v6_122 + p2)), (3, .int p2), (4, .int p3), (5, .ref (ad (2 + z_1))), (7, .int v7_122)]) hx hb dX6_showRow_85 hl (by decide) rfl (fun ls hl => ?_)
                refine lv_iload hx hb dX6_showRow_87 (lv_at hl 0 rfl) ?_
                refine lv_sipush (v := (9999 : Int32)) hx hb dX6_showRow_89 (by decide) ?_
                refine lv_icmp_le (tgt := 101) hx hb dX6_showRow_92 (by decide) (fun c_127 => ?_) (fun c_127 => ?_)
                · rw [if_pos c_127] at h
                  refine lv_iinc (v := v7_122 + (1 : Int32)) (lv' := [(7, .int (v7_122 + (1 : Int32))), (6, .int (v6_122 + p2)), (3, .int p2), (4, .int p3), (5, .ref (ad (2 + z_1)))]) hx hb dX6_showRow_101 hl (k := 4) rfl rfl (by decide) rfl (fun ls hl => ?_)
                  refine lv_goto (tgt := 67) hx hb dX6_showRow_104 (by decide) ?_
                  exact ih (v6_122 + p2) (v7_122 + (1 : Int32)) z_125 z h _ _ _ hP hD hS (lv_sub hl [2, 3, 4, 1, 0] rfl) kex
                · rw [if_neg c_127] at h
                  refine lv_iincW (v := (v6_122 + p2) + (-20000 : Int32)) (lv' := [(6, .int ((v6_122 + p2) + (-20000 : Int32))), (3, .int p2), (4, .int p3), (5, .ref (ad (2 + z_1))), (7, .int v7_122)]) hx hb dX6_showRow_95 hl (k := 0) rfl (congrArg (fun q9 : Int32 => (v6_122 + p2) + q9) (show Int32.ofInt (-20000) = (-20000 : Int32) by decide)) (by decide) rfl (fun ls hl => ?_)
                  refine lv_iinc (v := v7_122 + (1 : Int32)) (lv' := [(7, .int (v7_122 + (1 : Int32))), (6, .int ((v6_122 + p2) + (-20000 : Int32))), (3, .int p2), (4, .int p3), (5, .ref (ad (2 + z_1)))]) hx hb dX6_showRow_101 hl (k := 4) rfl rfl (by decide) rfl (fun ls hl => ?_)
                  refine lv_goto (tgt := 67) hx hb dX6_showRow_104 (by decide) ?_
                  exact ih ((v6_122 + p2) + (-20000 : Int32)) (v7_122 + (1 : Int32)) z_125 z h _ _ _ hP hD hS (lv_sub hl [2, 3, 4, 1, 0] rfl) kex
          obtain ⟨z_128, hz_129, h⟩ := qm_bind h
          refine loop_123 qm_F p1 (0 : Int32) S z_128 hz_129 _ _ _ hP hD hS (lv_sub hl [6, 7, 2, 1, 0] rfl) (fun H locs ls hP hD hS hl => ?_)
          refine lv_aload hx hb dX6_showRow_107 (lv_at hl 0 rfl) ?_
          refine va_getN (D := D) (ci := 0) (v := .ref (ad (6 + z_1))) (C := RX0) (T := TX0) (N := 4) hx hb hts (by decide +kernel) hown hK hP (2 + z_1) (qg_C hk_3) rfl 0 (by decide) (va_Nw.use rfl (qz_frow hZ)) (fun _ h9 => h9) rfl dX6_showRow_109 ?_
          refine va_calli (va_runV (As := []) (rest := []) ⟨hx, hb, hml, hown, hts⟩ (nX3_length l D A ad cI cQ rest z_128 z_1 hk_3) (cwV 0 hts gX6_showRow_X3_length rfl rfl rfl (by decide +kernel) ⟨Nat.le_of_ble_eq_true rfl, Nat.le_of_ble_eq_true rfl⟩) ⟨qm_blind, va_recv hK hP (ci := 3) (q0 := (6 + z_1)) rfl (qg_M hk_3), fun U hU hW => ⟨rfl, qm_go hA hS hP hK hD hU hW⟩⟩ rfl rfl hl.1 rfl (lv_room (Nat.le_of_ble_eq_true rfl)) dX6_showRow_112 ⟨Nat.le_of_ble_eq_true rfl, Nat.le_of_ble_eq_true rfl⟩) hS (fun _ _ h9 => h9) (fun _ h9 => h9) (fun v u t H1 locs1 ht hvm hw hB hz1 hk1 hS => ?_)
          obtain ⟨hw1, hw2⟩ := hw
          have hw2 : z_128 = u := hw2.symm
          have hw1 : ((z_128.1 z_1).1) = v := hw1.symm
          subst hw1
          subst hw2
          obtain ⟨hP, hD⟩ := qm_bk ht hB
          clear hB
          have h := Option.some.inj h
          subst h
          rw [hQX]
          exact W.iret (v := ((z_128.1 z_1).1)) hx hb hr (fun t ht hW => ⟨⟨((z_128.1 z_1).1), z_128, rfl, ⟨rfl, rfl⟩, qm_en ht hP hD⟩, hS.F ht⟩) hS.2.2 dX6_showRow_115
