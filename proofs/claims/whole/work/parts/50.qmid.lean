noncomputable def fX5_withRank_L4 (n0 : Nat) (x1 : Int32) : Nat → Int32 → Int32 → qm_S → Option (Int32)
  | 0, _, _, _ => none
  | fuel + 1, v2, v3, S =>
    (if ((S.1 (12 + n0)).1) ≤ v3 then some (0 : Int32) else (if (v2 + (rw_at (S.1 (16 + n0)) v3)) < x1 then fX5_withRank_L4 n0 x1 fuel (v2 + (rw_at (S.1 (16 + n0)) v3)) (v3 + (1 : Int32)) S else some (rw_at (S.1 (12 + n0)) v3)))
noncomputable def fX5_withRank (S : qm_S) (k : Nat) (p0 : Int32) : Option (Int32) :=
  fX5_withRank_L4 k p0 qm_F (0 : Int32) (0 : Int32) S
set_option maxHeartbeats 4000000 in
set_option maxRecDepth 100000 in
theorem kX5_withRank (l : Launch) (D : va_G) (A : Nat → Prop) (ad : Nat → Nat) (cI cQ : ClassId) (rest : va_W) (S : qm_S) (k : Nat) (hix : k < 4) (p0 : Int32) (z : Int32) (h : fX5_withRank S k p0 = some z) : Met l yX5_withRank wsX5_withRank ({ frames := 2, cells := 0, slots := 0, locals := 42 }) (va_Pc [.ref (ad (10 + k)), .int p0] (qm_B D A (qm_T cI cQ) (qm_W ad cI cQ rest S))) (qm_Qi D A (qm_W ad cI cQ rest) (z, S)) 0 0 A := by
  refine Met.ofW (cc := cX5_withRank) (maxL := 4) (ret := (some .int)) (by decide) rfl ?_
  intro p e s m args below meth c s₁ B hml hv
  obtain ⟨rfl, hA, hP, hK, hD⟩ := hv
  have hx := B.exec
  have hb := B.bytes
  have hr := B.returns
  have hts := atoms_spec (ws := wsX5_withRank) B.pre
  have hown : s.vm.findClass RX5 = some m.cls := findClass_of_methodNamed B.named
  have hlocks := B.notSynchronized
  have hS : va_S A s.heap s.heap [] := va_S.rf
  have hl := lv_entry ([.ref (ad (10 + k)), .int p0]) (n := 4) (Nat.le_of_ble_eq_true rfl)
  rw [lg_entry_eq]
  generalize (lg_sl ([.ref (ad (10 + k)), .int p0]) ++ List.replicate (4 - (lg_sl ([.ref (ad (10 + k)), .int p0])).length) Slot.unset).toArray = ls at hl ⊢
  have hl : lv_has ls 4 [(0, .ref (ad (10 + k))), (1, .int p0)] := hl
  obtain ⟨QX, hQX⟩ : ∃ q, q = MQ below (qm_Qi D A (qm_W ad cI cQ rest) (z, S)) ([.ref (ad (10 + k)), .int p0] : List Value).toArray s 0 0 A := ⟨_, rfl⟩
  rw [← hQX]
  rw [fX5_withRank] at h
  refine lv_iconst (v := (0 : Int32)) hx hb dX5_withRank_0 (by decide) ?_
  refine lv_istore_n (lv' := [(2, .int (0 : Int32)), (0, .ref (ad (10 + k))), (1, .int p0)]) hx hb dX5_withRank_1 rfl hl (by decide) rfl (fun ls hl => ?_)
  refine lv_iconst (v := (0 : Int32)) hx hb dX5_withRank_2 (by decide) ?_
  refine lv_istore_n (lv' := [(3, .int (0 : Int32)), (2, .int (0 : Int32)), (0, .ref (ad (10 + k))), (1, .int p0)]) hx hb dX5_withRank_3 rfl hl (by decide) rfl (fun ls hl => ?_)
  have loop_1 : ∀ (fuel : Nat) (v2_1 v3_1 : Int32), fX5_withRank_L4 k p0 fuel v2_1 v3_1 S = some z → ∀ (H : Heap) (locs : List Loc) (ls : Array Slot), va_P D vwCl (qm_W ad cI cQ rest S) H → va_D A (qm_W ad cI cQ rest S) → va_S A s.heap H locs → lv_has ls 4 [(0, .ref (ad (10 + k))), (1, .int p0), (2, .int v2_1), (3, .int v3_1)] → W p l e ({ frames := 2, cells := 0, slots := 0, locals := 42 } : Room) s m ([.ref (ad (10 + k)), .int p0] : List Value).toArray below meth c H locs 0 0 QX (F0 m 4 ls []) := by
    intro fuel
    induction fuel with
    | zero =>
      intro v2_1 v3_1 h
      rw [fX5_withRank_L4] at h
      cases h
    | succ fuel ih =>
      intro v2_1 v3_1 h H locs ls hP hD hS hl
      rw [fX5_withRank_L4] at h
      refine lv_iload_n hx hb dX5_withRank_4 rfl (lv_at hl 3 rfl) ?_
      refine lv_aload_n hx hb dX5_withRank_5 rfl (lv_at hl 0 rfl) ?_
      refine va_get (D := D) (ci := 5) (v := .ref (ad (26 + (12 + k)))) (C := RX5) (T := TX5) (N := 3) hx hb hts (by decide +kernel) hown hK hP (10 + k) (qg_T hix) rfl 0 (by decide) (hts (.fieldLink RX5 10 "QueueMiddles$Tally" "kinds" "LQueueMiddles$Row;") (by decide +kernel)) (fun _ h9 => h9) rfl dX5_withRank_6 ?_
      refine va_calli (va_runV (As := []) (rest := [.int v3_1]) ⟨hx, hb, hml, hown, hts⟩ (nX4_size l D A ad cI cQ rest S (12 + k) (qb_12 hix)) (cwV 0 hts gX5_withRank_X4_size rfl rfl rfl (by decide +kernel) ⟨Nat.le_of_ble_eq_true rfl, Nat.le_of_ble_eq_true rfl⟩) ⟨qm_blind, va_recv hK hP (ci := 4) (q0 := (26 + (12 + k))) rfl (qg_R (qb_12 hix)), fun U hU hW => ⟨rfl, qm_go hA hS hP hK hD hU hW⟩⟩ rfl rfl hl.1 rfl (lv_room (Nat.le_of_ble_eq_true rfl)) dX5_withRank_9 ⟨Nat.le_of_ble_eq_true rfl, Nat.le_of_ble_eq_true rfl⟩) hS (fun _ _ h9 => h9) (fun _ h9 => h9) (fun v u t H1 locs1 ht hvm hw hB hz1 hk1 hS => ?_)
      obtain ⟨hw1, hw2⟩ := hw
      have hw1 : (S.1 (12 + k)).1 = v := hw1.symm
      have hw2 : S = u := hw2.symm
      subst hw1
      subst hw2
      obtain ⟨hP, hD⟩ := qm_bk ht hB
      refine lv_icmp_ge (tgt := 46) hx hb dX5_withRank_12 (by decide) (fun c_2 => ?_) (fun c_2 => ?_)
      · rw [if_pos c_2] at h
        refine lv_iconst (v := (0 : Int32)) hx hb dX5_withRank_46 (by decide) ?_
        have h := Option.some.inj h
        subst h
        rw [hQX]
        exact W.iret (v := (0 : Int32)) hx hb hr (fun t ht hW => ⟨⟨(0 : Int32), S, rfl, ⟨rfl, rfl⟩, qm_en ht hP hD⟩, hS.F ht⟩) hS.2.2 dX5_withRank_47
      · rw [if_neg c_2] at h
        refine lv_iload_n hx hb dX5_withRank_15 rfl (lv_at hl 2 rfl) ?_
        refine lv_aload_n hx hb dX5_withRank_16 rfl (lv_at hl 0 rfl) ?_
        refine va_get (D := D) (ci := 5) (v := .ref (ad (26 + (16 + k)))) (C := RX5) (T := TX5) (N := 3) hx hb hts (by decide +kernel) hown hK hP (10 + k) (qg_T hix) rfl 1 (by decide) (hts (.fieldLink RX5 16 "QueueMiddles$Tally" "times" "LQueueMiddles$Row;") (by decide +kernel)) (fun _ h9 => h9) rfl dX5_withRank_17 ?_
        refine lv_iload_n hx hb dX5_withRank_20 rfl (lv_at hl 3 rfl) ?_
        refine va_calli (va_runV (As := [.int v3_1]) (rest := [.int v2_1]) ⟨hx, hb, hml, hown, hts⟩ (nX4_at l D A ad cI cQ rest S (16 + k) (qb_16 hix) v3_1) (cwV 1 hts gX5_withRank_X4_at rfl rfl rfl (by decide +kernel) ⟨Nat.le_of_ble_eq_true rfl, Nat.le_of_ble_eq_true rfl⟩) ⟨qm_blind, va_recv hK hP (ci := 4) (q0 := (26 + (16 + k))) rfl (qg_R (qb_16 hix)), fun U hU hW => ⟨rfl, qm_go hA hS hP hK hD hU hW⟩⟩ rfl rfl hl.1 rfl (lv_room (Nat.le_of_ble_eq_true rfl)) dX5_withRank_21 ⟨Nat.le_of_ble_eq_true rfl, Nat.le_of_ble_eq_true rfl⟩) hS (fun _ _ h9 => h9) (fun _ h9 => h9) (fun v u t H1 locs1 ht hvm hw hB hz1 hk1 hS => ?_)
        obtain ⟨hw1, hw2⟩ := hw
        have hw1 : rw_at (S.1 (16 + k)) v3_1 = v := hw1.symm
        have hw2 : S = u := hw2.symm
        subst hw1
        subst hw2
        obtain ⟨hP, hD⟩ := qm_bk ht hB
        refine lv_iadd hx hb dX5_withRank_24 ?_
        refine lv_istore_n (lv' := [(2, .int (v2_1 + (rw_at (S.1 (16 + k)) v3_1))), (0, .ref (ad (10 + k))), (1, .int p0), (3, .int v3_1)]) hx hb dX5_withRank_25 rfl hl (by decide) rfl (fun ls hl => ?_)
        refine lv_iload_n hx hb dX5_withRank_26 rfl (lv_at hl 0 rfl) ?_
        refine lv_iload_n hx hb dX5_withRank_27 rfl (lv_at hl 2 rfl) ?_
        refine lv_icmp_lt (tgt := 40) hx hb dX5_withRank_28 (by decide) (fun c_3 => ?_) (fun c_3 => ?_)
        · rw [if_pos c_3] at h
          refine lv_iinc (v := v3_1 + (1 : Int32)) (lv' := [(3, .int (v3_1 + (1 : Int32))), (2, .int (v2_1 + (rw_at (S.1 (16 + k)) v3_1))), (0, .ref (ad (10 + k))), (1, .int p0)]) hx hb dX5_withRank_40 hl (k := 3) rfl rfl (by decide) rfl (fun ls hl => ?_)
          refine lv_goto (tgt := 4) hx hb dX5_withRank_43 (by decide) ?_
          exact ih (v2_1 + (rw_at (S.1 (16 + k)) v3_1)) (v3_1 + (1 : Int32)) h _ _ _ hP hD hS (lv_sub hl [2, 3, 1, 0] rfl)
        · rw [if_neg c_3] at h
          refine lv_aload_n hx hb dX5_withRank_31 rfl (lv_at hl 1 rfl) ?_
          refine va_get (D := D) (ci := 5) (v := .ref (ad (26 + (12 + k)))) (C := RX5) (T := TX5) (N := 3) hx hb hts (by decide +kernel) hown hK hP (10 + k) (qg_T hix) rfl 0 (by decide) (hts (.fieldLink RX5 10 "QueueMiddles$Tally" "kinds" "LQueueMiddles$Row;") (by decide +kernel)) (fun _ h9 => h9) rfl dX5_withRank_32 ?_
          refine lv_iload_n hx hb dX5_withRank_35 rfl (lv_at hl 3 rfl) ?_
          refine va_calli (va_runV (As := [.int v3_1]) (rest := []) ⟨hx, hb, hml, hown, hts⟩ (nX4_at l D A ad cI cQ rest S (12 + k) (qb_12 hix) v3_1) (cwV 1 hts gX5_withRank_X4_at rfl rfl rfl (by decide +kernel) ⟨Nat.le_of_ble_eq_true rfl, Nat.le_of_ble_eq_true rfl⟩) ⟨qm_blind, va_recv hK hP (ci := 4) (q0 := (26 + (12 + k))) rfl (qg_R (qb_12 hix)), fun U hU hW => ⟨rfl, qm_go hA hS hP hK hD hU hW⟩⟩ rfl rfl hl.1 rfl (lv_room (Nat.le_of_ble_eq_true rfl)) dX5_withRank_36 ⟨Nat.le_of_ble_eq_true rfl, Nat.le_of_ble_eq_true rfl⟩) hS (fun _ _ h9 => h9) (fun _ h9 => h9) (fun v u t H1 locs1 ht hvm hw hB hz1 hk1 hS => ?_)
          obtain ⟨hw1, hw2⟩ := hw
          have hw1 : rw_at (S.1 (12 + k)) v3_1 = v := hw1.symm
          have hw2 : S = u := hw2.symm
          subst hw1
          subst hw2
          obtain ⟨hP, hD⟩ := qm_bk ht hB
          have h := Option.some.inj h
          subst h
          rw [hQX]
          exact W.iret (v := rw_at (S.1 (12 + k)) v3_1) hx hb hr (fun t ht hW => ⟨⟨rw_at (S.1 (12 + k)) v3_1, S, rfl, ⟨rfl, rfl⟩, qm_en ht hP hD⟩, hS.F ht⟩) hS.2.2 dX5_withRank_39
  exact loop_1 qm_F (0 : Int32) (0 : Int32) h _ _ _ hP hD hS (lv_sub hl [2, 3, 1, 0] rfl)
noncomputable def fX6_middle (S : qm_S) (p0 : Int32) : Option (Int32 ⊕ String) :=
  Option.bind (fX6_counterAt S p0) (fun z_1 => Sum.elim (fun a_3 => qm_gd (a_3 < 4) (Option.bind (fX0_demandNumbers S a_3) (fun z_6 => Sum.elim (fun a_8 => Option.bind (fX5_withRank S a_3 (((S.2.2 a_3) + (1 : Int32)) / (2 : Int32))) (fun z_10 => some (.inl z_10))) (fun e => some (.inr e)) z_6))) (fun e => some (.inr e)) z_1)
set_option maxHeartbeats 4000000 in
set_option maxRecDepth 100000 in
theorem kX6_middle {l : Launch} (hst : l.stackTraces = false) (_ : Launch) (D : va_G) (A : Nat → Prop) (ad : Nat → Nat) (cI cQ : ClassId) (rest : va_W) (S : qm_S) (p0 : Int32) (z : Int32 ⊕ String) (h : fX6_middle S p0 = some z) : vx_Met l yX6_middle wsX6_middle ({ frames := 7, cells := 2, slots := 12, locals := 111 }) (va_Pc [.ref (ad 0), .int p0] (qm_BZ D A (qm_T cI cQ) (qm_W ad cI cQ rest S))) (qm_Yi D A (qm_W ad cI cQ rest) S z) (qm_YX D A (qm_W ad cI cQ rest S) (fun E => z = .inr E)) 2 12 A := by
  refine vx_ofW (cc := cX6_middle) (maxL := 3) (ret := (some .int)) (by decide) rfl ?_
  intro p e s m args below meth c s₁ B hml hno hv
  obtain ⟨rfl, ⟨hA, hP, hK, hD⟩, hZ⟩ := hv
  have hx := B.exec
  have hb := B.bytes
  have hr := B.returns
  have hts := atoms_spec (ws := wsX6_middle) B.pre
  have hown : s.vm.findClass RX6 = some m.cls := findClass_of_methodNamed B.named
  have hlocks := B.notSynchronized
  have hS : va_S A s.heap s.heap [] := va_S.rf
  have hl := lv_entry ([.ref (ad 0), .int p0]) (n := 3) (Nat.le_of_ble_eq_true rfl)
  rw [lg_entry_eq]
  generalize (lg_sl ([.ref (ad 0), .int p0]) ++ List.replicate (3 - (lg_sl ([.ref (ad 0), .int p0])).length) Slot.unset).toArray = ls at hl ⊢
  have hl : lv_has ls 3 [(0, .ref (ad 0)), (1, .int p0)] := hl
  rw [fX6_middle] at h
  refine lv_aload_n hx hb dX6_middle_0 rfl (lv_at hl 0 rfl) ?_
  refine lv_iload_n hx hb dX6_middle_1 rfl (lv_at hl 1 rfl) ?_
  obtain ⟨z_1, hz_2, h⟩ := qm_bind h
  rcases z_1 with a_3 | e_4
  · refine qx_callr (vx_runV (As := [.int p0]) (rest := []) ⟨hx, hb, hml, hown, hts⟩ (kX6_counterAt hst l D A ad cI cQ rest S p0 _ hz_2) (cwV 1 hts gX6_middle_X6_counterAt rfl rfl rfl (by decide +kernel) ⟨Nat.le_of_ble_eq_true rfl, Nat.le_of_ble_eq_true rfl⟩) ⟨qm_blindZ, va_recv hK hP (ci := 6) (q0 := 0) rfl qg_Q, fun U hU hW => ⟨rfl, qm_go hA hS hP hK hD hU hW, qm_Zgo hZ hS hU hW⟩⟩ rfl rfl hl.1 rfl (lv_room (Nat.le_of_ble_eq_true rfl)) dX6_middle_2 ⟨Nat.le_of_ble_eq_true rfl, Nat.le_of_ble_eq_true rfl⟩) hS (fun _ _ h9 => h9) (fun _ h9 => h9) (fun _ _ h9 => h9) (fun E ce q9 u9 t H1 locs1 ht hvm hw hB hz1 hk1 hS hce hcv hcl => absurd hB.1 (fun q => by cases q)) (fun u ra t H1 locs1 ht hvm hw hB hz1 hk1 hS => ?_)
    rw [Sum.elim_inl] at h
    obtain ⟨⟨i9, hi1, hi2⟩, hB⟩ := hB
    have hi1 := Sum.inl.inj hi1
    subst hi1
    have hi2 : ad (2 + a_3) = ra := hi2.symm
    subst hi2
    have hw : S = u := hw.symm
    subst hw
    obtain ⟨hk_5, h⟩ := qm_gd_some h
    obtain ⟨hP, hD⟩ := qm_bk ht hB
    refine lv_astore_n (lv' := [(2, .ref (ad (2 + a_3))), (0, .ref (ad 0)), (1, .int p0)]) hx hb dX6_middle_5 rfl hl (by decide) rfl (fun ls hl => ?_)
    refine lv_aload_n hx hb dX6_middle_6 rfl (lv_at hl 0 rfl) ?_
    obtain ⟨z_6, hz_7, h⟩ := qm_bind h
    rcases z_6 with a_8 | e_9
    · refine vx_callv (vx_runV (As := []) (rest := []) ⟨hx, hb, hml, hown, hts⟩ (kX0_demandNumbers hst l D A ad cI cQ rest S a_3 hk_5 _ hz_7) (cwV 0 hts gX6_middle_X0_demandNumbers rfl rfl rfl (by decide +kernel) ⟨Nat.le_of_ble_eq_true rfl, Nat.le_of_ble_eq_true rfl⟩) ⟨qm_blindZ, va_recv hK hP (ci := 0) (q0 := (2 + a_3)) rfl (qg_C hk_5), fun U hU hW => ⟨rfl, qm_go hA hS hP hK hD hU hW, qm_Zgo hZ hS hU hW⟩⟩ rfl rfl hl.1 rfl (lv_room (Nat.le_of_ble_eq_true rfl)) dX6_middle_7 ⟨Nat.le_of_ble_eq_true rfl, Nat.le_of_ble_eq_true rfl⟩) hS (fun _ _ h9 => h9) (fun _ h9 => h9) (fun _ _ h9 => h9) (fun E ce q9 u9 t H1 locs1 ht hvm hw hB hz1 hk1 hS hce hcv hcl => absurd hB.1 (fun q => by cases q)) (fun u t H1 locs1 ht hvm hw hB hz1 hk1 hS => ?_)
      rw [Sum.elim_inl] at h
      obtain ⟨hw1, hw2⟩ := hw
      have hw2 : S = u := hw2.symm
      subst hw2
      obtain ⟨hP, hD⟩ := qm_bk ht hB
      refine lv_aload_n hx hb dX6_middle_10 rfl (lv_at hl 0 rfl) ?_
      refine va_getN (D := D) (ci := 0) (v := .ref (ad (10 + a_3))) (C := RX0) (T := TX0) (N := 4) hx hb hts (by decide +kernel) hown hK hP (2 + a_3) (qg_C hk_5) rfl 1 (by decide) (va_Nw.use rfl (qz_fnumbers hZ)) (fun _ h9 => h9) rfl dX6_middle_11 ?_
      refine lv_aload_n hx hb dX6_middle_14 rfl (lv_at hl 0 rfl) ?_
      refine va_getN (D := D) (ci := 0) (v := .ref (ad (10 + a_3))) (C := RX0) (T := TX0) (N := 4) hx hb hts (by decide +kernel) hown hK hP (2 + a_3) (qg_C hk_5) rfl 1 (by decide) (va_Nw.use rfl (qz_fnumbers hZ)) (fun _ h9 => h9) rfl dX6_middle_15 ?_
      refine va_calli (va_runV (As := []) (rest := [.ref (ad (10 + a_3))]) ⟨hx, hb, hml, hown, hts⟩ (nX5_total l D A ad cI cQ rest S a_3 hk_5) (cwV 0 hts gX6_middle_X5_total rfl rfl rfl (by decide +kernel) ⟨Nat.le_of_ble_eq_true rfl, Nat.le_of_ble_eq_true rfl⟩) ⟨qm_blind, va_recv hK hP (ci := 5) (q0 := (10 + a_3)) rfl (qg_T hk_5), fun U hU hW => ⟨rfl, qm_go hA hS hP hK hD hU hW⟩⟩ rfl rfl hl.1 rfl (lv_room (Nat.le_of_ble_eq_true rfl)) dX6_middle_18 ⟨Nat.le_of_ble_eq_true rfl, Nat.le_of_ble_eq_true rfl⟩) hS (fun _ _ h9 => h9) (fun _ h9 => h9) (fun v u t H1 locs1 ht hvm hw hB hz1 hk1 hS => ?_)
      obtain ⟨hw1, hw2⟩ := hw
      have hw1 : (S.2.2 a_3) = v := hw1.symm
      have hw2 : S = u := hw2.symm
      subst hw1
      subst hw2
      obtain ⟨hP, hD⟩ := qm_bk ht hB
      refine lv_iconst (v := (1 : Int32)) hx hb dX6_middle_21 (by decide) ?_
      refine lv_iadd hx hb dX6_middle_22 ?_
      refine lv_iconst (v := (2 : Int32)) hx hb dX6_middle_23 (by decide) ?_
      refine lv_idiv hx hb dX6_middle_24 (by decide) ?_
      obtain ⟨z_10, hz_11, h⟩ := qm_bind h
      refine va_calli (va_runV (As := [.int (((S.2.2 a_3) + (1 : Int32)) / (2 : Int32))]) (rest := []) ⟨hx, hb, hml, hown, hts⟩ (kX5_withRank l D A ad cI cQ rest S a_3 hk_5 (((S.2.2 a_3) + (1 : Int32)) / (2 : Int32)) z_10 hz_11) (cwV 1 hts gX6_middle_X5_withRank rfl rfl rfl (by decide +kernel) ⟨Nat.le_of_ble_eq_true rfl, Nat.le_of_ble_eq_true rfl⟩) ⟨qm_blind, va_recv hK hP (ci := 5) (q0 := (10 + a_3)) rfl (qg_T hk_5), fun U hU hW => ⟨rfl, qm_go hA hS hP hK hD hU hW⟩⟩ rfl rfl hl.1 rfl (lv_room (Nat.le_of_ble_eq_true rfl)) dX6_middle_25 ⟨Nat.le_of_ble_eq_true rfl, Nat.le_of_ble_eq_true rfl⟩) hS (fun _ _ h9 => h9) (fun _ h9 => h9) (fun v u t H1 locs1 ht hvm hw hB hz1 hk1 hS => ?_)
      obtain ⟨hw1, hw2⟩ := hw
      have hw1 : z_10 = v := hw1.symm
      have hw2 : S = u := hw2.symm
      subst hw1
      subst hw2
      obtain ⟨hP, hD⟩ := qm_bk ht hB
      have h := Option.some.inj h
      subst h
      refine vx_ret ?_
      refine W.widen (k := 2) (n := 12) (Nat.le_of_ble_eq_true rfl) (Nat.le_of_ble_eq_true rfl) ?_
      exact W.iret (v := z_10) hx hb hr (fun t ht hW => ⟨⟨z_10, S, rfl, ⟨rfl, rfl⟩, qm_en ht hP hD⟩, hS.F ht⟩) hS.2.2 dX6_middle_28
    · refine vx_callv (vx_runV (As := []) (rest := []) ⟨hx, hb, hml, hown, hts⟩ (kX0_demandNumbers hst l D A ad cI cQ rest S a_3 hk_5 _ hz_7) (cwV 0 hts gX6_middle_X0_demandNumbers rfl rfl rfl (by decide +kernel) ⟨Nat.le_of_ble_eq_true rfl, Nat.le_of_ble_eq_true rfl⟩) ⟨qm_blindZ, va_recv hK hP (ci := 0) (q0 := (2 + a_3)) rfl (qg_C hk_5), fun U hU hW => ⟨rfl, qm_go hA hS hP hK hD hU hW, qm_Zgo hZ hS hU hW⟩⟩ rfl rfl hl.1 rfl (lv_room (Nat.le_of_ble_eq_true rfl)) dX6_middle_7 ⟨Nat.le_of_ble_eq_true rfl, Nat.le_of_ble_eq_true rfl⟩) hS (fun _ _ h9 => h9) (fun _ h9 => h9) (fun _ _ h9 => h9) (fun E ce q9 u9 t H1 locs1 ht hvm hw hB hz1 hk1 hS hce hcv hcl => ?_) (fun u t H1 locs1 ht hvm hw hB hz1 hk1 hS => absurd (hw.1) (fun q => by cases q))
      obtain ⟨hE1, hE2⟩ := hB
      have hE1 := Sum.inr.inj hE1
      subst hE1
      obtain ⟨hP, hD⟩ := qm_bk ht hE2
      have h := Option.some.inj h
      subst h
      exact vx_out (fun x9 q9 => (hno x9 q9).elim) hlocks hce hcv hcl (fun t9 ht9 hvm9 => ⟨(), trivial, ⟨rfl, qm_en ht9 hP hD⟩, hS.F ht9⟩) hS.2.2 (Nat.le_of_ble_eq_true rfl) (Nat.le_of_ble_eq_true rfl)
  · refine qx_callr (vx_runV (As := [.int p0]) (rest := []) ⟨hx, hb, hml, hown, hts⟩ (kX6_counterAt hst l D A ad cI cQ rest S p0 _ hz_2) (cwV 1 hts gX6_middle_X6_counterAt rfl rfl rfl (by decide +kernel) ⟨Nat.le_of_ble_eq_true rfl, Nat.le_of_ble_eq_true rfl⟩) ⟨qm_blindZ, va_recv hK hP (ci := 6) (q0 := 0) rfl qg_Q, fun U hU hW => ⟨rfl, qm_go hA hS hP hK hD hU hW, qm_Zgo hZ hS hU hW⟩⟩ rfl rfl hl.1 rfl (lv_room (Nat.le_of_ble_eq_true rfl)) dX6_middle_2 ⟨Nat.le_of_ble_eq_true rfl, Nat.le_of_ble_eq_true rfl⟩) hS (fun _ _ h9 => h9) (fun _ h9 => h9) (fun _ _ h9 => h9) (fun E ce q9 u9 t H1 locs1 ht hvm hw hB hz1 hk1 hS hce hcv hcl => ?_) (fun u ra t H1 locs1 ht hvm hw hB hz1 hk1 hS => absurd (hB.1.choose_spec.1) (fun q => by cases q))
    obtain ⟨hE1, hE2⟩ := hB
    have hE1 := Sum.inr.inj hE1
    subst hE1
    obtain ⟨hP, hD⟩ := qm_bk ht hE2
    have h := Option.some.inj h
    subst h
    exact vx_out (fun x9 q9 => (hno x9 q9).elim) hlocks hce hcv hcl (fun t9 ht9 hvm9 => ⟨(), trivial, ⟨rfl, qm_en ht9 hP hD⟩, hS.F ht9⟩) hS.2.2 (Nat.le_of_ble_eq_true rfl) (Nat.le_of_ble_eq_true rfl)
noncomputable def fX6_middleByHeaps (S : qm_S) (p0 : Int32) : Option (Int32 ⊕ String) :=
  Option.bind (fX6_counterAt S p0) (fun z_1 => Sum.elim (fun a_3 => qm_gd (a_3 < 4) (Option.bind (fX0_demandNumbers S a_3) (fun z_6 => Sum.elim (fun a_8 => some (.inl (-(rw_at (S.1 (20 + (2 * a_3))) (0 : Int32))))) (fun e => some (.inr e)) z_6))) (fun e => some (.inr e)) z_1)
set_option maxHeartbeats 4000000 in
set_option maxRecDepth 100000 in
theorem kX6_middleByHeaps {l : Launch} (hst : l.stackTraces = false) (_ : Launch) (D : va_G) (A : Nat → Prop) (ad : Nat → Nat) (cI cQ : ClassId) (rest : va_W) (S : qm_S) (p0 : Int32) (z : Int32 ⊕ String) (h : fX6_middleByHeaps S p0 = some z) : vx_Met l yX6_middleByHeaps wsX6_middleByHeaps ({ frames := 7, cells := 2, slots := 12, locals := 111 }) (va_Pc [.ref (ad 0), .int p0] (qm_BZ D A (qm_T cI cQ) (qm_W ad cI cQ rest S))) (qm_Yi D A (qm_W ad cI cQ rest) S z) (qm_YX D A (qm_W ad cI cQ rest S) (fun E => z = .inr E)) 2 12 A := by
  refine vx_ofW (cc := cX6_middleByHeaps) (maxL := 3) (ret := (some .int)) (by decide) rfl ?_
  intro p e s m args below meth c s₁ B hml hno hv
  obtain ⟨rfl, ⟨hA, hP, hK, hD⟩, hZ⟩ := hv
  have hx := B.exec
  have hb := B.bytes
  have hr := B.returns
  have hts := atoms_spec (ws := wsX6_middleByHeaps) B.pre
  have hown : s.vm.findClass RX6 = some m.cls := findClass_of_methodNamed B.named
  have hlocks := B.notSynchronized
  have hS : va_S A s.heap s.heap [] := va_S.rf
  have hl := lv_entry ([.ref (ad 0), .int p0]) (n := 3) (Nat.le_of_ble_eq_true rfl)
  rw [lg_entry_eq]
  generalize (lg_sl ([.ref (ad 0), .int p0]) ++ List.replicate (3 - (lg_sl ([.ref (ad 0), .int p0])).length) Slot.unset).toArray = ls at hl ⊢
  have hl : lv_has ls 3 [(0, .ref (ad 0)), (1, .int p0)] := hl
  rw [fX6_middleByHeaps] at h
  refine lv_aload_n hx hb dX6_middleByHeaps_0 rfl (lv_at hl 0 rfl) ?_
  refine lv_iload_n hx hb dX6_middleByHeaps_1 rfl (lv_at hl 1 rfl) ?_
  obtain ⟨z_1, hz_2, h⟩ := qm_bind h
  rcases z_1 with a_3 | e_4
  · refine qx_callr (vx_runV (As := [.int p0]) (rest := []) ⟨hx, hb, hml, hown, hts⟩ (kX6_counterAt hst l D A ad cI cQ rest S p0 _ hz_2) (cwV 1 hts gX6_middleByHeaps_X6_counterAt rfl rfl rfl (by decide +kernel) ⟨Nat.le_of_ble_eq_true rfl, Nat.le_of_ble_eq_true rfl⟩) ⟨qm_blindZ, va_recv hK hP (ci := 6) (q0 := 0) rfl qg_Q, fun U hU hW => ⟨rfl, qm_go hA hS hP hK hD hU hW, qm_Zgo hZ hS hU hW⟩⟩ rfl rfl hl.1 rfl (lv_room (Nat.le_of_ble_eq_true rfl)) dX6_middleByHeaps_2 ⟨Nat.le_of_ble_eq_true rfl, Nat.le_of_ble_eq_true rfl⟩) hS (fun _ _ h9 => h9) (fun _ h9 => h9) (fun _ _ h9 => h9) (fun E ce q9 u9 t H1 locs1 ht hvm hw hB hz1 hk1 hS hce hcv hcl => absurd hB.1 (fun q => by cases q)) (fun u ra t H1 locs1 ht hvm hw hB hz1 hk1 hS => ?_)
    rw [Sum.elim_inl] at h
    obtain ⟨⟨i9, hi1, hi2⟩, hB⟩ := hB
    have hi1 := Sum.inl.inj hi1
    subst hi1
    have hi2 : ad (2 + a_3) = ra := hi2.symm
    subst hi2
    have hw : S = u := hw.symm
    subst hw
    obtain ⟨hk_5, h⟩ := qm_gd_some h
    obtain ⟨hP, hD⟩ := qm_bk ht hB
    refine lv_astore_n (lv' := [(2, .ref (ad (2 + a_3))), (0, .ref (ad 0)), (1, .int p0)]) hx hb dX6_middleByHeaps_5 rfl hl (by decide) rfl (fun ls hl => ?_)
    refine lv_aload_n hx hb dX6_middleByHeaps_6 rfl (lv_at hl 0 rfl) ?_
    obtain ⟨z_6, hz_7, h⟩ := qm_bind h
    rcases z_6 with a_8 | e_9
    · refine vx_callv (vx_runV (As := []) (rest := []) ⟨hx, hb, hml, hown, hts⟩ (kX0_demandNumbers hst l D A ad cI cQ rest S a_3 hk_5 _ hz_7) (cwV 0 hts gX6_middleByHeaps_X0_demandNumbers rfl rfl rfl (by decide +kernel) ⟨Nat.le_of_ble_eq_true rfl, Nat.le_of_ble_eq_true rfl⟩) ⟨qm_blindZ, va_recv hK hP (ci := 0) (q0 := (2 + a_3)) rfl (qg_C hk_5), fun U hU hW => ⟨rfl, qm_go hA hS hP hK hD hU hW, qm_Zgo hZ hS hU hW⟩⟩ rfl rfl hl.1 rfl (lv_room (Nat.le_of_ble_eq_true rfl)) dX6_middleByHeaps_7 ⟨Nat.le_of_ble_eq_true rfl, Nat.le_of_ble_eq_true rfl⟩) hS (fun _ _ h9 => h9) (fun _ h9 => h9) (fun _ _ h9 => h9) (fun E ce q9 u9 t H1 locs1 ht hvm hw hB hz1 hk1 hS hce hcv hcl => absurd hB.1 (fun q => by cases q)) (fun u t H1 locs1 ht hvm hw hB hz1 hk1 hS => ?_)
      rw [Sum.elim_inl] at h
      obtain ⟨hw1, hw2⟩ := hw
      have hw2 : S = u := hw2.symm
      subst hw2
      obtain ⟨hP, hD⟩ := qm_bk ht hB
      refine lv_aload_n hx hb dX6_middleByHeaps_10 rfl (lv_at hl 0 rfl) ?_
      refine va_getN (D := D) (ci := 0) (v := .ref (ad (14 + a_3))) (C := RX0) (T := TX0) (N := 4) hx hb hts (by decide +kernel) hown hK hP (2 + a_3) (qg_C hk_5) rfl 2 (by decide) (va_Nw.use rfl (qz_fhalves hZ)) (fun _ h9 => h9) rfl dX6_middleByHeaps_11 ?_
      refine va_calli (va_runV (As := []) (rest := []) ⟨hx, hb, hml, hown, hts⟩ (nX1_greatestOfLesser l D A ad cI cQ rest S a_3 hk_5) (cwV 0 hts gX6_middleByHeaps_X1_greatestOfLesser rfl rfl rfl (by decide +kernel) ⟨Nat.le_of_ble_eq_true rfl, Nat.le_of_ble_eq_true rfl⟩) ⟨qm_blind, va_recv hK hP (ci := 1) (q0 := (14 + a_3)) rfl (qg_H hk_5), fun U hU hW => ⟨rfl, qm_go hA hS hP hK hD hU hW⟩⟩ rfl rfl hl.1 rfl (lv_room (Nat.le_of_ble_eq_true rfl)) dX6_middleByHeaps_14 ⟨Nat.le_of_ble_eq_true rfl, Nat.le_of_ble_eq_true rfl⟩) hS (fun _ _ h9 => h9) (fun _ h9 => h9) (fun v u t H1 locs1 ht hvm hw hB hz1 hk1 hS => ?_)
      obtain ⟨hw1, hw2⟩ := hw
      have hw1 : (-(rw_at (S.1 (20 + (2 * a_3))) (0 : Int32))) = v := hw1.symm
      have hw2 : S = u := hw2.symm
      subst hw1
      subst hw2
      obtain ⟨hP, hD⟩ := qm_bk ht hB
      have h := Option.some.inj h
      subst h
      refine vx_ret ?_
      refine W.widen (k := 2) (n := 12) (Nat.le_of_ble_eq_true rfl) (Nat.le_of_ble_eq_true rfl) ?_
      exact W.iret (v := (-(rw_at (S.1 (20 + (2 * a_3))) (0 : Int32)))) hx hb hr (fun t ht hW => ⟨⟨(-(rw_at (S.1 (20 + (2 * a_3))) (0 : Int32))), S, rfl, ⟨rfl, rfl⟩, qm_en ht hP hD⟩, hS.F ht⟩) hS.2.2 dX6_middleByHeaps_17
    · refine vx_callv (vx_runV (As := []) (rest := []) ⟨hx, hb, hml, hown, hts⟩ (kX0_demandNumbers hst l D A ad cI cQ rest S a_3 hk_5 _ hz_7) (cwV 0 hts gX6_middleByHeaps_X0_demandNumbers rfl rfl rfl (by decide +kernel) ⟨Nat.le_of_ble_eq_true rfl, Nat.le_of_ble_eq_true rfl⟩) ⟨qm_blindZ, va_recv hK hP (ci := 0) (q0 := (2 + a_3)) rfl (qg_C hk_5), fun U hU hW => ⟨rfl, qm_go hA hS hP hK hD hU hW, qm_Zgo hZ hS hU hW⟩⟩ rfl rfl hl.1 rfl (lv_room (Nat.le_of_ble_eq_true rfl)) dX6_middleByHeaps_7 ⟨Nat.le_of_ble_eq_true rfl, Nat.le_of_ble_eq_true rfl⟩) hS (fun _ _ h9 => h9) (fun _ h9 => h9) (fun _ _ h9 => h9) (fun E ce q9 u9 t H1 locs1 ht hvm hw hB hz1 hk1 hS hce hcv hcl => ?_) (fun u t H1 locs1 ht hvm hw hB hz1 hk1 hS => absurd (hw.1) (fun q => by cases q))
      obtain ⟨hE1, hE2⟩ := hB
      have hE1 := Sum.inr.inj hE1
      subst hE1
      obtain ⟨hP, hD⟩ := qm_bk ht hE2
      have h := Option.some.inj h
      subst h
      exact vx_out (fun x9 q9 => (hno x9 q9).elim) hlocks hce hcv hcl (fun t9 ht9 hvm9 => ⟨(), trivial, ⟨rfl, qm_en ht9 hP hD⟩, hS.F ht9⟩) hS.2.2 (Nat.le_of_ble_eq_true rfl) (Nat.le_of_ble_eq_true rfl)
  · refine qx_callr (vx_runV (As := [.int p0]) (rest := []) ⟨hx, hb, hml, hown, hts⟩ (kX6_counterAt hst l D A ad cI cQ rest S p0 _ hz_2) (cwV 1 hts gX6_middleByHeaps_X6_counterAt rfl rfl rfl (by decide +kernel) ⟨Nat.le_of_ble_eq_true rfl, Nat.le_of_ble_eq_true rfl⟩) ⟨qm_blindZ, va_recv hK hP (ci := 6) (q0 := 0) rfl qg_Q, fun U hU hW => ⟨rfl, qm_go hA hS hP hK hD hU hW, qm_Zgo hZ hS hU hW⟩⟩ rfl rfl hl.1 rfl (lv_room (Nat.le_of_ble_eq_true rfl)) dX6_middleByHeaps_2 ⟨Nat.le_of_ble_eq_true rfl, Nat.le_of_ble_eq_true rfl⟩) hS (fun _ _ h9 => h9) (fun _ h9 => h9) (fun _ _ h9 => h9) (fun E ce q9 u9 t H1 locs1 ht hvm hw hB hz1 hk1 hS hce hcv hcl => ?_) (fun u ra t H1 locs1 ht hvm hw hB hz1 hk1 hS => absurd (hB.1.choose_spec.1) (fun q => by cases q))
    obtain ⟨hE1, hE2⟩ := hB
    have hE1 := Sum.inr.inj hE1
    subst hE1
    obtain ⟨hP, hD⟩ := qm_bk ht hE2
    have h := Option.some.inj h
    subst h
    exact vx_out (fun x9 q9 => (hno x9 q9).elim) hlocks hce hcv hcl (fun t9 ht9 hvm9 => ⟨(), trivial, ⟨rfl, qm_en ht9 hP hD⟩, hS.F ht9⟩) hS.2.2 (Nat.le_of_ble_eq_true rfl) (Nat.le_of_ble_eq_true rfl)
