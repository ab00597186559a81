/-! ===== part ===== -/
def qm_Qd {X : Type} (D : va_G) (A : Nat → Prop) (w : X → va_W) (z : UInt64 × X) : Array Value → State → Outcome → State → Prop := va_Qd (fun (v : UInt64) (u : X) => v = z.1 ∧ u = z.2) (fun u t => qm_E D A (w u) t) A
def qm_Yd {X : Type} (D : va_G) (A : Nat → Prop) (w : X → va_W) (S : X) (z : UInt64 ⊕ String) : Array Value → State → Outcome → State → Prop := va_Qd (fun (v : UInt64) (u : X) => z = .inl v ∧ u = S) (fun u t => qm_E D A (w u) t) A
noncomputable def fX6_part (S : qm_S) (p0 : Int32) : Option (UInt64 ⊕ String) :=
  Option.bind (fX6_counterAt S p0) (fun z_1 => Sum.elim (fun a_3 => qm_gd (a_3 < 4) ((if (S.2.2 a_3) ≤ 0 then some (.inl FP.dconst0) else qm_gd (vf_n64 (FP.ddiv (FP.i2d ((S.1 a_3).1)) (FP.i2d (S.2.2 a_3)))) (some (.inl (FP.ddiv (FP.i2d ((S.1 a_3).1)) (FP.i2d (S.2.2 a_3)))))))) (fun e => some (.inr e)) z_1)
set_option maxHeartbeats 4000000 in
set_option maxRecDepth 100000 in
theorem kX6_part {l : Launch} (hst : l.stackTraces = false) (_ : Launch) (D : va_G) (A : Nat → Prop) (ad : Nat → Nat) (cI cQ : ClassId) (rest : va_W) (S : qm_S) (p0 : Int32) (z : UInt64 ⊕ String) (h : fX6_part S p0 = some z) : vx_Met l yX6_part wsX6_part ({ frames := 7, cells := 1, slots := 6, locals := 111 }) (va_Pc [.ref (ad 0), .int p0] (qm_BZ D A (qm_T cI cQ) (qm_W ad cI cQ rest S))) (qm_Yd D A (qm_W ad cI cQ rest) S z) (qm_YX D A (qm_W ad cI cQ rest S) (fun E => z = .inr E)) 1 6 A := by
  refine vx_ofW (cc := cX6_part) (maxL := 4) (ret := (some .double)) (by decide) rfl ?_
  intro p e s m args below meth c s₁ B hml hno hv
  obtain ⟨rfl, ⟨hA, hP, hK, hD⟩, hZ⟩ := hv
  have hx := B.exec
  have hb := B.bytes
  have hr := B.returns
  have hts := atoms_spec (ws := wsX6_part) B.pre
  have hown : s.vm.findClass RX6 = some m.cls := findClass_of_methodNamed B.named
  have hlocks := B.notSynchronized
  have hS : va_S A s.heap s.heap [] := va_S.rf
  have hl := lv_entry ([.ref (ad 0), .int p0]) (n := 4) (Nat.le_of_ble_eq_true rfl)
  rw [lg_entry_eq]
  generalize (lg_sl ([.ref (ad 0), .int p0]) ++ List.replicate (4 - (lg_sl ([.ref (ad 0), .int p0])).length) Slot.unset).toArray = ls at hl ⊢
  have hl : lv_has ls 4 [(0, .ref (ad 0)), (1, .int p0)] := hl
  rw [fX6_part] at h
  refine lv_aload_n hx hb dX6_part_0 rfl (lv_at hl 0 rfl) ?_
  refine lv_iload_n hx hb dX6_part_1 rfl (lv_at hl 1 rfl) ?_
  obtain ⟨z_1, hz_2, h⟩ := qm_bind h
  rcases z_1 with a_3 | e_4
  · refine qx_callr (vx_runV (As := [.int p0]) (rest := []) ⟨hx, hb, hml, hown, hts⟩ (kX6_counterAt hst l D A ad cI cQ rest S p0 _ hz_2) (cwV 1 hts gX6_part_X6_counterAt rfl rfl rfl (by decide +kernel) ⟨Nat.le_of_ble_eq_true rfl, Nat.le_of_ble_eq_true rfl⟩) ⟨qm_blindZ, va_recv hK hP (ci := 6) (q0 := 0) rfl qg_Q, fun U hU hW => ⟨rfl, qm_go hA hS hP hK hD hU hW, qm_Zgo hZ hS hU hW⟩⟩ rfl rfl hl.1 rfl (lv_room (Nat.le_of_ble_eq_true rfl)) dX6_part_2 ⟨Nat.le_of_ble_eq_true rfl, Nat.le_of_ble_eq_true rfl⟩) hS (fun _ _ h9 => h9) (fun _ h9 => h9) (fun _ _ h9 => h9) (fun E ce q9 u9 t H1 locs1 ht hvm hw hB hz1 hk1 hS hce hcv hcl => absurd hB.1 (fun q => by cases q)) (fun u ra t H1 locs1 ht hvm hw hB hz1 hk1 hS => ?_)
    rw [Sum.elim_inl] at h
    obtain ⟨⟨i9, hi1, hi2⟩, hB⟩ := hB
    have hi1 := Sum.inl.inj hi1
    subst hi1
    have hi2 : ad (2 + a_3) = ra := hi2.symm
    subst hi2
    have hw : S = u := hw.symm
    subst hw
    obtain ⟨hk_5, h⟩ := qm_gd_some h
    obtain ⟨hP, hD⟩ := qm_bk ht hB
    refine lv_astore_n (lv' := [(2, .ref (ad (2 + a_3))), (0, .ref (ad 0)), (1, .int p0)]) hx hb dX6_part_5 rfl hl (by decide) rfl (fun ls hl => ?_)
    refine lv_aload_n hx hb dX6_part_6 rfl (lv_at hl 0 rfl) ?_
    refine va_getN (D := D) (ci := 0) (v := .ref (ad (10 + a_3))) (C := RX0) (T := TX0) (N := 4) hx hb hts (by decide +kernel) hown hK hP (2 + a_3) (qg_C hk_5) rfl 1 (by decide) (va_Nw.use rfl (qz_fnumbers hZ)) (fun _ h9 => h9) rfl dX6_part_7 ?_
    refine va_calli (va_runV (As := []) (rest := []) ⟨hx, hb, hml, hown, hts⟩ (nX5_total l D A ad cI cQ rest S a_3 hk_5) (cwV 0 hts gX6_part_X5_total rfl rfl rfl (by decide +kernel) ⟨Nat.le_of_ble_eq_true rfl, Nat.le_of_ble_eq_true rfl⟩) ⟨qm_blind, va_recv hK hP (ci := 5) (q0 := (10 + a_3)) rfl (qg_T hk_5), fun U hU hW => ⟨rfl, qm_go hA hS hP hK hD hU hW⟩⟩ rfl rfl hl.1 rfl (lv_room (Nat.le_of_ble_eq_true rfl)) dX6_part_10 ⟨Nat.le_of_ble_eq_true rfl, Nat.le_of_ble_eq_true rfl⟩) hS (fun _ _ h9 => h9) (fun _ h9 => h9) (fun v u t H1 locs1 ht hvm hw hB hz1 hk1 hS => ?_)
    obtain ⟨hw1, hw2⟩ := hw
    have hw1 : (S.2.2 a_3) = v := hw1.symm
    have hw2 : S = u := hw2.symm
    subst hw1
    subst hw2
    obtain ⟨hP, hD⟩ := qm_bk ht hB
    refine lv_istore_n (lv' := [(3, .int (S.2.2 a_3)), (2, .ref (ad (2 + a_3))), (0, .ref (ad 0)), (1, .int p0)]) hx hb dX6_part_13 rfl hl (by decide) rfl (fun ls hl => ?_)
    refine lv_iload_n hx hb dX6_part_14 rfl (lv_at hl 0 rfl) ?_
    refine lv_if_le (tgt := 32) hx hb dX6_part_15 (by decide) (fun c_6 => ?_) (fun c_6 => ?_)
    · rw [if_pos c_6] at h
      refine lv_dconst0 hx hb dX6_part_32 ?_
      have h := Option.some.inj h
      subst h
      refine vx_ret ?_
      refine W.widen (k := 1) (n := 6) (Nat.le_of_ble_eq_true rfl) (Nat.le_of_ble_eq_true rfl) ?_
      exact W.dret (v := FP.dconst0) hx hb hr (fun t ht hW => ⟨⟨FP.dconst0, S, rfl, ⟨rfl, rfl⟩, qm_en ht hP hD⟩, hS.F ht⟩) hS.2.2 dX6_part_33
    · rw [if_neg c_6] at h
      refine lv_aload_n hx hb dX6_part_18 rfl (lv_at hl 1 rfl) ?_
      refine va_getN (D := D) (ci := 0) (v := .ref (ad (6 + a_3))) (C := RX0) (T := TX0) (N := 4) hx hb hts (by decide +kernel) hown hK hP (2 + a_3) (qg_C hk_5) rfl 0 (by decide) (va_Nw.use rfl (qz_frow hZ)) (fun _ h9 => h9) rfl dX6_part_19 ?_
      refine va_calli (va_runV (As := []) (rest := []) ⟨hx, hb, hml, hown, hts⟩ (nX3_length l D A ad cI cQ rest S a_3 hk_5) (cwV 0 hts gX6_part_X3_length rfl rfl rfl (by decide +kernel) ⟨Nat.le_of_ble_eq_true rfl, Nat.le_of_ble_eq_true rfl⟩) ⟨qm_blind, va_recv hK hP (ci := 3) (q0 := (6 + a_3)) rfl (qg_M hk_5), fun U hU hW => ⟨rfl, qm_go hA hS hP hK hD hU hW⟩⟩ rfl rfl hl.1 rfl (lv_room (Nat.le_of_ble_eq_true rfl)) dX6_part_22 ⟨Nat.le_of_ble_eq_true rfl, Nat.le_of_ble_eq_true rfl⟩) hS (fun _ _ h9 => h9) (fun _ h9 => h9) (fun v u t H1 locs1 ht hvm hw hB hz1 hk1 hS => ?_)
      obtain ⟨hw1, hw2⟩ := hw
      have hw1 : ((S.1 a_3).1) = v := hw1.symm
      have hw2 : S = u := hw2.symm
      subst hw1
      subst hw2
      obtain ⟨hP, hD⟩ := qm_bk ht hB
      refine lv_i2d hx hb dX6_part_25 ?_
      refine lv_iload_n hx hb dX6_part_26 rfl (lv_at hl 0 rfl) ?_
      refine lv_i2d hx hb dX6_part_27 ?_
      obtain ⟨g_7, h⟩ := qm_gd_some h
      refine lv_ddiv hx hb dX6_part_28 g_7 ?_
      refine lv_goto (tgt := 33) hx hb dX6_part_29 (by decide) ?_
      have h := Option.some.inj h
      subst h
      refine vx_ret ?_
      refine W.widen (k := 1) (n := 6) (Nat.le_of_ble_eq_true rfl) (Nat.le_of_ble_eq_true rfl) ?_
      exact W.dret (v := FP.ddiv (FP.i2d ((S.1 a_3).1)) (FP.i2d (S.2.2 a_3))) hx hb hr (fun t ht hW => ⟨⟨FP.ddiv (FP.i2d ((S.1 a_3).1)) (FP.i2d (S.2.2 a_3)), S, rfl, ⟨rfl, rfl⟩, qm_en ht hP hD⟩, hS.F ht⟩) hS.2.2 dX6_part_33
  · refine qx_callr (vx_runV (As := [.int p0]) (rest := []) ⟨hx, hb, hml, hown, hts⟩ (kX6_counterAt hst l D A ad cI cQ rest S p0 _ hz_2) (cwV 1 hts gX6_part_X6_counterAt rfl rfl rfl (by decide +kernel) ⟨Nat.le_of_ble_eq_true rfl, Nat.le_of_ble_eq_true rfl⟩) ⟨qm_blindZ, va_recv hK hP (ci := 6) (q0 := 0) rfl qg_Q, fun U hU hW => ⟨rfl, qm_go hA hS hP hK hD hU hW, qm_Zgo hZ hS hU hW⟩⟩ rfl rfl hl.1 rfl (lv_room (Nat.le_of_ble_eq_true rfl)) dX6_part_2 ⟨Nat.le_of_ble_eq_true rfl, Nat.le_of_ble_eq_true rfl⟩) hS (fun _ _ h9 => h9) (fun _ h9 => h9) (fun _ _ h9 => h9) (fun E ce q9 u9 t H1 locs1 ht hvm hw hB hz1 hk1 hS hce hcv hcl => ?_) (fun u ra t H1 locs1 ht hvm hw hB hz1 hk1 hS => absurd (hB.1.choose_spec.1) (fun q => by cases q))
    obtain ⟨hE1, hE2⟩ := hB
    have hE1 := Sum.inr.inj hE1
    subst hE1
    obtain ⟨hP, hD⟩ := qm_bk ht hE2
    have h := Option.some.inj h
    subst h
    exact vx_out (fun x9 q9 => (hno x9 q9).elim) hlocks hce hcv hcl (fun t9 ht9 hvm9 => ⟨(), trivial, ⟨rfl, qm_en ht9 hP hD⟩, hS.F ht9⟩) hS.2.2 (Nat.le_of_ble_eq_true rfl) (Nat.le_of_ble_eq_true rfl)
noncomputable def fX7_part (S : mm_M) (p0 : Int32) : Option (UInt64 × mm_M) :=
  Option.bind (fX7_isThere S p0) (fun z_1 => (if z_1.1 = 0 then some (FP.dconst0, z_1.2) else qm_gd (vp_in p0 4) ((if ((z_1.2.1 1) p0.toNatClampNeg) ≤ 0 then some (FP.dconst0, z_1.2) else qm_gd (vp_in p0 4) (qm_gd (vp_in p0 4) (qm_gd (vf_n64 (FP.ddiv (FP.i2d ((z_1.2.1 2) p0.toNatClampNeg)) (FP.i2d ((z_1.2.1 1) p0.toNatClampNeg)))) (some (FP.ddiv (FP.i2d ((z_1.2.1 2) p0.toNatClampNeg)) (FP.i2d ((z_1.2.1 1) p0.toNatClampNeg)), z_1.2))))))))
set_option maxHeartbeats 4000000 in
set_option maxRecDepth 100000 in
theorem kX7_part (l : Launch) (D : va_G) (A : Nat → Prop) (pre : va_W) (am : Nat → Nat) (cI : ClassId) (S : mm_M) (p0 : Int32) (z : UInt64 × mm_M) (h : fX7_part S p0 = some z) : Met l yX7_part wsX7_part ({ frames := 3, cells := 0, slots := 0, locals := 63 }) (va_Pc [.ref (am 0), .int p0] (qm_B D A (mm_T cI) (mm_W pre am cI S))) (qm_Qd D A (mm_W pre am cI) z) 0 0 A := by
  refine Met.ofW (cc := cX7_part) (maxL := 2) (ret := (some .double)) (by decide) rfl ?_
  intro p e s m args below meth c s₁ B hml hv
  obtain ⟨rfl, hA, hP, hK, hD⟩ := hv
  have hx := B.exec
  have hb := B.bytes
  have hr := B.returns
  have hts := atoms_spec (ws := wsX7_part) B.pre
  have hown : s.vm.findClass RX7 = some m.cls := findClass_of_methodNamed B.named
  have hlocks := B.notSynchronized
  have hS : va_S A s.heap s.heap [] := va_S.rf
  have hl := lv_entry ([.ref (am 0), .int p0]) (n := 2) (Nat.le_of_ble_eq_true rfl)
  rw [lg_entry_eq]
  generalize (lg_sl ([.ref (am 0), .int p0]) ++ List.replicate (2 - (lg_sl ([.ref (am 0), .int p0])).length) Slot.unset).toArray = ls at hl ⊢
  have hl : lv_has ls 2 [(0, .ref (am 0)), (1, .int p0)] := hl
  rw [fX7_part] at h
  refine lv_aload_n hx hb dX7_part_0 rfl (lv_at hl 0 rfl) ?_
  refine lv_iload_n hx hb dX7_part_1 rfl (lv_at hl 1 rfl) ?_
  obtain ⟨z_1, hz_2, h⟩ := qm_bind h
  refine va_calli (va_runV (As := [.int p0]) (rest := []) ⟨hx, hb, hml, hown, hts⟩ (kX7_isThere l D A pre am cI S p0 z_1 hz_2) (cwV 1 hts gX7_part_X7_isThere rfl rfl rfl (by decide +kernel) ⟨Nat.le_of_ble_eq_true rfl, Nat.le_of_ble_eq_true rfl⟩) ⟨qm_blind, va_recv hK hP (ci := 7) (q0 := (pre.length + 0)) rfl mg_0, fun U hU hW => ⟨rfl, qm_go hA hS hP hK hD hU hW⟩⟩ rfl rfl hl.1 rfl (lv_room (Nat.le_of_ble_eq_true rfl)) dX7_part_2 ⟨Nat.le_of_ble_eq_true rfl, Nat.le_of_ble_eq_true rfl⟩) hS (fun _ _ h9 => h9) (fun _ h9 => h9) (fun v u t H1 locs1 ht hvm hw hB hz1 hk1 hS => ?_)
  obtain ⟨hw1, hw2⟩ := hw
  have hw1 : z_1.1 = v := hw1.symm
  have hw2 : z_1.2 = u := hw2.symm
  subst hw1
  subst hw2
  obtain ⟨hP, hD⟩ := qm_bk ht hB
  refine lv_if_eq (tgt := 35) hx hb dX7_part_5 (by decide) (fun c_3 => ?_) (fun c_3 => ?_)
  · rw [if_pos c_3] at h
    refine lv_dconst0 hx hb dX7_part_35 ?_
    have h := Option.some.inj h
    subst h
    exact W.dret (v := FP.dconst0) hx hb hr (fun t ht hW => ⟨⟨FP.dconst0, z_1.2, rfl, ⟨rfl, rfl⟩, qm_en ht hP hD⟩, hS.F ht⟩) hS.2.2 dX7_part_36
  · rw [if_neg c_3] at h
    refine lv_aload_n hx hb dX7_part_8 rfl (lv_at hl 0 rfl) ?_
    refine va_get (D := D) (ci := 7) (v := .ref (am 2)) (C := RX7) (T := TX7) (N := 11) hx hb hts (by decide +kernel) hown hK hP (pre.length + 0) mg_0 rfl 1 (by decide) (hts (.fieldLink RX7 13 "QueueMiddlesModel" "count" "[I") (by decide +kernel)) (fun _ h9 => h9) rfl dX7_part_9 ?_
    refine lv_iload_n hx hb dX7_part_12 rfl (lv_at hl 1 rfl) ?_
    obtain ⟨g_4, h⟩ := qm_gd_some h
    refine va_iald hx hb hK hP (pre.length + 2) 0 mg_2 rfl g_4 dX7_part_13 ?_
    refine lv_if_le (tgt := 35) hx hb dX7_part_14 (by decide) (fun c_5 => ?_) (fun c_5 => ?_)
    · rw [if_pos c_5] at h
      refine lv_dconst0 hx hb dX7_part_35 ?_
      have h := Option.some.inj h
      subst h
      exact W.dret (v := FP.dconst0) hx hb hr (fun t ht hW => ⟨⟨FP.dconst0, z_1.2, rfl, ⟨rfl, rfl⟩, qm_en ht hP hD⟩, hS.F ht⟩) hS.2.2 dX7_part_36
    · rw [if_neg c_5] at h
      refine lv_aload_n hx hb dX7_part_17 rfl (lv_at hl 0 rfl) ?_
      refine va_get (D := D) (ci := 7) (v := .ref (am 3)) (C := RX7) (T := TX7) (N := 11) hx hb hts (by decide +kernel) hown hK hP (pre.length + 0) mg_0 rfl 2 (by decide) (hts (.fieldLink RX7 16 "QueueMiddlesModel" "marks" "[I") (by decide +kernel)) (fun _ h9 => h9) rfl dX7_part_18 ?_
      refine lv_iload_n hx hb dX7_part_21 rfl (lv_at hl 1 rfl) ?_
      obtain ⟨g_6, h⟩ := qm_gd_some h
      refine va_iald hx hb hK hP (pre.length + 3) 0 mg_3 rfl g_6 dX7_part_22 ?_
      refine lv_i2d hx hb dX7_part_23 ?_
      refine lv_aload_n hx hb dX7_part_24 rfl (lv_at hl 0 rfl) ?_
      refine va_get (D := D) (ci := 7) (v := .ref (am 2)) (C := RX7) (T := TX7) (N := 11) hx hb hts (by decide +kernel) hown hK hP (pre.length + 0) mg_0 rfl 1 (by decide) (hts (.fieldLink RX7 13 "QueueMiddlesModel" "count" "[I") (by decide +kernel)) (fun _ h9 => h9) rfl dX7_part_25 ?_
      refine lv_iload_n hx hb dX7_part_28 rfl (lv_at hl 1 rfl) ?_
      obtain ⟨g_7, h⟩ := qm_gd_some h
      refine va_iald hx hb hK hP (pre.length + 2) 0 mg_2 rfl g_7 dX7_part_29 ?_
      refine lv_i2d hx hb dX7_part_30 ?_
      obtain ⟨g_8, h⟩ := qm_gd_some h
      refine lv_ddiv hx hb dX7_part_31 g_8 ?_
      refine lv_goto (tgt := 36) hx hb dX7_part_32 (by decide) ?_
      have h := Option.some.inj h
      subst h
      exact W.dret (v := FP.ddiv (FP.i2d ((z_1.2.1 2) p0.toNatClampNeg)) (FP.i2d ((z_1.2.1 1) p0.toNatClampNeg))) hx hb hr (fun t ht hW => ⟨⟨FP.ddiv (FP.i2d ((z_1.2.1 2) p0.toNatClampNeg)) (FP.i2d ((z_1.2.1 1) p0.toNatClampNeg)), z_1.2, rfl, ⟨rfl, rfl⟩, qm_en ht hP hD⟩, hS.F ht⟩) hS.2.2 dX7_part_36
