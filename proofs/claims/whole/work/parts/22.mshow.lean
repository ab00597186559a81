noncomputable def fX7_begin (S : mm_M) (p0 : Int32) (p1 : Int32) : Option (Int32 × mm_M) :=
  (if mo_in p0 0 3 then (if mo_in p1 (5 : Int32) (200 : Int32) then qm_gd (vp_in p0 4) (qm_gd (vp_in p0 4) (qm_gd (vp_in p0 4) (qm_gd (vp_in p0 4) (some (((mm_th S (0 : Int32)).1 1) p0.toNatClampNeg, mm_up (mm_up (mm_up (mm_th S (0 : Int32)) 0 (upd ((mm_th S (0 : Int32)).1 0) p0.toNatClampNeg p1)) 1 (upd ((mm_up (mm_th S (0 : Int32)) 0 (upd ((mm_th S (0 : Int32)).1 0) p0.toNatClampNeg p1)).1 1) p0.toNatClampNeg (0 : Int32))) 2 (upd ((mm_up (mm_up (mm_th S (0 : Int32)) 0 (upd ((mm_th S (0 : Int32)).1 0) p0.toNatClampNeg p1)) 1 (upd ((mm_up (mm_th S (0 : Int32)) 0 (upd ((mm_th S (0 : Int32)).1 0) p0.toNatClampNeg p1)).1 1) p0.toNatClampNeg (0 : Int32))).1 2) p0.toNatClampNeg (0 : Int32))))))) else some ((0 : Int32), mm_th S (2 : Int32))) else some ((0 : Int32), mm_th S (1 : Int32)))
set_option maxHeartbeats 4000000 in
set_option maxRecDepth 100000 in
theorem kX7_begin (l : Launch) (D : va_G) (A : Nat → Prop) (pre : va_W) (am : Nat → Nat) (cI : ClassId) (S : mm_M) (p0 : Int32) (p1 : Int32) (z : Int32 × mm_M) (h : fX7_begin S p0 p1 = some z) : Met l yX7_begin wsX7_begin ({ frames := 2, cells := 0, slots := 0, locals := 42 }) (va_Pc [.ref (am 0), .int p0, .int p1] (qm_B D A (mm_T cI) (mm_W pre am cI S))) (qm_Qi D A (mm_W pre am cI) z) 0 0 A := by
  refine Met.ofW (cc := cX7_begin) (maxL := 4) (ret := (some .int)) (by decide) rfl ?_
  intro p e s m args below meth c s₁ B hml hv
  obtain ⟨rfl, hA, hP, hK, hD⟩ := hv
  have hx := B.exec
  have hb := B.bytes
  have hr := B.returns
  have hts := atoms_spec (ws := wsX7_begin) B.pre
  have hown : s.vm.findClass RX7 = some m.cls := findClass_of_methodNamed B.named
  have hlocks := B.notSynchronized
  have hS : va_S A s.heap s.heap [] := va_S.rf
  have hl := lv_entry ([.ref (am 0), .int p0, .int p1]) (n := 4) (Nat.le_of_ble_eq_true rfl)
  rw [lg_entry_eq]
  generalize (lg_sl ([.ref (am 0), .int p0, .int p1]) ++ List.replicate (4 - (lg_sl ([.ref (am 0), .int p0, .int p1])).length) Slot.unset).toArray = ls at hl ⊢
  have hl : lv_has ls 4 [(0, .ref (am 0)), (1, .int p0), (2, .int p1)] := hl
  rw [fX7_begin] at h
  refine lv_aload_n hx hb dX7_begin_0 rfl (lv_at hl 0 rfl) ?_
  refine lv_iload_n hx hb dX7_begin_1 rfl (lv_at hl 1 rfl) ?_
  refine va_calli (va_runS (As := [.int p0]) (rest := [.ref (am 0)]) ⟨hx, hb, hml, hown, hts⟩ (nX7_isCounter l D A pre am cI S p0) (va_cwS 1 hts gX7_begin_X7_isCounter rfl rfl rfl (by decide +kernel) ⟨Nat.le_of_ble_eq_true rfl, Nat.le_of_ble_eq_true rfl⟩) ⟨qm_blind, fun U hU hW => ⟨rfl, qm_go hA hS hP hK hD hU hW⟩⟩ rfl rfl hl.1 rfl (lv_room (Nat.le_of_ble_eq_true rfl)) dX7_begin_2 ⟨Nat.le_of_ble_eq_true rfl, Nat.le_of_ble_eq_true rfl⟩) hS (fun _ _ h9 => h9) (fun _ h9 => h9) (fun v u t H1 locs1 ht hvm hw hB hz1 hk1 hS => ?_)
  obtain ⟨hw1, hw2⟩ := hw
  have hw1 : (if mo_in p0 0 3 then 1 else 0) = v := hw1.symm
  have hw2 : S = u := hw2.symm
  subst hw1
  subst hw2
  obtain ⟨hP, hD⟩ := qm_bk ht hB
  by_cases c_1 : mo_in p0 0 3
  · rw [if_pos c_1] at h ⊢
    refine lv_if_ne (tgt := 12) hx hb dX7_begin_5 (by decide) (fun _ => ?_) (fun c => absurd c (by decide))
    refine lv_iload_n hx hb dX7_begin_12 rfl (lv_at hl 2 rfl) ?_
    refine lv_iconst (v := (5 : Int32)) hx hb dX7_begin_13 (by decide) ?_
    refine lv_sipush (v := (200 : Int32)) hx hb dX7_begin_14 (by decide) ?_
    refine va_calli (va_runS (As := [.int p1, .int (5 : Int32), .int (200 : Int32)]) (rest := [.ref (am 0)]) ⟨hx, hb, hml, hown, hts⟩ (nX7_in l D A pre am cI S p1 (5 : Int32) (200 : Int32)) (va_cwS 3 hts gX7_begin_X7_in rfl rfl rfl (by decide +kernel) ⟨Nat.le_of_ble_eq_true rfl, Nat.le_of_ble_eq_true rfl⟩) ⟨qm_blind, fun U hU hW => ⟨rfl, qm_go hA hS hP hK hD hU hW⟩⟩ rfl rfl hl.1 rfl (lv_room (Nat.le_of_ble_eq_true rfl)) dX7_begin_17 ⟨Nat.le_of_ble_eq_true rfl, Nat.le_of_ble_eq_true rfl⟩) hS (fun _ _ h9 => h9) (fun _ h9 => h9) (fun v u t H1 locs1 ht hvm hw hB hz1 hk1 hS => ?_)
    obtain ⟨hw1, hw2⟩ := hw
    have hw1 : (if mo_in p1 (5 : Int32) (200 : Int32) then 1 else 0) = v := hw1.symm
    have hw2 : S = u := hw2.symm
    subst hw1
    subst hw2
    obtain ⟨hP, hD⟩ := qm_bk ht hB
    by_cases c_2 : mo_in p1 (5 : Int32) (200 : Int32)
    · rw [if_pos c_2] at h ⊢
      refine lv_if_ne (tgt := 27) hx hb dX7_begin_20 (by decide) (fun _ => ?_) (fun c => absurd c (by decide))
      refine lv_iconst (v := (0 : Int32)) hx hb dX7_begin_27 (by decide) ?_
      refine va_calli (va_runV (As := [.int (0 : Int32)]) (rest := []) ⟨hx, hb, hml, hown, hts⟩ (nX7_isFine l D A pre am cI S (0 : Int32)) (cwV 1 hts gX7_begin_X7_isFine rfl rfl rfl (by decide +kernel) ⟨Nat.le_of_ble_eq_true rfl, Nat.le_of_ble_eq_true rfl⟩) ⟨qm_blind, va_recv hK hP (ci := 7) (q0 := (pre.length + 0)) rfl mg_0, fun U hU hW => ⟨rfl, qm_go hA hS hP hK hD hU hW⟩⟩ rfl rfl hl.1 rfl (lv_room (Nat.le_of_ble_eq_true rfl)) dX7_begin_28 ⟨Nat.le_of_ble_eq_true rfl, Nat.le_of_ble_eq_true rfl⟩) hS (fun _ _ h9 => h9) (fun _ h9 => h9) (fun v u t H1 locs1 ht hvm hw hB hz1 hk1 hS => ?_)
      obtain ⟨hw1, hw2⟩ := hw
      have hw1 : (if (0 : Int32) = 0 then 1 else 0) = v := hw1.symm
      have hw2 : mm_th S (0 : Int32) = u := hw2.symm
      subst hw1
      subst hw2
      obtain ⟨hP, hD⟩ := qm_bk ht hB
      rw [if_pos (show (0 : Int32) = 0 by decide)]
      refine lv_if_ne (tgt := 36) hx hb dX7_begin_31 (by decide) (fun _ => ?_) (fun c => absurd c (by decide))
      refine lv_aload_n hx hb dX7_begin_36 rfl (lv_at hl 0 rfl) ?_
      refine va_get (D := D) (ci := 7) (v := .ref (am 2)) (C := RX7) (T := TX7) (N := 11) hx hb hts (by decide +kernel) hown hK hP (pre.length + 0) mg_0 rfl 1 (by decide) (hts (.fieldLink RX7 13 "QueueMiddlesModel" "count" "[I") (by decide +kernel)) (fun _ h9 => h9) rfl dX7_begin_37 ?_
      refine lv_iload_n hx hb dX7_begin_40 rfl (lv_at hl 1 rfl) ?_
      obtain ⟨g_4, h⟩ := qm_gd_some h
      refine va_iald hx hb hK hP (pre.length + 2) 0 mg_2 rfl g_4 dX7_begin_41 ?_
      refine lv_istore_n (lv' := [(3, .int (((mm_th S (0 : Int32)).1 1) p0.toNatClampNeg)), (0, .ref (am 0)), (1, .int p0), (2, .int p1)]) hx hb dX7_begin_42 rfl hl (by decide) rfl (fun ls hl => ?_)
      refine lv_aload_n hx hb dX7_begin_43 rfl (lv_at hl 1 rfl) ?_
      refine va_get (D := D) (ci := 7) (v := .ref (am 1)) (C := RX7) (T := TX7) (N := 11) hx hb hts (by decide +kernel) hown hK hP (pre.length + 0) mg_0 rfl 0 (by decide) (hts (.fieldLink RX7 7 "QueueMiddlesModel" "bound" "[I") (by decide +kernel)) (fun _ h9 => h9) rfl dX7_begin_44 ?_
      refine lv_iload_n hx hb dX7_begin_47 rfl (lv_at hl 2 rfl) ?_
      refine lv_iload_n hx hb dX7_begin_48 rfl (lv_at hl 3 rfl) ?_
      obtain ⟨g_5, h⟩ := qm_gd_some h
      refine va_iast hx hb hK hP hD hS (pre.length + 1) 0 mg_1 rfl g_5 dX7_begin_49 (fun H locs hP hD hS => ?_)
      rw [ms_1 (upd ((mm_th S (0 : Int32)).1 0) p0.toNatClampNeg p1)] at hP hD
      refine lv_aload_n hx hb dX7_begin_50 rfl (lv_at hl 1 rfl) ?_
      refine va_get (D := D) (ci := 7) (v := .ref (am 2)) (C := RX7) (T := TX7) (N := 11) hx hb hts (by decide +kernel) hown hK hP (pre.length + 0) mg_0 rfl 1 (by decide) (hts (.fieldLink RX7 13 "QueueMiddlesModel" "count" "[I") (by decide +kernel)) (fun _ h9 => h9) rfl dX7_begin_51 ?_
      refine lv_iload_n hx hb dX7_begin_54 rfl (lv_at hl 2 rfl) ?_
      refine lv_iconst (v := (0 : Int32)) hx hb dX7_begin_55 (by decide) ?_
      obtain ⟨g_6, h⟩ := qm_gd_some h
      refine va_iast hx hb hK hP hD hS (pre.length + 2) 0 mg_2 rfl g_6 dX7_begin_56 (fun H locs hP hD hS => ?_)
      rw [ms_2 (upd ((mm_up (mm_th S (0 : Int32)) 0 (upd ((mm_th S (0 : Int32)).1 0) p0.toNatClampNeg p1)).1 1) p0.toNatClampNeg (0 : Int32))] at hP hD
      refine lv_aload_n hx hb dX7_begin_57 rfl (lv_at hl 1 rfl) ?_
      refine va_get (D := D) (ci := 7) (v := .ref (am 3)) (C := RX7) (T := TX7) (N := 11) hx hb hts (by decide +kernel) hown hK hP (pre.length + 0) mg_0 rfl 2 (by decide) (hts (.fieldLink RX7 16 "QueueMiddlesModel" "marks" "[I") (by decide +kernel)) (fun _ h9 => h9) rfl dX7_begin_58 ?_
      refine lv_iload_n hx hb dX7_begin_61 rfl (lv_at hl 2 rfl) ?_
      refine lv_iconst (v := (0 : Int32)) hx hb dX7_begin_62 (by decide) ?_
      obtain ⟨g_7, h⟩ := qm_gd_some h
      refine va_iast hx hb hK hP hD hS (pre.length + 3) 0 mg_3 rfl g_7 dX7_begin_63 (fun H locs hP hD hS => ?_)
      rw [ms_3 (upd ((mm_up (mm_up (mm_th S (0 : Int32)) 0 (upd ((mm_th S (0 : Int32)).1 0) p0.toNatClampNeg p1)) 1 (upd ((mm_up (mm_th S (0 : Int32)) 0 (upd ((mm_th S (0 : Int32)).1 0) p0.toNatClampNeg p1)).1 1) p0.toNatClampNeg (0 : Int32))).1 2) p0.toNatClampNeg (0 : Int32))] at hP hD
      refine lv_iload_n hx hb dX7_begin_64 rfl (lv_at hl 0 rfl) ?_
      have h := Option.some.inj h
      subst h
      exact W.iret (v := ((mm_th S (0 : Int32)).1 1) p0.toNatClampNeg) hx hb hr (fun t ht hW => ⟨⟨((mm_th S (0 : Int32)).1 1) p0.toNatClampNeg, mm_up (mm_up (mm_up (mm_th S (0 : Int32)) 0 (upd ((mm_th S (0 : Int32)).1 0) p0.toNatClampNeg p1)) 1 (upd ((mm_up (mm_th S (0 : Int32)) 0 (upd ((mm_th S (0 : Int32)).1 0) p0.toNatClampNeg p1)).1 1) p0.toNatClampNeg (0 : Int32))) 2 (upd ((mm_up (mm_up (mm_th S (0 : Int32)) 0 (upd ((mm_th S (0 : Int32)).1 0) p0.toNatClampNeg p1)) 1 (upd ((mm_up (mm_th S (0 : Int32)) 0 (upd ((mm_th S (0 : Int32)).1 0) p0.toNatClampNeg p1)).1 1) p0.toNatClampNeg (0 : Int32))).1 2) p0.toNatClampNeg (0 : Int32)), rfl, ⟨rfl, rfl⟩, qm_en ht hP hD⟩, hS.F ht⟩) hS.2.2 dX7_begin_65
    · rw [if_neg c_2] at h ⊢
      refine lv_if_ne (tgt := 27) hx hb dX7_begin_20 (by decide) (fun c => absurd (by decide) c) (fun _ => ?_)
      refine lv_iconst (v := (2 : Int32)) hx hb dX7_begin_23 (by decide) ?_
      refine lv_goto (tgt := 28) hx hb dX7_begin_24 (by decide) ?_
      refine va_calli (va_runV (As := [.int (2 : Int32)]) (rest := []) ⟨hx, hb, hml, hown, hts⟩ (nX7_isFine l D A pre am cI S (2 : Int32)) (cwV 1 hts gX7_begin_X7_isFine rfl rfl rfl (by decide +kernel) ⟨Nat.le_of_ble_eq_true rfl, Nat.le_of_ble_eq_true rfl⟩) ⟨qm_blind, va_recv hK hP (ci := 7) (q0 := (pre.length + 0)) rfl mg_0, fun U hU hW => ⟨rfl, qm_go hA hS hP hK hD hU hW⟩⟩ rfl rfl hl.1 rfl (lv_room (Nat.le_of_ble_eq_true rfl)) dX7_begin_28 ⟨Nat.le_of_ble_eq_true rfl, Nat.le_of_ble_eq_true rfl⟩) hS (fun _ _ h9 => h9) (fun _ h9 => h9) (fun v u t H1 locs1 ht hvm hw hB hz1 hk1 hS => ?_)
      obtain ⟨hw1, hw2⟩ := hw
      have hw1 : (if (2 : Int32) = 0 then 1 else 0) = v := hw1.symm
      have hw2 : mm_th S (2 : Int32) = u := hw2.symm
      subst hw1
      subst hw2
      obtain ⟨hP, hD⟩ := qm_bk ht hB
      rw [if_neg (show ¬ (2 : Int32) = 0 by decide)]
      refine lv_if_ne (tgt := 36) hx hb dX7_begin_31 (by decide) (fun c => absurd (by decide) c) (fun _ => ?_)
      refine lv_iconst (v := (0 : Int32)) hx hb dX7_begin_34 (by decide) ?_
      have h := Option.some.inj h
      subst h
      exact W.iret (v := (0 : Int32)) hx hb hr (fun t ht hW => ⟨⟨(0 : Int32), mm_th S (2 : Int32), rfl, ⟨rfl, rfl⟩, qm_en ht hP hD⟩, hS.F ht⟩) hS.2.2 dX7_begin_35
  · rw [if_neg c_1] at h ⊢
    refine lv_if_ne (tgt := 12) hx hb dX7_begin_5 (by decide) (fun c => absurd (by decide) c) (fun _ => ?_)
    refine lv_iconst (v := (1 : Int32)) hx hb dX7_begin_8 (by decide) ?_
    refine lv_goto (tgt := 28) hx hb dX7_begin_9 (by decide) ?_
    refine va_calli (va_runV (As := [.int (1 : Int32)]) (rest := []) ⟨hx, hb, hml, hown, hts⟩ (nX7_isFine l D A pre am cI S (1 : Int32)) (cwV 1 hts gX7_begin_X7_isFine rfl rfl rfl (by decide +kernel) ⟨Nat.le_of_ble_eq_true rfl, Nat.le_of_ble_eq_true rfl⟩) ⟨qm_blind, va_recv hK hP (ci := 7) (q0 := (pre.length + 0)) rfl mg_0, fun U hU hW => ⟨rfl, qm_go hA hS hP hK hD hU hW⟩⟩ rfl rfl hl.1 rfl (lv_room (Nat.le_of_ble_eq_true rfl)) dX7_begin_28 ⟨Nat.le_of_ble_eq_true rfl, Nat.le_of_ble_eq_true rfl⟩) hS (fun _ _ h9 => h9) (fun _ h9 => h9) (fun v u t H1 locs1 ht hvm hw hB hz1 hk1 hS => ?_)
    obtain ⟨hw1, hw2⟩ := hw
    have hw1 : (if (1 : Int32) = 0 then 1 else 0) = v := hw1.symm
    have hw2 : mm_th S (1 : Int32) = u := hw2.symm
    subst hw1
    subst hw2
    obtain ⟨hP, hD⟩ := qm_bk ht hB
    rw [if_neg (show ¬ (1 : Int32) = 0 by decide)]
    refine lv_if_ne (tgt := 36) hx hb dX7_begin_31 (by decide) (fun c => absurd (by decide) c) (fun _ => ?_)
    refine lv_iconst (v := (0 : Int32)) hx hb dX7_begin_34 (by decide) ?_
    have h := Option.some.inj h
    subst h
    exact W.iret (v := (0 : Int32)) hx hb hr (fun t ht hW => ⟨⟨(0 : Int32), mm_th S (1 : Int32), rfl, ⟨rfl, rfl⟩, qm_en ht hP hD⟩, hS.F ht⟩) hS.2.2 dX7_begin_35
noncomputable def fX7_remembers_L13 (x1 : Int32) (x2 : Int32) : Nat → Int32 → mm_M → Option (Int32 × mm_M)
  | 0, _, _ => none
  | fuel + 1, v3, S =>
    (if v3 ≤ ((600 : Int32) * x1) then some (v3, S) else qm_gd (vp_in (v3 - (1 : Int32)) 2400) ((if ((S.1 3) (v3 - (1 : Int32)).toNatClampNeg) ≤ x2 then some (v3, S) else qm_gd (vp_in (v3 - (1 : Int32)) 2400) (qm_gd (vp_in v3 2400) (fX7_remembers_L13 x1 x2 fuel (v3 + (-1 : Int32)) (mm_up S 3 (upd (S.1 3) v3.toNatClampNeg ((S.1 3) (v3 - (1 : Int32)).toNatClampNeg))))))))
noncomputable def fX7_remembers (S : mm_M) (p0 : Int32) (p1 : Int32) : Option (mm_M) :=
  qm_gd (vp_in p0 4) (Option.bind (fX7_remembers_L13 p0 p1 qm_F (((600 : Int32) * p0) + ((S.1 1) p0.toNatClampNeg)) S) (fun z_9 => qm_gd (vp_in z_9.1 2400) (qm_gd (vp_in p0 4) (qm_gd (vp_in p0 4) (some (mm_up (mm_up z_9.2 3 (upd (z_9.2.1 3) z_9.1.toNatClampNeg p1)) 1 (upd ((mm_up z_9.2 3 (upd (z_9.2.1 3) z_9.1.toNatClampNeg p1)).1 1) p0.toNatClampNeg ((((mm_up z_9.2 3 (upd (z_9.2.1 3) z_9.1.toNatClampNeg p1)).1 1) p0.toNatClampNeg) + (1 : Int32)))))))))
set_option maxHeartbeats 4000000 in
set_option maxRecDepth 100000 in
theorem kX7_remembers (l : Launch) (D : va_G) (A : Nat → Prop) (pre : va_W) (am : Nat → Nat) (cI : ClassId) (S : mm_M) (p0 : Int32) (p1 : Int32) (z : mm_M) (h : fX7_remembers S p0 p1 = some z) : Met l yX7_remembers wsX7_remembers ({ frames := 0, cells := 0, slots := 0, locals := 0 }) (va_Pc [.ref (am 0), .int p0, .int p1] (qm_B D A (mm_T cI) (mm_W pre am cI S))) (qm_Qv D A (mm_W pre am cI) z) 0 0 A := by
  refine Met.ofW (cc := cX7_remembers) (maxL := 4) (ret := none) (by decide) rfl ?_
  intro p e s m args below meth c s₁ B hml hv
  obtain ⟨rfl, hA, hP, hK, hD⟩ := hv
  have hx := B.exec
  have hb := B.bytes
  have hr := B.returns
  have hts := atoms_spec (ws := wsX7_remembers) B.pre
  have hown : s.vm.findClass RX7 = some m.cls := findClass_of_methodNamed B.named
  have hlocks := B.notSynchronized
  have hS : va_S A s.heap s.heap [] := va_S.rf
  have hl := lv_entry ([.ref (am 0), .int p0, .int p1]) (n := 4) (Nat.le_of_ble_eq_true rfl)
  rw [lg_entry_eq]
  generalize (lg_sl ([.ref (am 0), .int p0, .int p1]) ++ List.replicate (4 - (lg_sl ([.ref (am 0), .int p0, .int p1])).length) Slot.unset).toArray = ls at hl ⊢
  have hl : lv_has ls 4 [(0, .ref (am 0)), (1, .int p0), (2, .int p1)] := hl
  obtain ⟨QX, hQX⟩ : ∃ q, q = MQ below (qm_Qv D A (mm_W pre am cI) z) ([.ref (am 0), .int p0, .int p1] : List Value).toArray s 0 0 A := ⟨_, rfl⟩
  rw [← hQX]
  rw [fX7_remembers] at h
  refine lv_sipush (v := (600 : Int32)) hx hb dX7_remembers_0 (by decide) ?_
  refine lv_iload_n hx hb dX7_remembers_3 rfl (lv_at hl 1 rfl) ?_
  refine lv_imul hx hb dX7_remembers_4 ?_
  refine lv_aload_n hx hb dX7_remembers_5 rfl (lv_at hl 0 rfl) ?_
  refine va_get (D := D) (ci := 7) (v := .ref (am 2)) (C := RX7) (T := TX7) (N := 11) hx hb hts (by decide +kernel) hown hK hP (pre.length + 0) mg_0 rfl 1 (by decide) (hts (.fieldLink RX7 13 "QueueMiddlesModel" "count" "[I") (by decide +kernel)) (fun _ h9 => h9) rfl dX7_remembers_6 ?_
  refine lv_iload_n hx hb dX7_remembers_9 rfl (lv_at hl 1 rfl) ?_
  obtain ⟨g_1, h⟩ := qm_gd_some h
  refine va_iald hx hb hK hP (pre.length + 2) 0 mg_2 rfl g_1 dX7_remembers_10 ?_
  refine lv_iadd hx hb dX7_remembers_11 ?_
  refine lv_istore_n (lv' := [(3, .int (((600 : Int32) * p0) + ((S.1 1) p0.toNatClampNeg))), (0, .ref (am 0)), (1, .int p0), (2, .int p1)]) hx hb dX7_remembers_12 rfl hl (by decide) rfl (fun ls hl => ?_)
  have loop_3 : ∀ (fuel : Nat) (v3_2 : Int32) (S_2 : mm_M) (z : Int32 × mm_M), fX7_remembers_L13 p0 p1 fuel v3_2 S_2 = some z → ∀ (H : Heap) (locs : List Loc) (ls : Array Slot), va_P D vwCl (mm_W pre am cI S_2) H → va_D A (mm_W pre am cI S_2) → va_S A s.heap H locs → lv_has ls 4 [(0, .ref (am 0)), (1, .int p0), (2, .int p1), (3, .int v3_2)] → (∀ (H : Heap) (locs : List Loc) (ls : Array Slot), va_P D vwCl (mm_W pre am cI z.2) H → va_D A (mm_W pre am cI z.2) → va_S A s.heap H locs → lv_has ls 4 [(0, .ref (am 0)), (1, .int p0), (2, .int p1), (3, .int z.1)] → W p l e ({ frames := 0, cells := 0, slots := 0, locals := 0 } : Room) s m ([.ref (am 0), .int p0, .int p1] : List Value).toArray below meth c H locs 0 0 QX (F0 m 54 ls [])) → W p l e ({ frames := 0, cells := 0, slots := 0, locals := 0 } : Room) s m ([.ref (am 0), .int p0, .int p1] : List Value).toArray below meth c H locs 0 0 QX (F0 m 13 ls []) := by
    intro fuel
    induction fuel with
    | zero =>
      intro v3_2 S_2 z h
      rw [fX7_remembers_L13] at h
      cases h
    | succ fuel ih =>
      intro v3_2 S_2 z h H locs ls hP hD hS hl kex
      rw [fX7_remembers_L13] at h
      refine lv_iload_n hx hb dX7_remembers_13 rfl (lv_at hl 3 rfl) ?_
      refine lv_sipush (v := (600 : Int32)) hx hb dX7_remembers_14 (by decide) ?_
      refine lv_iload_n hx hb dX7_remembers_17 rfl (lv_at hl 1 rfl) ?_
      refine lv_imul hx hb dX7_remembers_18 ?_
      refine lv_icmp_le (tgt := 54) hx hb dX7_remembers_19 (by decide) (fun c_4 => ?_) (fun c_4 => ?_)
      · rw [if_pos c_4] at h
        have h := Option.some.inj h
        subst h
        exact kex _ _ _ hP hD hS (lv_sub hl [0, 1, 2, 3] rfl)
      · rw [if_neg c_4] at h
        refine lv_aload_n hx hb dX7_remembers_22 rfl (lv_at hl 0 rfl) ?_
        refine va_get (D := D) (ci := 7) (v := .ref (am 4)) (C := RX7) (T := TX7) (N := 11) hx hb hts (by decide +kernel) hown hK hP (pre.length + 0) mg_0 rfl 3 (by decide) (hts (.fieldLink RX7 19 "QueueMiddlesModel" "numbers" "[I") (by decide +kernel)) (fun _ h9 => h9) rfl dX7_remembers_23 ?_
        refine lv_iload_n hx hb dX7_remembers_26 rfl (lv_at hl 3 rfl) ?_
        refine lv_iconst (v := (1 : Int32)) hx hb dX7_remembers_27 (by decide) ?_
        refine lv_isub hx hb dX7_remembers_28 ?_
        obtain ⟨g_5, h⟩ := qm_gd_some h
        refine va_iald hx hb hK hP (pre.length + 4) 0 mg_4 rfl g_5 dX7_remembers_29 ?_
        refine lv_iload_n hx hb dX7_remembers_30 rfl (lv_at hl 2 rfl) ?_
        refine lv_icmp_le (tgt := 54) hx hb dX7_remembers_31 (by decide) (fun c_6 => ?_) (fun c_6 => ?_)
        · rw [if_pos c_6] at h
          have h := Option.some.inj h
          subst h
          exact kex _ _ _ hP hD hS (lv_sub hl [0, 1, 2, 3] rfl)
        · rw [if_neg c_6] at h
          refine lv_aload_n hx hb dX7_remembers_34 rfl (lv_at hl 0 rfl) ?_
          refine va_get (D := D) (ci := 7) (v := .ref (am 4)) (C := RX7) (T := TX7) (N := 11) hx hb hts (by decide +kernel) hown hK hP (pre.length + 0) mg_0 rfl 3 (by decide) (hts (.fieldLink RX7 19 "QueueMiddlesModel" "numbers" "[I") (by decide +kernel)) (fun _ h9 => h9) rfl dX7_remembers_35 ?_
          refine lv_iload_n hx hb dX7_remembers_38 rfl (lv_at hl 3 rfl) ?_
          refine lv_aload_n hx hb dX7_remembers_39 rfl (lv_at hl 0 rfl) ?_
          refine va_get (D := D) (ci := 7) (v := .ref (am 4)) (C := RX7) (T := TX7) (N := 11) hx hb hts (by decide +kernel) hown hK hP (pre.length + 0) mg_0 rfl 3 (by decide) (hts (.fieldLink RX7 19 "QueueMiddlesModel" "numbers" "[I") (by decide +kernel)) (fun _ h9 => h9) rfl dX7_remembers_40 ?_
          refine lv_iload_n hx hb dX7_remembers_43 rfl (lv_at hl 3 rfl) ?_
          refine lv_iconst (v := (1 : Int32)) hx hb dX7_remembers_44 (by decide) ?_
          refine lv_isub hx hb dX7_remembers_45 ?_
          obtain ⟨g_7, h⟩ := qm_gd_some h
          refine va_iald hx hb hK hP (pre.length + 4) 0 mg_4 rfl g_7 dX7_remembers_46 ?_
          obtain ⟨g_8, h⟩ := qm_gd_some h
          refine va_iast hx hb hK hP hD hS (pre.length + 4) 0 mg_4 rfl g_8 dX7_remembers_47 (fun H locs hP hD hS => ?_)
          rw [ms_4 (upd (S_2.1 3) v3_2.toNatClampNeg ((S_2.1 3) (v3_2 - (1 : Int32)).toNatClampNeg))] at hP hD
          refine lv_iinc (v := v3_2 + (-1 : Int32)) (lv' := [(3, .int (v3_2 + (-1 : Int32))), (0, .ref (am 0)), (1, .int p0), (2, .int p1)]) hx hb dX7_remembers_48 hl (k := 3) rfl rfl (by decide) rfl (fun ls hl => ?_)
          refine lv_goto (tgt := 13) hx hb dX7_remembers_51 (by decide) ?_
          exact ih (v3_2 + (-1 : Int32)) (mm_up S_2 3 (upd (S_2.1 3) v3_2.toNatClampNeg ((S_2.1 3) (v3_2 - (1 : Int32)).toNatClampNeg))) z h _ _ _ hP hD hS (lv_sub hl [1, 2, 3, 0] rfl) kex
  obtain ⟨z_9, hz_10, h⟩ := qm_bind h
  refine loop_3 qm_F (((600 : Int32) * p0) + ((S.1 1) p0.toNatClampNeg)) S z_9 hz_10 _ _ _ hP hD hS (lv_sub hl [1, 2, 3, 0] rfl) (fun H locs ls hP hD hS hl => ?_)
  refine lv_aload_n hx hb dX7_remembers_54 rfl (lv_at hl 0 rfl) ?_
  refine va_get (D := D) (ci := 7) (v := .ref (am 4)) (C := RX7) (T := TX7) (N := 11) hx hb hts (by decide +kernel) hown hK hP (pre.length + 0) mg_0 rfl 3 (by decide) (hts (.fieldLink RX7 19 "QueueMiddlesModel" "numbers" "[I") (by decide +kernel)) (fun _ h9 => h9) rfl dX7_remembers_55 ?_
  refine lv_iload_n hx hb dX7_remembers_58 rfl (lv_at hl 3 rfl) ?_
  refine lv_iload_n hx hb dX7_remembers_59 rfl (lv_at hl 2 rfl) ?_
  obtain ⟨g_11, h⟩ := qm_gd_some h
  refine va_iast hx hb hK hP hD hS (pre.length + 4) 0 mg_4 rfl g_11 dX7_remembers_60 (fun H locs hP hD hS => ?_)
  rw [ms_4 (upd (z_9.2.1 3) z_9.1.toNatClampNeg p1)] at hP hD
  refine lv_aload_n hx hb dX7_remembers_61 rfl (lv_at hl 0 rfl) ?_
  refine va_get (D := D) (ci := 7) (v := .ref (am 2)) (C := RX7) (T := TX7) (N := 11) hx hb hts (by decide +kernel) hown hK hP (pre.length + 0) mg_0 rfl 1 (by decide) (hts (.fieldLink RX7 13 "QueueMiddlesModel" "count" "[I") (by decide +kernel)) (fun _ h9 => h9) rfl dX7_remembers_62 ?_
  refine lv_iload_n hx hb dX7_remembers_65 rfl (lv_at hl 1 rfl) ?_
  refine lv_dup2_11 hx hb dX7_remembers_66 rfl rfl ?_
  obtain ⟨g_12, h⟩ := qm_gd_some h
  refine va_iald hx hb hK hP (pre.length + 2) 0 mg_2 rfl g_12 dX7_remembers_67 ?_
  refine lv_iconst (v := (1 : Int32)) hx hb dX7_remembers_68 (by decide) ?_
  refine lv_iadd hx hb dX7_remembers_69 ?_
  obtain ⟨g_13, h⟩ := qm_gd_some h
  refine va_iast hx hb hK hP hD hS (pre.length + 2) 0 mg_2 rfl g_13 dX7_remembers_70 (fun H locs hP hD hS => ?_)
  rw [ms_2 (upd ((mm_up z_9.2 3 (upd (z_9.2.1 3) z_9.1.toNatClampNeg p1)).1 1) p0.toNatClampNeg ((((mm_up z_9.2 3 (upd (z_9.2.1 3) z_9.1.toNatClampNeg p1)).1 1) p0.toNatClampNeg) + (1 : Int32)))] at hP hD
  have h := Option.some.inj h
  subst h
  rw [hQX]
  exact W.vret hx hb hr (fun t ht hW => ⟨⟨mm_up (mm_up z_9.2 3 (upd (z_9.2.1 3) z_9.1.toNatClampNeg p1)) 1 (upd ((mm_up z_9.2 3 (upd (z_9.2.1 3) z_9.1.toNatClampNeg p1)).1 1) p0.toNatClampNeg ((((mm_up z_9.2 3 (upd (z_9.2.1 3) z_9.1.toNatClampNeg p1)).1 1) p0.toNatClampNeg) + (1 : Int32))), rfl, rfl, qm_en ht hP hD⟩, hS.F ht⟩) hS.2.2 dX7_remembers_71
noncomputable def fX7_shows_L22 (x1 : Int32) (x2 : Int32) (x3 : Int32) : Nat → Int32 → mm_M → Option (Int32 × mm_M)
  | 0, _, _ => none
  | fuel + 1, v4, S =>
    (if v4 ≤ x3 then some (v4, S) else qm_gd (vp_in (v4 - (1 : Int32)) 2400) ((if ((S.1 4) (v4 - (1 : Int32)).toNatClampNeg) ≤ x2 then some (v4, S) else qm_gd (vp_in (v4 - (1 : Int32)) 2400) (qm_gd (vp_in v4 2400) (qm_gd (vp_in (v4 - (1 : Int32)) 2400) (qm_gd (vp_in v4 2400) (qm_gd (vp_in (v4 - (1 : Int32)) 2400) (qm_gd (vp_in v4 2400) (fX7_shows_L22 x1 x2 x3 fuel (v4 + (-1 : Int32)) (mm_up (mm_up (mm_up S 4 (upd (S.1 4) v4.toNatClampNeg ((S.1 4) (v4 - (1 : Int32)).toNatClampNeg))) 5 (upd ((mm_up S 4 (upd (S.1 4) v4.toNatClampNeg ((S.1 4) (v4 - (1 : Int32)).toNatClampNeg))).1 5) v4.toNatClampNeg ((((mm_up S 4 (upd (S.1 4) v4.toNatClampNeg ((S.1 4) (v4 - (1 : Int32)).toNatClampNeg))).1 5) (v4 - (1 : Int32)).toNatClampNeg) + (1 : Int32)))) 6 (upd ((mm_up (mm_up S 4 (upd (S.1 4) v4.toNatClampNeg ((S.1 4) (v4 - (1 : Int32)).toNatClampNeg))) 5 (upd ((mm_up S 4 (upd (S.1 4) v4.toNatClampNeg ((S.1 4) (v4 - (1 : Int32)).toNatClampNeg))).1 5) v4.toNatClampNeg ((((mm_up S 4 (upd (S.1 4) v4.toNatClampNeg ((S.1 4) (v4 - (1 : Int32)).toNatClampNeg))).1 5) (v4 - (1 : Int32)).toNatClampNeg) + (1 : Int32)))).1 6) v4.toNatClampNeg ((((mm_up (mm_up S 4 (upd (S.1 4) v4.toNatClampNeg ((S.1 4) (v4 - (1 : Int32)).toNatClampNeg))) 5 (upd ((mm_up S 4 (upd (S.1 4) v4.toNatClampNeg ((S.1 4) (v4 - (1 : Int32)).toNatClampNeg))).1 5) v4.toNatClampNeg ((((mm_up S 4 (upd (S.1 4) v4.toNatClampNeg ((S.1 4) (v4 - (1 : Int32)).toNatClampNeg))).1 5) (v4 - (1 : Int32)).toNatClampNeg) + (1 : Int32)))).1 6) (v4 - (1 : Int32)).toNatClampNeg) + (1 : Int32)))))))))))))
noncomputable def fX7_shows (S : mm_M) (p0 : Int32) (p1 : Int32) : Option (mm_M) :=
  Option.bind (fX7_remembers S p0 p1) (fun z_1 => qm_gd (vp_in p0 4) (Option.bind (fX7_shows_L22 p0 p1 ((600 : Int32) * p0) qm_F (((600 : Int32) * p0) + ((z_1.1 2) p0.toNatClampNeg)) z_1) (fun z_15 => qm_gd (vp_in p0 4) ((if z_15.1 = (((600 : Int32) * p0) + ((z_15.2.1 2) p0.toNatClampNeg)) then qm_gd (vp_in z_15.1 2400) ((if z_15.1 = ((600 : Int32) * p0) then qm_gd (vp_in z_15.1 2400) (qm_gd (vp_in z_15.1 2400) (qm_gd (vp_in z_15.1 2400) (qm_gd (vp_in p0 4) (qm_gd (vp_in p0 4) (some (mm_up (mm_up (mm_up (mm_up z_15.2 4 (upd (z_15.2.1 4) z_15.1.toNatClampNeg p1)) 5 (upd ((mm_up z_15.2 4 (upd (z_15.2.1 4) z_15.1.toNatClampNeg p1)).1 5) z_15.1.toNatClampNeg ((0 : Int32) + (1 : Int32)))) 6 (upd ((mm_up (mm_up z_15.2 4 (upd (z_15.2.1 4) z_15.1.toNatClampNeg p1)) 5 (upd ((mm_up z_15.2 4 (upd (z_15.2.1 4) z_15.1.toNatClampNeg p1)).1 5) z_15.1.toNatClampNeg ((0 : Int32) + (1 : Int32)))).1 6) z_15.1.toNatClampNeg (((mm_up (mm_up z_15.2 4 (upd (z_15.2.1 4) z_15.1.toNatClampNeg p1)) 5 (upd ((mm_up z_15.2 4 (upd (z_15.2.1 4) z_15.1.toNatClampNeg p1)).1 5) z_15.1.toNatClampNeg ((0 : Int32) + (1 : Int32)))).1 5) z_15.1.toNatClampNeg))) 2 (upd ((mm_up (mm_up (mm_up z_15.2 4 (upd (z_15.2.1 4) z_15.1.toNatClampNeg p1)) 5 (upd ((mm_up z_15.2 4 (upd (z_15.2.1 4) z_15.1.toNatClampNeg p1)).1 5) z_15.1.toNatClampNeg ((0 : Int32) + (1 : Int32)))) 6 (upd ((mm_up (mm_up z_15.2 4 (upd (z_15.2.1 4) z_15.1.toNatClampNeg p1)) 5 (upd ((mm_up z_15.2 4 (upd (z_15.2.1 4) z_15.1.toNatClampNeg p1)).1 5) z_15.1.toNatClampNeg ((0 : Int32) + (1 : Int32)))).1 6) z_15.1.toNatClampNeg (((mm_up (mm_up z_15.2 4 (upd (z_15.2.1 4) z_15.1.toNatClampNeg p1)) 5 (upd ((mm_up z_15.2 4 (upd (z_15.2.1 4) z_15.1.toNatClampNeg p1)).1 5) z_15.1.toNatClampNeg ((0 : Int32) + (1 : Int32)))).1 5) z_15.1.toNatClampNeg))).1 2) p0.toNatClampNeg ((((mm_up (mm_up (mm_up z_15.2 4 (upd (z_15.2.1 4) z_15.1.toNatClampNeg p1)) 5 (upd ((mm_up z_15.2 4 (upd (z_15.2.1 4) z_15.1.toNatClampNeg p1)).1 5) z_15.1.toNatClampNeg ((0 : Int32) + (1 : Int32)))) 6 (upd ((mm_up (mm_up z_15.2 4 (upd (z_15.2.1 4) z_15.1.toNatClampNeg p1)) 5 (upd ((mm_up z_15.2 4 (upd (z_15.2.1 4) z_15.1.toNatClampNeg p1)).1 5) z_15.1.toNatClampNeg ((0 : Int32) + (1 : Int32)))).1 6) z_15.1.toNatClampNeg (((mm_up (mm_up z_15.2 4 (upd (z_15.2.1 4) z_15.1.toNatClampNeg p1)) 5 (upd ((mm_up z_15.2 4 (upd (z_15.2.1 4) z_15.1.toNatClampNeg p1)).1 5) z_15.1.toNatClampNeg ((0 : Int32) + (1 : Int32)))).1 5) z_15.1.toNatClampNeg))).1 2) p0.toNatClampNeg) + (1 : Int32))))))))) else qm_gd (vp_in (z_15.1 - (1 : Int32)) 2400) (qm_gd (vp_in z_15.1 2400) (qm_gd (vp_in z_15.1 2400) (qm_gd (vp_in z_15.1 2400) (qm_gd (vp_in p0 4) (qm_gd (vp_in p0 4) (some (mm_up (mm_up (mm_up (mm_up z_15.2 4 (upd (z_15.2.1 4) z_15.1.toNatClampNeg p1)) 5 (upd ((mm_up z_15.2 4 (upd (z_15.2.1 4) z_15.1.toNatClampNeg p1)).1 5) z_15.1.toNatClampNeg ((((mm_up z_15.2 4 (upd (z_15.2.1 4) z_15.1.toNatClampNeg p1)).1 5) (z_15.1 - (1 : Int32)).toNatClampNeg) + (1 : Int32)))) 6 (upd ((mm_up (mm_up z_15.2 4 (upd (z_15.2.1 4) z_15.1.toNatClampNeg p1)) 5 (upd ((mm_up z_15.2 4 (upd (z_15.2.1 4) z_15.1.toNatClampNeg p1)).1 5) z_15.1.toNatClampNeg ((((mm_up z_15.2 4 (upd (z_15.2.1 4) z_15.1.toNatClampNeg p1)).1 5) (z_15.1 - (1 : Int32)).toNatClampNeg) + (1 : Int32)))).1 6) z_15.1.toNatClampNeg (((mm_up (mm_up z_15.2 4 (upd (z_15.2.1 4) z_15.1.toNatClampNeg p1)) 5 (upd ((mm_up z_15.2 4 (upd (z_15.2.1 4) z_15.1.toNatClampNeg p1)).1 5) z_15.1.toNatClampNeg ((((mm_up z_15.2 4 (upd (z_15.2.1 4) z_15.1.toNatClampNeg p1)).1 5) (z_15.1 - (1 : Int32)).toNatClampNeg) + (1 : Int32)))).1 5) z_15.1.toNatClampNeg))) 2 (upd ((mm_up (mm_up (mm_up z_15.2 4 (upd (z_15.2.1 4) z_15.1.toNatClampNeg p1)) 5 (upd ((mm_up z_15.2 4 (upd (z_15.2.1 4) z_15.1.toNatClampNeg p1)).1 5) z_15.1.toNatClampNeg ((((mm_up z_15.2 4 (upd (z_15.2.1 4) z_15.1.toNatClampNeg p1)).1 5) (z_15.1 - (1 : Int32)).toNatClampNeg) + (1 : Int32)))) 6 (upd ((mm_up (mm_up z_15.2 4 (upd (z_15.2.1 4) z_15.1.toNatClampNeg p1)) 5 (upd ((mm_up z_15.2 4 (upd (z_15.2.1 4) z_15.1.toNatClampNeg p1)).1 5) z_15.1.toNatClampNeg ((((mm_up z_15.2 4 (upd (z_15.2.1 4) z_15.1.toNatClampNeg p1)).1 5) (z_15.1 - (1 : Int32)).toNatClampNeg) + (1 : Int32)))).1 6) z_15.1.toNatClampNeg (((mm_up (mm_up z_15.2 4 (upd (z_15.2.1 4) z_15.1.toNatClampNeg p1)) 5 (upd ((mm_up z_15.2 4 (upd (z_15.2.1 4) z_15.1.toNatClampNeg p1)).1 5) z_15.1.toNatClampNeg ((((mm_up z_15.2 4 (upd (z_15.2.1 4) z_15.1.toNatClampNeg p1)).1 5) (z_15.1 - (1 : Int32)).toNatClampNeg) + (1 : Int32)))).1 5) z_15.1.toNatClampNeg))).1 2) p0.toNatClampNeg ((((mm_up (mm_up (mm_up z_15.2 4 (upd (z_15.2.1 4) z_15.1.toNatClampNeg p1)) 5 (upd ((mm_up z_15.2 4 (upd (z_15.2.1 4) z_15.1.toNatClampNeg p1)).1 5) z_15.1.toNatClampNeg ((((mm_up z_15.2 4 (upd (z_15.2.1 4) z_15.1.toNatClampNeg p1)).1 5) (z_15.1 - (1 : Int32)).toNatClampNeg) + (1 : Int32)))) 6 (upd ((mm_up (mm_up z_15.2 4 (upd (z_15.2.1 4) z_15.1.toNatClampNeg p1)) 5 (upd ((mm_up z_15.2 4 (upd (z_15.2.1 4) z_15.1.toNatClampNeg p1)).1 5) z_15.1.toNatClampNeg ((((mm_up z_15.2 4 (upd (z_15.2.1 4) z_15.1.toNatClampNeg p1)).1 5) (z_15.1 - (1 : Int32)).toNatClampNeg) + (1 : Int32)))).1 6) z_15.1.toNatClampNeg (((mm_up (mm_up z_15.2 4 (upd (z_15.2.1 4) z_15.1.toNatClampNeg p1)) 5 (upd ((mm_up z_15.2 4 (upd (z_15.2.1 4) z_15.1.toNatClampNeg p1)).1 5) z_15.1.toNatClampNeg ((((mm_up z_15.2 4 (upd (z_15.2.1 4) z_15.1.toNatClampNeg p1)).1 5) (z_15.1 - (1 : Int32)).toNatClampNeg) + (1 : Int32)))).1 5) z_15.1.toNatClampNeg))).1 2) p0.toNatClampNeg) + (1 : Int32)))))))))))) else qm_gd (vp_in z_15.1 2400) ((if z_15.1 = ((600 : Int32) * p0) then qm_gd (vp_in z_15.1 2400) (qm_gd (vp_in (z_15.1 + (1 : Int32)) 2400) (qm_gd (vp_in z_15.1 2400) (qm_gd (vp_in p0 4) (qm_gd (vp_in p0 4) (some (mm_up (mm_up (mm_up (mm_up z_15.2 4 (upd (z_15.2.1 4) z_15.1.toNatClampNeg p1)) 5 (upd ((mm_up z_15.2 4 (upd (z_15.2.1 4) z_15.1.toNatClampNeg p1)).1 5) z_15.1.toNatClampNeg ((0 : Int32) + (1 : Int32)))) 6 (upd ((mm_up (mm_up z_15.2 4 (upd (z_15.2.1 4) z_15.1.toNatClampNeg p1)) 5 (upd ((mm_up z_15.2 4 (upd (z_15.2.1 4) z_15.1.toNatClampNeg p1)).1 5) z_15.1.toNatClampNeg ((0 : Int32) + (1 : Int32)))).1 6) z_15.1.toNatClampNeg ((((mm_up (mm_up z_15.2 4 (upd (z_15.2.1 4) z_15.1.toNatClampNeg p1)) 5 (upd ((mm_up z_15.2 4 (upd (z_15.2.1 4) z_15.1.toNatClampNeg p1)).1 5) z_15.1.toNatClampNeg ((0 : Int32) + (1 : Int32)))).1 6) (z_15.1 + (1 : Int32)).toNatClampNeg) - (1 : Int32)))) 2 (upd ((mm_up (mm_up (mm_up z_15.2 4 (upd (z_15.2.1 4) z_15.1.toNatClampNeg p1)) 5 (upd ((mm_up z_15.2 4 (upd (z_15.2.1 4) z_15.1.toNatClampNeg p1)).1 5) z_15.1.toNatClampNeg ((0 : Int32) + (1 : Int32)))) 6 (upd ((mm_up (mm_up z_15.2 4 (upd (z_15.2.1 4) z_15.1.toNatClampNeg p1)) 5 (upd ((mm_up z_15.2 4 (upd (z_15.2.1 4) z_15.1.toNatClampNeg p1)).1 5) z_15.1.toNatClampNeg ((0 : Int32) + (1 : Int32)))).1 6) z_15.1.toNatClampNeg ((((mm_up (mm_up z_15.2 4 (upd (z_15.2.1 4) z_15.1.toNatClampNeg p1)) 5 (upd ((mm_up z_15.2 4 (upd (z_15.2.1 4) z_15.1.toNatClampNeg p1)).1 5) z_15.1.toNatClampNeg ((0 : Int32) + (1 : Int32)))).1 6) (z_15.1 + (1 : Int32)).toNatClampNeg) - (1 : Int32)))).1 2) p0.toNatClampNeg ((((mm_up (mm_up (mm_up z_15.2 4 (upd (z_15.2.1 4) z_15.1.toNatClampNeg p1)) 5 (upd ((mm_up z_15.2 4 (upd (z_15.2.1 4) z_15.1.toNatClampNeg p1)).1 5) z_15.1.toNatClampNeg ((0 : Int32) + (1 : Int32)))) 6 (upd ((mm_up (mm_up z_15.2 4 (upd (z_15.2.1 4) z_15.1.toNatClampNeg p1)) 5 (upd ((mm_up z_15.2 4 (upd (z_15.2.1 4) z_15.1.toNatClampNeg p1)).1 5) z_15.1.toNatClampNeg ((0 : Int32) + (1 : Int32)))).1 6) z_15.1.toNatClampNeg ((((mm_up (mm_up z_15.2 4 (upd (z_15.2.1 4) z_15.1.toNatClampNeg p1)) 5 (upd ((mm_up z_15.2 4 (upd (z_15.2.1 4) z_15.1.toNatClampNeg p1)).1 5) z_15.1.toNatClampNeg ((0 : Int32) + (1 : Int32)))).1 6) (z_15.1 + (1 : Int32)).toNatClampNeg) - (1 : Int32)))).1 2) p0.toNatClampNeg) + (1 : Int32))))))))) else qm_gd (vp_in (z_15.1 - (1 : Int32)) 2400) (qm_gd (vp_in z_15.1 2400) (qm_gd (vp_in (z_15.1 + (1 : Int32)) 2400) (qm_gd (vp_in z_15.1 2400) (qm_gd (vp_in p0 4) (qm_gd (vp_in p0 4) (some (mm_up (mm_up (mm_up (mm_up z_15.2 4 (upd (z_15.2.1 4) z_15.1.toNatClampNeg p1)) 5 (upd ((mm_up z_15.2 4 (upd (z_15.2.1 4) z_15.1.toNatClampNeg p1)).1 5) z_15.1.toNatClampNeg ((((mm_up z_15.2 4 (upd (z_15.2.1 4) z_15.1.toNatClampNeg p1)).1 5) (z_15.1 - (1 : Int32)).toNatClampNeg) + (1 : Int32)))) 6 (upd ((mm_up (mm_up z_15.2 4 (upd (z_15.2.1 4) z_15.1.toNatClampNeg p1)) 5 (upd ((mm_up z_15.2 4 (upd (z_15.2.1 4) z_15.1.toNatClampNeg p1)).1 5) z_15.1.toNatClampNeg ((((mm_up z_15.2 4 (upd (z_15.2.1 4) z_15.1.toNatClampNeg p1)).1 5) (z_15.1 - (1 : Int32)).toNatClampNeg) + (1 : Int32)))).1 6) z_15.1.toNatClampNeg ((((mm_up (mm_up z_15.2 4 (upd (z_15.2.1 4) z_15.1.toNatClampNeg p1)) 5 (upd ((mm_up z_15.2 4 (upd (z_15.2.1 4) z_15.1.toNatClampNeg p1)).1 5) z_15.1.toNatClampNeg ((((mm_up z_15.2 4 (upd (z_15.2.1 4) z_15.1.toNatClampNeg p1)).1 5) (z_15.1 - (1 : Int32)).toNatClampNeg) + (1 : Int32)))).1 6) (z_15.1 + (1 : Int32)).toNatClampNeg) - (1 : Int32)))) 2 (upd ((mm_up (mm_up (mm_up z_15.2 4 (upd (z_15.2.1 4) z_15.1.toNatClampNeg p1)) 5 (upd ((mm_up z_15.2 4 (upd (z_15.2.1 4) z_15.1.toNatClampNeg p1)).1 5) z_15.1.toNatClampNeg ((((mm_up z_15.2 4 (upd (z_15.2.1 4) z_15.1.toNatClampNeg p1)).1 5) (z_15.1 - (1 : Int32)).toNatClampNeg) + (1 : Int32)))) 6 (upd ((mm_up (mm_up z_15.2 4 (upd (z_15.2.1 4) z_15.1.toNatClampNeg p1)) 5 (upd ((mm_up z_15.2 4 (upd (z_15.2.1 4) z_15.1.toNatClampNeg p1)).1 5) z_15.1.toNatClampNeg ((((mm_up z_15.2 4 (upd (z_15.2.1 4) z_15.1.toNatClampNeg p1)).1 5) (z_15.1 - (1 : Int32)).toNatClampNeg) + (1 : Int32)))).1 6) z_15.1.toNatClampNeg ((((mm_up (mm_up z_15.2 4 (upd (z_15.2.1 4) z_15.1.toNatClampNeg p1)) 5 (upd ((mm_up z_15.2 4 (upd (z_15.2.1 4) z_15.1.toNatClampNeg p1)).1 5) z_15.1.toNatClampNeg ((((mm_up z_15.2 4 (upd (z_15.2.1 4) z_15.1.toNatClampNeg p1)).1 5) (z_15.1 - (1 : Int32)).toNatClampNeg) + (1 : Int32)))).1 6) (z_15.1 + (1 : Int32)).toNatClampNeg) - (1 : Int32)))).1 2) p0.toNatClampNeg ((((mm_up (mm_up (mm_up z_15.2 4 (upd (z_15.2.1 4) z_15.1.toNatClampNeg p1)) 5 (upd ((mm_up z_15.2 4 (upd (z_15.2.1 4) z_15.1.toNatClampNeg p1)).1 5) z_15.1.toNatClampNeg ((((mm_up z_15.2 4 (upd (z_15.2.1 4) z_15.1.toNatClampNeg p1)).1 5) (z_15.1 - (1 : Int32)).toNatClampNeg) + (1 : Int32)))) 6 (upd ((mm_up (mm_up z_15.2 4 (upd (z_15.2.1 4) z_15.1.toNatClampNeg p1)) 5 (upd ((mm_up z_15.2 4 (upd (z_15.2.1 4) z_15.1.toNatClampNeg p1)).1 5) z_15.1.toNatClampNeg ((((mm_up z_15.2 4 (upd (z_15.2.1 4) z_15.1.toNatClampNeg p1)).1 5) (z_15.1 - (1 : Int32)).toNatClampNeg) + (1 : Int32)))).1 6) z_15.1.toNatClampNeg ((((mm_up (mm_up z_15.2 4 (upd (z_15.2.1 4) z_15.1.toNatClampNeg p1)) 5 (upd ((mm_up z_15.2 4 (upd (z_15.2.1 4) z_15.1.toNatClampNeg p1)).1 5) z_15.1.toNatClampNeg ((((mm_up z_15.2 4 (upd (z_15.2.1 4) z_15.1.toNatClampNeg p1)).1 5) (z_15.1 - (1 : Int32)).toNatClampNeg) + (1 : Int32)))).1 6) (z_15.1 + (1 : Int32)).toNatClampNeg) - (1 : Int32)))).1 2) p0.toNatClampNeg) + (1 : Int32)))))))))))))))))
set_option maxHeartbeats 4000000 in
set_option maxRecDepth 100000 in
theorem kX7_shows (l : Launch) (D : va_G) (A : Nat → Prop) (pre : va_W) (am : Nat → Nat) (cI : ClassId) (S : mm_M) (p0 : Int32) (p1 : Int32) (z : mm_M) (h : fX7_shows S p0 p1 = some z) : Met l yX7_shows wsX7_shows ({ frames := 1, cells := 0, slots := 0, locals := 23 }) (va_Pc [.ref (am 0), .int p0, .int p1] (qm_B D A (mm_T cI) (mm_W pre am cI S))) (qm_Qv D A (mm_W pre am cI) z) 0 0 A := by
  refine Met.ofW (cc := cX7_shows) (maxL := 6) (ret := none) (by decide) rfl ?_
  intro p e s m args below meth c s₁ B hml hv
  obtain ⟨rfl, hA, hP, hK, hD⟩ := hv
  have hx := B.exec
  have hb := B.bytes
  have hr := B.returns
  have hts := atoms_spec (ws := wsX7_shows) B.pre
  have hown : s.vm.findClass RX7 = some m.cls := findClass_of_methodNamed B.named
  have hlocks := B.notSynchronized
  have hS : va_S A s.heap s.heap [] := va_S.rf
  have hl := lv_entry ([.ref (am 0), .int p0, .int p1]) (n := 6) (Nat.le_of_ble_eq_true rfl)
  rw [lg_entry_eq]
  generalize (lg_sl ([.ref (am 0), .int p0, .int p1]) ++ List.replicate (6 - (lg_sl ([.ref (am 0), .int p0, .int p1])).length) Slot.unset).toArray = ls at hl ⊢
  have hl : lv_has ls 6 [(0, .ref (am 0)), (1, .int p0), (2, .int p1)] := hl
  obtain ⟨QX, hQX⟩ : ∃ q, q = MQ below (qm_Qv D A (mm_W pre am cI) z) ([.ref (am 0), .int p0, .int p1] : List Value).toArray s 0 0 A := ⟨_, rfl⟩
  rw [← hQX]
  rw [fX7_shows] at h
  refine lv_aload_n hx hb dX7_shows_0 rfl (lv_at hl 0 rfl) ?_
  refine lv_iload_n hx hb dX7_shows_1 rfl (lv_at hl 1 rfl) ?_
  refine lv_iload_n hx hb dX7_shows_2 rfl (lv_at hl 2 rfl) ?_
  obtain ⟨z_1, hz_2, h⟩ := qm_bind h
  refine va_callv (va_runV (As := [.int p0, .int p1]) (rest := []) ⟨hx, hb, hml, hown, hts⟩ (kX7_remembers l D A pre am cI S p0 p1 z_1 hz_2) (cwV 2 hts gX7_shows_X7_remembers rfl rfl rfl (by decide +kernel) ⟨Nat.le_of_ble_eq_true rfl, Nat.le_of_ble_eq_true rfl⟩) ⟨qm_blind, va_recv hK hP (ci := 7) (q0 := (pre.length + 0)) rfl mg_0, fun U hU hW => ⟨rfl, qm_go hA hS hP hK hD hU hW⟩⟩ rfl rfl hl.1 rfl (lv_room (Nat.le_of_ble_eq_true rfl)) dX7_shows_3 ⟨Nat.le_of_ble_eq_true rfl, Nat.le_of_ble_eq_true rfl⟩) hS (fun _ _ h9 => h9) (fun _ h9 => h9) (fun u t H1 locs1 ht hvm hw hB hz1 hk1 hS => ?_)
  have hw : z_1 = u := hw.symm
  subst hw
  obtain ⟨hP, hD⟩ := qm_bk ht hB
  refine lv_sipush (v := (600 : Int32)) hx hb dX7_shows_6 (by decide) ?_
  refine lv_iload_n hx hb dX7_shows_9 rfl (lv_at hl 1 rfl) ?_
  refine lv_imul hx hb dX7_shows_10 ?_
  refine lv_istore_n (lv' := [(3, .int ((600 : Int32) * p0)), (0, .ref (am 0)), (1, .int p0), (2, .int p1)]) hx hb dX7_shows_11 rfl hl (by decide) rfl (fun ls hl => ?_)
  refine lv_iload_n hx hb dX7_shows_12 rfl (lv_at hl 0 rfl) ?_
  refine lv_aload_n hx hb dX7_shows_13 rfl (lv_at hl 1 rfl) ?_
  refine va_get (D := D) (ci := 7) (v := .ref (am 3)) (C := RX7) (T := TX7) (N := 11) hx hb hts (by decide +kernel) hown hK hP (pre.length + 0) mg_0 rfl 2 (by decide) (hts (.fieldLink RX7 16 "QueueMiddlesModel" "marks" "[I") (by decide +kernel)) (fun _ h9 => h9) rfl dX7_shows_14 ?_
  refine lv_iload_n hx hb dX7_shows_17 rfl (lv_at hl 2 rfl) ?_
  obtain ⟨g_3, h⟩ := qm_gd_some h
  refine va_iald hx hb hK hP (pre.length + 3) 0 mg_3 rfl g_3 dX7_shows_18 ?_
  refine lv_iadd hx hb dX7_shows_19 ?_
  refine lv_istore (lv' := [(4, .int (((600 : Int32) * p0) + ((z_1.1 2) p0.toNatClampNeg))), (3, .int ((600 : Int32) * p0)), (0, .ref (am 0)), (1, .int p0), (2, .int p1)]) hx hb dX7_shows_20 hl (by decide) rfl (fun ls hl => ?_)
  have loop_5 : ∀ (fuel : Nat) (v4_4 : Int32) (S_4 : mm_M) (z : Int32 × mm_M), fX7_shows_L22 p0 p1 ((600 : Int32) * p0) fuel v4_4 S_4 = some z → ∀ (H : Heap) (locs : List Loc) (ls : Array Slot), va_P D vwCl (mm_W pre am cI S_4) H → va_D A (mm_W pre am cI S_4) → va_S A s.heap H locs → lv_has ls 6 [(0, .ref (am 0)), (1, .int p0), (2, .int p1), (3, .int ((600 : Int32) * p0)), (4, .int v4_4)] → (∀ (H : Heap) (locs : List Loc) (ls : Array Slot), va_P D vwCl (mm_W pre am cI z.2) H → va_D A (mm_W pre am cI z.2) → va_S A s.heap H locs → lv_has ls 6 [(0, .ref (am 0)), (1, .int p0), (2, .int p1), (3, .int ((600 : Int32) * p0)), (4, .int z.1)] → W p l e ({ frames := 1, cells := 0, slots := 0, locals := 23 } : Room) s m ([.ref (am 0), .int p0, .int p1] : List Value).toArray below meth c H locs 0 0 QX (F0 m 99 ls [])) → W p l e ({ frames := 1, cells := 0, slots := 0, locals := 23 } : Room) s m ([.ref (am 0), .int p0, .int p1] : List Value).toArray below meth c H locs 0 0 QX (F0 m 22 ls []) := by
    intro fuel
    induction fuel with
    | zero =>
      intro v4_4 S_4 z h
      rw [fX7_shows_L22] at h
      cases h
    | succ fuel ih =>
      intro v4_4 S_4 z h H locs ls hP hD hS hl kex
      rw [fX7_shows_L22] at h
      refine lv_iload hx hb dX7_shows_22 (lv_at hl 4 rfl) ?_
      refine lv_iload_n hx hb dX7_shows_24 rfl (lv_at hl 3 rfl) ?_
      refine lv_icmp_le (tgt := 99) hx hb dX7_shows_25 (by decide) (fun c_6 => ?_) (fun c_6 => ?_)
      · rw [if_pos c_6] at h
        have h := Option.some.inj h
        subst h
        exact kex _ _ _ hP hD hS (lv_sub hl [0, 1, 2, 3, 4] rfl)
      · rw [if_neg c_6] at h
        refine lv_aload_n hx hb dX7_shows_28 rfl (lv_at hl 0 rfl) ?_
        refine va_get (D := D) (ci := 7) (v := .ref (am 5)) (C := RX7) (T := TX7) (N := 11) hx hb hts (by decide +kernel) hown hK hP (pre.length + 0) mg_0 rfl 4 (by decide) (hts (.fieldLink RX7 22 "QueueMiddlesModel" "value" "[I") (by decide +kernel)) (fun _ h9 => h9) rfl dX7_shows_29 ?_
        refine lv_iload hx hb dX7_shows_32 (lv_at hl 4 rfl) ?_
        refine lv_iconst (v := (1 : Int32)) hx hb dX7_shows_34 (by decide) ?_
        refine lv_isub hx hb dX7_shows_35 ?_
        obtain ⟨g_7, h⟩ := qm_gd_some h
        refine va_iald hx hb hK hP (pre.length + 5) 0 mg_5 rfl g_7 dX7_shows_36 ?_
        refine lv_iload_n hx hb dX7_shows_37 rfl (lv_at hl 2 rfl) ?_
        refine lv_icmp_le (tgt := 99) hx hb dX7_shows_38 (by decide) (fun c_8 => ?_) (fun c_8 => ?_)
        · rw [if_pos c_8] at h
          have h := Option.some.inj h
          subst h
          exact kex _ _ _ hP hD hS (lv_sub hl [0, 1, 2, 3, 4] rfl)
        · rw [if_neg c_8] at h
          refine lv_aload_n hx hb dX7_shows_41 rfl (lv_at hl 0 rfl) ?_
          refine va_get (D := D) (ci := 7) (v := .ref (am 5)) (C := RX7) (T := TX7) (N := 11) hx hb hts (by decide +kernel) hown hK hP (pre.length + 0) mg_0 rfl 4 (by decide) (hts (.fieldLink RX7 22 "QueueMiddlesModel" "value" "[I") (by decide +kernel)) (fun _ h9 => h9) rfl dX7_shows_42 ?_
          refine lv_iload hx hb dX7_shows_45 (lv_at hl 4 rfl) ?_
          refine lv_aload_n hx hb dX7_shows_47 rfl (lv_at hl 0 rfl) ?_
          refine va_get (D := D) (ci := 7) (v := .ref (am 5)) (C := RX7) (T := TX7) (N := 11) hx hb hts (by decide +kernel) hown hK hP (pre.length + 0) mg_0 rfl 4 (by decide) (hts (.fieldLink RX7 22 "QueueMiddlesModel" "value" "[I") (by decide +kernel)) (fun _ h9 => h9) rfl dX7_shows_48 ?_
          refine lv_iload hx hb dX7_shows_51 (lv_at hl 4 rfl) ?_
          refine lv_iconst (v := (1 : Int32)) hx hb dX7_shows_53 (by decide) ?_
          refine lv_isub hx hb dX7_shows_54 ?_
          obtain ⟨g_9, h⟩ := qm_gd_some h
          refine va_iald hx hb hK hP (pre.length + 5) 0 mg_5 rfl g_9 dX7_shows_55 ?_
          obtain ⟨g_10, h⟩ := qm_gd_some h
          refine va_iast hx hb hK hP hD hS (pre.length + 5) 0 mg_5 rfl g_10 dX7_shows_56 (fun H locs hP hD hS => ?_)
          rw [ms_5 (upd (S_4.1 4) v4_4.toNatClampNeg ((S_4.1 4) (v4_4 - (1 : Int32)).toNatClampNeg))] at hP hD
          refine lv_aload_n hx hb dX7_shows_57 rfl (lv_at hl 0 rfl) ?_
          refine va_get (D := D) (ci := 7) (v := .ref (am 6)) (C := RX7) (T := TX7) (N := 11) hx hb hts (by decide +kernel) hown hK hP (pre.length + 0) mg_0 rfl 5 (by decide) (hts (.fieldLink RX7 25 "QueueMiddlesModel" "lowest" "[I") (by decide +kernel)) (fun _ h9 => h9) rfl dX7_shows_58 ?_
          refine lv_iload hx hb dX7_shows_61 (lv_at hl 4 rfl) ?_
          refine lv_aload_n hx hb dX7_shows_63 rfl (lv_at hl 0 rfl) ?_
          refine va_get (D := D) (ci := 7) (v := .ref (am 6)) (C := RX7) (T := TX7) (N := 11) hx hb hts (by decide +kernel) hown hK hP (pre.length + 0) mg_0 rfl 5 (by decide) (hts (.fieldLink RX7 25 "QueueMiddlesModel" "lowest" "[I") (by decide +kernel)) (fun _ h9 => h9) rfl dX7_shows_64 ?_
          refine lv_iload hx hb dX7_shows_67 (lv_at hl 4 rfl) ?_
          refine lv_iconst (v := (1 : Int32)) hx hb dX7_shows_69 (by decide) ?_
          refine lv_isub hx hb dX7_shows_70 ?_
          obtain ⟨g_11, h⟩ := qm_gd_some h
          refine va_iald hx hb hK hP (pre.length + 6) 0 mg_6 rfl g_11 dX7_shows_71 ?_
          refine lv_iconst (v := (1 : Int32)) hx hb dX7_shows_72 (by decide) ?_
          refine lv_iadd hx hb dX7_shows_73 ?_
          obtain ⟨g_12, h⟩ := qm_gd_some h
          refine va_iast hx hb hK hP hD hS (pre.length + 6) 0 mg_6 rfl g_12 dX7_shows_74 (fun H locs hP hD hS => ?_)
          rw [ms_6 (upd ((mm_up S_4 4 (upd (S_4.1 4) v4_4.toNatClampNeg ((S_4.1 4) (v4_4 - (1 : Int32)).toNatClampNeg))).1 5) v4_4.toNatClampNeg ((((mm_up S_4 4 (upd (S_4.1 4) v4_4.toNatClampNeg ((S_4.1 4) (v4_4 - (1 : Int32)).toNatClampNeg))).1 5) (v4_4 - (1 : Int32)).toNatClampNeg) + (1 : Int32)))] at hP hD
          refine lv_aload_n hx hb dX7_shows_75 rfl (lv_at hl 0 rfl) ?_
          refine va_get (D := D) (ci := 7) (v := .ref (am 7)) (C := RX7) (T := TX7) (N := 11) hx hb hts (by decide +kernel) hown hK hP (pre.length + 0) mg_0 rfl 6 (by decide) (hts (.fieldLink RX7 28 "QueueMiddlesModel" "highest" "[I") (by decide +kernel)) (fun _ h9 => h9) rfl dX7_shows_76 ?_
          refine lv_iload hx hb dX7_shows_79 (lv_at hl 4 rfl) ?_
          refine lv_aload_n hx hb dX7_shows_81 rfl (lv_at hl 0 rfl) ?_
          refine va_get (D := D) (ci := 7) (v := .ref (am 7)) (C := RX7) (T := TX7) (N := 11) hx hb hts (by decide +kernel) hown hK hP (pre.length + 0) mg_0 rfl 6 (by decide) (hts (.fieldLink RX7 28 "QueueMiddlesModel" "highest" "[I") (by decide +kernel)) (fun _ h9 => h9) rfl dX7_shows_82 ?_
          refine lv_iload hx hb dX7_shows_85 (lv_at hl 4 rfl) ?_
          refine lv_iconst (v := (1 : Int32)) hx hb dX7_shows_87 (by decide) ?_
          refine lv_isub hx hb dX7_shows_88 ?_
          obtain ⟨g_13, h⟩ := qm_gd_some h
          refine va_iald hx hb hK hP (pre.length + 7) 0 mg_7 rfl g_13 dX7_shows_89 ?_
          refine lv_iconst (v := (1 : Int32)) hx hb dX7_shows_90 (by decide) ?_
          refine lv_iadd hx hb dX7_shows_91 ?_
          obtain ⟨g_14, h⟩ := qm_gd_some h
          refine va_iast hx hb hK hP hD hS (pre.length + 7) 0 mg_7 rfl g_14 dX7_shows_92 (fun H locs hP hD hS => ?_)
          rw [ms_7 (upd ((mm_up (mm_up S_4 4 (upd (S_4.1 4) v4_4.toNatClampNeg ((S_4.1 4) (v4_4 - (1 : Int32)).toNatClampNeg))) 5 (upd ((mm_up S_4 4 (upd (S_4.1 4) v4_4.toNatClampNeg ((S_4.1 4) (v4_4 - (1 : Int32)).toNatClampNeg))).1 5) v4_4.toNatClampNeg ((((mm_up S_4 4 (upd (S_4.1 4) v4_4.toNatClampNeg ((S_4.1 4) (v4_4 - (1 : Int32)).toNatClampNeg))).1 5) (v4_4 - (1 : Int32)).toNatClampNeg) + (1 : Int32)))).1 6) v4_4.toNatClampNeg ((((mm_up (mm_up S_4 4 (upd (S_4.1 4) v4_4.toNatClampNeg ((S_4.1 4) (v4_4 - (1 : Int32)).toNatClampNeg))) 5 (upd ((mm_up S_4 4 (upd (S_4.1 4) v4_4.toNatClampNeg ((S_4.1 4) (v4_4 - (1 : Int32)).toNatClampNeg))).1 5) v4_4.toNatClampNeg ((((mm_up S_4 4 (upd (S_4.1 4) v4_4.toNatClampNeg ((S_4.1 4) (v4_4 - (1 : Int32)).toNatClampNeg))).1 5) (v4_4 - (1 : Int32)).toNatClampNeg) + (1 : Int32)))).1 6) (v4_4 - (1 : Int32)).toNatClampNeg) + (1 : Int32)))] at hP hD
          refine lv_iinc (v := v4_4 + (-1 : Int32)) (lv' := [(4, .int (v4_4 + (-1 : Int32))), (0, .ref (am 0)), (1, .int p0), (2, .int p1), (3, .int ((600 : Int32) * p0))]) hx hb dX7_shows_93 hl (k := 4) rfl rfl (by decide) rfl (fun ls hl => ?_)
          refine lv_goto (tgt := 22) hx hb dX7_shows_96 (by decide) ?_
          exact ih (v4_4 + (-1 : Int32)) (mm_up (mm_up (mm_up S_4 4 (upd (S_4.1 4) v4_4.toNatClampNeg ((S_4.1 4) (v4_4 - (1 : Int32)).toNatClampNeg))) 5 (upd ((mm_up S_4 4 (upd (S_4.1 4) v4_4.toNatClampNeg ((S_4.1 4) (v4_4 - (1 : Int32)).toNatClampNeg))).1 5) v4_4.toNatClampNeg ((((mm_up S_4 4 (upd (S_4.1 4) v4_4.toNatClampNeg ((S_4.1 4) (v4_4 - (1 : Int32)).toNatClampNeg))).1 5) (v4_4 - (1 : Int32)).toNatClampNeg) + (1 : Int32)))) 6 (upd ((mm_up (mm_up S_4 4 (upd (S_4.1 4) v4_4.toNatClampNeg ((S_4.1 4) (v4_4 - (1 : Int32)).toNatClampNeg))) 5 (upd ((mm_up S_4 4 (upd (S_4.1 4) v4_4.toNatClampNeg ((S_4.1 4) (v4_4 - (1 : Int32)).toNatClampNeg))).1 5) v4_4.toNatClampNeg ((((mm_up S_4 4 (upd (S_4.1 4) v4_4.toNatClampNeg ((S_4.1 4) (v4_4 - (1 : Int32)).toNatClampNeg))).1 5) (v4_4 - (1 : Int32)).toNatClampNeg) + (1 : Int32)))).1 6) v4_4.toNatClampNeg ((((mm_up (mm_up S_4 4 (upd (S_4.1 4) v4_4.toNatClampNeg ((S_4.1 4) (v4_4 - (1 : Int32)).toNatClampNeg))) 5 (upd ((mm_up S_4 4 (upd (S_4.1 4) v4_4.toNatClampNeg ((S_4.1 4) (v4_4 - (1 : Int32)).toNatClampNeg))).1 5) v4_4.toNatClampNeg ((((mm_up S_4 4 (upd (S_4.1 4) v4_4.toNatClampNeg ((S_4.1 4) (v4_4 - (1 : Int32)).toNatClampNeg))).1 5) (v4_4 - (1 : Int32)).toNatClampNeg) + (1 : Int32)))).1 6) (v4_4 - (1 : Int32)).toNatClampNeg) + (1 : Int32)))) z h _ _ _ hP hD hS (lv_sub hl [1, 2, 3, 4, 0] rfl) kex
  obtain ⟨z_15, hz_16, h⟩ := qm_bind h
  refine loop_5 qm_F (((600 : Int32) * p0) + ((z_1.1 2) p0.toNatClampNeg)) z_1 z_15 hz_16 _ _ _ hP hD hS (lv_sub hl [2, 3, 4, 1, 0] rfl) (fun H locs ls hP hD hS hl => ?_)
  refine lv_iload hx hb dX7_shows_99 (lv_at hl 4 rfl) ?_
  refine lv_iload_n hx hb dX7_shows_101 rfl (lv_at hl 3 rfl) ?_
  refine lv_aload_n hx hb dX7_shows_102 rfl (lv_at hl 0 rfl) ?_
  refine va_get (D := D) (ci := 7) (v := .ref (am 3)) (C := RX7) (T := TX7) (N := 11) hx hb hts (by decide +kernel) hown hK hP (pre.length + 0) mg_0 rfl 2 (by decide) (hts (.fieldLink RX7 16 "QueueMiddlesModel" "marks" "[I") (by decide +kernel)) (fun _ h9 => h9) rfl dX7_shows_103 ?_
  refine lv_iload_n hx hb dX7_shows_106 rfl (lv_at hl 1 rfl) ?_
  obtain ⟨g_17, h⟩ := qm_gd_some h
  refine va_iald hx hb hK hP (pre.length + 3) 0 mg_3 rfl g_17 dX7_shows_107 ?_
  refine lv_iadd hx hb dX7_shows_108 ?_
  refine lv_icmp_ne (tgt := 116) hx hb dX7_shows_109 (by decide) (fun c_18 => ?_) (fun c_18 => ?_)
  · rw [if_neg c_18] at h
    refine lv_iconst (v := (0 : Int32)) hx hb dX7_shows_116 (by decide) ?_
    refine lv_istore (lv' := [(5, .int (0 : Int32)), (0, .ref (am 0)), (1, .int p0), (2, .int p1), (3, .int ((600 : Int32) * p0)), (4, .int z_15.1)]) hx hb dX7_shows_117 hl (by decide) rfl (fun ls hl => ?_)
    refine lv_aload_n hx hb dX7_shows_119 rfl (lv_at hl 1 rfl) ?_
    refine va_get (D := D) (ci := 7) (v := .ref (am 5)) (C := RX7) (T := TX7) (N := 11) hx hb hts (by decide +kernel) hown hK hP (pre.length + 0) mg_0 rfl 4 (by decide) (hts (.fieldLink RX7 22 "QueueMiddlesModel" "value" "[I") (by decide +kernel)) (fun _ h9 => h9) rfl dX7_shows_120 ?_
    refine lv_iload hx hb dX7_shows_123 (lv_at hl 5 rfl) ?_
    refine lv_iload_n hx hb dX7_shows_125 rfl (lv_at hl 3 rfl) ?_
    obtain ⟨g_19, h⟩ := qm_gd_some h
    refine va_iast hx hb hK hP hD hS (pre.length + 5) 0 mg_5 rfl g_19 dX7_shows_126 (fun H locs hP hD hS => ?_)
    rw [ms_5 (upd (z_15.2.1 4) z_15.1.toNatClampNeg p1)] at hP hD
    refine lv_aload_n hx hb dX7_shows_127 rfl (lv_at hl 1 rfl) ?_
    refine va_get (D := D) (ci := 7) (v := .ref (am 6)) (C := RX7) (T := TX7) (N := 11) hx hb hts (by decide +kernel) hown hK hP (pre.length + 0) mg_0 rfl 5 (by decide) (hts (.fieldLink RX7 25 "QueueMiddlesModel" "lowest" "[I") (by decide +kernel)) (fun _ h9 => h9) rfl dX7_shows_128 ?_
    refine lv_iload hx hb dX7_shows_131 (lv_at hl 5 rfl) ?_
    refine lv_iload hx hb dX7_shows_133 (lv_at hl 5 rfl) ?_
    refine lv_iload_n hx hb dX7_shows_135 rfl (lv_at hl 4 rfl) ?_
    refine lv_icmp_ne (tgt := 143) hx hb dX7_shows_136 (by decide) (fun c_20 => ?_) (fun c_20 => ?_)
    · rw [if_neg c_20] at h
      refine lv_aload_n hx hb dX7_shows_143 rfl (lv_at hl 1 rfl) ?_
      refine va_get (D := D) (ci := 7) (v := .ref (am 6)) (C := RX7) (T := TX7) (N := 11) hx hb hts (by decide +kernel) hown hK hP (pre.length + 0) mg_0 rfl 5 (by decide) (hts (.fieldLink RX7 25 "QueueMiddlesModel" "lowest" "[I") (by decide +kernel)) (fun _ h9 => h9) rfl dX7_shows_144 ?_
      refine lv_iload hx hb dX7_shows_147 (lv_at hl 5 rfl) ?_
      refine lv_iconst (v := (1 : Int32)) hx hb dX7_shows_149 (by decide) ?_
      refine lv_isub hx hb dX7_shows_150 ?_
      obtain ⟨g_21, h⟩ := qm_gd_some h
      refine va_iald hx hb hK hP (pre.length + 6) 0 mg_6 rfl g_21 dX7_shows_151 ?_
      refine lv_iconst (v := (1 : Int32)) hx hb dX7_shows_152 (by decide) ?_
      refine lv_iadd hx hb dX7_shows_153 ?_
      obtain ⟨g_22, h⟩ := qm_gd_some h
      refine va_iast hx hb hK hP hD hS (pre.length + 6) 0 mg_6 rfl g_22 dX7_shows_154 (fun H locs hP hD hS => ?_)
      rw [ms_6 (upd ((mm_up z_15.2 4 (upd (z_15.2.1 4) z_15.1.toNatClampNeg p1)).1 5) z_15.1.toNatClampNeg ((((mm_up z_15.2 4 (upd (z_15.2.1 4) z_15.1.toNatClampNeg p1)).1 5) (z_15.1 - (1 : Int32)).toNatClampNeg) + (1 : Int32)))] at hP hD
      refine lv_aload_n hx hb dX7_shows_155 rfl (lv_at hl 1 rfl) ?_
      refine va_get (D := D) (ci := 7) (v := .ref (am 7)) (C := RX7) (T := TX7) (N := 11) hx hb hts (by decide +kernel) hown hK hP (pre.length + 0) mg_0 rfl 6 (by decide) (hts (.fieldLink RX7 28 "QueueMiddlesModel" "highest" "[I") (by decide +kernel)) (fun _ h9 => h9) rfl dX7_shows_156 ?_
      refine lv_iload hx hb dX7_shows_159 (lv_at hl 5 rfl) ?_
      refine lv_iload hx hb dX7_shows_161 (lv_at hl 0 rfl) ?_
      refine lv_if_eq (tgt := 176) hx hb dX7_shows_163 (by decide) (fun _ => ?_) (fun c => absurd (by decide) c)
      refine lv_aload_n hx hb dX7_shows_176 rfl (lv_at hl 1 rfl) ?_
      refine va_get (D := D) (ci := 7) (v := .ref (am 7)) (C := RX7) (T := TX7) (N := 11) hx hb hts (by decide +kernel) hown hK hP (pre.length + 0) mg_0 rfl 6 (by decide) (hts (.fieldLink RX7 28 "QueueMiddlesModel" "highest" "[I") (by decide +kernel)) (fun _ h9 => h9) rfl dX7_shows_177 ?_
      refine lv_iload hx hb dX7_shows_180 (lv_at hl 5 rfl) ?_
      refine lv_iconst (v := (1 : Int32)) hx hb dX7_shows_182 (by decide) ?_
      refine lv_iadd hx hb dX7_shows_183 ?_
      obtain ⟨g_23, h⟩ := qm_gd_some h
      refine va_iald hx hb hK hP (pre.length + 7) 0 mg_7 rfl g_23 dX7_shows_184 ?_
      refine lv_iconst (v := (1 : Int32)) hx hb dX7_shows_185 (by decide) ?_
      refine lv_isub hx hb dX7_shows_186 ?_
      obtain ⟨g_24, h⟩ := qm_gd_some h
      refine va_iast hx hb hK hP hD hS (pre.length + 7) 0 mg_7 rfl g_24 dX7_shows_187 (fun H locs hP hD hS => ?_)
      rw [ms_7 (upd ((mm_up (mm_up z_15.2 4 (upd (z_15.2.1 4) z_15.1.toNatClampNeg p1)) 5 (upd ((mm_up z_15.2 4 (upd (z_15.2.1 4) z_15.1.toNatClampNeg p1)).1 5) z_15.1.toNatClampNeg ((((mm_up z_15.2 4 (upd (z_15.2.1 4) z_15.1.toNatClampNeg p1)).1 5) (z_15.1 - (1 : Int32)).toNatClampNeg) + (1 : Int32)))).1 6) z_15.1.toNatClampNeg ((((mm_up (mm_up z_15.2 4 (upd (z_15.2.1 4) z_15.1.toNatClampNeg p1)) 5 (upd ((mm_up z_15.2 4 (upd (z_15.2.1 4) z_15.1.toNatClampNeg p1)).1 5) z_15.1.toNatClampNeg ((((mm_up z_15.2 4 (upd (z_15.2.1 4) z_15.1.toNatClampNeg p1)).1 5) (z_15.1 - (1 : Int32)).toNatClampNeg) + (1 : Int32)))).1 6) (z_15.1 + (1 : Int32)).toNatClampNeg) - (1 : Int32)))] at hP hD
      refine lv_aload_n hx hb dX7_shows_188 rfl (lv_at hl 1 rfl) ?_
      refine va_get (D := D) (ci := 7) (v := .ref (am 3)) (C := RX7) (T := TX7) (N := 11) hx hb hts (by decide +kernel) hown hK hP (pre.length + 0) mg_0 rfl 2 (by decide) (hts (.fieldLink RX7 16 "QueueMiddlesModel" "marks" "[I") (by decide +kernel)) (fun _ h9 => h9) rfl dX7_shows_189 ?_
      refine lv_iload_n hx hb dX7_shows_192 rfl (lv_at hl 2 rfl) ?_
      refine lv_dup2_11 hx hb dX7_shows_193 rfl rfl ?_
      obtain ⟨g_25, h⟩ := qm_gd_some h
      refine va_iald hx hb hK hP (pre.length + 3) 0 mg_3 rfl g_25 dX7_shows_194 ?_
      refine lv_iconst (v := (1 : Int32)) hx hb dX7_shows_195 (by decide) ?_
      refine lv_iadd hx hb dX7_shows_196 ?_
      obtain ⟨g_26, h⟩ := qm_gd_some h
      refine va_iast hx hb hK hP hD hS (pre.length + 3) 0 mg_3 rfl g_26 dX7_shows_197 (fun H locs hP hD hS => ?_)
      rw [ms_3 (upd ((mm_up (mm_up (mm_up z_15.2 4 (upd (z_15.2.1 4) z_15.1.toNatClampNeg p1)) 5 (upd ((mm_up z_15.2 4 (upd (z_15.2.1 4) z_15.1.toNatClampNeg p1)).1 5) z_15.1.toNatClampNeg ((((mm_up z_15.2 4 (upd (z_15.2.1 4) z_15.1.toNatClampNeg p1)).1 5) (z_15.1 - (1 : Int32)).toNatClampNeg) + (1 : Int32)))) 6 (upd ((mm_up (mm_up z_15.2 4 (upd (z_15.2.1 4) z_15.1.toNatClampNeg p1)) 5 (upd ((mm_up z_15.2 4 (upd (z_15.2.1 4) z_15.1.toNatClampNeg p1)).1 5) z_15.1.toNatClampNeg ((((mm_up z_15.2 4 (upd (z_15.2.1 4) z_15.1.toNatClampNeg p1)).1 5) (z_15.1 - (1 : Int32)).toNatClampNeg) + (1 : Int32)))).1 6) z_15.1.toNatClampNeg ((((mm_up (mm_up z_15.2 4 (upd (z_15.2.1 4) z_15.1.toNatClampNeg p1)) 5 (upd ((mm_up z_15.2 4 (upd (z_15.2.1 4) z_15.1.toNatClampNeg p1)).1 5) z_15.1.toNatClampNeg ((((mm_up z_15.2 4 (upd (z_15.2.1 4) z_15.1.toNatClampNeg p1)).1 5) (z_15.1 - (1 : Int32)).toNatClampNeg) + (1 : Int32)))).1 6) (z_15.1 + (1 : Int32)).toNatClampNeg) - (1 : Int32)))).1 2) p0.toNatClampNeg ((((mm_up (mm_up (mm_up z_15.2 4 (upd (z_15.2.1 4) z_15.1.toNatClampNeg p1)) 5 (upd ((mm_up z_15.2 4 (upd (z_15.2.1 4) z_15.1.toNatClampNeg p1)).1 5) z_15.1.toNatClampNeg ((((mm_up z_15.2 4 (upd (z_15.2.1 4) z_15.1.toNatClampNeg p1)).1 5) (z_15.1 - (1 : Int32)).toNatClampNeg) + (1 : Int32)))) 6 (upd ((mm_up (mm_up z_15.2 4 (upd (z_15.2.1 4) z_15.1.toNatClampNeg p1)) 5 (upd ((mm_up z_15.2 4 (upd (z_15.2.1 4) z_15.1.toNatClampNeg p1)).1 5) z_15.1.toNatClampNeg ((((mm_up z_15.2 4 (upd (z_15.2.1 4) z_15.1.toNatClampNeg p1)).1 5) (z_15.1 - (1 : Int32)).toNatClampNeg) + (1 : Int32)))).1 6) z_15.1.toNatClampNeg ((((mm_up (mm_up z_15.2 4 (upd (z_15.2.1 4) z_15.1.toNatClampNeg p1)) 5 (upd ((mm_up z_15.2 4 (upd (z_15.2.1 4) z_15.1.toNatClampNeg p1)).1 5) z_15.1.toNatClampNeg ((((mm_up z_15.2 4 (upd (z_15.2.1 4) z_15.1.toNatClampNeg p1)).1 5) (z_15.1 - (1 : Int32)).toNatClampNeg) + (1 : Int32)))).1 6) (z_15.1 + (1 : Int32)).toNatClampNeg) - (1 : Int32)))).1 2) p0.toNatClampNeg) + (1 : Int32)))] at hP hD
      have h := Option.some.inj h
      subst h
      rw [hQX]
      exact W.vret hx hb hr (fun t ht hW => ⟨⟨mm_up (mm_up (mm_up (mm_up z_15.2 4 (upd (z_15.2.1 4) z_15.1.toNatClampNeg p1)) 5 (upd ((mm_up z_15.2 4 (upd (z_15.2.1 4) z_15.1.toNatClampNeg p1)).1 5) z_15.1.toNatClampNeg ((((mm_up z_15.2 4 (upd (z_15.2.1 4) z_15.1.toNatClampNeg p1)).1 5) (z_15.1 - (1 : Int32)).toNatClampNeg) + (1 : Int32)))) 6 (upd ((mm_up (mm_up z_15.2 4 (upd (z_15.2.1 4) z_15.1.toNatClampNeg p1)) 5 (upd ((mm_up z_15.2 4 (upd (z_15.2.1 4) z_15.1.toNatClampNeg p1)).1 5) z_15.1.toNatClampNeg ((((mm_up z_15.2 4 (upd (z_15.2.1 4) z_15.1.toNatClampNeg p1)).1 5) (z_15.1 - (1 : Int32)).toNatClampNeg) + (1 : Int32)))).1 6) z_15.1.toNatClampNeg ((((mm_up (mm_up z_15.2 4 (upd (z_15.2.1 4) z_15.1.toNatClampNeg p1)) 5 (upd ((mm_up z_15.2 4 (upd (z_15.2.1 4) z_15.1.toNatClampNeg p1)).1 5) z_15.1.toNatClampNeg ((((mm_up z_15.2 4 (upd (z_15.2.1 4) z_15.1.toNatClampNeg p1)).1 5) (z_15.1 - (1 : Int32)).toNatClampNeg) + (1 : Int32)))).1 6) (z_15.1 + (1 : Int32)).toNatClampNeg) - (1 : Int32)))) 2 (upd ((mm_up (mm_up (mm_up z_15.2 4 (upd (z_15.2.1 4) z_15.1.toNatClampNeg p1)) 5 (upd ((mm_up z_15.2 4 (upd (z_15.2.1 4) z_15.1.toNatClampNeg p1)).1 5) z_15.1.toNatClampNeg ((((mm_up z_15.2 4 (upd (z_15.2.1 4) z_15.1.toNatClampNeg p1)).1 5) (z_15.1 - (1 : Int32)).toNatClampNeg) + (1 : Int32)))) 6 (upd ((mm_up (mm_up z_15.2 4 (upd (z_15.2.1 4) z_15.1.toNatClampNeg p1)) 5 (upd ((mm_up z_15.2 4 (upd (z_15.2.1 4) z_15.1.toNatClampNeg p1)).1 5) z_15.1.toNatClampNeg ((((mm_up z_15.2 4 (upd (z_15.2.1 4) z_15.1.toNatClampNeg p1)).1 5) (z_15.1 - (1 : Int32)).toNatClampNeg) + (1 : Int32)))).1 6) z_15.1.toNatClampNeg ((((mm_up (mm_up z_15.2 4 (upd (z_15.2.1 4) z_15.1.toNatClampNeg p1)) 5 (upd ((mm_up z_15.2 4 (upd (z_15.2.1 4) z_15.1.toNatClampNeg p1)).1 5) z_15.1.toNatClampNeg ((((mm_up z_15.2 4 (upd (z_15.2.1 4) z_15.1.toNatClampNeg p1)).1 5) (z_15.1 - (1 : Int32)).toNatClampNeg) + (1 : Int32)))).1 6) (z_15.1 + (1 : Int32)).toNatClampNeg) - (1 : Int32)))).1 2) p0.toNatClampNeg ((((mm_up (mm_up (mm_up z_15.2 4 (upd (z_15.2.1 4) z_15.1.toNatClampNeg p1)) 5 (upd ((mm_up z_15.2 4 (upd (z_15.2.1 4) z_15.1.toNatClampNeg p1)).1 5) z_15.1.toNatClampNeg ((((mm_up z_15.2 4 (upd (z_15.2.1 4) z_15.1.toNatClampNeg p1)).1 5) (z_15.1 - (1 : Int32)).toNatClampNeg) + (1 : Int32)))) 6 (upd ((mm_up (mm_up z_15.2 4 (upd (z_15.2.1 4) z_15.1.toNatClampNeg p1)) 5 (upd ((mm_up z_15.2 4 (upd (z_15.2.1 4) z_15.1.toNatClampNeg p1)).1 5) z_15.1.toNatClampNeg ((((mm_up z_15.2 4 (upd (z_15.2.1 4) z_15.1.toNatClampNeg p1)).1 5) (z_15.1 - (1 : Int32)).toNatClampNeg) + (1 : Int32)))).1 6) z_15.1.toNatClampNeg ((((mm_up (mm_up z_15.2 4 (upd (z_15.2.1 4) z_15.1.toNatClampNeg p1)) 5 (upd ((mm_up z_15.2 4 (upd (z_15.2.1 4) z_15.1.toNatClampNeg p1)).1 5) z_15.1.toNatClampNeg ((((mm_up z_15.2 4 (upd (z_15.2.1 4) z_15.1.toNatClampNeg p1)).1 5) (z_15.1 - (1 : Int32)).toNatClampNeg) + (1 : Int32)))).1 6) (z_15.1 + (1 : Int32)).toNatClampNeg) - (1 : Int32)))).1 2) p0.toNatClampNeg) + (1 : Int32))), rfl, rfl, qm_en ht hP hD⟩, hS.F ht⟩) hS.2.2 dX7_shows_198
    · rw [if_pos c_20] at h
      refine lv_iconst (v := (0 : Int32)) hx hb dX7_shows_139 (by decide) ?_
      refine lv_goto (tgt := 152) hx hb dX7_shows_140 (by decide) ?_
      refine lv_iconst (v := (1 : Int32)) hx hb dX7_shows_152 (by decide) ?_
      refine lv_iadd hx hb dX7_shows_153 ?_
      obtain ⟨g_27, h⟩ := qm_gd_some h
      refine va_iast hx hb hK hP hD hS (pre.length + 6) 0 mg_6 rfl g_27 dX7_shows_154 (fun H locs hP hD hS => ?_)
      rw [ms_6 (upd ((mm_up z_15.2 4 (upd (z_15.2.1 4) z_15.1.toNatClampNeg p1)).1 5) z_15.1.toNatClampNeg ((0 : Int32) + (1 : Int32)))] at hP hD
      refine lv_aload_n hx hb dX7_shows_155 rfl (lv_at hl 1 rfl) ?_
      refine va_get (D := D) (ci := 7) (v := .ref (am 7)) (C := RX7) (T := TX7) (N := 11) hx hb hts (by decide +kernel) hown hK hP (pre.length + 0) mg_0 rfl 6 (by decide) (hts (.fieldLink RX7 28 "QueueMiddlesModel" "highest" "[I") (by decide +kernel)) (fun _ h9 => h9) rfl dX7_shows_156 ?_
      refine lv_iload hx hb dX7_shows_159 (lv_at hl 5 rfl) ?_
      refine lv_iload hx hb dX7_shows_161 (lv_at hl 0 rfl) ?_
      refine lv_if_eq (tgt := 176) hx hb dX7_shows_163 (by decide) (fun _ => ?_) (fun c => absurd (by decide) c)
      refine lv_aload_n hx hb dX7_shows_176 rfl (lv_at hl 1 rfl) ?_
      refine va_get (D := D) (ci := 7) (v := .ref (am 7)) (C := RX7) (T := TX7) (N := 11) hx hb hts (by decide +kernel) hown hK hP (pre.length + 0) mg_0 rfl 6 (by decide) (hts (.fieldLink RX7 28 "QueueMiddlesModel" "highest" "[I") (by decide +kernel)) (fun _ h9 => h9) rfl dX7_shows_177 ?_
      refine lv_iload hx hb dX7_shows_180 (lv_at hl 5 rfl) ?_
      refine lv_iconst (v := (1 : Int32)) hx hb dX7_shows_182 (by decide) ?_
      refine lv_iadd hx hb dX7_shows_183 ?_
      obtain ⟨g_28, h⟩ := qm_gd_some h
      refine va_iald hx hb hK hP (pre.length + 7) 0 mg_7 rfl g_28 dX7_shows_184 ?_
      refine lv_iconst (v := (1 : Int32)) hx hb dX7_shows_185 (by decide) ?_
      refine lv_isub hx hb dX7_shows_186 ?_
      obtain ⟨g_29, h⟩ := qm_gd_some h
      refine va_iast hx hb hK hP hD hS (pre.length + 7) 0 mg_7 rfl g_29 dX7_shows_187 (fun H locs hP hD hS => ?_)
      rw [ms_7 (upd ((mm_up (mm_up z_15.2 4 (upd (z_15.2.1 4) z_15.1.toNatClampNeg p1)) 5 (upd ((mm_up z_15.2 4 (upd (z_15.2.1 4) z_15.1.toNatClampNeg p1)).1 5) z_15.1.toNatClampNeg ((0 : Int32) + (1 : Int32)))).1 6) z_15.1.toNatClampNeg ((((mm_up (mm_up z_15.2 4 (upd (z_15.2.1 4) z_15.1.toNatClampNeg p1)) 5 (upd ((mm_up z_15.2 4 (upd (z_15.2.1 4) z_15.1.toNatClampNeg p1)).1 5) z_15.1.toNatClampNeg ((0 : Int32) + (1 : Int32)))).1 6) (z_15.1 + (1 : Int32)).toNatClampNeg) - (1 : Int32)))] at hP hD
      refine lv_aload_n hx hb dX7_shows_188 rfl (lv_at hl 1 rfl) ?_
      refine va_get (D := D) (ci := 7) (v := .ref (am 3)) (C := RX7) (T := TX7) (N := 11) hx hb hts (by decide +kernel) hown hK hP (pre.length + 0) mg_0 rfl 2 (by decide) (hts (.fieldLink RX7 16 "QueueMiddlesModel" "marks" "[I") (by decide +kernel)) (fun _ h9 => h9) rfl dX7_shows_189 ?_
      refine lv_iload_n hx hb dX7_shows_192 rfl (lv_at hl 2 rfl) ?_
      refine lv_dup2_11 hx hb dX7_shows_193 rfl rfl ?_
      obtain ⟨g_30, h⟩ := qm_gd_some h
      refine va_iald hx hb hK hP (pre.length + 3) 0 mg_3 rfl g_30 dX7_shows_194 ?_
      refine lv_iconst (v := (1 : Int32)) hx hb dX7_shows_195 (by decide) ?_
      refine lv_iadd hx hb dX7_shows_196 ?_
      obtain ⟨g_31, h⟩ := qm_gd_some h
      refine va_iast hx hb hK hP hD hS (pre.length + 3) 0 mg_3 rfl g_31 dX7_shows_197 (fun H locs hP hD hS => ?_)
      rw [ms_3 (upd ((mm_up (mm_up (mm_up z_15.2 4 (upd (z_15.2.1 4) z_15.1.toNatClampNeg p1)) 5 (upd ((mm_up z_15.2 4 (upd (z_15.2.1 4) z_15.1.toNatClampNeg p1)).1 5) z_15.1.toNatClampNeg ((0 : Int32) + (1 : Int32)))) 6 (upd ((mm_up (mm_up z_15.2 4 (upd (z_15.2.1 4) z_15.1.toNatClampNeg p1)) 5 (upd ((mm_up z_15.2 4 (upd (z_15.2.1 4) z_15.1.toNatClampNeg p1)).1 5) z_15.1.toNatClampNeg ((0 : Int32) + (1 : Int32)))).1 6) z_15.1.toNatClampNeg ((((mm_up (mm_up z_15.2 4 (upd (z_15.2.1 4) z_15.1.toNatClampNeg p1)) 5 (upd ((mm_up z_15.2 4 (upd (z_15.2.1 4) z_15.1.toNatClampNeg p1)).1 5) z_15.1.toNatClampNeg ((0 : Int32) + (1 : Int32)))).1 6) (z_15.1 + (1 : Int32)).toNatClampNeg) - (1 : Int32)))).1 2) p0.toNatClampNeg ((((mm_up (mm_up (mm_up z_15.2 4 (upd (z_15.2.1 4) z_15.1.toNatClampNeg p1)) 5 (upd ((mm_up z_15.2 4 (upd (z_15.2.1 4) z_15.1.toNatClampNeg p1)).1 5) z_15.1.toNatClampNeg ((0 : Int32) + (1 : Int32)))) 6 (upd ((mm_up (mm_up z_15.2 4 (upd (z_15.2.1 4) z_15.1.toNatClampNeg p1)) 5 (upd ((mm_up z_15.2 4 (upd (z_15.2.1 4) z_15.1.toNatClampNeg p1)).1 5) z_15.1.toNatClampNeg ((0 : Int32) + (1 : Int32)))).1 6) z_15.1.toNatClampNeg ((((mm_up (mm_up z_15.2 4 (upd (z_15.2.1 4) z_15.1.toNatClampNeg p1)) 5 (upd ((mm_up z_15.2 4 (upd (z_15.2.1 4) z_15.1.toNatClampNeg p1)).1 5) z_15.1.toNatClampNeg ((0 : Int32) + (1 : Int32)))).1 6) (z_15.1 + (1 : Int32)).toNatClampNeg) - (1 : Int32)))).1 2) p0.toNatClampNeg) + (1 : Int32)))] at hP hD
      have h := Option.some.inj h
      subst h
      rw [hQX]
      exact W.vret hx hb hr (fun t ht hW => ⟨⟨mm_up (mm_up (mm_up (mm_up z_15.2 4 (upd (z_15.2.1 4) z_15.1.toNatClampNeg p1)) 5 (upd ((mm_up z_15.2 4 (upd (z_15.2.1 4) z_15.1.toNatClampNeg p1)).1 5) z_15.1.toNatClampNeg ((0 : Int32) + (1 : Int32)))) 6 (upd ((mm_up (mm_up z_15.2 4 (upd (z_15.2.1 4) z_15.1.toNatClampNeg p1)) 5 (upd ((mm_up z_15.2 4 (upd (z_15.2.1 4) z_15.1.toNatClampNeg p1)).1 5) z_15.1.toNatClampNeg ((0 : Int32) + (1 : Int32)))).1 6) z_15.1.toNatClampNeg ((((mm_up (mm_up z_15.2 4 (upd (z_15.2.1 4) z_15.1.toNatClampNeg p1)) 5 (upd ((mm_up z_15.2 4 (upd (z_15.2.1 4) z_15.1.toNatClampNeg p1)).1 5) z_15.1.toNatClampNeg ((0 : Int32) + (1 : Int32)))).1 6) (z_15.1 + (1 : Int32)).toNatClampNeg) - (1 : Int32)))) 2 (upd ((mm_up (mm_up (mm_up z_15.2 4 (upd (z_15.2.1 4) z_15.1.toNatClampNeg p1)) 5 (upd ((mm_up z_15.2 4 (upd (z_15.2.1 4) z_15.1.toNatClampNeg p1)).1 5) z_15.1.toNatClampNeg ((0 : Int32) + (1 : Int32)))) 6 (upd ((mm_up (mm_up z_15.2 4 (upd (z_15.2.1 4) z_15.1.toNatClampNeg p1)) 5 (upd ((mm_up z_15.2 4 (upd (z_15.2.1 4) z_15.1.toNatClampNeg p1)).1 5) z_15.1.toNatClampNeg ((0 : Int32) + (1 : Int32)))).1 6) z_15.1.toNatClampNeg ((((mm_up (mm_up z_15.2 4 (upd (z_15.2.1 4) z_15.1.toNatClampNeg p1)) 5 (upd ((mm_up z_15.2 4 (upd (z_15.2.1 4) z_15.1.toNatClampNeg p1)).1 5) z_15.1.toNatClampNeg ((0 : Int32) + (1 : Int32)))).1 6) (z_15.1 + (1 : Int32)).toNatClampNeg) - (1 : Int32)))).1 2) p0.toNatClampNeg ((((mm_up (mm_up (mm_up z_15.2 4 (upd (z_15.2.1 4) z_15.1.toNatClampNeg p1)) 5 (upd ((mm_up z_15.2 4 (upd (z_15.2.1 4) z_15.1.toNatClampNeg p1)).1 5) z_15.1.toNatClampNeg ((0 : Int32) + (1 : Int32)))) 6 (upd ((mm_up (mm_up z_15.2 4 (upd (z_15.2.1 4) z_15.1.toNatClampNeg p1)) 5 (upd ((mm_up z_15.2 4 (upd (z_15.2.1 4) z_15.1.toNatClampNeg p1)).1 5) z_15.1.toNatClampNeg ((0 : Int32) + (1 : Int32)))).1 6) z_15.1.toNatClampNeg ((((mm_up (mm_up z_15.2 4 (upd (z_15.2.1 4) z_15.1.toNatClampNeg p1)) 5 (upd ((mm_up z_15.2 4 (upd (z_15.2.1 4) z_15.1.toNatClampNeg p1)).1 5) z_15.1.toNatClampNeg ((0 : Int32) + (1 : Int32)))).1 6) (z_15.1 + (1 : Int32)).toNatClampNeg) - (1 : Int32)))).1 2) p0.toNatClampNeg) + (1 : Int32))), rfl, rfl, qm_en ht hP hD⟩, hS.F ht⟩) hS.2.2 dX7_shows_198
  · rw [if_pos c_18] at h
    refine lv_iconst (v := (1 : Int32)) hx hb dX7_shows_112 (by decide) ?_
    refine lv_goto (tgt := 117) hx hb dX7_shows_113 (by decide) ?_
    refine lv_istore (lv' := [(5, .int (1 : Int32)), (0, .ref (am 0)), (1, .int p0), (2, .int p1), (3, .int ((600 : Int32) * p0)), (4, .int z_15.1)]) hx hb dX7_shows_117 hl (by decide) rfl (fun ls hl => ?_)
    refine lv_aload_n hx hb dX7_shows_119 rfl (lv_at hl 1 rfl) ?_
    refine va_get (D := D) (ci := 7) (v := .ref (am 5)) (C := RX7) (T := TX7) (N := 11) hx hb hts (by decide +kernel) hown hK hP (pre.length + 0) mg_0 rfl 4 (by decide) (hts (.fieldLink RX7 22 "QueueMiddlesModel" "value" "[I") (by decide +kernel)) (fun _ h9 => h9) rfl dX7_shows_120 ?_
    refine lv_iload hx hb dX7_shows_123 (lv_at hl 5 rfl) ?_
    refine lv_iload_n hx hb dX7_shows_125 rfl (lv_at hl 3 rfl) ?_
    obtain ⟨g_32, h⟩ := qm_gd_some h
    refine va_iast hx hb hK hP hD hS (pre.length + 5) 0 mg_5 rfl g_32 dX7_shows_126 (fun H locs hP hD hS => ?_)
    rw [ms_5 (upd (z_15.2.1 4) z_15.1.toNatClampNeg p1)] at hP hD
    refine lv_aload_n hx hb dX7_shows_127 rfl (lv_at hl 1 rfl) ?_
    refine va_get (D := D) (ci := 7) (v := .ref (am 6)) (C := RX7) (T := TX7) (N := 11) hx hb hts (by decide +kernel) hown hK hP (pre.length + 0) mg_0 rfl 5 (by decide) (hts (.fieldLink RX7 25 "QueueMiddlesModel" "lowest" "[I") (by decide +kernel)) (fun _ h9 => h9) rfl dX7_shows_128 ?_
    refine lv_iload hx hb dX7_shows_131 (lv_at hl 5 rfl) ?_
    refine lv_iload hx hb dX7_shows_133 (lv_at hl 5 rfl) ?_
    refine lv_iload_n hx hb dX7_shows_135 rfl (lv_at hl 4 rfl) ?_
    refine lv_icmp_ne (tgt := 143) hx hb dX7_shows_136 (by decide) (fun c_33 => ?_) (fun c_33 => ?_)
    · rw [if_neg c_33] at h
      refine lv_aload_n hx hb dX7_shows_143 rfl (lv_at hl 1 rfl) ?_
      refine va_get (D := D) (ci := 7) (v := .ref (am 6)) (C := RX7) (T := TX7) (N := 11) hx hb hts (by decide +kernel) hown hK hP (pre.length + 0) mg_0 rfl 5 (by decide) (hts (.fieldLink RX7 25 "QueueMiddlesModel" "lowest" "[I") (by decide +kernel)) (fun _ h9 => h9) rfl dX7_shows_144 ?_
      refine lv_iload hx hb dX7_shows_147 (lv_at hl 5 rfl) ?_
      refine lv_iconst (v := (1 : Int32)) hx hb dX7_shows_149 (by decide) ?_
      refine lv_isub hx hb dX7_shows_150 ?_
      obtain ⟨g_34, h⟩ := qm_gd_some h
      refine va_iald hx hb hK hP (pre.length + 6) 0 mg_6 rfl g_34 dX7_shows_151 ?_
      refine lv_iconst (v := (1 : Int32)) hx hb dX7_shows_152 (by decide) ?_
      refine lv_iadd hx hb dX7_shows_153 ?_
      obtain ⟨g_35, h⟩ := qm_gd_some h
      refine va_iast hx hb hK hP hD hS (pre.length + 6) 0 mg_6 rfl g_35 dX7_shows_154 (fun H locs hP hD hS => ?_)
      rw [ms_6 (upd ((mm_up z_15.2 4 (upd (z_15.2.1 4) z_15.1.toNatClampNeg p1)).1 5) z_15.1.toNatClampNeg ((((mm_up z_15.2 4 (upd (z_15.2.1 4) z_15.1.toNatClampNeg p1)).1 5) (z_15.1 - (1 : Int32)).toNatClampNeg) + (1 : Int32)))] at hP hD
      refine lv_aload_n hx hb dX7_shows_155 rfl (lv_at hl 1 rfl) ?_
      refine va_get (D := D) (ci := 7) (v := .ref (am 7)) (C := RX7) (T := TX7) (N := 11) hx hb hts (by decide +kernel) hown hK hP (pre.length + 0) mg_0 rfl 6 (by decide) (hts (.fieldLink RX7 28 "QueueMiddlesModel" "highest" "[I") (by decide +kernel)) (fun _ h9 => h9) rfl dX7_shows_156 ?_
      refine lv_iload hx hb dX7_shows_159 (lv_at hl 5 rfl) ?_
      refine lv_iload hx hb dX7_shows_161 (lv_at hl 0 rfl) ?_
      refine lv_if_eq (tgt := 176) hx hb dX7_shows_163 (by decide) (fun c => absurd c (by decide)) (fun _ => ?_)
      refine lv_aload_n hx hb dX7_shows_166 rfl (lv_at hl 1 rfl) ?_
      refine va_get (D := D) (ci := 7) (v := .ref (am 6)) (C := RX7) (T := TX7) (N := 11) hx hb hts (by decide +kernel) hown hK hP (pre.length + 0) mg_0 rfl 5 (by decide) (hts (.fieldLink RX7 25 "QueueMiddlesModel" "lowest" "[I") (by decide +kernel)) (fun _ h9 => h9) rfl dX7_shows_167 ?_
      refine lv_iload hx hb dX7_shows_170 (lv_at hl 5 rfl) ?_
      obtain ⟨g_36, h⟩ := qm_gd_some h
      refine va_iald hx hb hK hP (pre.length + 6) 0 mg_6 rfl g_36 dX7_shows_172 ?_
      refine lv_goto (tgt := 187) hx hb dX7_shows_173 (by decide) ?_
      obtain ⟨g_37, h⟩ := qm_gd_some h
      refine va_iast hx hb hK hP hD hS (pre.length + 7) 0 mg_7 rfl g_37 dX7_shows_187 (fun H locs hP hD hS => ?_)
      rw [ms_7 (upd ((mm_up (mm_up z_15.2 4 (upd (z_15.2.1 4) z_15.1.toNatClampNeg p1)) 5 (upd ((mm_up z_15.2 4 (upd (z_15.2.1 4) z_15.1.toNatClampNeg p1)).1 5) z_15.1.toNatClampNeg ((((mm_up z_15.2 4 (upd (z_15.2.1 4) z_15.1.toNatClampNeg p1)).1 5) (z_15.1 - (1 : Int32)).toNatClampNeg) + (1 : Int32)))).1 6) z_15.1.toNatClampNeg (((mm_up (mm_up z_15.2 4 (upd (z_15.2.1 4) z_15.1.toNatClampNeg p1)) 5 (upd ((mm_up z_15.2 4 (upd (z_15.2.1 4) z_15.1.toNatClampNeg p1)).1 5) z_15.1.toNatClampNeg ((((mm_up z_15.2 4 (upd (z_15.2.1 4) z_15.1.toNatClampNeg p1)).1 5) (z_15.1 - (1 : Int32)).toNatClampNeg) + (1 : Int32)))).1 5) z_15.1.toNatClampNeg))] at hP hD
      refine lv_aload_n hx hb dX7_shows_188 rfl (lv_at hl 1 rfl) ?_
      refine va_get (D := D) (ci := 7) (v := .ref (am 3)) (C := RX7) (T := TX7) (N := 11) hx hb hts (by decide +kernel) hown hK hP (pre.length + 0) mg_0 rfl 2 (by decide) (hts (.fieldLink RX7 16 "QueueMiddlesModel" "marks" "[I") (by decide +kernel)) (fun _ h9 => h9) rfl dX7_shows_189 ?_
      refine lv_iload_n hx hb dX7_shows_192 rfl (lv_at hl 2 rfl) ?_
      refine lv_dup2_11 hx hb dX7_shows_193 rfl rfl ?_
      obtain ⟨g_38, h⟩ := qm_gd_some h
      refine va_iald hx hb hK hP (pre.length + 3) 0 mg_3 rfl g_38 dX7_shows_194 ?_
      refine lv_iconst (v := (1 : Int32)) hx hb dX7_shows_195 (by decide) ?_
      refine lv_iadd hx hb dX7_shows_196 ?_
      obtain ⟨g_39, h⟩ := qm_gd_some h
      refine va_iast hx hb hK hP hD hS (pre.length + 3) 0 mg_3 rfl g_39 dX7_shows_197 (fun H locs hP hD hS => ?_)
      rw [ms_3 (upd ((mm_up (mm_up (mm_up z_15.2 4 (upd (z_15.2.1 4) z_15.1.toNatClampNeg p1)) 5 (upd ((mm_up z_15.2 4 (upd (z_15.2.1 4) z_15.1.toNatClampNeg p1)).1 5) z_15.1.toNatClampNeg ((((mm_up z_15.2 4 (upd (z_15.2.1 4) z_15.1.toNatClampNeg p1)).1 5) (z_15.1 - (1 : Int32)).toNatClampNeg) + (1 : Int32)))) 6 (upd ((mm_up (mm_up z_15.2 4 (upd (z_15.2.1 4) z_15.1.toNatClampNeg p1)) 5 (upd ((mm_up z_15.2 4 (upd (z_15.2.1 4) z_15.1.toNatClampNeg p1)).1 5) z_15.1.toNatClampNeg ((((mm_up z_15.2 4 (upd (z_15.2.1 4) z_15.1.toNatClampNeg p1)).1 5) (z_15.1 - (1 : Int32)).toNatClampNeg) + (1 : Int32)))).1 6) z_15.1.toNatClampNeg (((mm_up (mm_up z_15.2 4 (upd (z_15.2.1 4) z_15.1.toNatClampNeg p1)) 5 (upd ((mm_up z_15.2 4 (upd (z_15.2.1 4) z_15.1.toNatClampNeg p1)).1 5) z_15.1.toNatClampNeg ((((mm_up z_15.2 4 (upd (z_15.2.1 4) z_15.1.toNatClampNeg p1)).1 5) (z_15.1 - (1 : Int32)).toNatClampNeg) + (1 : Int32)))).1 5) z_15.1.toNatClampNeg))).1 2) p0.toNatClampNeg ((((mm_up (mm_up (mm_up z_15.2 4 (upd (z_15.2.1 4) z_15.1.toNatClampNeg p1)) 5 (upd ((mm_up z_15.2 4 (upd (z_15.2.1 4) z_15.1.toNatClampNeg p1)).1 5) z_15.1.toNatClampNeg ((((mm_up z_15.2 4 (upd (z_15.2.1 4) z_15.1.toNatClampNeg p1)).1 5) (z_15.1 - (1 : Int32)).toNatClampNeg) + (1 : Int32)))) 6 (upd ((mm_up (mm_up z_15.2 4 (upd (z_15.2.1 4) z_15.1.toNatClampNeg p1)) 5 (upd ((mm_up z_15.2 4 (upd (z_15.2.1 4) z_15.1.toNatClampNeg p1)).1 5) z_15.1.toNatClampNeg ((((mm_up z_15.2 4 (upd (z_15.2.1 4) z_15.1.toNatClampNeg p1)).1 5) (z_15.1 - (1 : Int32)).toNatClampNeg) + (1 : Int32)))).1 6) z_15.1.toNatClampNeg (((mm_up (mm_up z_15.2 4 (upd (z_15.2.1 4) z_15.1.toNatClampNeg p1)) 5 (upd ((mm_up z_15.2 4 (upd (z_15.2.1 4) z_15.1.toNatClampNeg p1)).1 5) z_15.1.toNatClampNeg ((((mm_up z_15.2 4 (upd (z_15.2.1 4) z_15.1.toNatClampNeg p1)).1 5) (z_15.1 - (1 : Int32)).toNatClampNeg) + (1 : Int32)))).1 5) z_15.1.toNatClampNeg))).1 2) p0.toNatClampNeg) + (1 : Int32)))] at hP hD
      have h := Option.some.inj h
      subst h
      rw [hQX]
      exact W.vret hx hb hr (fun t ht hW => ⟨⟨mm_up (mm_up (mm_up (mm_up z_15.2 4 (upd (z_15.2.1 4) z_15.1.toNatClampNeg p1)) 5 (upd ((mm_up z_15.2 4 (upd (z_15.2.1 4) z_15.1.toNatClampNeg p1)).1 5) z_15.1.toNatClampNeg ((((mm_up z_15.2 4 (upd (z_15.2.1 4) z_15.1.toNatClampNeg p1)).1 5) (z_15.1 - (1 : Int32)).toNatClampNeg) + (1 : Int32)))) 6 (upd ((mm_up (mm_up z_15.2 4 (upd (z_15.2.1 4) z_15.1.toNatClampNeg p1)) 5 (upd ((mm_up z_15.2 4 (upd (z_15.2.1 4) z_15.1.toNatClampNeg p1)).1 5) z_15.1.toNatClampNeg ((((mm_up z_15.2 4 (upd (z_15.2.1 4) z_15.1.toNatClampNeg p1)).1 5) (z_15.1 - (1 : Int32)).toNatClampNeg) + (1 : Int32)))).1 6) z_15.1.toNatClampNeg (((mm_up (mm_up z_15.2 4 (upd (z_15.2.1 4) z_15.1.toNatClampNeg p1)) 5 (upd ((mm_up z_15.2 4 (upd (z_15.2.1 4) z_15.1.toNatClampNeg p1)).1 5) z_15.1.toNatClampNeg ((((mm_up z_15.2 4 (upd (z_15.2.1 4) z_15.1.toNatClampNeg p1)).1 5) (z_15.1 - (1 : Int32)).toNatClampNeg) + (1 : Int32)))).1 5) z_15.1.toNatClampNeg))) 2 (upd ((mm_up (mm_up (mm_up z_15.2 4 (upd (z_15.2.1 4) z_15.1.toNatClampNeg p1)) 5 (upd ((mm_up z_15.2 4 (upd (z_15.2.1 4) z_15.1.toNatClampNeg p1)).1 5) z_15.1.toNatClampNeg ((((mm_up z_15.2 4 (upd (z_15.2.1 4) z_15.1.toNatClampNeg p1)).1 5) (z_15.1 - (1 : Int32)).toNatClampNeg) + (1 : Int32)))) 6 (upd ((mm_up (mm_up z_15.2 4 (upd (z_15.2.1 4) z_15.1.toNatClampNeg p1)) 5 (upd ((mm_up z_15.2 4 (upd (z_15.2.1 4) z_15.1.toNatClampNeg p1)).1 5) z_15.1.toNatClampNeg ((((mm_up z_15.2 4 (upd (z_15.2.1 4) z_15.1.toNatClampNeg p1)).1 5) (z_15.1 - (1 : Int32)).toNatClampNeg) + (1 : Int32)))).1 6) z_15.1.toNatClampNeg (((mm_up (mm_up z_15.2 4 (upd (z_15.2.1 4) z_15.1.toNatClampNeg p1)) 5 (upd ((mm_up z_15.2 4 (upd (z_15.2.1 4) z_15.1.toNatClampNeg p1)).1 5) z_15.1.toNatClampNeg ((((mm_up z_15.2 4 (upd (z_15.2.1 4) z_15.1.toNatClampNeg p1)).1 5) (z_15.1 - (1 : Int32)).toNatClampNeg) + (1 : Int32)))).1 5) z_15.1.toNatClampNeg))).1 2) p0.toNatClampNeg ((((mm_up (mm_up (mm_up z_15.2 4 (upd (z_15.2.1 4) z_15.1.toNatClampNeg p1)) 5 (upd ((mm_up z_15.2 4 (upd (z_15.2.1 4) z_15.1.toNatClampNeg p1)).1 5) z_15.1.toNatClampNeg ((((mm_up z_15.2 4 (upd (z_15.2.1 4) z_15.1.toNatClampNeg p1)).1 5) (z_15.1 - (1 : Int32)).toNatClampNeg) + (1 : Int32)))) 6 (upd ((mm_up (mm_up z_15.2 4 (upd (z_15.2.1 4) z_15.1.toNatClampNeg p1)) 5 (upd ((mm_up z_15.2 4 (upd (z_15.2.1 4) z_15.1.toNatClampNeg p1)).1 5) z_15.1.toNatClampNeg ((((mm_up z_15.2 4 (upd (z_15.2.1 4) z_15.1.toNatClampNeg p1)).1 5) (z_15.1 - (1 : Int32)).toNatClampNeg) + (1 : Int32)))).1 6) z_15.1.toNatClampNeg (((mm_up (mm_up z_15.2 4 (upd (z_15.2.1 4) z_15.1.toNatClampNeg p1)) 5 (upd ((mm_up z_15.2 4 (upd (z_15.2.1 4) z_15.1.toNatClampNeg p1)).1 5) z_15.1.toNatClampNeg ((((mm_up z_15.2 4 (upd (z_15.2.1 4) z_15.1.toNatClampNeg p1)).1 5) (z_15.1 - (1 : Int32)).toNatClampNeg) + (1 : Int32)))).1 5) z_15.1.toNatClampNeg))).1 2) p0.toNatClampNeg) + (1 : Int32))), rfl, rfl, qm_en ht hP hD⟩, hS.F ht⟩) hS.2.2 dX7_shows_198
    · rw [if_pos c_33] at h
      refine lv_iconst (v := (0 : Int32)) hx hb dX7_shows_139 (by decide) ?_
      refine lv_goto (tgt := 152) hx hb dX7_shows_140 (by decide) ?_
      refine lv_iconst (v := (1 : Int32)) hx hb dX7_shows_152 (by decide) ?_
      refine lv_iadd hx hb dX7_shows_153 ?_
      obtain ⟨g_40, h⟩ := qm_gd_some h
      refine va_iast hx hb hK hP hD hS (pre.length + 6) 0 mg_6 rfl g_40 dX7_shows_154 (fun H locs hP hD hS => ?_)
      rw [ms_6 (upd ((mm_up z_15.2 4 (upd (z_15.2.1 4) z_15.1.toNatClampNeg p1)).1 5) z_15.1.toNatClampNeg ((0 : Int32) + (1 : Int32)))] at hP hD
      refine lv_aload_n hx hb dX7_shows_155 rfl (lv_at hl 1 rfl) ?_
      refine va_get (D := D) (ci := 7) (v := .ref (am 7)) (C := RX7) (T := TX7) (N := 11) hx hb hts (by decide +kernel) hown hK hP (pre.length + 0) mg_0 rfl 6 (by decide) (hts (.fieldLink RX7 28 "QueueMiddlesModel" "highest" "[I") (by decide +kernel)) (fun _ h9 => h9) rfl dX7_shows_156 ?_
      refine lv_iload hx hb dX7_shows_159 (lv_at hl 5 rfl) ?_
      refine lv_iload hx hb dX7_shows_161 (lv_at hl 0 rfl) ?_
      refine lv_if_eq (tgt := 176) hx hb dX7_shows_163 (by decide) (fun c => absurd c (by decide)) (fun _ => ?_)
      refine lv_aload_n hx hb dX7_shows_166 rfl (lv_at hl 1 rfl) ?_
      refine va_get (D := D) (ci := 7) (v := .ref (am 6)) (C := RX7) (T := TX7) (N := 11) hx hb hts (by decide +kernel) hown hK hP (pre.length + 0) mg_0 rfl 5 (by decide) (hts (.fieldLink RX7 25 "QueueMiddlesModel" "lowest" "[I") (by decide +kernel)) (fun _ h9 => h9) rfl dX7_shows_167 ?_
      refine lv_iload hx hb dX7_shows_170 (lv_at hl 5 rfl) ?_
      obtain ⟨g_41, h⟩ := qm_gd_some h
      refine va_iald hx hb hK hP (pre.length + 6) 0 mg_6 rfl g_41 dX7_shows_172 ?_
      refine lv_goto (tgt := 187) hx hb dX7_shows_173 (by decide) ?_
      obtain ⟨g_42, h⟩ := qm_gd_some h
      refine va_iast hx hb hK hP hD hS (pre.length + 7) 0 mg_7 rfl g_42 dX7_shows_187 (fun H locs hP hD hS => ?_)
      rw [ms_7 (upd ((mm_up (mm_up z_15.2 4 (upd (z_15.2.1 4) z_15.1.toNatClampNeg p1)) 5 (upd ((mm_up z_15.2 4 (upd (z_15.2.1 4) z_15.1.toNatClampNeg p1)).1 5) z_15.1.toNatClampNeg ((0 : Int32) + (1 : Int32)))).1 6) z_15.1.toNatClampNeg (((mm_up (mm_up z_15.2 4 (upd (z_15.2.1 4) z_15.1.toNatClampNeg p1)) 5 (upd ((mm_up z_15.2 4 (upd (z_15.2.1 4) z_15.1.toNatClampNeg p1)).1 5) z_15.1.toNatClampNeg ((0 : Int32) + (1 : Int32)))).1 5) z_15.1.toNatClampNeg))] at hP hD
      refine lv_aload_n hx hb dX7_shows_188 rfl (lv_at hl 1 rfl) ?_
      refine va_get (D := D) (ci := 7) (v := .ref (am 3)) (C := RX7) (T := TX7) (N := 11) hx hb hts (by decide +kernel) hown hK hP (pre.length + 0) mg_0 rfl 2 (by decide) (hts (.fieldLink RX7 16 "QueueMiddlesModel" "marks" "[I") (by decide +kernel)) (fun _ h9 => h9) rfl dX7_shows_189 ?_
      refine lv_iload_n hx hb dX7_shows_192 rfl (lv_at hl 2 rfl) ?_
      refine lv_dup2_11 hx hb dX7_shows_193 rfl rfl ?_
      obtain ⟨g_43, h⟩ := qm_gd_some h
      refine va_iald hx hb hK hP (pre.length + 3) 0 mg_3 rfl g_43 dX7_shows_194 ?_
      refine lv_iconst (v := (1 : Int32)) hx hb dX7_shows_195 (by decide) ?_
      refine lv_iadd hx hb dX7_shows_196 ?_
      obtain ⟨g_44, h⟩ := qm_gd_some h
      refine va_iast hx hb hK hP hD hS (pre.length + 3) 0 mg_3 rfl g_44 dX7_shows_197 (fun H locs hP hD hS => ?_)
      rw [ms_3 (upd ((mm_up (mm_up (mm_up z_15.2 4 (upd (z_15.2.1 4) z_15.1.toNatClampNeg p1)) 5 (upd ((mm_up z_15.2 4 (upd (z_15.2.1 4) z_15.1.toNatClampNeg p1)).1 5) z_15.1.toNatClampNeg ((0 : Int32) + (1 : Int32)))) 6 (upd ((mm_up (mm_up z_15.2 4 (upd (z_15.2.1 4) z_15.1.toNatClampNeg p1)) 5 (upd ((mm_up z_15.2 4 (upd (z_15.2.1 4) z_15.1.toNatClampNeg p1)).1 5) z_15.1.toNatClampNeg ((0 : Int32) + (1 : Int32)))).1 6) z_15.1.toNatClampNeg (((mm_up (mm_up z_15.2 4 (upd (z_15.2.1 4) z_15.1.toNatClampNeg p1)) 5 (upd ((mm_up z_15.2 4 (upd (z_15.2.1 4) z_15.1.toNatClampNeg p1)).1 5) z_15.1.toNatClampNeg ((0 : Int32) + (1 : Int32)))).1 5) z_15.1.toNatClampNeg))).1 2) p0.toNatClampNeg ((((mm_up (mm_up (mm_up z_15.2 4 (upd (z_15.2.1 4) z_15.1.toNatClampNeg p1)) 5 (upd ((mm_up z_15.2 4 (upd (z_15.2.1 4) z_15.1.toNatClampNeg p1)).1 5) z_15.1.toNatClampNeg ((0 : Int32) + (1 : Int32)))) 6 (upd ((mm_up (mm_up z_15.2 4 (upd (z_15.2.1 4) z_15.1.toNatClampNeg p1)) 5 (upd ((mm_up z_15.2 4 (upd (z_15.2.1 4) z_15.1.toNatClampNeg p1)).1 5) z_15.1.toNatClampNeg ((0 : Int32) + (1 : Int32)))).1 6) z_15.1.toNatClampNeg (((mm_up (mm_up z_15.2 4 (upd (z_15.2.1 4) z_15.1.toNatClampNeg p1)) 5 (upd ((mm_up z_15.2 4 (upd (z_15.2.1 4) z_15.1.toNatClampNeg p1)).1 5) z_15.1.toNatClampNeg ((0 : Int32) + (1 : Int32)))).1 5) z_15.1.toNatClampNeg))).1 2) p0.toNatClampNeg) + (1 : Int32)))] at hP hD
      have h := Option.some.inj h
      subst h
      rw [hQX]
      exact W.vret hx hb hr (fun t ht hW => ⟨⟨mm_up (mm_up (mm_up (mm_up z_15.2 4 (upd (z_15.2.1 4) z_15.1.toNatClampNeg p1)) 5 (upd ((mm_up z_15.2 4 (upd (z_15.2.1 4) z_15.1.toNatClampNeg p1)).1 5) z_15.1.toNatClampNeg ((0 : Int32) + (1 : Int32)))) 6 (upd ((mm_up (mm_up z_15.2 4 (upd (z_15.2.1 4) z_15.1.toNatClampNeg p1)) 5 (upd ((mm_up z_15.2 4 (upd (z_15.2.1 4) z_15.1.toNatClampNeg p1)).1 5) z_15.1.toNatClampNeg ((0 : Int32) + (1 : Int32)))).1 6) z_15.1.toNatClampNeg (((mm_up (mm_up z_15.2 4 (upd (z_15.2.1 4) z_15.1.toNatClampNeg p1)) 5 (upd ((mm_up z_15.2 4 (upd (z_15.2.1 4) z_15.1.toNatClampNeg p1)).1 5) z_15.1.toNatClampNeg ((0 : Int32) + (1 : Int32)))).1 5) z_15.1.toNatClampNeg))) 2 (upd ((mm_up (mm_up (mm_up z_15.2 4 (upd (z_15.2.1 4) z_15.1.toNatClampNeg p1)) 5 (upd ((mm_up z_15.2 4 (upd (z_15.2.1 4) z_15.1.toNatClampNeg p1)).1 5) z_15.1.toNatClampNeg ((0 : Int32) + (1 : Int32)))) 6 (upd ((mm_up (mm_up z_15.2 4 (upd (z_15.2.1 4) z_15.1.toNatClampNeg p1)) 5 (upd ((mm_up z_15.2 4 (upd (z_15.2.1 4) z_15.1.toNatClampNeg p1)).1 5) z_15.1.toNatClampNeg ((0 : Int32) + (1 : Int32)))).1 6) z_15.1.toNatClampNeg (((mm_up (mm_up z_15.2 4 (upd (z_15.2.1 4) z_15.1.toNatClampNeg p1)) 5 (upd ((mm_up z_15.2 4 (upd (z_15.2.1 4) z_15.1.toNatClampNeg p1)).1 5) z_15.1.toNatClampNeg ((0 : Int32) + (1 : Int32)))).1 5) z_15.1.toNatClampNeg))).1 2) p0.toNatClampNeg ((((mm_up (mm_up (mm_up z_15.2 4 (upd (z_15.2.1 4) z_15.1.toNatClampNeg p1)) 5 (upd ((mm_up z_15.2 4 (upd (z_15.2.1 4) z_15.1.toNatClampNeg p1)).1 5) z_15.1.toNatClampNeg ((0 : Int32) + (1 : Int32)))) 6 (upd ((mm_up (mm_up z_15.2 4 (upd (z_15.2.1 4) z_15.1.toNatClampNeg p1)) 5 (upd ((mm_up z_15.2 4 (upd (z_15.2.1 4) z_15.1.toNatClampNeg p1)).1 5) z_15.1.toNatClampNeg ((0 : Int32) + (1 : Int32)))).1 6) z_15.1.toNatClampNeg (((mm_up (mm_up z_15.2 4 (upd (z_15.2.1 4) z_15.1.toNatClampNeg p1)) 5 (upd ((mm_up z_15.2 4 (upd (z_15.2.1 4) z_15.1.toNatClampNeg p1)).1 5) z_15.1.toNatClampNeg ((0 : Int32) + (1 : Int32)))).1 5) z_15.1.toNatClampNeg))).1 2) p0.toNatClampNeg) + (1 : Int32))), rfl, rfl, qm_en ht hP hD⟩, hS.F ht⟩) hS.2.2 dX7_shows_198
noncomputable def fX7_show (S : mm_M) (p0 : Int32) (p1 : Int32) : Option (Int32 × mm_M) :=
  (if mo_in p0 0 3 then (if mo_in p1 (-9999 : Int32) (9999 : Int32) then qm_gd (vp_in p0 4) ((if ((S.1 1) p0.toNatClampNeg) = (600 : Int32) then some ((0 : Int32), mm_th S (3 : Int32)) else Option.bind (fX7_shows (mm_th S (0 : Int32)) p0 p1) (fun z_6 => qm_gd (vp_in p0 4) (some ((z_6.1 2) p0.toNatClampNeg, z_6))))) else some ((0 : Int32), mm_th S (2 : Int32))) else some ((0 : Int32), mm_th S (1 : Int32)))
set_option maxHeartbeats 4000000 in
set_option maxRecDepth 100000 in
theorem kX7_show (l : Launch) (D : va_G) (A : Nat → Prop) (pre : va_W) (am : Nat → Nat) (cI : ClassId) (S : mm_M) (p0 : Int32) (p1 : Int32) (z : Int32 × mm_M) (h : fX7_show S p0 p1 = some z) : Met l yX7_show wsX7_show ({ frames := 2, cells := 0, slots := 0, locals := 48 }) (va_Pc [.ref (am 0), .int p0, .int p1] (qm_B D A (mm_T cI) (mm_W pre am cI S))) (qm_Qi D A (mm_W pre am cI) z) 0 0 A := by
  refine Met.ofW (cc := cX7_show) (maxL := 3) (ret := (some .int)) (by decide) rfl ?_
  intro p e s m args below meth c s₁ B hml hv
  obtain ⟨rfl, hA, hP, hK, hD⟩ := hv
  have hx := B.exec
  have hb := B.bytes
  have hr := B.returns
  have hts := atoms_spec (ws := wsX7_show) B.pre
  have hown : s.vm.findClass RX7 = some m.cls := findClass_of_methodNamed B.named
  have hlocks := B.notSynchronized
  have hS : va_S A s.heap s.heap [] := va_S.rf
  have hl := lv_entry ([.ref (am 0), .int p0, .int p1]) (n := 3) (Nat.le_of_ble_eq_true rfl)
  rw [lg_entry_eq]
  generalize (lg_sl ([.ref (am 0), .int p0, .int p1]) ++ List.replicate (3 - (lg_sl ([.ref (am 0), .int p0, .int p1])).length) Slot.unset).toArray = ls at hl ⊢
  have hl : lv_has ls 3 [(0, .ref (am 0)), (1, .int p0), (2, .int p1)] := hl
  rw [fX7_show] at h
  refine lv_aload_n hx hb dX7_show_0 rfl (lv_at hl 0 rfl) ?_
  refine lv_iload_n hx hb dX7_show_1 rfl (lv_at hl 1 rfl) ?_
  refine va_calli (va_runS (As := [.int p0]) (rest := [.ref (am 0)]) ⟨hx, hb, hml, hown, hts⟩ (nX7_isCounter l D A pre am cI S p0) (va_cwS 1 hts gX7_show_X7_isCounter rfl rfl rfl (by decide +kernel) ⟨Nat.le_of_ble_eq_true rfl, Nat.le_of_ble_eq_true rfl⟩) ⟨qm_blind, fun U hU hW => ⟨rfl, qm_go hA hS hP hK hD hU hW⟩⟩ rfl rfl hl.1 rfl (lv_room (Nat.le_of_ble_eq_true rfl)) dX7_show_2 ⟨Nat.le_of_ble_eq_true rfl, Nat.le_of_ble_eq_true rfl⟩) hS (fun _ _ h9 => h9) (fun _ h9 => h9) (fun v u t H1 locs1 ht hvm hw hB hz1 hk1 hS => ?_)
  obtain ⟨hw1, hw2⟩ := hw
  have hw1 : (if mo_in p0 0 3 then 1 else 0) = v := hw1.symm
  have hw2 : S = u := hw2.symm
  subst hw1
  subst hw2
  obtain ⟨hP, hD⟩ := qm_bk ht hB
  by_cases c_1 : mo_in p0 0 3
  · rw [if_pos c_1] at h ⊢
    refine lv_if_ne (tgt := 12) hx hb dX7_show_5 (by decide) (fun _ => ?_) (fun c => absurd c (by decide))
    refine lv_iload_n hx hb dX7_show_12 rfl (lv_at hl 2 rfl) ?_
    refine lv_sipush (v := (-9999 : Int32)) hx hb dX7_show_13 (by decide) ?_
    refine lv_sipush (v := (9999 : Int32)) hx hb dX7_show_16 (by decide) ?_
    refine va_calli (va_runS (As := [.int p1, .int (-9999 : Int32), .int (9999 : Int32)]) (rest := [.ref (am 0)]) ⟨hx, hb, hml, hown, hts⟩ (nX7_in l D A pre am cI S p1 (-9999 : Int32) (9999 : Int32)) (va_cwS 3 hts gX7_show_X7_in rfl rfl rfl (by decide +kernel) ⟨Nat.le_of_ble_eq_true rfl, Nat.le_of_ble_eq_true rfl⟩) ⟨qm_blind, fun U hU hW => ⟨rfl, qm_go hA hS hP hK hD hU hW⟩⟩ rfl rfl hl.1 rfl (lv_room (Nat.le_of_ble_eq_true rfl)) dX7_show_19 ⟨Nat.le_of_ble_eq_true rfl, Nat.le_of_ble_eq_true rfl⟩) hS (fun _ _ h9 => h9) (fun _ h9 => h9) (fun v u t H1 locs1 ht hvm hw hB hz1 hk1 hS => ?_)
    obtain ⟨hw1, hw2⟩ := hw
    have hw1 : (if mo_in p1 (-9999 : Int32) (9999 : Int32) then 1 else 0) = v := hw1.symm
    have hw2 : S = u := hw2.symm
    subst hw1
    subst hw2
    obtain ⟨hP, hD⟩ := qm_bk ht hB
    by_cases c_2 : mo_in p1 (-9999 : Int32) (9999 : Int32)
    · rw [if_pos c_2] at h ⊢
      refine lv_if_ne (tgt := 29) hx hb dX7_show_22 (by decide) (fun _ => ?_) (fun c => absurd c (by decide))
      refine lv_aload_n hx hb dX7_show_29 rfl (lv_at hl 0 rfl) ?_
      refine va_get (D := D) (ci := 7) (v := .ref (am 2)) (C := RX7) (T := TX7) (N := 11) hx hb hts (by decide +kernel) hown hK hP (pre.length + 0) mg_0 rfl 1 (by decide) (hts (.fieldLink RX7 13 "QueueMiddlesModel" "count" "[I") (by decide +kernel)) (fun _ h9 => h9) rfl dX7_show_30 ?_
      refine lv_iload_n hx hb dX7_show_33 rfl (lv_at hl 1 rfl) ?_
      obtain ⟨g_3, h⟩ := qm_gd_some h
      refine va_iald hx hb hK hP (pre.length + 2) 0 mg_2 rfl g_3 dX7_show_34 ?_
      refine lv_sipush (v := (600 : Int32)) hx hb dX7_show_35 (by decide) ?_
      refine lv_icmp_ne (tgt := 45) hx hb dX7_show_38 (by decide) (fun c_4 => ?_) (fun c_4 => ?_)
      · rw [if_neg c_4] at h
        refine lv_iconst (v := (0 : Int32)) hx hb dX7_show_45 (by decide) ?_
        refine va_calli (va_runV (As := [.int (0 : Int32)]) (rest := []) ⟨hx, hb, hml, hown, hts⟩ (nX7_isFine l D A pre am cI S (0 : Int32)) (cwV 1 hts gX7_show_X7_isFine rfl rfl rfl (by decide +kernel) ⟨Nat.le_of_ble_eq_true rfl, Nat.le_of_ble_eq_true rfl⟩) ⟨qm_blind, va_recv hK hP (ci := 7) (q0 := (pre.length + 0)) rfl mg_0, fun U hU hW => ⟨rfl, qm_go hA hS hP hK hD hU hW⟩⟩ rfl rfl hl.1 rfl (lv_room (Nat.le_of_ble_eq_true rfl)) dX7_show_46 ⟨Nat.le_of_ble_eq_true rfl, Nat.le_of_ble_eq_true rfl⟩) hS (fun _ _ h9 => h9) (fun _ h9 => h9) (fun v u t H1 locs1 ht hvm hw hB hz1 hk1 hS => ?_)
        obtain ⟨hw1, hw2⟩ := hw
        have hw1 : (if (0 : Int32) = 0 then 1 else 0) = v := hw1.symm
        have hw2 : mm_th S (0 : Int32) = u := hw2.symm
        subst hw1
        subst hw2
        obtain ⟨hP, hD⟩ := qm_bk ht hB
        rw [if_pos (show (0 : Int32) = 0 by decide)]
        refine lv_if_ne (tgt := 54) hx hb dX7_show_49 (by decide) (fun _ => ?_) (fun c => absurd c (by decide))
        refine lv_aload_n hx hb dX7_show_54 rfl (lv_at hl 0 rfl) ?_
        refine lv_iload_n hx hb dX7_show_55 rfl (lv_at hl 1 rfl) ?_
        refine lv_iload_n hx hb dX7_show_56 rfl (lv_at hl 2 rfl) ?_
        obtain ⟨z_6, hz_7, h⟩ := qm_bind h
        refine va_callv (va_runV (As := [.int p0, .int p1]) (rest := []) ⟨hx, hb, hml, hown, hts⟩ (kX7_shows l D A pre am cI (mm_th S (0 : Int32)) p0 p1 z_6 hz_7) (cwV 2 hts gX7_show_X7_shows rfl rfl rfl (by decide +kernel) ⟨Nat.le_of_ble_eq_true rfl, Nat.le_of_ble_eq_true rfl⟩) ⟨qm_blind, va_recv hK hP (ci := 7) (q0 := (pre.length + 0)) rfl mg_0, fun U hU hW => ⟨rfl, qm_go hA hS hP hK hD hU hW⟩⟩ rfl rfl hl.1 rfl (lv_room (Nat.le_of_ble_eq_true rfl)) dX7_show_57 ⟨Nat.le_of_ble_eq_true rfl, Nat.le_of_ble_eq_true rfl⟩) hS (fun _ _ h9 => h9) (fun _ h9 => h9) (fun u t H1 locs1 ht hvm hw hB hz1 hk1 hS => ?_)
        have hw : z_6 = u := hw.symm
        subst hw
        obtain ⟨hP, hD⟩ := qm_bk ht hB
        refine lv_aload_n hx hb dX7_show_60 rfl (lv_at hl 0 rfl) ?_
        refine va_get (D := D) (ci := 7) (v := .ref (am 3)) (C := RX7) (T := TX7) (N := 11) hx hb hts (by decide +kernel) hown hK hP (pre.length + 0) mg_0 rfl 2 (by decide) (hts (.fieldLink RX7 16 "QueueMiddlesModel" "marks" "[I") (by decide +kernel)) (fun _ h9 => h9) rfl dX7_show_61 ?_
        refine lv_iload_n hx hb dX7_show_64 rfl (lv_at hl 1 rfl) ?_
        obtain ⟨g_8, h⟩ := qm_gd_some h
        refine va_iald hx hb hK hP (pre.length + 3) 0 mg_3 rfl g_8 dX7_show_65 ?_
        have h := Option.some.inj h
        subst h
        exact W.iret (v := (z_6.1 2) p0.toNatClampNeg) hx hb hr (fun t ht hW => ⟨⟨(z_6.1 2) p0.toNatClampNeg, z_6, rfl, ⟨rfl, rfl⟩, qm_en ht hP hD⟩, hS.F ht⟩) hS.2.2 dX7_show_66
      · rw [if_pos c_4] at h
        refine lv_iconst (v := (3 : Int32)) hx hb dX7_show_41 (by decide) ?_
        refine lv_goto (tgt := 46) hx hb dX7_show_42 (by decide) ?_
        refine va_calli (va_runV (As := [.int (3 : Int32)]) (rest := []) ⟨hx, hb, hml, hown, hts⟩ (nX7_isFine l D A pre am cI S (3 : Int32)) (cwV 1 hts gX7_show_X7_isFine rfl rfl rfl (by decide +kernel) ⟨Nat.le_of_ble_eq_true rfl, Nat.le_of_ble_eq_true rfl⟩) ⟨qm_blind, va_recv hK hP (ci := 7) (q0 := (pre.length + 0)) rfl mg_0, fun U hU hW => ⟨rfl, qm_go hA hS hP hK hD hU hW⟩⟩ rfl rfl hl.1 rfl (lv_room (Nat.le_of_ble_eq_true rfl)) dX7_show_46 ⟨Nat.le_of_ble_eq_true rfl, Nat.le_of_ble_eq_true rfl⟩) hS (fun _ _ h9 => h9) (fun _ h9 => h9) (fun v u t H1 locs1 ht hvm hw hB hz1 hk1 hS => ?_)
        obtain ⟨hw1, hw2⟩ := hw
        have hw1 : (if (3 : Int32) = 0 then 1 else 0) = v := hw1.symm
        have hw2 : mm_th S (3 : Int32) = u := hw2.symm
        subst hw1
        subst hw2
        obtain ⟨hP, hD⟩ := qm_bk ht hB
        rw [if_neg (show ¬ (3 : Int32) = 0 by decide)]
        refine lv_if_ne (tgt := 54) hx hb dX7_show_49 (by decide) (fun c => absurd (by decide) c) (fun _ => ?_)
        refine lv_iconst (v := (0 : Int32)) hx hb dX7_show_52 (by decide) ?_
        have h := Option.some.inj h
        subst h
        exact W.iret (v := (0 : Int32)) hx hb hr (fun t ht hW => ⟨⟨(0 : Int32), mm_th S (3 : Int32), rfl, ⟨rfl, rfl⟩, qm_en ht hP hD⟩, hS.F ht⟩) hS.2.2 dX7_show_53
    · rw [if_neg c_2] at h ⊢
      refine lv_if_ne (tgt := 29) hx hb dX7_show_22 (by decide) (fun c => absurd (by decide) c) (fun _ => ?_)
      refine lv_iconst (v := (2 : Int32)) hx hb dX7_show_25 (by decide) ?_
      refine lv_goto (tgt := 46) hx hb dX7_show_26 (by decide) ?_
      refine va_calli (va_runV (As := [.int (2 : Int32)]) (rest := []) ⟨hx, hb, hml, hown, hts⟩ (nX7_isFine l D A pre am cI S (2 : Int32)) (cwV 1 hts gX7_show_X7_isFine rfl rfl rfl (by decide +kernel) ⟨Nat.le_of_ble_eq_true rfl, Nat.le_of_ble_eq_true rfl⟩) ⟨qm_blind, va_recv hK hP (ci := 7) (q0 := (pre.length + 0)) rfl mg_0, fun U hU hW => ⟨rfl, qm_go hA hS hP hK hD hU hW⟩⟩ rfl rfl hl.1 rfl (lv_room (Nat.le_of_ble_eq_true rfl)) dX7_show_46 ⟨Nat.le_of_ble_eq_true rfl, Nat.le_of_ble_eq_true rfl⟩) hS (fun _ _ h9 => h9) (fun _ h9 => h9) (fun v u t H1 locs1 ht hvm hw hB hz1 hk1 hS => ?_)
      obtain ⟨hw1, hw2⟩ := hw
      have hw1 : (if (2 : Int32) = 0 then 1 else 0) = v := hw1.symm
      have hw2 : mm_th S (2 : Int32) = u := hw2.symm
      subst hw1
      subst hw2
      obtain ⟨hP, hD⟩ := qm_bk ht hB
      rw [if_neg (show ¬ (2 : Int32) = 0 by decide)]
      refine lv_if_ne (tgt := 54) hx hb dX7_show_49 (by decide) (fun c => absurd (by decide) c) (fun _ => ?_)
      refine lv_iconst (v := (0 : Int32)) hx hb dX7_show_52 (by decide) ?_
      have h := Option.some.inj h
      subst h
      exact W.iret (v := (0 : Int32)) hx hb hr (fun t ht hW => ⟨⟨(0 : Int32), mm_th S (2 : Int32), rfl, ⟨rfl, rfl⟩, qm_en ht hP hD⟩, hS.F ht⟩) hS.2.2 dX7_show_53
  · rw [if_neg c_1] at h ⊢
    refine lv_if_ne (tgt := 12) hx hb dX7_show_5 (by decide) (fun c => absurd (by decide) c) (fun _ => ?_)
    refine lv_iconst (v := (1 : Int32)) hx hb dX7_show_8 (by decide) ?_
    refine lv_goto (tgt := 46) hx hb dX7_show_9 (by decide) ?_
    refine va_calli (va_runV (As := [.int (1 : Int32)]) (rest := []) ⟨hx, hb, hml, hown, hts⟩ (nX7_isFine l D A pre am cI S (1 : Int32)) (cwV 1 hts gX7_show_X7_isFine rfl rfl rfl (by decide +kernel) ⟨Nat.le_of_ble_eq_true rfl, Nat.le_of_ble_eq_true rfl⟩) ⟨qm_blind, va_recv hK hP (ci := 7) (q0 := (pre.length + 0)) rfl mg_0, fun U hU hW => ⟨rfl, qm_go hA hS hP hK hD hU hW⟩⟩ rfl rfl hl.1 rfl (lv_room (Nat.le_of_ble_eq_true rfl)) dX7_show_46 ⟨Nat.le_of_ble_eq_true rfl, Nat.le_of_ble_eq_true rfl⟩) hS (fun _ _ h9 => h9) (fun _ h9 => h9) (fun v u t H1 locs1 ht hvm hw hB hz1 hk1 hS => ?_)
    obtain ⟨hw1, hw2⟩ := hw
    have hw1 : (if (1 : Int32) = 0 then 1 else 0) = v := hw1.symm
    have hw2 : mm_th S (1 : Int32) = u := hw2.symm
    subst hw1
    subst hw2
    obtain ⟨hP, hD⟩ := qm_bk ht hB
    rw [if_neg (show ¬ (1 : Int32) = 0 by decide)]
    refine lv_if_ne (tgt := 54) hx hb dX7_show_49 (by decide) (fun c => absurd (by decide) c) (fun _ => ?_)
    refine lv_iconst (v := (0 : Int32)) hx hb dX7_show_52 (by decide) ?_
    have h := Option.some.inj h
    subst h
    exact W.iret (v := (0 : Int32)) hx hb hr (fun t ht hW => ⟨⟨(0 : Int32), mm_th S (1 : Int32), rfl, ⟨rfl, rfl⟩, qm_en ht hP hD⟩, hS.F ht⟩) hS.2.2 dX7_show_53
noncomputable def fX7_showRow_L97 (x1 : Int32) (x3 : Int32) (x4 : Int32) : Nat → Int32 → Int32 → mm_M → Option (mm_M)
  | 0, _, _, _ => none
  | fuel + 1, v6, v7, S =>
    (if x4 ≤ v7 then some S else Option.bind (fX7_shows S x1 v6) (fun z_9 => (if (v6 + x3) ≤ (9999 : Int32) then fX7_showRow_L97 x1 x3 x4 fuel ((v6 + x3) - (0 : Int32)) (v7 + (1 : Int32)) z_9 else fX7_showRow_L97 x1 x3 x4 fuel ((v6 + x3) - (20000 : Int32)) (v7 + (1 : Int32)) z_9)))
noncomputable def fX7_showRow (S : mm_M) (p0 : Int32) (p1 : Int32) (p2 : Int32) (p3 : Int32) : Option (Int32 × mm_M) :=
  (if mo_in p1 (-9999 : Int32) (9999 : Int32) then (if mo_in p2 (0 : Int32) (9999 : Int32) then (if mo_in p3 (1 : Int32) (100 : Int32) then (if mo_in p0 0 3 then qm_gd (vp_in p0 4) ((if (((S.1 1) p0.toNatClampNeg) + p3) ≤ (600 : Int32) then Option.bind (fX7_showRow_L97 p0 p2 p3 qm_F p1 (0 : Int32) (mm_th S (0 : Int32))) (fun z_14 => qm_gd (vp_in p0 4) (some ((z_14.1 2) p0.toNatClampNeg, z_14))) else some ((0 : Int32), mm_th S (3 : Int32)))) else some ((0 : Int32), mm_th S (1 : Int32))) else (if mo_in p0 0 3 then some ((0 : Int32), mm_th S (2 : Int32)) else some ((0 : Int32), mm_th S (1 : Int32)))) else (if mo_in p0 0 3 then some ((0 : Int32), mm_th S (2 : Int32)) else some ((0 : Int32), mm_th S (1 : Int32)))) else (if mo_in p0 0 3 then some ((0 : Int32), mm_th S (2 : Int32)) else some ((0 : Int32), mm_th S (1 : Int32))))
set_option maxHeartbeats 4000000 in
set_option maxRecDepth 100000 in
theorem kX7_showRow (l : Launch) (D : va_G) (A : Nat → Prop) (pre : va_W) (am : Nat → Nat) (cI : ClassId) (S : mm_M) (p0 : Int32) (p1 : Int32) (p2 : Int32) (p3 : Int32) (z : Int32 × mm_M) (h : fX7_showRow S p0 p1 p2 p3 = some z) : Met l yX7_showRow wsX7_showRow ({ frames := 2, cells := 0, slots := 0, locals := 48 }) (va_Pc [.ref (am 0), .int p0, .int p1, .int p2, .int p3] (qm_B D A (mm_T cI) (mm_W pre am cI S))) (qm_Qi D A (mm_W pre am cI) z) 0 0 A := by
  refine Met.ofW (cc := cX7_showRow) (maxL := 8) (ret := (some .int)) (by decide) rfl ?_
  intro p e s m args below meth c s₁ B hml hv
  obtain ⟨rfl, hA, hP, hK, hD⟩ := hv
  have hx := B.exec
  have hb := B.bytes
  have hr := B.returns
  have hts := atoms_spec (ws := wsX7_showRow) B.pre
  have hown : s.vm.findClass RX7 = some m.cls := findClass_of_methodNamed B.named
  have hlocks := B.notSynchronized
  have hS : va_S A s.heap s.heap [] := va_S.rf
  have hl := lv_entry ([.ref (am 0), .int p0, .int p1, .int p2, .int p3]) (n := 8) (Nat.le_of_ble_eq_true rfl)
  rw [lg_entry_eq]
  generalize (lg_sl ([.ref (am 0), .int p0, .int p1, .int p2, .int p3]) ++ List.replicate (8 - (lg_sl ([.ref (am 0), .int p0, .int p1, .int p2, .int p3])).length) Slot.unset).toArray = ls at hl ⊢
  have hl : lv_has ls 8 [(0, .ref (am 0)), (1, .int p0), (2, .int p1), (3, .int p2), (4, .int p3)] := hl
  obtain ⟨QX, hQX⟩ : ∃ q, q = MQ below (qm_Qi D A (mm_W pre am cI) z) ([.ref (am 0), .int p0, .int p1, .int p2, .int p3] : List Value).toArray s 0 0 A := ⟨_, rfl⟩
  rw [← hQX]
  rw [fX7_showRow] at h
  refine lv_iload_n hx hb dX7_showRow_0 rfl (lv_at hl 2 rfl) ?_
  refine lv_sipush (v := (-9999 : Int32)) hx hb dX7_showRow_1 (by decide) ?_
  refine lv_sipush (v := (9999 : Int32)) hx hb dX7_showRow_4 (by decide) ?_
  refine va_calli (va_runS (As := [.int p1, .int (-9999 : Int32), .int (9999 : Int32)]) (rest := []) ⟨hx, hb, hml, hown, hts⟩ (nX7_in l D A pre am cI S p1 (-9999 : Int32) (9999 : Int32)) (va_cwS 3 hts gX7_showRow_X7_in rfl rfl rfl (by decide +kernel) ⟨Nat.le_of_ble_eq_true rfl, Nat.le_of_ble_eq_true rfl⟩) ⟨qm_blind, fun U hU hW => ⟨rfl, qm_go hA hS hP hK hD hU hW⟩⟩ rfl rfl hl.1 rfl (lv_room (Nat.le_of_ble_eq_true rfl)) dX7_showRow_7 ⟨Nat.le_of_ble_eq_true rfl, Nat.le_of_ble_eq_true rfl⟩) hS (fun _ _ h9 => h9) (fun _ h9 => h9) (fun v u t H1 locs1 ht hvm hw hB hz1 hk1 hS => ?_)
  obtain ⟨hw1, hw2⟩ := hw
  have hw1 : (if mo_in p1 (-9999 : Int32) (9999 : Int32) then 1 else 0) = v := hw1.symm
  have hw2 : S = u := hw2.symm
  subst hw1
  subst hw2
  obtain ⟨hP, hD⟩ := qm_bk ht hB
  by_cases c_1 : mo_in p1 (-9999 : Int32) (9999 : Int32)
  · rw [if_pos c_1] at h ⊢
    refine lv_if_eq (tgt := 39) hx hb dX7_showRow_10 (by decide) (fun c => absurd c (by decide)) (fun _ => ?_)
    refine lv_iload_n hx hb dX7_showRow_13 rfl (lv_at hl 3 rfl) ?_
    refine lv_iconst (v := (0 : Int32)) hx hb dX7_showRow_14 (by decide) ?_
    refine lv_sipush (v := (9999 : Int32)) hx hb dX7_showRow_15 (by decide) ?_
    refine va_calli (va_runS (As := [.int p2, .int (0 : Int32), .int (9999 : Int32)]) (rest := []) ⟨hx, hb, hml, hown, hts⟩ (nX7_in l D A pre am cI S p2 (0 : Int32) (9999 : Int32)) (va_cwS 3 hts gX7_showRow_X7_in rfl rfl rfl (by decide +kernel) ⟨Nat.le_of_ble_eq_true rfl, Nat.le_of_ble_eq_true rfl⟩) ⟨qm_blind, fun U hU hW => ⟨rfl, qm_go hA hS hP hK hD hU hW⟩⟩ rfl rfl hl.1 rfl (lv_room (Nat.le_of_ble_eq_true rfl)) dX7_showRow_18 ⟨Nat.le_of_ble_eq_true rfl, Nat.le_of_ble_eq_true rfl⟩) hS (fun _ _ h9 => h9) (fun _ h9 => h9) (fun v u t H1 locs1 ht hvm hw hB hz1 hk1 hS => ?_)
    obtain ⟨hw1, hw2⟩ := hw
    have hw1 : (if mo_in p2 (0 : Int32) (9999 : Int32) then 1 else 0) = v := hw1.symm
    have hw2 : S = u := hw2.symm
    subst hw1
    subst hw2
    obtain ⟨hP, hD⟩ := qm_bk ht hB
    by_cases c_2 : mo_in p2 (0 : Int32) (9999 : Int32)
    · rw [if_pos c_2] at h ⊢
      refine lv_if_eq (tgt := 39) hx hb dX7_showRow_21 (by decide) (fun c => absurd c (by decide)) (fun _ => ?_)
      refine lv_iload hx hb dX7_showRow_24 (lv_at hl 4 rfl) ?_
      refine lv_iconst (v := (1 : Int32)) hx hb dX7_showRow_26 (by decide) ?_
      refine lv_bipush (v := (100 : Int32)) hx hb dX7_showRow_27 (by decide) ?_
      refine va_calli (va_runS (As := [.int p3, .int (1 : Int32), .int (100 : Int32)]) (rest := []) ⟨hx, hb, hml, hown, hts⟩ (nX7_in l D A pre am cI S p3 (1 : Int32) (100 : Int32)) (va_cwS 3 hts gX7_showRow_X7_in rfl rfl rfl (by decide +kernel) ⟨Nat.le_of_ble_eq_true rfl, Nat.le_of_ble_eq_true rfl⟩) ⟨qm_blind, fun U hU hW => ⟨rfl, qm_go hA hS hP hK hD hU hW⟩⟩ rfl rfl hl.1 rfl (lv_room (Nat.le_of_ble_eq_true rfl)) dX7_showRow_29 ⟨Nat.le_of_ble_eq_true rfl, Nat.le_of_ble_eq_true rfl⟩) hS (fun _ _ h9 => h9) (fun _ h9 => h9) (fun v u t H1 locs1 ht hvm hw hB hz1 hk1 hS => ?_)
      obtain ⟨hw1, hw2⟩ := hw
      have hw1 : (if mo_in p3 (1 : Int32) (100 : Int32) then 1 else 0) = v := hw1.symm
      have hw2 : S = u := hw2.symm
      subst hw1
      subst hw2
      obtain ⟨hP, hD⟩ := qm_bk ht hB
      by_cases c_3 : mo_in p3 (1 : Int32) (100 : Int32)
      · rw [if_pos c_3] at h ⊢
        refine lv_if_eq (tgt := 39) hx hb dX7_showRow_32 (by decide) (fun c => absurd c (by decide)) (fun _ => ?_)
        refine lv_iconst (v := (1 : Int32)) hx hb dX7_showRow_35 (by decide) ?_
        refine lv_goto (tgt := 40) hx hb dX7_showRow_36 (by decide) ?_
        refine lv_istore (lv' := [(5, .int (1 : Int32)), (0, .ref (am 0)), (1, .int p0), (2, .int p1), (3, .int p2), (4, .int p3)]) hx hb dX7_showRow_40 hl (by decide) rfl (fun ls hl => ?_)
        refine lv_aload_n hx hb dX7_showRow_42 rfl (lv_at hl 1 rfl) ?_
        refine lv_iload_n hx hb dX7_showRow_43 rfl (lv_at hl 2 rfl) ?_
        refine va_calli (va_runS (As := [.int p0]) (rest := [.ref (am 0)]) ⟨hx, hb, hml, hown, hts⟩ (nX7_isCounter l D A pre am cI S p0) (va_cwS 1 hts gX7_showRow_X7_isCounter rfl rfl rfl (by decide +kernel) ⟨Nat.le_of_ble_eq_true rfl, Nat.le_of_ble_eq_true rfl⟩) ⟨qm_blind, fun U hU hW => ⟨rfl, qm_go hA hS hP hK hD hU hW⟩⟩ rfl rfl hl.1 rfl (lv_room (Nat.le_of_ble_eq_true rfl)) dX7_showRow_44 ⟨Nat.le_of_ble_eq_true rfl, Nat.le_of_ble_eq_true rfl⟩) hS (fun _ _ h9 => h9) (fun _ h9 => h9) (fun v u t H1 locs1 ht hvm hw hB hz1 hk1 hS => ?_)
        obtain ⟨hw1, hw2⟩ := hw
        have hw1 : (if mo_in p0 0 3 then 1 else 0) = v := hw1.symm
        have hw2 : S = u := hw2.symm
        subst hw1
        subst hw2
        obtain ⟨hP, hD⟩ := qm_bk ht hB
        by_cases c_4 : mo_in p0 0 3
        · rw [if_pos c_4] at h ⊢
          refine lv_if_ne (tgt := 54) hx hb dX7_showRow_47 (by decide) (fun _ => ?_) (fun c => absurd c (by decide))
          refine lv_iload hx hb dX7_showRow_54 (lv_at hl 0 rfl) ?_
          refine lv_if_ne (tgt := 63) hx hb dX7_showRow_56 (by decide) (fun _ => ?_) (fun c => absurd c (by decide))
          refine lv_aload_n hx hb dX7_showRow_63 rfl (lv_at hl 1 rfl) ?_
          refine va_get (D := D) (ci := 7) (v := .ref (am 2)) (C := RX7) (T := TX7) (N := 11) hx hb hts (by decide +kernel) hown hK hP (pre.length + 0) mg_0 rfl 1 (by decide) (hts (.fieldLink RX7 13 "QueueMiddlesModel" "count" "[I") (by decide +kernel)) (fun _ h9 => h9) rfl dX7_showRow_64 ?_
          refine lv_iload_n hx hb dX7_showRow_67 rfl (lv_at hl 2 rfl) ?_
          obtain ⟨g_5, h⟩ := qm_gd_some h
          refine va_iald hx hb hK hP (pre.length + 2) 0 mg_2 rfl g_5 dX7_showRow_68 ?_
          refine lv_iload hx hb dX7_showRow_69 (lv_at hl 5 rfl) ?_
          refine lv_iadd hx hb dX7_showRow_71 ?_
          refine lv_sipush (v := (600 : Int32)) hx hb dX7_showRow_72 (by decide) ?_
          refine lv_icmp_le (tgt := 82) hx hb dX7_showRow_75 (by decide) (fun c_6 => ?_) (fun c_6 => ?_)
          · rw [if_pos c_6] at h
            refine lv_iconst (v := (0 : Int32)) hx hb dX7_showRow_82 (by decide) ?_
            refine va_calli (va_runV (As := [.int (0 : Int32)]) (rest := []) ⟨hx, hb, hml, hown, hts⟩ (nX7_isFine l D A pre am cI S (0 : Int32)) (cwV 1 hts gX7_showRow_X7_isFine rfl rfl rfl (by decide +kernel) ⟨Nat.le_of_ble_eq_true rfl, Nat.le_of_ble_eq_true rfl⟩) ⟨qm_blind, va_recv hK hP (ci := 7) (q0 := (pre.length + 0)) rfl mg_0, fun U hU hW => ⟨rfl, qm_go hA hS hP hK hD hU hW⟩⟩ rfl rfl hl.1 rfl (lv_room (Nat.le_of_ble_eq_true rfl)) dX7_showRow_83 ⟨Nat.le_of_ble_eq_true rfl, Nat.le_of_ble_eq_true rfl⟩) hS (fun _ _ h9 => h9) (fun _ h9 => h9) (fun v u t H1 locs1 ht hvm hw hB hz1 hk1 hS => ?_)
            obtain ⟨hw1, hw2⟩ := hw
            have hw1 : (if (0 : Int32) = 0 then 1 else 0) = v := hw1.symm
            have hw2 : mm_th S (0 : Int32) = u := hw2.symm
            subst hw1
            subst hw2
            obtain ⟨hP, hD⟩ := qm_bk ht hB
            rw [if_pos (show (0 : Int32) = 0 by decide)]
            refine lv_if_ne (tgt := 91) hx hb dX7_showRow_86 (by decide) (fun _ => ?_) (fun c => absurd c (by decide))
            refine lv_iload_n hx hb dX7_showRow_91 rfl (lv_at hl 3 rfl) ?_
            refine lv_istore (lv' := [(6, .int p1), (5, .int (1 : Int32)), (0, .ref (am 0)), (1, .int p0), (2, .int p1), (3, .int p2), (4, .int p3)]) hx hb dX7_showRow_92 hl (by decide) rfl (fun ls hl => ?_)
            refine lv_iconst (v := (0 : Int32)) hx hb dX7_showRow_94 (by decide) ?_
            refine lv_istore (lv' := [(7, .int (0 : Int32)), (6, .int p1), (5, .int (1 : Int32)), (0, .ref (am 0)), (1, .int p0), (2, .int p1), (3, .int p2), (4, .int p3)]) hx hb dX7_showRow_95 hl (by decide) rfl (fun ls hl => ?_)
            have loop_9 : ∀ (fuel : Nat) (v6_8 v7_8 : Int32) (S_8 : mm_M) (z : mm_M), fX7_showRow_L97 p0 p2 p3 fuel v6_8 v7_8 S_8 = some z → ∀ (H : Heap) (locs : List Loc) (ls : Array Slot), va_P D vwCl (mm_W pre am cI S_8) H → va_D A (mm_W pre am cI S_8) → va_S A s.heap H locs → lv_has ls 8 [(0, .ref (am 0)), (1, .int p0), (3, .int p2), (4, .int p3), (6, .int v6_8), (7, .int v7_8)] → (∀ (H : Heap) (locs : List Loc) (ls : Array Slot), va_P D vwCl (mm_W pre am cI z) H → va_D A (mm_W pre am cI z) → va_S A s.heap H locs → lv_has ls 8 [(0, .ref (am 0)), (1, .int p0)] → W p l e ({ frames := 2, cells := 0, slots := 0, locals := 48 } : Room) s m ([.ref (am 0), .int p0, .int p1, .int p2, .int p3] : List Value).toArray below meth c H locs 0 0 QX (F0 m 143 ls [])) → W p l e ({ frames := 2, cells := 0, slots := 0, locals := 48 } : Room) s m ([.ref (am 0), .int p0, .int p1, .int p2, .int p3] : List Value).toArray below meth c H locs 0 0 QX (F0 m 97 ls []) := by
              intro fuel
              induction fuel with
              | zero =>
                intro v6_8 v7_8 S_8 z h
                rw [fX7_showRow_L97] at h
                cases h
              | succ fuel ih =>
                intro v6_8 v7_8 S_8 z h H locs ls hP hD hS hl kex
                rw [fX7_showRow_L97] at h
                refine lv_iload hx hb dX7_showRow_97 (lv_at hl 5 rfl) ?_
                refine lv_iload hx hb dX7_showRow_99 (lv_at hl 3 rfl) ?_
                refine lv_icmp_ge (tgt := 143) hx hb dX7_showRow_101 (by decide) (fun c_10 => ?_) (fun c_10 => ?_)
                · rw [if_pos c_10] at h
                  have h := Option.some.inj h
                  subst h
                  exact kex _ _ _ hP hD hS (lv_sub hl [0, 1] rfl)
                · rw [if_neg c_10] at h
                  refine lv_aload_n hx hb dX7_showRow_104 rfl (lv_at hl 0 rfl) ?_
                  refine lv_iload_n hx hb dX7_showRow_105 rfl (lv_at hl 1 rfl) ?_
                  refine lv_iload hx hb dX7_showRow_106 (lv_at hl 4 rfl) ?_
                  obtain ⟨z_11, hz_12, h⟩ := qm_bind h
                  refine va_callv (va_runV (As := [.int p0, .int v6_8]) (rest := []) ⟨hx, hb, hml, hown, hts⟩ (kX7_shows l D A pre am cI S_8 p0 v6_8 z_11 hz_12) (cwV 2 hts gX7_showRow_X7_shows rfl rfl rfl (by decide +kernel) ⟨Nat.le_of_ble_eq_true rfl, Nat.le_of_ble_eq_true rfl⟩) ⟨qm_blind, va_recv hK hP (ci := 7) (q0 := (pre.length + 0)) rfl mg_0, fun U hU hW => ⟨rfl, qm_go hA hS hP hK hD hU hW⟩⟩ rfl rfl hl.1 rfl (lv_room (Nat.le_of_ble_eq_true rfl)) dX7_showRow_108 ⟨Nat.le_of_ble_eq_true rfl, Nat.le_of_ble_eq_true rfl⟩) hS (fun _ _ h9 => h9) (fun _ h9 => h9) (fun u t H1 locs1 ht hvm hw hB hz1 hk1 hS => ?_)
                  have hw : z_11 = u := hw.symm
                  subst hw
                  obtain ⟨hP, hD⟩ := qm_bk ht hB
                  refine lv_iload hx hb dX7_showRow_111 (lv_at hl 4 rfl) ?_
                  refine lv_iload_n hx hb dX7_showRow_113 rfl (lv_at hl 2 rfl) ?_
                  refine lv_iadd hx hb dX7_showRow_114 ?_
                  refine lv_istore (lv' := [(6, .int (v6_8 + p2)), (0, .ref (am 0)), (1, .int p0), (3, .int p2), (4, .int p3), (7, .int v7_8)]) hx hb dX7_showRow_115 hl (by decide) rfl (fun ls hl => ?_)
                  refine lv_iload hx hb dX7_showRow_117 (lv_at hl 0 rfl) ?_
                  refine lv_iload hx hb dX7_showRow_119 (lv_at hl 0 rfl) ?_
                  refine lv_sipush (v := (9999 : Int32)) hx hb dX7_showRow_121 (by decide) ?_
                  refine lv_icmp_le (tgt := 133) hx hb dX7_showRow_124 (by decide) (fun c_13 => ?_) (fun c_13 => ?_)
                  · rw [if_pos c_13] at h
                    refine lv_iconst (v := (0 : Int32)) hx hb dX7_showRow_133 (by decide) ?_
                    refine lv_isub hx hb dX7_showRow_134 ?_
                    refine lv_istore (lv' := [(6, .int ((v6_8 + p2) - (0 : Int32))), (0, .ref (am 0)), (1, .int p0), (3, .int p2), (4, .int p3), (7, .int v7_8)]) hx hb dX7_showRow_135 hl (by decide) rfl (fun ls hl => ?_)
                    refine lv_iinc (v := v7_8 + (1 : Int32)) (lv' := [(7, .int (v7_8 + (1 : Int32))), (6, .int ((v6_8 + p2) - (0 : Int32))), (0, .ref (am 0)), (1, .int p0), (3, .int p2), (4, .int p3)]) hx hb dX7_showRow_137 hl (k := 5) rfl rfl (by decide) rfl (fun ls hl => ?_)
                    refine lv_goto (tgt := 97) hx hb dX7_showRow_140 (by decide) ?_
                    exact ih ((v6_8 + p2) - (0 : Int32)) (v7_8 + (1 : Int32)) z_11 z h _ _ _ hP hD hS (lv_sub hl [2, 3, 4, 5, 1, 0] rfl) kex
                  · rw [if_neg c_13] at h
                    refine lv_sipush (v := (20000 : Int32)) hx hb dX7_showRow_127 (by decide) ?_
                    refine lv_goto (tgt := 134) hx hb dX7_showRow_130 (by decide) ?_
                    refine lv_isub hx hb dX7_showRow_134 ?_
                    refine lv_istore (lv' := [(6, .int ((v6_8 + p2) - (20000 : Int32))), (0, .ref (am 0)), (1, .int p0), (3, .int p2), (4, .int p3), (7, .int v7_8)]) hx hb dX7_showRow_135 hl (by decide) rfl (fun ls hl => ?_)
                    refine lv_iinc (v := v7_8 + (1 : Int32)) (lv' := [(7, .int (v7_8 + (1 : Int32))), (6, .int ((v6_8 + p2) - (20000 : Int32))), (0, .ref (am 0)), (1, .int p0), (3, .int p2), (4, .int p3)]) hx hb dX7_showRow_137 hl (k := 5) rfl rfl (by decide) rfl (fun ls hl => ?_)
                    refine lv_goto (tgt := 97) hx hb dX7_showRow_140 (by decide) ?_
                    exact ih ((v6_8 + p2) - (20000 : Int32)) (v7_8 + (1 : Int32)) z_11 z h _ _ _ hP hD hS (lv_sub hl [2, 3, 4, 5, 1, 0] rfl) kex
            obtain ⟨z_14, hz_15, h⟩ := qm_bind h
            refine loop_9 qm_F p1 (0 : Int32) (mm_th S (0 : Int32)) z_14 hz_15 _ _ _ hP hD hS (lv_sub hl [3, 4, 6, 7, 1, 0] rfl) (fun H locs ls hP hD hS hl => ?_)
            refine lv_aload_n hx hb dX7_showRow_143 rfl (lv_at hl 0 rfl) ?_
            refine va_get (D := D) (ci := 7) (v := .ref (am 3)) (C := RX7) (T := TX7) (N := 11) hx hb hts (by decide +kernel) hown hK hP (pre.length + 0) mg_0 rfl 2 (by decide) (hts (.fieldLink RX7 16 "QueueMiddlesModel" "marks" "[I") (by decide +kernel)) (fun _ h9 => h9) rfl dX7_showRow_144 ?_
            refine lv_iload_n hx hb dX7_showRow_147 rfl (lv_at hl 1 rfl) ?_
            obtain ⟨g_16, h⟩ := qm_gd_some h
            refine va_iald hx hb hK hP (pre.length + 3) 0 mg_3 rfl g_16 dX7_showRow_148 ?_
            have h := Option.some.inj h
            subst h
            rw [hQX]
            exact W.iret (v := (z_14.1 2) p0.toNatClampNeg) hx hb hr (fun t ht hW => ⟨⟨(z_14.1 2) p0.toNatClampNeg, z_14, rfl, ⟨rfl, rfl⟩, qm_en ht hP hD⟩, hS.F ht⟩) hS.2.2 dX7_showRow_149
          · rw [if_neg c_6] at h
            refine lv_iconst (v := (3 : Int32)) hx hb dX7_showRow_78 (by decide) ?_
            refine lv_goto (tgt := 83) hx hb dX7_showRow_79 (by decide) ?_
            refine va_calli (va_runV (As := [.int (3 : Int32)]) (rest := []) ⟨hx, hb, hml, hown, hts⟩ (nX7_isFine l D A pre am cI S (3 : Int32)) (cwV 1 hts gX7_showRow_X7_isFine rfl rfl rfl (by decide +kernel) ⟨Nat.le_of_ble_eq_true rfl, Nat.le_of_ble_eq_true rfl⟩) ⟨qm_blind, va_recv hK hP (ci := 7) (q0 := (pre.length + 0)) rfl mg_0, fun U hU hW => ⟨rfl, qm_go hA hS hP hK hD hU hW⟩⟩ rfl rfl hl.1 rfl (lv_room (Nat.le_of_ble_eq_true rfl)) dX7_showRow_83 ⟨Nat.le_of_ble_eq_true rfl, Nat.le_of_ble_eq_true rfl⟩) hS (fun _ _ h9 => h9) (fun _ h9 => h9) (fun v u t H1 locs1 ht hvm hw hB hz1 hk1 hS => ?_)
            obtain ⟨hw1, hw2⟩ := hw
            have hw1 : (if (3 : Int32) = 0 then 1 else 0) = v := hw1.symm
            have hw2 : mm_th S (3 : Int32) = u := hw2.symm
            subst hw1
            subst hw2
            obtain ⟨hP, hD⟩ := qm_bk ht hB
            rw [if_neg (show ¬ (3 : Int32) = 0 by decide)]
            refine lv_if_ne (tgt := 91) hx hb dX7_showRow_86 (by decide) (fun c => absurd (by decide) c) (fun _ => ?_)
            refine lv_iconst (v := (0 : Int32)) hx hb dX7_showRow_89 (by decide) ?_
            have h := Option.some.inj h
            subst h
            rw [hQX]
            exact W.iret (v := (0 : Int32)) hx hb hr (fun t ht hW => ⟨⟨(0 : Int32), mm_th S (3 : Int32), rfl, ⟨rfl, rfl⟩, qm_en ht hP hD⟩, hS.F ht⟩) hS.2.2 dX7_showRow_90
        · rw [if_neg c_4] at h ⊢
          refine lv_if_ne (tgt := 54) hx hb dX7_showRow_47 (by decide) (fun c => absurd (by decide) c) (fun _ => ?_)
          refine lv_iconst (v := (1 : Int32)) hx hb dX7_showRow_50 (by decide) ?_
          refine lv_goto (tgt := 83) hx hb dX7_showRow_51 (by decide) ?_
          refine va_calli (va_runV (As := [.int (1 : Int32)]) (rest := []) ⟨hx, hb, hml, hown, hts⟩ (nX7_isFine l D A pre am cI S (1 : Int32)) (cwV 1 hts gX7_showRow_X7_isFine rfl rfl rfl (by decide +kernel) ⟨Nat.le_of_ble_eq_true rfl, Nat.le_of_ble_eq_true rfl⟩) ⟨qm_blind, va_recv hK hP (ci := 7) (q0 := (pre.length + 0)) rfl mg_0, fun U hU hW => ⟨rfl, qm_go hA hS hP hK hD hU hW⟩⟩ rfl rfl hl.1 rfl (lv_room (Nat.le_of_ble_eq_true rfl)) dX7_showRow_83 ⟨Nat.le_of_ble_eq_true rfl, Nat.le_of_ble_eq_true rfl⟩) hS (fun _ _ h9 => h9) (fun _ h9 => h9) (fun v u t H1 locs1 ht hvm hw hB hz1 hk1 hS => ?_)
          obtain ⟨hw1, hw2⟩ := hw
          have hw1 : (if (1 : Int32) = 0 then 1 else 0) = v := hw1.symm
          have hw2 : mm_th S (1 : Int32) = u := hw2.symm
          subst hw1
          subst hw2
          obtain ⟨hP, hD⟩ := qm_bk ht hB
          rw [if_neg (show ¬ (1 : Int32) = 0 by decide)]
          refine lv_if_ne (tgt := 91) hx hb dX7_showRow_86 (by decide) (fun c => absurd (by decide) c) (fun _ => ?_)
          refine lv_iconst (v := (0 : Int32)) hx hb dX7_showRow_89 (by decide) ?_
          have h := Option.some.inj h
          subst h
          rw [hQX]
          exact W.iret (v := (0 : Int32)) hx hb hr (fun t ht hW => ⟨⟨(0 : Int32), mm_th S (1 : Int32), rfl, ⟨rfl, rfl⟩, qm_en ht hP hD⟩, hS.F ht⟩) hS.2.2 dX7_showRow_90
      · rw [if_neg c_3] at h ⊢
        refine lv_if_eq (tgt := 39) hx hb dX7_showRow_32 (by decide) (fun _ => ?_) (fun c => absurd (by decide) c)
        refine lv_iconst (v := (0 : Int32)) hx hb dX7_showRow_39 (by decide) ?_
        refine lv_istore (lv' := [(5, .int (0 : Int32)), (0, .ref (am 0)), (1, .int p0), (2, .int p1), (3, .int p2), (4, .int p3)]) hx hb dX7_showRow_40 hl (by decide) rfl (fun ls hl => ?_)
        refine lv_aload_n hx hb dX7_showRow_42 rfl (lv_at hl 1 rfl) ?_
        refine lv_iload_n hx hb dX7_showRow_43 rfl (lv_at hl 2 rfl) ?_
        refine va_calli (va_runS (As := [.int p0]) (rest := [.ref (am 0)]) ⟨hx, hb, hml, hown, hts⟩ (nX7_isCounter l D A pre am cI S p0) (va_cwS 1 hts gX7_showRow_X7_isCounter rfl rfl rfl (by decide +kernel) ⟨Nat.le_of_ble_eq_true rfl, Nat.le_of_ble_eq_true rfl⟩) ⟨qm_blind, fun U hU hW => ⟨rfl, qm_go hA hS hP hK hD hU hW⟩⟩ rfl rfl hl.1 rfl (lv_room (Nat.le_of_ble_eq_true rfl)) dX7_showRow_44 ⟨Nat.le_of_ble_eq_true rfl, Nat.le_of_ble_eq_true rfl⟩) hS (fun _ _ h9 => h9) (fun _ h9 => h9) (fun v u t H1 locs1 ht hvm hw hB hz1 hk1 hS => ?_)
        obtain ⟨hw1, hw2⟩ := hw
        have hw1 : (if mo_in p0 0 3 then 1 else 0) = v := hw1.symm
        have hw2 : S = u := hw2.symm
        subst hw1
        subst hw2
        obtain ⟨hP, hD⟩ := qm_bk ht hB
        by_cases c_19 : mo_in p0 0 3
        · rw [if_pos c_19] at h ⊢
          refine lv_if_ne (tgt := 54) hx hb dX7_showRow_47 (by decide) (fun _ => ?_) (fun c => absurd c (by decide))
          refine lv_iload hx hb dX7_showRow_54 (lv_at hl 0 rfl) ?_
          refine lv_if_ne (tgt := 63) hx hb dX7_showRow_56 (by decide) (fun c => absurd (by decide) c) (fun _ => ?_)
          refine lv_iconst (v := (2 : Int32)) hx hb dX7_showRow_59 (by decide) ?_
          refine lv_goto (tgt := 83) hx hb dX7_showRow_60 (by decide) ?_
          refine va_calli (va_runV (As := [.int (2 : Int32)]) (rest := []) ⟨hx, hb, hml, hown, hts⟩ (nX7_isFine l D A pre am cI S (2 : Int32)) (cwV 1 hts gX7_showRow_X7_isFine rfl rfl rfl (by decide +kernel) ⟨Nat.le_of_ble_eq_true rfl, Nat.le_of_ble_eq_true rfl⟩) ⟨qm_blind, va_recv hK hP (ci := 7) (q0 := (pre.length + 0)) rfl mg_0, fun U hU hW => ⟨rfl, qm_go hA hS hP hK hD hU hW⟩⟩ rfl rfl hl.1 rfl (lv_room (Nat.le_of_ble_eq_true rfl)) dX7_showRow_83 ⟨Nat.le_of_ble_eq_true rfl, Nat.le_of_ble_eq_true rfl⟩) hS (fun _ _ h9 => h9) (fun _ h9 => h9) (fun v u t H1 locs1 ht hvm hw hB hz1 hk1 hS => ?_)
          obtain ⟨hw1, hw2⟩ := hw
          have hw1 : (if (2 : Int32) = 0 then 1 else 0) = v := hw1.symm
          have hw2 : mm_th S (2 : Int32) = u := hw2.symm
          subst hw1
          subst hw2
          obtain ⟨hP, hD⟩ := qm_bk ht hB
          rw [if_neg (show ¬ (2 : Int32) = 0 by decide)]
          refine lv_if_ne (tgt := 91) hx hb dX7_showRow_86 (by decide) (fun c => absurd (by decide) c) (fun _ => ?_)
          refine lv_iconst (v := (0 : Int32)) hx hb dX7_showRow_89 (by decide) ?_
          have h := Option.some.inj h
          subst h
          rw [hQX]
          exact W.iret (v := (0 : Int32)) hx hb hr (fun t ht hW => ⟨⟨(0 : Int32), mm_th S (2 : Int32), rfl, ⟨rfl, rfl⟩, qm_en ht hP hD⟩, hS.F ht⟩) hS.2.2 dX7_showRow_90
        · rw [if_neg c_19] at h ⊢
          refine lv_if_ne (tgt := 54) hx hb dX7_showRow_47 (by decide) (fun c => absurd (by decide) c) (fun _ => ?_)
          refine lv_iconst (v := (1 : Int32)) hx hb dX7_showRow_50 (by decide) ?_
          refine lv_goto (tgt := 83) hx hb dX7_showRow_51 (by decide) ?_
          refine va_calli (va_runV (As := [.int (1 : Int32)]) (rest := []) ⟨hx, hb, hml, hown, hts⟩ (nX7_isFine l D A pre am cI S (1 : Int32)) (cwV 1 hts gX7_showRow_X7_isFine rfl rfl rfl (by decide +kernel) ⟨Nat.le_of_ble_eq_true rfl, Nat.le_of_ble_eq_true rfl⟩) ⟨qm_blind, va_recv hK hP (ci := 7) (q0 := (pre.length + 0)) rfl mg_0, fun U hU hW => ⟨rfl, qm_go hA hS hP hK hD hU hW⟩⟩ rfl rfl hl.1 rfl (lv_room (Nat.le_of_ble_eq_true rfl)) dX7_showRow_83 ⟨Nat.le_of_ble_eq_true rfl, Nat.le_of_ble_eq_true rfl⟩) hS (fun _ _ h9 => h9) (fun _ h9 => h9) (fun v u t H1 locs1 ht hvm hw hB hz1 hk1 hS => ?_)
          obtain ⟨hw1, hw2⟩ := hw
          have hw1 : (if (1 : Int32) = 0 then 1 else 0) = v := hw1.symm
          have hw2 : mm_th S (1 : Int32) = u := hw2.symm
          subst hw1
          subst hw2
          obtain ⟨hP, hD⟩ := qm_bk ht hB
          rw [if_neg (show ¬ (1 : Int32) = 0 by decide)]
          refine lv_if_ne (tgt := 91) hx hb dX7_showRow_86 (by decide) (fun c => absurd (by decide) c) (fun _ => ?_)
          refine lv_iconst (v := (0 : Int32)) hx hb dX7_showRow_89 (by decide) ?_
          have h := Option.some.inj h
          subst h
          rw [hQX]
          exact W.iret (v := (0 : Int32)) hx hb hr (fun t ht hW => ⟨⟨(0 : Int32), mm_th S (1 : Int32), rfl, ⟨rfl, rfl⟩, qm_en ht hP hD⟩, hS.F ht⟩) hS.2.2 dX7_showRow_90
    · rw [if_neg c_2] at h ⊢
      refine lv_if_eq (tgt := 39) hx hb dX7_showRow_21 (by decide) (fun _ => ?_) (fun c => absurd (by decide) c)
      refine lv_iconst (v := (0 : Int32)) hx hb dX7_showRow_39 (by decide) ?_
      refine lv_istore (lv' := [(5, .int (0 : Int32)), (0, .ref (am 0)), (1, .int p0), (2, .int p1), (3, .int p2), (4, .int p3)]) hx hb dX7_showRow_40 hl (by decide) rfl (fun ls hl => ?_)
      refine lv_aload_n hx hb dX7_showRow_42 rfl (lv_at hl 1 rfl) ?_
      refine lv_iload_n hx hb dX7_showRow_43 rfl (lv_at hl 2 rfl) ?_
      refine va_calli (va_runS (As := [.int p0]) (rest := [.ref (am 0)]) ⟨hx, hb, hml, hown, hts⟩ (nX7_isCounter l D A pre am cI S p0) (va_cwS 1 hts gX7_showRow_X7_isCounter rfl rfl rfl (by decide +kernel) ⟨Nat.le_of_ble_eq_true rfl, Nat.le_of_ble_eq_true rfl⟩) ⟨qm_blind, fun U hU hW => ⟨rfl, qm_go hA hS hP hK hD hU hW⟩⟩ rfl rfl hl.1 rfl (lv_room (Nat.le_of_ble_eq_true rfl)) dX7_showRow_44 ⟨Nat.le_of_ble_eq_true rfl, Nat.le_of_ble_eq_true rfl⟩) hS (fun _ _ h9 => h9) (fun _ h9 => h9) (fun v u t H1 locs1 ht hvm hw hB hz1 hk1 hS => ?_)
      obtain ⟨hw1, hw2⟩ := hw
      have hw1 : (if mo_in p0 0 3 then 1 else 0) = v := hw1.symm
      have hw2 : S = u := hw2.symm
      subst hw1
      subst hw2
      obtain ⟨hP, hD⟩ := qm_bk ht hB
      by_cases c_22 : mo_in p0 0 3
      · rw [if_pos c_22] at h ⊢
        refine lv_if_ne (tgt := 54) hx hb dX7_showRow_47 (by decide) (fun _ => ?_) (fun c => absurd c (by decide))
        refine lv_iload hx hb dX7_showRow_54 (lv_at hl 0 rfl) ?_
        refine lv_if_ne (tgt := 63) hx hb dX7_showRow_56 (by decide) (fun c => absurd (by decide) c) (fun _ => ?_)
        refine lv_iconst (v := (2 : Int32)) hx hb dX7_showRow_59 (by decide) ?_
        refine lv_goto (tgt := 83) hx hb dX7_showRow_60 (by decide) ?_
        refine va_calli (va_runV (As := [.int (2 : Int32)]) (rest := []) ⟨hx, hb, hml, hown, hts⟩ (nX7_isFine l D A pre am cI S (2 : Int32)) (cwV 1 hts gX7_showRow_X7_isFine rfl rfl rfl (by decide +kernel) ⟨Nat.le_of_ble_eq_true rfl, Nat.le_of_ble_eq_true rfl⟩) ⟨qm_blind, va_recv hK hP (ci := 7) (q0 := (pre.length + 0)) rfl mg_0, fun U hU hW => ⟨rfl, qm_go hA hS hP hK hD hU hW⟩⟩ rfl rfl hl.1 rfl (lv_room (Nat.le_of_ble_eq_true rfl)) dX7_showRow_83 ⟨Nat.le_of_ble_eq_true rfl, Nat.le_of_ble_eq_true rfl⟩) hS (fun _ _ h9 => h9) (fun _ h9 => h9) (fun v u t H1 locs1 ht hvm hw hB hz1 hk1 hS => ?_)
        obtain ⟨hw1, hw2⟩ := hw
        have hw1 : (if (2 : Int32) = 0 then 1 else 0) = v := hw1.symm
        have hw2 : mm_th S (2 : Int32) = u := hw2.symm
        subst hw1
        subst hw2
        obtain ⟨hP, hD⟩ := qm_bk ht hB
        rw [if_neg (show ¬ (2 : Int32) = 0 by decide)]
        refine lv_if_ne (tgt := 91) hx hb dX7_showRow_86 (by decide) (fun c => absurd (by decide) c) (fun _ => ?_)
        refine lv_iconst (v := (0 : Int32)) hx hb dX7_showRow_89 (by decide) ?_
        have h := Option.some.inj h
        subst h
        rw [hQX]
        exact W.iret (v := (0 : Int32)) hx hb hr (fun t ht hW => ⟨⟨(0 : Int32), mm_th S (2 : Int32), rfl, ⟨rfl, rfl⟩, qm_en ht hP hD⟩, hS.F ht⟩) hS.2.2 dX7_showRow_90
      · rw [if_neg c_22] at h ⊢
        refine lv_if_ne (tgt := 54) hx hb dX7_showRow_47 (by decide) (fun c => absurd (by decide) c) (fun _ => ?_)
        refine lv_iconst (v := (1 : Int32)) hx hb dX7_showRow_50 (by decide) ?_
        refine lv_goto (tgt := 83) hx hb dX7_showRow_51 (by decide) ?_
        refine va_calli (va_runV (As := [.int (1 : Int32)]) (rest := []) ⟨hx, hb, hml, hown, hts⟩ (nX7_isFine l D A pre am cI S (1 : Int32)) (cwV 1 hts gX7_showRow_X7_isFine rfl rfl rfl (by decide +kernel) ⟨Nat.le_of_ble_eq_true rfl, Nat.le_of_ble_eq_true rfl⟩) ⟨qm_blind, va_recv hK hP (ci := 7) (q0 := (pre.length + 0)) rfl mg_0, fun U hU hW => ⟨rfl, qm_go hA hS hP hK hD hU hW⟩⟩ rfl rfl hl.1 rfl (lv_room (Nat.le_of_ble_eq_true rfl)) dX7_showRow_83 ⟨Nat.le_of_ble_eq_true rfl, Nat.le_of_ble_eq_true rfl⟩) hS (fun _ _ h9 => h9) (fun _ h9 => h9) (fun v u t H1 locs1 ht hvm hw hB hz1 hk1 hS => ?_)
        obtain ⟨hw1, hw2⟩ := hw
        have hw1 : (if (1 : Int32) = 0 then 1 else 0) = v := hw1.symm
        have hw2 : mm_th S (1 : Int32) = u := hw2.symm
        subst hw1
        subst hw2
        obtain ⟨hP, hD⟩ := qm_bk ht hB
        rw [if_neg (show ¬ (1 : Int32) = 0 by decide)]
        refine lv_if_ne (tgt := 91) hx hb dX7_showRow_86 (by decide) (fun c => absurd (by decide) c) (fun _ => ?_)
        refine lv_iconst (v := (0 : Int32)) hx hb dX7_showRow_89 (by decide) ?_
        have h := Option.some.inj h
        subst h
        rw [hQX]
        exact W.iret (v := (0 : Int32)) hx hb hr (fun t ht hW => ⟨⟨(0 : Int32), mm_th S (1 : Int32), rfl, ⟨rfl, rfl⟩, qm_en ht hP hD⟩, hS.F ht⟩) hS.2.2 dX7_showRow_90
  · rw [if_neg c_1] at h ⊢
    refine lv_if_eq (tgt := 39) hx hb dX7_showRow_10 (by decide) (fun _ => ?_) (fun c => absurd (by decide) c)
    refine lv_iconst (v := (0 : Int32)) hx hb dX7_showRow_39 (by decide) ?_
    refine lv_istore (lv' := [(5, .int (0 : Int32)), (0, .ref (am 0)), (1, .int p0), (2, .int p1), (3, .int p2), (4, .int p3)]) hx hb dX7_showRow_40 hl (by decide) rfl (fun ls hl => ?_)
    refine lv_aload_n hx hb dX7_showRow_42 rfl (lv_at hl 1 rfl) ?_
    refine lv_iload_n hx hb dX7_showRow_43 rfl (lv_at hl 2 rfl) ?_
    refine va_calli (va_runS (As := [.int p0]) (rest := [.ref (am 0)]) ⟨hx, hb, hml, hown, hts⟩ (nX7_isCounter l D A pre am cI S p0) (va_cwS 1 hts gX7_showRow_X7_isCounter rfl rfl rfl (by decide +kernel) ⟨Nat.le_of_ble_eq_true rfl, Nat.le_of_ble_eq_true rfl⟩) ⟨qm_blind, fun U hU hW => ⟨rfl, qm_go hA hS hP hK hD hU hW⟩⟩ rfl rfl hl.1 rfl (lv_room (Nat.le_of_ble_eq_true rfl)) dX7_showRow_44 ⟨Nat.le_of_ble_eq_true rfl, Nat.le_of_ble_eq_true rfl⟩) hS (fun _ _ h9 => h9) (fun _ h9 => h9) (fun v u t H1 locs1 ht hvm hw hB hz1 hk1 hS => ?_)
    obtain ⟨hw1, hw2⟩ := hw
    have hw1 : (if mo_in p0 0 3 then 1 else 0) = v := hw1.symm
    have hw2 : S = u := hw2.symm
    subst hw1
    subst hw2
    obtain ⟨hP, hD⟩ := qm_bk ht hB
    by_cases c_25 : mo_in p0 0 3
    · rw [if_pos c_25] at h ⊢
      refine lv_if_ne (tgt := 54) hx hb dX7_showRow_47 (by decide) (fun _ => ?_) (fun c => absurd c (by decide))
      refine lv_iload hx hb dX7_showRow_54 (lv_at hl 0 rfl) ?_
      refine lv_if_ne (tgt := 63) hx hb dX7_showRow_56 (by decide) (fun c => absurd (by decide) c) (fun _ => ?_)
      refine lv_iconst (v := (2 : Int32)) hx hb dX7_showRow_59 (by decide) ?_
      refine lv_goto (tgt := 83) hx hb dX7_showRow_60 (by decide) ?_
      refine va_calli (va_runV (As := [.int (2 : Int32)]) (rest := []) ⟨hx, hb, hml, hown, hts⟩ (nX7_isFine l D A pre am cI S (2 : Int32)) (cwV 1 hts gX7_showRow_X7_isFine rfl rfl rfl (by decide +kernel) ⟨Nat.le_of_ble_eq_true rfl, Nat.le_of_ble_eq_true rfl⟩) ⟨qm_blind, va_recv hK hP (ci := 7) (q0 := (pre.length + 0)) rfl mg_0, fun U hU hW => ⟨rfl, qm_go hA hS hP hK hD hU hW⟩⟩ rfl rfl hl.1 rfl (lv_room (Nat.le_of_ble_eq_true rfl)) dX7_showRow_83 ⟨Nat.le_of_ble_eq_true rfl, Nat.le_of_ble_eq_true rfl⟩) hS (fun _ _ h9 => h9) (fun _ h9 => h9) (fun v u t H1 locs1 ht hvm hw hB hz1 hk1 hS => ?_)
      obtain ⟨hw1, hw2⟩ := hw
      have hw1 : (if (2 : Int32) = 0 then 1 else 0) = v := hw1.symm
      have hw2 : mm_th S (2 : Int32) = u := hw2.symm
      subst hw1
      subst hw2
      obtain ⟨hP, hD⟩ := qm_bk ht hB
      rw [if_neg (show ¬ (2 : Int32) = 0 by decide)]
      refine lv_if_ne (tgt := 91) hx hb dX7_showRow_86 (by decide) (fun c => absurd (by decide) c) (fun _ => ?_)
      refine lv_iconst (v := (0 : Int32)) hx hb dX7_showRow_89 (by decide) ?_
      have h := Option.some.inj h
      subst h
      rw [hQX]
      exact W.iret (v := (0 : Int32)) hx hb hr (fun t ht hW => ⟨⟨(0 : Int32), mm_th S (2 : Int32), rfl, ⟨rfl, rfl⟩, qm_en ht hP hD⟩, hS.F ht⟩) hS.2.2 dX7_showRow_90
    · rw [if_neg c_25] at h ⊢
      refine lv_if_ne (tgt := 54) hx hb dX7_showRow_47 (by decide) (fun c => absurd (by decide) c) (fun _ => ?_)
      refine lv_iconst (v := (1 : Int32)) hx hb dX7_showRow_50 (by decide) ?_
      refine lv_goto (tgt := 83) hx hb dX7_showRow_51 (by decide) ?_
      refine va_calli (va_runV (As := [.int (1 : Int32)]) (rest := []) ⟨hx, hb, hml, hown, hts⟩ (nX7_isFine l D A pre am cI S (1 : Int32)) (cwV 1 hts gX7_showRow_X7_isFine rfl rfl rfl (by decide +kernel) ⟨Nat.le_of_ble_eq_true rfl, Nat.le_of_ble_eq_true rfl⟩) ⟨qm_blind, va_recv hK hP (ci := 7) (q0 := (pre.length + 0)) rfl mg_0, fun U hU hW => ⟨rfl, qm_go hA hS hP hK hD hU hW⟩⟩ rfl rfl hl.1 rfl (lv_room (Nat.le_of_ble_eq_true rfl)) dX7_showRow_83 ⟨Nat.le_of_ble_eq_true rfl, Nat.le_of_ble_eq_true rfl⟩) hS (fun _ _ h9 => h9) (fun _ h9 => h9) (fun v u t H1 locs1 ht hvm hw hB hz1 hk1 hS => ?_)
      obtain ⟨hw1, hw2⟩ := hw
      have hw1 : (if (1 : Int32) = 0 then 1 else 0) = v := hw1.symm
      have hw2 : mm_th S (1 : Int32) = u := hw2.symm
      subst hw1
      subst hw2
      obtain ⟨hP, hD⟩ := qm_bk ht hB
      rw [if_neg (show ¬ (1 : Int32) = 0 by decide)]
      refine lv_if_ne (tgt := 91) hx hb dX7_showRow_86 (by decide) (fun c => absurd (by decide) c) (fun _ => ?_)
      refine lv_iconst (v := (0 : Int32)) hx hb dX7_showRow_89 (by decide) ?_
      have h := Option.some.inj h
      subst h
      rw [hQX]
      exact W.iret (v := (0 : Int32)) hx hb hr (fun t ht hW => ⟨⟨(0 : Int32), mm_th S (1 : Int32), rfl, ⟨rfl, rfl⟩, qm_en ht hP hD⟩, hS.F ht⟩) hS.2.2 dX7_showRow_90
