noncomputable def fX7_thinOut_L85 (x1 : Int32) (x2 : Int32) (x3 : Int32) (x4 : Int32) : Nat → Int32 → mm_M → Option (mm_M)
  | 0, _, _ => none
  | fuel + 1, v6, S =>
    qm_gd (vp_in x1 4) ((if (x2 + ((S.1 2) x1.toNatClampNeg)) ≤ v6 then some S else qm_gd (vp_in (v6 + (1 : Int32)) 2400) (qm_gd (vp_in v6 2400) (qm_gd (vp_in (v6 + (1 : Int32)) 2400) (qm_gd (vp_in v6 2400) (qm_gd (vp_in (v6 + (1 : Int32)) 2400) (qm_gd (vp_in v6 2400) (fX7_thinOut_L85 x1 x2 x3 x4 fuel (v6 + (1 : Int32)) (mm_up (mm_up (mm_up S 4 (upd (S.1 4) v6.toNatClampNeg ((S.1 4) (v6 + (1 : Int32)).toNatClampNeg))) 5 (upd ((mm_up S 4 (upd (S.1 4) v6.toNatClampNeg ((S.1 4) (v6 + (1 : Int32)).toNatClampNeg))).1 5) v6.toNatClampNeg (((mm_up S 4 (upd (S.1 4) v6.toNatClampNeg ((S.1 4) (v6 + (1 : Int32)).toNatClampNeg))).1 5) (v6 + (1 : Int32)).toNatClampNeg))) 6 (upd ((mm_up (mm_up S 4 (upd (S.1 4) v6.toNatClampNeg ((S.1 4) (v6 + (1 : Int32)).toNatClampNeg))) 5 (upd ((mm_up S 4 (upd (S.1 4) v6.toNatClampNeg ((S.1 4) (v6 + (1 : Int32)).toNatClampNeg))).1 5) v6.toNatClampNeg (((mm_up S 4 (upd (S.1 4) v6.toNatClampNeg ((S.1 4) (v6 + (1 : Int32)).toNatClampNeg))).1 5) (v6 + (1 : Int32)).toNatClampNeg))).1 6) v6.toNatClampNeg (((mm_up (mm_up S 4 (upd (S.1 4) v6.toNatClampNeg ((S.1 4) (v6 + (1 : Int32)).toNatClampNeg))) 5 (upd ((mm_up S 4 (upd (S.1 4) v6.toNatClampNeg ((S.1 4) (v6 + (1 : Int32)).toNatClampNeg))).1 5) v6.toNatClampNeg (((mm_up S 4 (upd (S.1 4) v6.toNatClampNeg ((S.1 4) (v6 + (1 : Int32)).toNatClampNeg))).1 5) (v6 + (1 : Int32)).toNatClampNeg))).1 6) (v6 + (1 : Int32)).toNatClampNeg)))))))))))
noncomputable def fX7_thinOut_L33 (x1 : Int32) (x2 : Int32) (x3 : Int32) : Nat → Int32 → mm_M → Option (mm_M)
  | 0, _, _ => none
  | fuel + 1, v4, S =>
    (if v4 ≤ 0 then some S else qm_gd (vp_in ((x2 + v4) + (1 : Int32)) 2400) (qm_gd (vp_in ((x2 + v4) - (1 : Int32)) 2400) (Option.bind (fX7_allowed S x1) (fun z_9 => (if z_9 < (((S.1 6) ((x2 + v4) + (1 : Int32)).toNatClampNeg) - ((S.1 5) ((x2 + v4) - (1 : Int32)).toNatClampNeg)) then fX7_thinOut_L33 x1 x2 x3 fuel (v4 + (-1 : Int32)) S else qm_gd (vp_in x1 4) (qm_gd (vp_in x1 4) (Option.bind (fX7_thinOut_L85 x1 x2 x3 v4 qm_F (x2 + v4) (mm_up S 2 (upd (S.1 2) x1.toNatClampNeg (((S.1 2) x1.toNatClampNeg) - (1 : Int32))))) (fun z_24 => fX7_thinOut_L33 x1 x2 x3 fuel (v4 + (-1 : Int32)) z_24))))))))
noncomputable def fX7_thinOut (S : mm_M) (p0 : Int32) : Option (Int32 × mm_M) :=
  Option.bind (fX7_isThere S p0) (fun z_1 => (if z_1.1 = 0 then some ((0 : Int32), z_1.2) else qm_gd (vp_in p0 4) (qm_gd (vp_in p0 4) (Option.bind (fX7_thinOut_L33 p0 ((600 : Int32) * p0) ((z_1.2.1 2) p0.toNatClampNeg) qm_F (((z_1.2.1 2) p0.toNatClampNeg) - (2 : Int32)) z_1.2) (fun z_28 => qm_gd (vp_in p0 4) (some (((z_1.2.1 2) p0.toNatClampNeg) - ((z_28.1 2) p0.toNatClampNeg), z_28)))))))
set_option maxHeartbeats 4000000 in
set_option maxRecDepth 100000 in
theorem kX7_thinOut (l : Launch) (D : va_G) (A : Nat → Prop) (pre : va_W) (am : Nat → Nat) (cI : ClassId) (S : mm_M) (p0 : Int32) (z : Int32 × mm_M) (h : fX7_thinOut S p0 = some z) : Met l yX7_thinOut wsX7_thinOut ({ frames := 3, cells := 0, slots := 0, locals := 63 }) (va_Pc [.ref (am 0), .int p0] (qm_B D A (mm_T cI) (mm_W pre am cI S))) (qm_Qi D A (mm_W pre am cI) z) 0 0 A := by
  refine Met.ofW (cc := cX7_thinOut) (maxL := 7) (ret := (some .int)) (by decide) rfl ?_
  intro p e s m args below meth c s₁ B hml hv
  obtain ⟨rfl, hA, hP, hK, hD⟩ := hv
  have hx := B.exec
  have hb := B.bytes
  have hr := B.returns
  have hts := atoms_spec (ws := wsX7_thinOut) B.pre
  have hown : s.vm.findClass RX7 = some m.cls := findClass_of_methodNamed B.named
  have hlocks := B.notSynchronized
  have hS : va_S A s.heap s.heap [] := va_S.rf
  have hl := lv_entry ([.ref (am 0), .int p0]) (n := 7) (Nat.le_of_ble_eq_true rfl)
  rw [lg_entry_eq]
  generalize (lg_sl ([.ref (am 0), .int p0]) ++ List.replicate (7 - (lg_sl ([.ref (am 0), .int p0])).length) Slot.unset).toArray = ls at hl ⊢
  have hl : lv_has ls 7 [(0, .ref (am 0)), (1, .int p0)] := hl
  obtain ⟨QX, hQX⟩ : ∃ q, q = MQ below (qm_Qi D A (mm_W pre am cI) z) ([.ref (am 0), .int p0] : List Value).toArray s 0 0 A := ⟨_, rfl⟩
  rw [← hQX]
  rw [fX7_thinOut] at h
  refine lv_aload_n hx hb dX7_thinOut_0 rfl (lv_at hl 0 rfl) ?_
  refine lv_iload_n hx hb dX7_thinOut_1 rfl (lv_at hl 1 rfl) ?_
  obtain ⟨z_1, hz_2, h⟩ := qm_bind h
  refine va_calli (va_runV (As := [.int p0]) (rest := []) ⟨hx, hb, hml, hown, hts⟩ (kX7_isThere l D A pre am cI S p0 z_1 hz_2) (cwV 1 hts gX7_thinOut_X7_isThere rfl rfl rfl (by decide +kernel) ⟨Nat.le_of_ble_eq_true rfl, Nat.le_of_ble_eq_true rfl⟩) ⟨qm_blind, va_recv hK hP (ci := 7) (q0 := (pre.length + 0)) rfl mg_0, fun U hU hW => ⟨rfl, qm_go hA hS hP hK hD hU hW⟩⟩ rfl rfl hl.1 rfl (lv_room (Nat.le_of_ble_eq_true rfl)) dX7_thinOut_2 ⟨Nat.le_of_ble_eq_true rfl, Nat.le_of_ble_eq_true rfl⟩) hS (fun _ _ h9 => h9) (fun _ h9 => h9) (fun v u t H1 locs1 ht hvm hw hB hz1 hk1 hS => ?_)
  obtain ⟨hw1, hw2⟩ := hw
  have hw1 : z_1.1 = v := hw1.symm
  have hw2 : z_1.2 = u := hw2.symm
  subst hw1
  subst hw2
  obtain ⟨hP, hD⟩ := qm_bk ht hB
  refine lv_if_ne (tgt := 10) hx hb dX7_thinOut_5 (by decide) (fun c_3 => ?_) (fun c_3 => ?_)
  · rw [if_neg c_3] at h
    refine lv_sipush (v := (600 : Int32)) hx hb dX7_thinOut_10 (by decide) ?_
    refine lv_iload_n hx hb dX7_thinOut_13 rfl (lv_at hl 1 rfl) ?_
    refine lv_imul hx hb dX7_thinOut_14 ?_
    refine lv_istore_n (lv' := [(2, .int ((600 : Int32) * p0)), (0, .ref (am 0)), (1, .int p0)]) hx hb dX7_thinOut_15 rfl hl (by decide) rfl (fun ls hl => ?_)
    refine lv_aload_n hx hb dX7_thinOut_16 rfl (lv_at hl 1 rfl) ?_
    refine va_get (D := D) (ci := 7) (v := .ref (am 3)) (C := RX7) (T := TX7) (N := 11) hx hb hts (by decide +kernel) hown hK hP (pre.length + 0) mg_0 rfl 2 (by decide) (hts (.fieldLink RX7 16 "QueueMiddlesModel" "marks" "[I") (by decide +kernel)) (fun _ h9 => h9) rfl dX7_thinOut_17 ?_
    refine lv_iload_n hx hb dX7_thinOut_20 rfl (lv_at hl 2 rfl) ?_
    obtain ⟨g_4, h⟩ := qm_gd_some h
    refine va_iald hx hb hK hP (pre.length + 3) 0 mg_3 rfl g_4 dX7_thinOut_21 ?_
    refine lv_istore_n (lv' := [(3, .int ((z_1.2.1 2) p0.toNatClampNeg)), (2, .int ((600 : Int32) * p0)), (0, .ref (am 0)), (1, .int p0)]) hx hb dX7_thinOut_22 rfl hl (by decide) rfl (fun ls hl => ?_)
    refine lv_aload_n hx hb dX7_thinOut_23 rfl (lv_at hl 2 rfl) ?_
    refine va_get (D := D) (ci := 7) (v := .ref (am 3)) (C := RX7) (T := TX7) (N := 11) hx hb hts (by decide +kernel) hown hK hP (pre.length + 0) mg_0 rfl 2 (by decide) (hts (.fieldLink RX7 16 "QueueMiddlesModel" "marks" "[I") (by decide +kernel)) (fun _ h9 => h9) rfl dX7_thinOut_24 ?_
    refine lv_iload_n hx hb dX7_thinOut_27 rfl (lv_at hl 3 rfl) ?_
    obtain ⟨g_5, h⟩ := qm_gd_some h
    refine va_iald hx hb hK hP (pre.length + 3) 0 mg_3 rfl g_5 dX7_thinOut_28 ?_
    refine lv_iconst (v := (2 : Int32)) hx hb dX7_thinOut_29 (by decide) ?_
    refine lv_isub hx hb dX7_thinOut_30 ?_
    refine lv_istore (lv' := [(4, .int (((z_1.2.1 2) p0.toNatClampNeg) - (2 : Int32))), (3, .int ((z_1.2.1 2) p0.toNatClampNeg)), (2, .int ((600 : Int32) * p0)), (0, .ref (am 0)), (1, .int p0)]) hx hb dX7_thinOut_31 hl (by decide) rfl (fun ls hl => ?_)
    have loop_7 : ∀ (fuel : Nat) (v4_6 : Int32) (S_6 : mm_M) (z : mm_M), fX7_thinOut_L33 p0 ((600 : Int32) * p0) ((z_1.2.1 2) p0.toNatClampNeg) fuel v4_6 S_6 = some z → ∀ (H : Heap) (locs : List Loc) (ls : Array Slot), va_P D vwCl (mm_W pre am cI S_6) H → va_D A (mm_W pre am cI S_6) → va_S A s.heap H locs → lv_has ls 7 [(0, .ref (am 0)), (1, .int p0), (2, .int ((600 : Int32) * p0)), (3, .int ((z_1.2.1 2) p0.toNatClampNeg)), (4, .int v4_6)] → (∀ (H : Heap) (locs : List Loc) (ls : Array Slot), va_P D vwCl (mm_W pre am cI z) H → va_D A (mm_W pre am cI z) → va_S A s.heap H locs → lv_has ls 7 [(0, .ref (am 0)), (1, .int p0), (3, .int ((z_1.2.1 2) p0.toNatClampNeg))] → W p l e ({ frames := 3, cells := 0, slots := 0, locals := 63 } : Room) s m ([.ref (am 0), .int p0] : List Value).toArray below meth c H locs 0 0 QX (F0 m 158 ls [])) → W p l e ({ frames := 3, cells := 0, slots := 0, locals := 63 } : Room) s m ([.ref (am 0), .int p0] : List Value).toArray below meth c H locs 0 0 QX (F0 m 33 ls []) := by
      intro fuel
      induction fuel with
      | zero =>
        intro v4_6 S_6 z h
        rw [fX7_thinOut_L33] at h
        cases h
      | succ fuel ih =>
        intro v4_6 S_6 z h H locs ls hP hD hS hl kex
        rw [fX7_thinOut_L33] at h
        refine lv_iload hx hb dX7_thinOut_33 (lv_at hl 4 rfl) ?_
        refine lv_if_le (tgt := 158) hx hb dX7_thinOut_35 (by decide) (fun c_8 => ?_) (fun c_8 => ?_)
        · rw [if_pos c_8] at h
          have h := Option.some.inj h
          subst h
          exact kex _ _ _ hP hD hS (lv_sub hl [0, 1, 3] rfl)
        · rw [if_neg c_8] at h
          refine lv_iload_n hx hb dX7_thinOut_38 rfl (lv_at hl 2 rfl) ?_
          refine lv_iload hx hb dX7_thinOut_39 (lv_at hl 4 rfl) ?_
          refine lv_iadd hx hb dX7_thinOut_41 ?_
          refine lv_istore (lv' := [(5, .int (((600 : Int32) * p0) + v4_6)), (0, .ref (am 0)), (1, .int p0), (2, .int ((600 : Int32) * p0)), (3, .int ((z_1.2.1 2) p0.toNatClampNeg)), (4, .int v4_6)]) hx hb dX7_thinOut_42 hl (by decide) rfl (fun ls hl => ?_)
          refine lv_aload_n hx hb dX7_thinOut_44 rfl (lv_at hl 1 rfl) ?_
          refine va_get (D := D) (ci := 7) (v := .ref (am 7)) (C := RX7) (T := TX7) (N := 11) hx hb hts (by decide +kernel) hown hK hP (pre.length + 0) mg_0 rfl 6 (by decide) (hts (.fieldLink RX7 28 "QueueMiddlesModel" "highest" "[I") (by decide +kernel)) (fun _ h9 => h9) rfl dX7_thinOut_45 ?_
          refine lv_iload hx hb dX7_thinOut_48 (lv_at hl 0 rfl) ?_
          refine lv_iconst (v := (1 : Int32)) hx hb dX7_thinOut_50 (by decide) ?_
          refine lv_iadd hx hb dX7_thinOut_51 ?_
          obtain ⟨g_9, h⟩ := qm_gd_some h
          refine va_iald hx hb hK hP (pre.length + 7) 0 mg_7 rfl g_9 dX7_thinOut_52 ?_
          refine lv_aload_n hx hb dX7_thinOut_53 rfl (lv_at hl 1 rfl) ?_
          refine va_get (D := D) (ci := 7) (v := .ref (am 6)) (C := RX7) (T := TX7) (N := 11) hx hb hts (by decide +kernel) hown hK hP (pre.length + 0) mg_0 rfl 5 (by decide) (hts (.fieldLink RX7 25 "QueueMiddlesModel" "lowest" "[I") (by decide +kernel)) (fun _ h9 => h9) rfl dX7_thinOut_54 ?_
          refine lv_iload hx hb dX7_thinOut_57 (lv_at hl 0 rfl) ?_
          refine lv_iconst (v := (1 : Int32)) hx hb dX7_thinOut_59 (by decide) ?_
          refine lv_isub hx hb dX7_thinOut_60 ?_
          obtain ⟨g_10, h⟩ := qm_gd_some h
          refine va_iald hx hb hK hP (pre.length + 6) 0 mg_6 rfl g_10 dX7_thinOut_61 ?_
          refine lv_isub hx hb dX7_thinOut_62 ?_
          refine lv_aload_n hx hb dX7_thinOut_63 rfl (lv_at hl 1 rfl) ?_
          refine lv_iload_n hx hb dX7_thinOut_64 rfl (lv_at hl 2 rfl) ?_
          obtain ⟨z_11, hz_12, h⟩ := qm_bind h
          refine va_calli (va_runV (As := [.int p0]) (rest := [.int (((S_6.1 6) ((((600 : Int32) * p0) + v4_6) + (1 : Int32)).toNatClampNeg) - ((S_6.1 5) ((((600 : Int32) * p0) + v4_6) - (1 : Int32)).toNatClampNeg))]) ⟨hx, hb, hml, hown, hts⟩ (kX7_allowed l D A pre am cI S_6 p0 z_11 hz_12) (cwV 1 hts gX7_thinOut_X7_allowed rfl rfl rfl (by decide +kernel) ⟨Nat.le_of_ble_eq_true rfl, Nat.le_of_ble_eq_true rfl⟩) ⟨qm_blind, va_recv hK hP (ci := 7) (q0 := (pre.length + 0)) rfl mg_0, fun U hU hW => ⟨rfl, qm_go hA hS hP hK hD hU hW⟩⟩ rfl rfl hl.1 rfl (lv_room (Nat.le_of_ble_eq_true rfl)) dX7_thinOut_65 ⟨Nat.le_of_ble_eq_true rfl, Nat.le_of_ble_eq_true rfl⟩) hS (fun _ _ h9 => h9) (fun _ h9 => h9) (fun v u t H1 locs1 ht hvm hw hB hz1 hk1 hS => ?_)
          obtain ⟨hw1, hw2⟩ := hw
          have hw1 : z_11 = v := hw1.symm
          have hw2 : S_6 = u := hw2.symm
          subst hw1
          subst hw2
          obtain ⟨hP, hD⟩ := qm_bk ht hB
          refine lv_icmp_gt (tgt := 152) hx hb dX7_thinOut_68 (by decide) (fun c_13 => ?_) (fun c_13 => ?_)
          · rw [if_pos c_13] at h
            refine lv_iinc (v := v4_6 + (-1 : Int32)) (lv' := [(4, .int (v4_6 + (-1 : Int32))), (5, .int (((600 : Int32) * p0) + v4_6)), (0, .ref (am 0)), (1, .int p0), (2, .int ((600 : Int32) * p0)), (3, .int ((z_1.2.1 2) p0.toNatClampNeg))]) hx hb dX7_thinOut_152 hl (k := 5) rfl rfl (by decide) rfl (fun ls hl => ?_)
            refine lv_goto (tgt := 33) hx hb dX7_thinOut_155 (by decide) ?_
            exact ih (v4_6 + (-1 : Int32)) S_6 z h _ _ _ hP hD hS (lv_sub hl [2, 3, 4, 5, 0] rfl) kex
          · rw [if_neg c_13] at h
            refine lv_aload_n hx hb dX7_thinOut_71 rfl (lv_at hl 1 rfl) ?_
            refine va_get (D := D) (ci := 7) (v := .ref (am 3)) (C := RX7) (T := TX7) (N := 11) hx hb hts (by decide +kernel) hown hK hP (pre.length + 0) mg_0 rfl 2 (by decide) (hts (.fieldLink RX7 16 "QueueMiddlesModel" "marks" "[I") (by decide +kernel)) (fun _ h9 => h9) rfl dX7_thinOut_72 ?_
            refine lv_iload_n hx hb dX7_thinOut_75 rfl (lv_at hl 2 rfl) ?_
            refine lv_dup2_11 hx hb dX7_thinOut_76 rfl rfl ?_
            obtain ⟨g_14, h⟩ := qm_gd_some h
            refine va_iald hx hb hK hP (pre.length + 3) 0 mg_3 rfl g_14 dX7_thinOut_77 ?_
            refine lv_iconst (v := (1 : Int32)) hx hb dX7_thinOut_78 (by decide) ?_
            refine lv_isub hx hb dX7_thinOut_79 ?_
            obtain ⟨g_15, h⟩ := qm_gd_some h
            refine va_iast hx hb hK hP hD hS (pre.length + 3) 0 mg_3 rfl g_15 dX7_thinOut_80 (fun H locs hP hD hS => ?_)
            rw [ms_3 (upd (S_6.1 2) p0.toNatClampNeg (((S_6.1 2) p0.toNatClampNeg) - (1 : Int32)))] at hP hD
            refine lv_iload hx hb dX7_thinOut_81 (lv_at hl 0 rfl) ?_
            refine lv_istore (lv' := [(6, .int (((600 : Int32) * p0) + v4_6)), (5, .int (((600 : Int32) * p0) + v4_6)), (0, .ref (am 0)), (1, .int p0), (2, .int ((600 : Int32) * p0)), (3, .int ((z_1.2.1 2) p0.toNatClampNeg)), (4, .int v4_6)]) hx hb dX7_thinOut_83 hl (by decide) rfl (fun ls hl => ?_)
            have loop_17 : ∀ (fuel : Nat) (v6_16 : Int32) (S_16 : mm_M) (z : mm_M), fX7_thinOut_L85 p0 ((600 : Int32) * p0) ((z_1.2.1 2) p0.toNatClampNeg) v4_6 fuel v6_16 S_16 = some z → ∀ (H : Heap) (locs : List Loc) (ls : Array Slot), va_P D vwCl (mm_W pre am cI S_16) H → va_D A (mm_W pre am cI S_16) → va_S A s.heap H locs → lv_has ls 7 [(0, .ref (am 0)), (1, .int p0), (2, .int ((600 : Int32) * p0)), (3, .int ((z_1.2.1 2) p0.toNatClampNeg)), (4, .int v4_6), (6, .int v6_16)] → (∀ (H : Heap) (locs : List Loc) (ls : Array Slot), va_P D vwCl (mm_W pre am cI z) H → va_D A (mm_W pre am cI z) → va_S A s.heap H locs → lv_has ls 7 [(0, .ref (am 0)), (1, .int p0), (2, .int ((600 : Int32) * p0)), (3, .int ((z_1.2.1 2) p0.toNatClampNeg)), (4, .int v4_6)] → W p l e ({ frames := 3, cells := 0, slots := 0, locals := 63 } : Room) s m ([.ref (am 0), .int p0] : List Value).toArray below meth c H locs 0 0 QX (F0 m 152 ls [])) → W p l e ({ frames := 3, cells := 0, slots := 0, locals := 63 } : Room) s m ([.ref (am 0), .int p0] : List Value).toArray below meth c H locs 0 0 QX (F0 m 85 ls []) := by
              intro fuel
              induction fuel with
              | zero =>
                intro v6_16 S_16 z h
                rw [fX7_thinOut_L85] at h
                cases h
              | succ fuel ih =>
                intro v6_16 S_16 z h H locs ls hP hD hS hl kex
                rw [fX7_thinOut_L85] at h
                refine lv_iload hx hb dX7_thinOut_85 (lv_at hl 5 rfl) ?_
                refine lv_iload_n hx hb dX7_thinOut_87 rfl (lv_at hl 2 rfl) ?_
                refine lv_aload_n hx hb dX7_thinOut_88 rfl (lv_at hl 0 rfl) ?_
                refine va_get (D := D) (ci := 7) (v := .ref (am 3)) (C := RX7) (T := TX7) (N := 11) hx hb hts (by decide +kernel) hown hK hP (pre.length + 0) mg_0 rfl 2 (by decide) (hts (.fieldLink RX7 16 "QueueMiddlesModel" "marks" "[I") (by decide +kernel)) (fun _ h9 => h9) rfl dX7_thinOut_89 ?_
                refine lv_iload_n hx hb dX7_thinOut_92 rfl (lv_at hl 1 rfl) ?_
                obtain ⟨g_18, h⟩ := qm_gd_some h
                refine va_iald hx hb hK hP (pre.length + 3) 0 mg_3 rfl g_18 dX7_thinOut_93 ?_
                refine lv_iadd hx hb dX7_thinOut_94 ?_
                refine lv_icmp_ge (tgt := 152) hx hb dX7_thinOut_95 (by decide) (fun c_19 => ?_) (fun c_19 => ?_)
                · rw [if_pos c_19] at h
                  have h := Option.some.inj h
                  subst h
                  exact kex _ _ _ hP hD hS (lv_sub hl [0, 1, 2, 3, 4] rfl)
                · rw [if_neg c_19] at h
                  refine lv_aload_n hx hb dX7_thinOut_98 rfl (lv_at hl 0 rfl) ?_
                  refine va_get (D := D) (ci := 7) (v := .ref (am 5)) (C := RX7) (T := TX7) (N := 11) hx hb hts (by decide +kernel) hown hK hP (pre.length + 0) mg_0 rfl 4 (by decide) (hts (.fieldLink RX7 22 "QueueMiddlesModel" "value" "[I") (by decide +kernel)) (fun _ h9 => h9) rfl dX7_thinOut_99 ?_
                  refine lv_iload hx hb dX7_thinOut_102 (lv_at hl 5 rfl) ?_
                  refine lv_aload_n hx hb dX7_thinOut_104 rfl (lv_at hl 0 rfl) ?_
                  refine va_get (D := D) (ci := 7) (v := .ref (am 5)) (C := RX7) (T := TX7) (N := 11) hx hb hts (by decide +kernel) hown hK hP (pre.length + 0) mg_0 rfl 4 (by decide) (hts (.fieldLink RX7 22 "QueueMiddlesModel" "value" "[I") (by decide +kernel)) (fun _ h9 => h9) rfl dX7_thinOut_105 ?_
                  refine lv_iload hx hb dX7_thinOut_108 (lv_at hl 5 rfl) ?_
                  refine lv_iconst (v := (1 : Int32)) hx hb dX7_thinOut_110 (by decide) ?_
                  refine lv_iadd hx hb dX7_thinOut_111 ?_
                  obtain ⟨g_20, h⟩ := qm_gd_some h
                  refine va_iald hx hb hK hP (pre.length + 5) 0 mg_5 rfl g_20 dX7_thinOut_112 ?_
                  obtain ⟨g_21, h⟩ := qm_gd_some h
                  refine va_iast hx hb hK hP hD hS (pre.length + 5) 0 mg_5 rfl g_21 dX7_thinOut_113 (fun H locs hP hD hS => ?_)
                  rw [ms_5 (upd (S_16.1 4) v6_16.toNatClampNeg ((S_16.1 4) (v6_16 + (1 : Int32)).toNatClampNeg))] at hP hD
                  refine lv_aload_n hx hb dX7_thinOut_114 rfl (lv_at hl 0 rfl) ?_
                  refine va_get (D := D) (ci := 7) (v := .ref (am 6)) (C := RX7) (T := TX7) (N := 11) hx hb hts (by decide +kernel) hown hK hP (pre.length + 0) mg_0 rfl 5 (by decide) (hts (.fieldLink RX7 25 "QueueMiddlesModel" "lowest" "[I") (by decide +kernel)) (fun _ h9 => h9) rfl dX7_thinOut_115 ?_
                  refine lv_iload hx hb dX7_thinOut_118 (lv_at hl 5 rfl) ?_
                  refine lv_aload_n hx hb dX7_thinOut_120 rfl (lv_at hl 0 rfl) ?_
                  refine va_get (D := D) (ci := 7) (v := .ref (am 6)) (C := RX7) (T := TX7) (N := 11) hx hb hts (by decide +kernel) hown hK hP (pre.length + 0) mg_0 rfl 5 (by decide) (hts (.fieldLink RX7 25 "QueueMiddlesModel" "lowest" "[I") (by decide +kernel)) (fun _ h9 => h9) rfl dX7_thinOut_121 ?_
                  refine lv_iload hx hb dX7_thinOut_124 (lv_at hl 5 rfl) ?_
                  refine lv_iconst (v := (1 : Int32)) hx hb dX7_thinOut_126 (by decide) ?_
                  refine lv_iadd hx hb dX7_thinOut_127 ?_
                  obtain ⟨g_22, h⟩ := qm_gd_some h
                  refine va_iald hx hb hK hP (pre.length + 6) 0 mg_6 rfl g_22 dX7_thinOut_128 ?_
                  obtain ⟨g_23, h⟩ := qm_gd_some h
                  refine va_iast hx hb hK hP hD hS (pre.length + 6) 0 mg_6 rfl g_23 dX7_thinOut_129 (fun H locs hP hD hS => ?_)
                  rw [ms_6 (upd ((mm_up S_16 4 (upd (S_16.1 4) v6_16.toNatClampNeg ((S_16.1 4) (v6_16 + (1 : Int32)).toNatClampNeg))).1 5) v6_16.toNatClampNeg (((mm_up S_16 4 (upd (S_16.1 4) v6_16.toNatClampNeg ((S_16.1 4) (v6_16 + (1 : Int32)).toNatClampNeg))).1 5) (v6_16 + (1 : Int32)).toNatClampNeg))] at hP hD
                  refine lv_aload_n hx hb dX7_thinOut_130 rfl (lv_at hl 0 rfl) ?_
                  refine va_get (D := D) (ci := 7) (v := .ref (am 7)) (C := RX7) (T := TX7) (N := 11) hx hb hts (by decide +kernel) hown hK hP (pre.length + 0) mg_0 rfl 6 (by decide) (hts (.fieldLink RX7 28 "QueueMiddlesModel" "highest" "[I") (by decide +kernel)) (fun _ h9 => h9) rfl dX7_thinOut_131 ?_
                  refine lv_iload hx hb dX7_thinOut_134 (lv_at hl 5 rfl) ?_
                  refine lv_aload_n hx hb dX7_thinOut_136 rfl (lv_at hl 0 rfl) ?_
                  refine va_get (D := D) (ci := 7) (v := .ref (am 7)) (C := RX7) (T := TX7) (N := 11) hx hb hts (by decide +kernel) hown hK hP (pre.length + 0) mg_0 rfl 6 (by decide) (hts (.fieldLink RX7 28 "QueueMiddlesModel" "highest" "[I") (by decide +kernel)) (fun _ h9 => h9) rfl dX7_thinOut_137 ?_
                  refine lv_iload hx hb dX7_thinOut_140 (lv_at hl 5 rfl) ?_
                  refine lv_iconst (v := (1 : Int32)) hx hb dX7_thinOut_142 (by decide) ?_
                  refine lv_iadd hx hb dX7_thinOut_143 ?_
                  obtain ⟨g_24, h⟩ := qm_gd_some h
                  refine va_iald hx hb hK hP (pre.length + 7) 0 mg_7 rfl g_24 dX7_thinOut_144 ?_
                  obtain ⟨g_25, h⟩ := qm_gd_some h
                  refine va_iast hx hb hK hP hD hS (pre.length + 7) 0 mg_7 rfl g_25 dX7_thinOut_145 (fun H locs hP hD hS => ?_)
                  rw [ms_7 (upd ((mm_up (mm_up S_16 4 (upd (S_16.1 4) v6_16.toNatClampNeg ((S_16.1 4) (v6_16 + (1 : Int32)).toNatClampNeg))) 5 (upd ((mm_up S_16 4 (upd (S_16.1 4) v6_16.toNatClampNeg ((S_16.1 4) (v6_16 + (1 : Int32)).toNatClampNeg))).1 5) v6_16.toNatClampNeg (((mm_up S_16 4 (upd (S_16.1 4) v6_16.toNatClampNeg ((S_16.1 4) (v6_16 + (1 : Int32)).toNatClampNeg))).1 5) (v6_16 + (1 : Int32)).toNatClampNeg))).1 6) v6_16.toNatClampNeg (((mm_up (mm_up S_16 4 (upd (S_16.1 4) v6_16.toNatClampNeg ((S_16.1 4) (v6_16 + (1 : Int32)).toNatClampNeg))) 5 (upd ((mm_up S_16 4 (upd (S_16.1 4) v6_16.toNatClampNeg ((S_16.1 4) (v6_16 + (1 : Int32)).toNatClampNeg))).1 5) v6_16.toNatClampNeg (((mm_up S_16 4 (upd (S_16.1 4) v6_16.toNatClampNeg ((S_16.1 4) (v6_16 + (1 : Int32)).toNatClampNeg))).1 5) (v6_16 + (1 : Int32)).toNatClampNeg))).1 6) (v6_16 + (1 : Int32)).toNatClampNeg))] at hP hD
                  refine lv_iinc (v := v6_16 + (1 : Int32)) (lv' := [(6, .int (v6_16 + (1 : Int32))), (0, .ref (am 0)), (1, .int p0), (2, .int ((600 : Int32) * p0)), (3, .int ((z_1.2.1 2) p0.toNatClampNeg)), (4, .int v4_6)]) hx hb dX7_thinOut_146 hl (k := 5) rfl rfl (by decide) rfl (fun ls hl => ?_)
                  refine lv_goto (tgt := 85) hx hb dX7_thinOut_149 (by decide) ?_
                  exact ih (v6_16 + (1 : Int32)) (mm_up (mm_up (mm_up S_16 4 (upd (S_16.1 4) v6_16.toNatClampNeg ((S_16.1 4) (v6_16 + (1 : Int32)).toNatClampNeg))) 5 (upd ((mm_up S_16 4 (upd (S_16.1 4) v6_16.toNatClampNeg ((S_16.1 4) (v6_16 + (1 : Int32)).toNatClampNeg))).1 5) v6_16.toNatClampNeg (((mm_up S_16 4 (upd (S_16.1 4) v6_16.toNatClampNeg ((S_16.1 4) (v6_16 + (1 : Int32)).toNatClampNeg))).1 5) (v6_16 + (1 : Int32)).toNatClampNeg))) 6 (upd ((mm_up (mm_up S_16 4 (upd (S_16.1 4) v6_16.toNatClampNeg ((S_16.1 4) (v6_16 + (1 : Int32)).toNatClampNeg))) 5 (upd ((mm_up S_16 4 (upd (S_16.1 4) v6_16.toNatClampNeg ((S_16.1 4) (v6_16 + (1 : Int32)).toNatClampNeg))).1 5) v6_16.toNatClampNeg (((mm_up S_16 4 (upd (S_16.1 4) v6_16.toNatClampNeg ((S_16.1 4) (v6_16 + (1 : Int32)).toNatClampNeg))).1 5) (v6_16 + (1 : Int32)).toNatClampNeg))).1 6) v6_16.toNatClampNeg (((mm_up (mm_up S_16 4 (upd (S_16.1 4) v6_16.toNatClampNeg ((S_16.1 4) (v6_16 + (1 : Int32)).toNatClampNeg))) 5 (upd ((mm_up S_16 4 (upd (S_16.1 4) v6_16.toNatClampNeg ((S_16.1 4) (v6_16 + (1 : Int32)).toNatClampNeg))).1 5) v6_16.toNatClampNeg (((mm_up S_16 4 (upd (S_16.1 4) v6_16.toNatClampNeg ((S_16.1 4) (v6_16 + (1 : Int32)).toNatClampNeg))).1 5) (v6_16 + (1 : Int32)).toNatClampNeg))).1 6) (v6_16 + (1 : Int32)).toNatClampNeg))) z h _ _ _ hP hD hS (lv_sub hl [1, 2, 3, 4, 5, 0] rfl) kex
            obtain ⟨z_26, hz_27, h⟩ := qm_bind h
            refine loop_17 qm_F (((600 : Int32) * p0) + v4_6) (mm_up S_6 2 (upd (S_6.1 2) p0.toNatClampNeg (((S_6.1 2) p0.toNatClampNeg) - (1 : Int32)))) z_26 hz_27 _ _ _ hP hD hS (lv_sub hl [2, 3, 4, 5, 6, 0] rfl) (fun H locs ls hP hD hS hl => ?_)
            refine lv_iinc (v := v4_6 + (-1 : Int32)) (lv' := [(4, .int (v4_6 + (-1 : Int32))), (0, .ref (am 0)), (1, .int p0), (2, .int ((600 : Int32) * p0)), (3, .int ((z_1.2.1 2) p0.toNatClampNeg))]) hx hb dX7_thinOut_152 hl (k := 4) rfl rfl (by decide) rfl (fun ls hl => ?_)
            refine lv_goto (tgt := 33) hx hb dX7_thinOut_155 (by decide) ?_
            exact ih (v4_6 + (-1 : Int32)) z_26 z h _ _ _ hP hD hS (lv_sub hl [1, 2, 3, 4, 0] rfl) kex
    obtain ⟨z_28, hz_29, h⟩ := qm_bind h
    refine loop_7 qm_F (((z_1.2.1 2) p0.toNatClampNeg) - (2 : Int32)) z_1.2 z_28 hz_29 _ _ _ hP hD hS (lv_sub hl [3, 4, 2, 1, 0] rfl) (fun H locs ls hP hD hS hl => ?_)
    refine lv_iload_n hx hb dX7_thinOut_158 rfl (lv_at hl 2 rfl) ?_
    refine lv_aload_n hx hb dX7_thinOut_159 rfl (lv_at hl 0 rfl) ?_
    refine va_get (D := D) (ci := 7) (v := .ref (am 3)) (C := RX7) (T := TX7) (N := 11) hx hb hts (by decide +kernel) hown hK hP (pre.length + 0) mg_0 rfl 2 (by decide) (hts (.fieldLink RX7 16 "QueueMiddlesModel" "marks" "[I") (by decide +kernel)) (fun _ h9 => h9) rfl dX7_thinOut_160 ?_
    refine lv_iload_n hx hb dX7_thinOut_163 rfl (lv_at hl 1 rfl) ?_
    obtain ⟨g_30, h⟩ := qm_gd_some h
    refine va_iald hx hb hK hP (pre.length + 3) 0 mg_3 rfl g_30 dX7_thinOut_164 ?_
    refine lv_isub hx hb dX7_thinOut_165 ?_
    have h := Option.some.inj h
    subst h
    rw [hQX]
    exact W.iret (v := ((z_1.2.1 2) p0.toNatClampNeg) - ((z_28.1 2) p0.toNatClampNeg)) hx hb hr (fun t ht hW => ⟨⟨((z_1.2.1 2) p0.toNatClampNeg) - ((z_28.1 2) p0.toNatClampNeg), z_28, rfl, ⟨rfl, rfl⟩, qm_en ht hP hD⟩, hS.F ht⟩) hS.2.2 dX7_thinOut_166
  · rw [if_pos c_3] at h
    refine lv_iconst (v := (0 : Int32)) hx hb dX7_thinOut_8 (by decide) ?_
    have h := Option.some.inj h
    subst h
    rw [hQX]
    exact W.iret (v := (0 : Int32)) hx hb hr (fun t ht hW => ⟨⟨(0 : Int32), z_1.2, rfl, ⟨rfl, rfl⟩, qm_en ht hP hD⟩, hS.F ht⟩) hS.2.2 dX7_thinOut_9
