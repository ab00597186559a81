noncomputable def fL_areMarksSo_L67 (x1 : Int32) (x2 : Int32) (x3 : Int32) : Nat → Int32 → Int32 → qm_S → Option (Int32)
  | 0, _, _, _ => none
  | fuel + 1, v5, v6, S =>
    (if x2 ≤ v6 then some v5 else Option.bind (fX6_value S x1 v6) (fun z_13 => Option.bind (fX6_lowestRank S x1 v6) (fun z_15 => Option.bind (fX6_highestRank S x1 v6) (fun z_17 => (if v6 = 0 then (if z_15 ≤ (0 : Int32) then none else (if z_17 < z_15 then none else Option.bind (fX6_reallyUpTo S x1 z_13) (fun z_57 => (if z_57 < z_15 then none else Option.bind (fX6_reallyUpTo S x1 (z_13 - (1 : Int32))) (fun z_60 => (if z_17 ≤ z_60 then none else (if 0 < v6 then (if v6 < (x2 - (1 : Int32)) then (if (z_17 - (0 : Int32)) ≤ v5 then fL_areMarksSo_L67 x1 x2 x3 fuel v5 (v6 + (1 : Int32)) S else fL_areMarksSo_L67 x1 x2 x3 fuel (z_17 - (0 : Int32)) (v6 + (1 : Int32)) S) else (if z_15 = x3 then (if z_17 = x3 then Option.bind (fX6_reallyUpTo S x1 z_13) (fun z_68 => (if z_68 = x3 then (if (z_17 - (0 : Int32)) ≤ v5 then fL_areMarksSo_L67 x1 x2 x3 fuel v5 (v6 + (1 : Int32)) S else fL_areMarksSo_L67 x1 x2 x3 fuel (z_17 - (0 : Int32)) (v6 + (1 : Int32)) S) else none)) else none) else none)) else (if z_15 = (1 : Int32) then (if z_17 = (1 : Int32) then Option.bind (fX6_reallyUpTo S x1 (z_13 - (1 : Int32))) (fun z_74 => (if z_74 = 0 then (if v6 < (x2 - (1 : Int32)) then (if (z_17 - (0 : Int32)) ≤ v5 then fL_areMarksSo_L67 x1 x2 x3 fuel v5 (v6 + (1 : Int32)) S else fL_areMarksSo_L67 x1 x2 x3 fuel (z_17 - (0 : Int32)) (v6 + (1 : Int32)) S) else (if z_15 = x3 then (if z_17 = x3 then Option.bind (fX6_reallyUpTo S x1 z_13) (fun z_81 => (if z_81 = x3 then (if (z_17 - (0 : Int32)) ≤ v5 then fL_areMarksSo_L67 x1 x2 x3 fuel v5 (v6 + (1 : Int32)) S else fL_areMarksSo_L67 x1 x2 x3 fuel (z_17 - (0 : Int32)) (v6 + (1 : Int32)) S) else none)) else none) else none)) else none)) else none) else none)))))))) else Option.bind (fX6_lowestRank S x1 (v6 - (1 : Int32))) (fun z_20 => (if z_15 ≤ z_20 then none else (if z_17 < z_15 then none else Option.bind (fX6_value S x1 (v6 - (1 : Int32))) (fun z_24 => (if z_13 < z_24 then none else Option.bind (fX6_reallyUpTo S x1 z_13) (fun z_27 => (if z_27 < z_15 then none else Option.bind (fX6_reallyUpTo S x1 (z_13 - (1 : Int32))) (fun z_30 => (if z_17 ≤ z_30 then none else (if 0 < v6 then (if v6 < (x2 - (1 : Int32)) then (if (z_17 - z_20) ≤ v5 then fL_areMarksSo_L67 x1 x2 x3 fuel v5 (v6 + (1 : Int32)) S else fL_areMarksSo_L67 x1 x2 x3 fuel (z_17 - z_20) (v6 + (1 : Int32)) S) else (if z_15 = x3 then (if z_17 = x3 then Option.bind (fX6_reallyUpTo S x1 z_13) (fun z_38 => (if z_38 = x3 then (if (z_17 - z_20) ≤ v5 then fL_areMarksSo_L67 x1 x2 x3 fuel v5 (v6 + (1 : Int32)) S else fL_areMarksSo_L67 x1 x2 x3 fuel (z_17 - z_20) (v6 + (1 : Int32)) S) else none)) else none) else none)) else (if z_15 = (1 : Int32) then (if z_17 = (1 : Int32) then Option.bind (fX6_reallyUpTo S x1 (z_13 - (1 : Int32))) (fun z_44 => (if z_44 = 0 then (if v6 < (x2 - (1 : Int32)) then (if (z_17 - z_20) ≤ v5 then fL_areMarksSo_L67 x1 x2 x3 fuel v5 (v6 + (1 : Int32)) S else fL_areMarksSo_L67 x1 x2 x3 fuel (z_17 - z_20) (v6 + (1 : Int32)) S) else (if z_15 = x3 then (if z_17 = x3 then Option.bind (fX6_reallyUpTo S x1 z_13) (fun z_51 => (if z_51 = x3 then (if (z_17 - z_20) ≤ v5 then fL_areMarksSo_L67 x1 x2 x3 fuel v5 (v6 + (1 : Int32)) S else fL_areMarksSo_L67 x1 x2 x3 fuel (z_17 - z_20) (v6 + (1 : Int32)) S) else none)) else none) else none)) else none)) else none) else none))))))))))))))))
noncomputable def fL_areMarksSo (S : qm_S) (p0 : Int32) : Option (Int32) :=
  Option.bind (fX6_marks S p0) (fun z_1 => Option.bind (fX6_count S p0) (fun z_3 => (if z_1 = 0 then (if z_3 = 0 then Option.bind (fX6_allowance S p0) (fun z_115 => Option.bind (fX6_bound S p0) (fun z_117 => (if z_115 = ((((2 : Int32) * z_117) * z_3) / (1000 : Int32)) then Option.bind (fL_areMarksSo_L67 p0 z_1 z_3 qm_F (0 : Int32) (0 : Int32) S) (fun z_195 => Option.bind (fX6_allowance S p0) (fun z_197 => (if z_197 ≤ (1 : Int32) then Option.bind (fX6_widest S p0) (fun z_200 => (if z_200 = z_195 then (if z_195 ≤ (1 : Int32) then Option.bind (fX6_part S p0) (fun z_204 => (if (Op.cmpValue (FP.dcmp z_204 FP.dconst0) .l) = 0 then some (1 : Int32) else none)) else Option.bind (fX6_part S p0) (fun z_207 => (if (Op.cmpValue (FP.dcmp z_207 FP.dconst0) .l) = 0 then some (1 : Int32) else none))) else none)) else Option.bind (fX6_allowance S p0) (fun z_210 => Option.bind (fX6_widest S p0) (fun z_212 => (if z_212 = z_195 then (if z_195 ≤ z_210 then Option.bind (fX6_part S p0) (fun z_216 => (if (Op.cmpValue (FP.dcmp z_216 FP.dconst0) .l) = 0 then some (1 : Int32) else none)) else Option.bind (fX6_part S p0) (fun z_219 => (if (Op.cmpValue (FP.dcmp z_219 FP.dconst0) .l) = 0 then some (1 : Int32) else none))) else none)))))) else none))) else none) else (if z_3 = 0 then none else Option.bind (fX6_allowance S p0) (fun z_7 => Option.bind (fX6_bound S p0) (fun z_9 => (if z_7 = ((((2 : Int32) * z_9) * z_3) / (1000 : Int32)) then Option.bind (fL_areMarksSo_L67 p0 z_1 z_3 qm_F (0 : Int32) (0 : Int32) S) (fun z_87 => Option.bind (fX6_allowance S p0) (fun z_89 => (if z_89 ≤ (1 : Int32) then Option.bind (fX6_widest S p0) (fun z_92 => (if z_92 = z_87 then (if z_87 ≤ (1 : Int32) then Option.bind (fX6_part S p0) (fun z_96 => (if (Op.cmpValue (FP.dcmp z_96 FP.dconst0) .l) ≤ 0 then none else Option.bind (fX6_part S p0) (fun z_99 => (if 0 < (Op.cmpValue (FP.dcmp z_99 FP.dconst1) .g) then none else some (1 : Int32))))) else none) else none)) else Option.bind (fX6_allowance S p0) (fun z_102 => Option.bind (fX6_widest S p0) (fun z_104 => (if z_104 = z_87 then (if z_87 ≤ z_102 then Option.bind (fX6_part S p0) (fun z_108 => (if (Op.cmpValue (FP.dcmp z_108 FP.dconst0) .l) ≤ 0 then none else Option.bind (fX6_part S p0) (fun z_111 => (if 0 < (Op.cmpValue (FP.dcmp z_111 FP.dconst1) .g) then none else some (1 : Int32))))) else none) else none)))))) else none)))))))
set_option maxHeartbeats 4000000 in
set_option maxRecDepth 100000 in
theorem kL_areMarksSo (l : Launch) (D : va_G) (A : Nat → Prop) (ad : Nat → Nat) (cI cQ : ClassId) (rest : va_W) (S : qm_S) (p0 : Int32) (z : Int32) (h : fL_areMarksSo S p0 = some z) : Met l yL_areMarksSo wsL_areMarksSo ({ frames := 6, cells := 0, slots := 0, locals := 129 }) (va_Pc [.ref (ad 0), .int p0] (qn_B D A (qm_T cI cQ) (qm_W ad cI cQ rest S))) (qm_Qi D A (qm_W ad cI cQ rest) (z, S)) 0 0 A := by
  refine Met.ofW (cc := cL_areMarksSo) (maxL := 11) (ret := (some .boolean)) (by decide) rfl ?_
  intro p e s m args below meth c s₁ B hml hv
  obtain ⟨rfl, ⟨hA, hP, hK, hD⟩, hZ⟩ := hv
  have hx := B.exec
  have hb := B.bytes
  have hr := B.returns
  have hts := atoms_spec (ws := wsL_areMarksSo) B.pre
  have hown : s.vm.findClass RL = some m.cls := findClass_of_methodNamed B.named
  have hlocks := B.notSynchronized
  have hS : va_S A s.heap s.heap [] := va_S.rf
  have hl := lv_entry ([.ref (ad 0), .int p0]) (n := 11) (Nat.le_of_ble_eq_true rfl)
  rw [lg_entry_eq]
  generalize (lg_sl ([.ref (ad 0), .int p0]) ++ List.replicate (11 - (lg_sl ([.ref (ad 0), .int p0])).length) Slot.unset).toArray = ls at hl ⊢
  have hl : lv_has ls 11 [(0, .ref (ad 0)), (1, .int p0)] := hl
  obtain ⟨QX, hQX⟩ : ∃ q, q = MQ below (qm_Qi D A (qm_W ad cI cQ rest) (z, S)) ([.ref (ad 0), .int p0] : List Value).toArray s 0 0 A := ⟨_, rfl⟩
  rw [← hQX]
  rw [fL_areMarksSo] at h
  refine lv_aload_n hx hb dL_areMarksSo_0 rfl (lv_at hl 0 rfl) ?_
  refine lv_iload_n hx hb dL_areMarksSo_1 rfl (lv_at hl 1 rfl) ?_
  obtain ⟨z_1, hz_2, h⟩ := qm_bind h
  refine va_calli (va_runV (As := [.int p0]) (rest := []) ⟨hx, hb, hml, hown, hts⟩ (kX6_marks l D A ad cI cQ rest S p0 z_1 hz_2) (cwV 1 hts gL_areMarksSo_X6_marks rfl rfl rfl (by decide +kernel) ⟨Nat.le_of_ble_eq_true rfl, Nat.le_of_ble_eq_true rfl⟩) ⟨qn_blind, va_recv hK hP (ci := 6) (q0 := 0) rfl qg_Q, fun U hU hW => ⟨rfl, qm_go hA hS hP hK hD hU hW, qn_go hZ hW⟩⟩ rfl rfl hl.1 rfl (lv_room (Nat.le_of_ble_eq_true rfl)) dL_areMarksSo_2 ⟨Nat.le_of_ble_eq_true rfl, Nat.le_of_ble_eq_true rfl⟩) hS (fun _ _ h9 => h9) (fun _ h9 => h9) (fun v u t H1 locs1 ht hvm hw hB hz1 hk1 hS => ?_)
  obtain ⟨hw1, hw2⟩ := hw
  have hw2 : S = u := hw2.symm
  have hw1 : z_1 = v := hw1.symm
  subst hw1
  subst hw2
  obtain ⟨hP, hD⟩ := qm_bk ht hB
  clear hB
  refine lv_istore_n (lv' := [(2, .int z_1), (0, .ref (ad 0)), (1, .int p0)]) hx hb dL_areMarksSo_5 rfl hl (by decide) rfl (fun ls hl => ?_)
  refine lv_aload_n hx hb dL_areMarksSo_6 rfl (lv_at hl 1 rfl) ?_
  refine lv_iload_n hx hb dL_areMarksSo_7 rfl (lv_at hl 2 rfl) ?_
  obtain ⟨z_3, hz_4, h⟩ := qm_bind h
  refine va_calli (va_runV (As := [.int p0]) (rest := []) ⟨hx, hb, hml, hown, hts⟩ (kX6_count l D A ad cI cQ rest S p0 z_3 hz_4) (cwV 1 hts gL_areMarksSo_X6_count rfl rfl rfl (by decide +kernel) ⟨Nat.le_of_ble_eq_true rfl, Nat.le_of_ble_eq_true rfl⟩) ⟨qn_blind, va_recv hK hP (ci := 6) (q0 := 0) rfl qg_Q, fun U hU hW => ⟨rfl, qm_go hA hS hP hK hD hU hW, qn_go hZ hW⟩⟩ rfl rfl hl.1 rfl (lv_room (Nat.le_of_ble_eq_true rfl)) dL_areMarksSo_8 ⟨Nat.le_of_ble_eq_true rfl, Nat.le_of_ble_eq_true rfl⟩) hS (fun _ _ h9 => h9) (fun _ h9 => h9) (fun v u t H1 locs1 ht hvm hw hB hz1 hk1 hS => ?_)
  obtain ⟨hw1, hw2⟩ := hw
  have hw2 : S = u := hw2.symm
  have hw1 : z_3 = v := hw1.symm
  subst hw1
  subst hw2
  obtain ⟨hP, hD⟩ := qm_bk ht hB
  clear hB
  refine lv_istore_n (lv' := [(3, .int z_3), (2, .int z_1), (0, .ref (ad 0)), (1, .int p0)]) hx hb dL_areMarksSo_11 rfl hl (by decide) rfl (fun ls hl => ?_)
  refine lv_iload_n hx hb dL_areMarksSo_12 rfl (lv_at hl 1 rfl) ?_
  refine lv_if_ne (tgt := 20) hx hb dL_areMarksSo_13 (by decide) (fun c_5 => ?_) (fun c_5 => ?_)
  · rw [if_neg c_5] at h
    refine lv_iconst (v := (0 : Int32)) hx hb dL_areMarksSo_20 (by decide) ?_
    refine lv_iload_n hx hb dL_areMarksSo_21 rfl (lv_at hl 0 rfl) ?_
    refine lv_if_ne (tgt := 29) hx hb dL_areMarksSo_22 (by decide) (fun c_6 => ?_) (fun c_6 => ?_)
    · rw [if_neg c_6] at h
      refine lv_iconst (v := (0 : Int32)) hx hb dL_areMarksSo_29 (by decide) ?_
      refine lv_icmp_ne (tgt := 58) hx hb dL_areMarksSo_30 (by decide) (fun c => absurd (by decide) c) (fun _ => ?_)
      refine lv_aload_n hx hb dL_areMarksSo_33 rfl (lv_at hl 2 rfl) ?_
      refine lv_iload_n hx hb dL_areMarksSo_34 rfl (lv_at hl 3 rfl) ?_
      obtain ⟨z_7, hz_8, h⟩ := qm_bind h
      refine va_calli (va_runV (As := [.int p0]) (rest := []) ⟨hx, hb, hml, hown, hts⟩ (kX6_allowance l D A ad cI cQ rest S p0 z_7 hz_8) (cwV 1 hts gL_areMarksSo_X6_allowance rfl rfl rfl (by decide +kernel) ⟨Nat.le_of_ble_eq_true rfl, Nat.le_of_ble_eq_true rfl⟩) ⟨qn_blind, va_recv hK hP (ci := 6) (q0 := 0) rfl qg_Q, fun U hU hW => ⟨rfl, qm_go hA hS hP hK hD hU hW, qn_go hZ hW⟩⟩ rfl rfl hl.1 rfl (lv_room (Nat.le_of_ble_eq_true rfl)) dL_areMarksSo_35 ⟨Nat.le_of_ble_eq_true rfl, Nat.le_of_ble_eq_true rfl⟩) hS (fun _ _ h9 => h9) (fun _ h9 => h9) (fun v u t H1 locs1 ht hvm hw hB hz1 hk1 hS => ?_)
      obtain ⟨hw1, hw2⟩ := hw
      have hw2 : S = u := hw2.symm
      have hw1 : z_7 = v := hw1.symm
      subst hw1
      subst hw2
      obtain ⟨hP, hD⟩ := qm_bk ht hB
      clear hB
      refine lv_iconst (v := (2 : Int32)) hx hb dL_areMarksSo_38 (by decide) ?_
      refine lv_aload_n hx hb dL_areMarksSo_39 rfl (lv_at hl 2 rfl) ?_
      refine lv_iload_n hx hb dL_areMarksSo_40 rfl (lv_at hl 3 rfl) ?_
      obtain ⟨z_9, hz_10, h⟩ := qm_bind h
      refine va_calli (va_runV (As := [.int p0]) (rest := [.int (2 : Int32), .int z_7]) ⟨hx, hb, hml, hown, hts⟩ (kX6_bound l D A ad cI cQ rest S p0 z_9 hz_10) (cwV 1 hts gL_areMarksSo_X6_bound rfl rfl rfl (by decide +kernel) ⟨Nat.le_of_ble_eq_true rfl, Nat.le_of_ble_eq_true rfl⟩) ⟨qn_blind, va_recv hK hP (ci := 6) (q0 := 0) rfl qg_Q, fun U hU hW => ⟨rfl, qm_go hA hS hP hK hD hU hW, qn_go hZ hW⟩⟩ rfl rfl hl.1 rfl (lv_room (Nat.le_of_ble_eq_true rfl)) dL_areMarksSo_41 ⟨Nat.le_of_ble_eq_true rfl, Nat.le_of_ble_eq_true rfl⟩) hS (fun _ _ h9 => h9) (fun _ h9 => h9) (fun v u t H1 locs1 ht hvm hw hB hz1 hk1 hS => ?_)
      obtain ⟨hw1, hw2⟩ := hw
      have hw2 : S = u := hw2.symm
      have hw1 : z_9 = v := hw1.symm
      subst hw1
      subst hw2
      obtain ⟨hP, hD⟩ := qm_bk ht hB
      clear hB
      refine lv_imul hx hb dL_areMarksSo_44 ?_
      refine lv_iload_n hx hb dL_areMarksSo_45 rfl (lv_at hl 0 rfl) ?_
      refine lv_imul hx hb dL_areMarksSo_46 ?_
      refine lv_sipush (v := (1000 : Int32)) hx hb dL_areMarksSo_47 (by decide) ?_
      refine lv_idiv hx hb dL_areMarksSo_50 (by decide) ?_
      refine lv_icmp_ne (tgt := 58) hx hb dL_areMarksSo_51 (by decide) (fun c_11 => ?_) (fun c_11 => ?_)
      · rw [if_neg c_11] at h
        cases h
      · rw [if_pos c_11] at h
        refine lv_iconst (v := (1 : Int32)) hx hb dL_areMarksSo_54 (by decide) ?_
        refine lv_goto (tgt := 59) hx hb dL_areMarksSo_55 (by decide) ?_
        refine lv_istore (lv' := [(4, .int (1 : Int32)), (3, .int z_3), (2, .int z_1), (0, .ref (ad 0)), (1, .int p0)]) hx hb dL_areMarksSo_59 hl (by decide) rfl (fun ls hl => ?_)
        refine lv_iconst (v := (0 : Int32)) hx hb dL_areMarksSo_61 (by decide) ?_
        refine lv_istore (lv' := [(5, .int (0 : Int32)), (4, .int (1 : Int32)), (3, .int z_3), (2, .int z_1), (0, .ref (ad 0)), (1, .int p0)]) hx hb dL_areMarksSo_62 hl (by decide) rfl (fun ls hl => ?_)
        refine lv_iconst (v := (0 : Int32)) hx hb dL_areMarksSo_64 (by decide) ?_
        refine lv_istore (lv' := [(6, .int (0 : Int32)), (5, .int (0 : Int32)), (4, .int (1 : Int32)), (3, .int z_3), (2, .int z_1), (0, .ref (ad 0)), (1, .int p0)]) hx hb dL_areMarksSo_65 hl (by decide) rfl (fun ls hl => ?_)
        have loop_13 : ∀ (fuel : Nat) (v5_12 v6_12 : Int32) (z : Int32), fL_areMarksSo_L67 p0 z_1 z_3 fuel v5_12 v6_12 S = some z → ∀ (H : Heap) (locs : List Loc) (ls : Array Slot), va_P D vwCl (qm_W ad cI cQ rest S) H → va_D A (qm_W ad cI cQ rest S) → va_S A s.heap H locs → lv_has ls 11 [(0, .ref (ad 0)), (1, .int p0), (2, .int z_1), (3, .int z_3), (4, .int (1 : Int32)), (5, .int v5_12), (6, .int v6_12)] → (∀ (H : Heap) (locs : List Loc) (ls : Array Slot), va_P D vwCl (qm_W ad cI cQ rest S) H → va_D A (qm_W ad cI cQ rest S) → va_S A s.heap H locs → lv_has ls 11 [(0, .ref (ad 0)), (1, .int p0), (2, .int z_1), (3, .int z_3), (4, .int (1 : Int32)), (5, .int z)] → W p l e ({ frames := 6, cells := 0, slots := 0, locals := 129 } : Room) s m ([.ref (ad 0), .int p0] : List Value).toArray below meth c H locs 0 0 QX (F0 m 291 ls [])) → W p l e ({ frames := 6, cells := 0, slots := 0, locals := 129 } : Room) s m ([.ref (ad 0), .int p0] : List Value).toArray below meth c H locs 0 0 QX (F0 m 67 ls []) := by
          intro fuel
          induction fuel with
          | zero =>
            intro v5_12 v6_12 z h
            rw [fL_areMarksSo_L67] at h
            cases h
          | succ fuel ih =>
            intro v5_12 v6_12 z h H locs ls hP hD hS hl kex
            rw [fL_areMarksSo_L67] at h
            refine lv_iload hx hb dL_areMarksSo_67 (lv_at hl 6 rfl) ?_
            refine lv_iload_n hx hb dL_areMarksSo_69 rfl (lv_at hl 2 rfl) ?_
            refine lv_icmp_ge (tgt := 291) hx hb dL_areMarksSo_70 (by decide) (fun c_14 => ?_) (fun c_14 => ?_)
            · rw [if_pos c_14] at h
              have h := Option.some.inj h
              subst h
              exact kex _ _ _ hP hD hS (lv_sub hl [0, 1, 2, 3, 4, 5] rfl)
            · rw [if_neg c_14] at h
              refine lv_iload hx hb dL_areMarksSo_73 (lv_at hl 4 rfl) ?_
              refine lv_if_eq (tgt := 291) hx hb dL_areMarksSo_75 (by decide) (fun c => absurd c (by decide)) (fun _ => ?_)
              refine lv_aload_n hx hb dL_areMarksSo_78 rfl (lv_at hl 0 rfl) ?_
              refine lv_iload_n hx hb dL_areMarksSo_79 rfl (lv_at hl 1 rfl) ?_
              refine lv_iload hx hb dL_areMarksSo_80 (lv_at hl 6 rfl) ?_
              obtain ⟨z_15, hz_16, h⟩ := qm_bind h
              refine va_calli (va_runV (As := [.int p0, .int v6_12]) (rest := []) ⟨hx, hb, hml, hown, hts⟩ (kX6_value l D A ad cI cQ rest S p0 v6_12 z_15 hz_16) (cwV 2 hts gL_areMarksSo_X6_value rfl rfl rfl (by decide +kernel) ⟨Nat.le_of_ble_eq_true rfl, Nat.le_of_ble_eq_true rfl⟩) ⟨qn_blind, va_recv hK hP (ci := 6) (q0 := 0) rfl qg_Q, fun U hU hW => ⟨rfl, qm_go hA hS hP hK hD hU hW, qn_go hZ hW⟩⟩ rfl rfl hl.1 rfl (lv_room (Nat.le_of_ble_eq_true rfl)) dL_areMarksSo_82 ⟨Nat.le_of_ble_eq_true rfl, Nat.le_of_ble_eq_true rfl⟩) hS (fun _ _ h9 => h9) (fun _ h9 => h9) (fun v u t H1 locs1 ht hvm hw hB hz1 hk1 hS => ?_)
              obtain ⟨hw1, hw2⟩ := hw
              have hw2 : S = u := hw2.symm
              have hw1 : z_15 = v := hw1.symm
              subst hw1
              subst hw2
              obtain ⟨hP, hD⟩ := qm_bk ht hB
              clear hB
              refine lv_istore (lv' := [(7, .int z_15), (0, .ref (ad 0)), (1, .int p0), (2, .int z_1), (3, .int z_3), (4, .int (1 : Int32)), (5, .int v5_12), (6, .int v6_12)]) hx hb dL_areMarksSo_85 hl (by decide) rfl (fun ls hl => ?_)
              refine lv_aload_n hx hb dL_areMarksSo_87 rfl (lv_at hl 1 rfl) ?_
              refine lv_iload_n hx hb dL_areMarksSo_88 rfl (lv_at hl 2 rfl) ?_
              refine lv_iload hx hb dL_areMarksSo_89 (lv_at hl 7 rfl) ?_
              obtain ⟨z_17, hz_18, h⟩ := qm_bind h
              refine va_calli (va_runV (As := [.int p0, .int v6_12]) (rest := []) ⟨hx, hb, hml, hown, hts⟩ (kX6_lowestRank l D A ad cI cQ rest S p0 v6_12 z_17 hz_18) (cwV 2 hts gL_areMarksSo_X6_lowestRank rfl rfl rfl (by decide +kernel) ⟨Nat.le_of_ble_eq_true rfl, Nat.le_of_ble_eq_true rfl⟩) ⟨qn_blind, va_recv hK hP (ci := 6) (q0 := 0) rfl qg_Q, fun U hU hW => ⟨rfl, qm_go hA hS hP hK hD hU hW, qn_go hZ hW⟩⟩ rfl rfl hl.1 rfl (lv_room (Nat.le_of_ble_eq_true rfl)) dL_areMarksSo_91 ⟨Nat.le_of_ble_eq_true rfl, Nat.le_of_ble_eq_true rfl⟩) hS (fun _ _ h9 => h9) (fun _ h9 => h9) (fun v u t H1 locs1 ht hvm hw hB hz1 hk1 hS => ?_)
              obtain ⟨hw1, hw2⟩ := hw
              have hw2 : S = u := hw2.symm
              have hw1 : z_17 = v := hw1.symm
              subst hw1
              subst hw2
              obtain ⟨hP, hD⟩ := qm_bk ht hB
              clear hB
              refine lv_istore (lv' := [(8, .int z_17), (7, .int z_15), (0, .ref (ad 0)), (1, .int p0), (2, .int z_1), (3, .int z_3), (4, .int (1 : Int32)), (5, .int v5_12), (6, .int v6_12)]) hx hb dL_areMarksSo_94 hl (by decide) rfl (fun ls hl => ?_)
              refine lv_aload_n hx hb dL_areMarksSo_96 rfl (lv_at hl 2 rfl) ?_
              refine lv_iload_n hx hb dL_areMarksSo_97 rfl (lv_at hl 3 rfl) ?_
              refine lv_iload hx hb dL_areMarksSo_98 (lv_at hl 8 rfl) ?_
              obtain ⟨z_19, hz_20, h⟩ := qm_bind h
              refine va_calli (va_runV (As := [.int p0, .int v6_12]) (rest := []) ⟨hx, hb, hml, hown, hts⟩ (kX6_highestRank l D A ad cI cQ rest S p0 v6_12 z_19 hz_20) (cwV 2 hts gL_areMarksSo_X6_highestRank rfl rfl rfl (by decide +kernel) ⟨Nat.le_of_ble_eq_true rfl, Nat.le_of_ble_eq_true rfl⟩) ⟨qn_blind, va_recv hK hP (ci := 6) (q0 := 0) rfl qg_Q, fun U hU hW => ⟨rfl, qm_go hA hS hP hK hD hU hW, qn_go hZ hW⟩⟩ rfl rfl hl.1 rfl (lv_room (Nat.le_of_ble_eq_true rfl)) dL_areMarksSo_100 ⟨Nat.le_of_ble_eq_true rfl, Nat.le_of_ble_eq_true rfl⟩) hS (fun _ _ h9 => h9) (fun _ h9 => h9) (fun v u t H1 locs1 ht hvm hw hB hz1 hk1 hS => ?_)
              obtain ⟨hw1, hw2⟩ := hw
              have hw2 : S = u := hw2.symm
              have hw1 : z_19 = v := hw1.symm
              subst hw1
              subst hw2
              obtain ⟨hP, hD⟩ := qm_bk ht hB
              clear hB
              refine lv_istore (lv' := [(9, .int z_19), (8, .int z_17), (7, .int z_15), (0, .ref (ad 0)), (1, .int p0), (2, .int z_1), (3, .int z_3), (4, .int (1 : Int32)), (5, .int v5_12), (6, .int v6_12)]) hx hb dL_areMarksSo_103 hl (by decide) rfl (fun ls hl => ?_)
              refine lv_iload hx hb dL_areMarksSo_105 (lv_at hl 9 rfl) ?_
              refine lv_if_ne (tgt := 114) hx hb dL_areMarksSo_107 (by decide) (fun c_21 => ?_) (fun c_21 => ?_)
              · rw [if_neg c_21] at h
                refine lv_aload_n hx hb dL_areMarksSo_114 rfl (lv_at hl 3 rfl) ?_
                refine lv_iload_n hx hb dL_areMarksSo_115 rfl (lv_at hl 4 rfl) ?_
                refine lv_iload hx hb dL_areMarksSo_116 (lv_at hl 9 rfl) ?_
                refine lv_iconst (v := (1 : Int32)) hx hb dL_areMarksSo_118 (by decide) ?_
                refine lv_isub hx hb dL_areMarksSo_119 ?_
                obtain ⟨z_22, hz_23, h⟩ := qm_bind h
                refine va_calli (va_runV (As := [.int p0, .int (v6_12 - (1 : Int32))]) (rest := []) ⟨hx, hb, hml, hown, hts⟩ (kX6_lowestRank l D A ad cI cQ rest S p0 (v6_12 - (1 : Int32)) z_22 hz_23) (cwV 2 hts gL_areMarksSo_X6_lowestRank rfl rfl rfl (by decide +kernel) ⟨Nat.le_of_ble_eq_true rfl, Nat.le_of_ble_eq_true rfl⟩) ⟨qn_blind, va_recv hK hP (ci := 6) (q0 := 0) rfl qg_Q, fun U hU hW => ⟨rfl, qm_go hA hS hP hK hD hU hW, qn_go hZ hW⟩⟩ rfl rfl hl.1 rfl (lv_room (Nat.le_of_ble_eq_true rfl)) dL_areMarksSo_120 ⟨Nat.le_of_ble_eq_true rfl, Nat.le_of_ble_eq_true rfl⟩) hS (fun _ _ h9 => h9) (fun _ h9 => h9) (fun v u t H1 locs1 ht hvm hw hB hz1 hk1 hS => ?_)
                obtain ⟨hw1, hw2⟩ := hw
                have hw2 : S = u := hw2.symm
                have hw1 : z_22 = v := hw1.symm
                subst hw1
                subst hw2
                obtain ⟨hP, hD⟩ := qm_bk ht hB
                clear hB
                refine lv_istore (lv' := [(10, .int z_22), (9, .int z_19), (8, .int z_17), (7, .int z_15), (0, .ref (ad 0)), (1, .int p0), (2, .int z_1), (3, .int z_3), (4, .int (1 : Int32)), (5, .int v5_12), (6, .int v6_12)]) hx hb dL_areMarksSo_123 hl (by decide) rfl (fun ls hl => ?_)
                refine lv_iload hx hb dL_areMarksSo_125 (lv_at hl 2 rfl) ?_
                refine lv_iload hx hb dL_areMarksSo_127 (lv_at hl 0 rfl) ?_
                refine lv_icmp_le (tgt := 188) hx hb dL_areMarksSo_129 (by decide) (fun c_24 => ?_) (fun c_24 => ?_)
                · rw [if_pos c_24] at h
                  cases h
                · rw [if_neg c_24] at h
                  refine lv_iload hx hb dL_areMarksSo_132 (lv_at hl 2 rfl) ?_
                  refine lv_iload hx hb dL_areMarksSo_134 (lv_at hl 1 rfl) ?_
                  refine lv_icmp_gt (tgt := 188) hx hb dL_areMarksSo_136 (by decide) (fun c_25 => ?_) (fun c_25 => ?_)
                  · rw [if_pos c_25] at h
                    cases h
                  · rw [if_neg c_25] at h
                    refine lv_iload hx hb dL_areMarksSo_139 (lv_at hl 10 rfl) ?_
                    refine lv_if_eq (tgt := 158) hx hb dL_areMarksSo_141 (by decide) (fun c => absurd c c_21) (fun _ => ?_)
                    refine lv_aload_n hx hb dL_areMarksSo_144 rfl (lv_at hl 4 rfl) ?_
                    refine lv_iload_n hx hb dL_areMarksSo_145 rfl (lv_at hl 5 rfl) ?_
                    refine lv_iload hx hb dL_areMarksSo_146 (lv_at hl 10 rfl) ?_
                    refine lv_iconst (v := (1 : Int32)) hx hb dL_areMarksSo_148 (by decide) ?_
                    refine lv_isub hx hb dL_areMarksSo_149 ?_
                    obtain ⟨z_26, hz_27, h⟩ := qm_bind h
                    refine va_calli (va_runV (As := [.int p0, .int (v6_12 - (1 : Int32))]) (rest := []) ⟨hx, hb, hml, hown, hts⟩ (kX6_value l D A ad cI cQ rest S p0 (v6_12 - (1 : Int32)) z_26 hz_27) (cwV 2 hts gL_areMarksSo_X6_value rfl rfl rfl (by decide +kernel) ⟨Nat.le_of_ble_eq_true rfl, Nat.le_of_ble_eq_true rfl⟩) ⟨qn_blind, va_recv hK hP (ci := 6) (q0 := 0) rfl qg_Q, fun U hU hW => ⟨rfl, qm_go hA hS hP hK hD hU hW, qn_go hZ hW⟩⟩ rfl rfl hl.1 rfl (lv_room (Nat.le_of_ble_eq_true rfl)) dL_areMarksSo_150 ⟨Nat.le_of_ble_eq_true rfl, Nat.le_of_ble_eq_true rfl⟩) hS (fun _ _ h9 => h9) (fun _ h9 => h9) (fun v u t H1 locs1 ht hvm hw hB hz1 hk1 hS => ?_)
                    obtain ⟨hw1, hw2⟩ := hw
                    have hw2 : S = u := hw2.symm
                    have hw1 : z_26 = v := hw1.symm
                    subst hw1
                    subst hw2
                    obtain ⟨hP, hD⟩ := qm_bk ht hB
                    clear hB
                    refine lv_iload hx hb dL_areMarksSo_153 (lv_at hl 3 rfl) ?_
                    refine lv_icmp_gt (tgt := 188) hx hb dL_areMarksSo_155 (by decide) (fun c_28 => ?_) (fun c_28 => ?_)
                    · rw [if_pos c_28] at h
                      cases h
                    · rw [if_neg c_28] at h
                      refine lv_aload_n hx hb dL_areMarksSo_158 rfl (lv_at hl 4 rfl) ?_
                      refine lv_iload_n hx hb dL_areMarksSo_159 rfl (lv_at hl 5 rfl) ?_
                      refine lv_iload hx hb dL_areMarksSo_160 (lv_at hl 3 rfl) ?_
                      obtain ⟨z_29, hz_30, h⟩ := qm_bind h
                      refine va_calli (va_runV (As := [.int p0, .int z_15]) (rest := []) ⟨hx, hb, hml, hown, hts⟩ (kX6_reallyUpTo l D A ad cI cQ rest S p0 z_15 z_29 hz_30) (cwV 2 hts gL_areMarksSo_X6_reallyUpTo rfl rfl rfl (by decide +kernel) ⟨Nat.le_of_ble_eq_true rfl, Nat.le_of_ble_eq_true rfl⟩) ⟨qn_blind, va_recv hK hP (ci := 6) (q0 := 0) rfl qg_Q, fun U hU hW => ⟨rfl, qm_go hA hS hP hK hD hU hW, qn_go hZ hW⟩⟩ rfl rfl hl.1 rfl (lv_room (Nat.le_of_ble_eq_true rfl)) dL_areMarksSo_162 ⟨Nat.le_of_ble_eq_true rfl, Nat.le_of_ble_eq_true rfl⟩) hS (fun _ _ h9 => h9) (fun _ h9 => h9) (fun v u t H1 locs1 ht hvm hw hB hz1 hk1 hS => ?_)
                      obtain ⟨hw1, hw2⟩ := hw
                      have hw2 : S = u := hw2.symm
                      have hw1 : z_29 = v := hw1.symm
                      subst hw1
                      subst hw2
                      obtain ⟨hP, hD⟩ := qm_bk ht hB
                      clear hB
                      refine lv_iload hx hb dL_areMarksSo_165 (lv_at hl 2 rfl) ?_
                      refine lv_icmp_lt (tgt := 188) hx hb dL_areMarksSo_167 (by decide) (fun c_31 => ?_) (fun c_31 => ?_)
                      · rw [if_pos c_31] at h
                        cases h
                      · rw [if_neg c_31] at h
                        refine lv_aload_n hx hb dL_areMarksSo_170 rfl (lv_at hl 4 rfl) ?_
                        refine lv_iload_n hx hb dL_areMarksSo_171 rfl (lv_at hl 5 rfl) ?_
                        refine lv_iload hx hb dL_areMarksSo_172 (lv_at hl 3 rfl) ?_
                        refine lv_iconst (v := (1 : Int32)) hx hb dL_areMarksSo_174 (by decide) ?_
                        refine lv_isub hx hb dL_areMarksSo_175 ?_
                        obtain ⟨z_32, hz_33, h⟩ := qm_bind h
                        refine va_calli (va_runV (As := [.int p0, .int (z_15 - (1 : Int32))]) (rest := []) ⟨hx, hb, hml, hown, hts⟩ (kX6_reallyUpTo l D A ad cI cQ rest S p0 (z_15 - (1 : Int32)) z_32 hz_33) (cwV 2 hts gL_areMarksSo_X6_reallyUpTo rfl rfl rfl (by decide +kernel) ⟨Nat.le_of_ble_eq_true rfl, Nat.le_of_ble_eq_true rfl⟩) ⟨qn_blind, va_recv hK hP (ci := 6) (q0 := 0) rfl qg_Q, fun U hU hW => ⟨rfl, qm_go hA hS hP hK hD hU hW, qn_go hZ hW⟩⟩ rfl rfl hl.1 rfl (lv_room (Nat.le_of_ble_eq_true rfl)) dL_areMarksSo_176 ⟨Nat.le_of_ble_eq_true rfl, Nat.le_of_ble_eq_true rfl⟩) hS (fun _ _ h9 => h9) (fun _ h9 => h9) (fun v u t H1 locs1 ht hvm hw hB hz1 hk1 hS => ?_)
                        obtain ⟨hw1, hw2⟩ := hw
                        have hw2 : S = u := hw2.symm
                        have hw1 : z_32 = v := hw1.symm
                        subst hw1
                        subst hw2
                        obtain ⟨hP, hD⟩ := qm_bk ht hB
                        clear hB
                        refine lv_iload hx hb dL_areMarksSo_179 (lv_at hl 1 rfl) ?_
                        refine lv_icmp_ge (tgt := 188) hx hb dL_areMarksSo_181 (by decide) (fun c_34 => ?_) (fun c_34 => ?_)
                        · rw [if_pos c_34] at h
                          cases h
                        · rw [if_neg c_34] at h
                          refine lv_iconst (v := (1 : Int32)) hx hb dL_areMarksSo_184 (by decide) ?_
                          refine lv_goto (tgt := 189) hx hb dL_areMarksSo_185 (by decide) ?_
                          refine lv_istore (lv' := [(4, .int (1 : Int32)), (10, .int z_22), (9, .int z_19), (8, .int z_17), (7, .int z_15), (0, .ref (ad 0)), (1, .int p0), (2, .int z_1), (3, .int z_3), (5, .int v5_12), (6, .int v6_12)]) hx hb dL_areMarksSo_189 hl (by decide) rfl (fun ls hl => ?_)
                          refine lv_iload hx hb dL_areMarksSo_191 (lv_at hl 0 rfl) ?_
                          refine lv_if_eq (tgt := 260) hx hb dL_areMarksSo_193 (by decide) (fun c => absurd c (by decide)) (fun _ => ?_)
                          refine lv_iload hx hb dL_areMarksSo_196 (lv_at hl 10 rfl) ?_
                          refine lv_if_gt (tgt := 225) hx hb dL_areMarksSo_198 (by decide) (fun c_35 => ?_) (fun c_35 => ?_)
                          · rw [if_pos c_35] at h
                            refine lv_iload hx hb dL_areMarksSo_225 (lv_at hl 10 rfl) ?_
                            refine lv_iload_n hx hb dL_areMarksSo_227 rfl (lv_at hl 7 rfl) ?_
                            refine lv_iconst (v := (1 : Int32)) hx hb dL_areMarksSo_228 (by decide) ?_
                            refine lv_isub hx hb dL_areMarksSo_229 ?_
                            refine lv_icmp_lt (tgt := 256) hx hb dL_areMarksSo_230 (by decide) (fun c_36 => ?_) (fun c_36 => ?_)
                            · rw [if_pos c_36] at h
                              refine lv_iconst (v := (1 : Int32)) hx hb dL_areMarksSo_256 (by decide) ?_
                              refine lv_goto (tgt := 261) hx hb dL_areMarksSo_257 (by decide) ?_
                              refine lv_istore (lv' := [(4, .int (1 : Int32)), (10, .int z_22), (9, .int z_19), (8, .int z_17), (7, .int z_15), (0, .ref (ad 0)), (1, .int p0), (2, .int z_1), (3, .int z_3), (5, .int v5_12), (6, .int v6_12)]) hx hb dL_areMarksSo_261 hl (by decide) rfl (fun ls hl => ?_)
                              refine lv_iload hx hb dL_areMarksSo_263 (lv_at hl 2 rfl) ?_
                              refine lv_iload hx hb dL_areMarksSo_265 (lv_at hl 1 rfl) ?_
                              refine lv_isub hx hb dL_areMarksSo_267 ?_
                              refine lv_iload hx hb dL_areMarksSo_268 (lv_at hl 9 rfl) ?_
                              refine lv_icmp_le (tgt := 281) hx hb dL_areMarksSo_270 (by decide) (fun c_37 => ?_) (fun c_37 => ?_)
                              · rw [if_pos c_37] at h
                                refine lv_iload hx hb dL_areMarksSo_281 (lv_at hl 9 rfl) ?_
                                refine lv_istore (lv' := [(5, .int v5_12), (4, .int (1 : Int32)), (10, .int z_22), (9, .int z_19), (8, .int z_17), (7, .int z_15), (0, .ref (ad 0)), (1, .int p0), (2, .int z_1), (3, .int z_3), (6, .int v6_12)]) hx hb dL_areMarksSo_283 hl (by decide) rfl (fun ls hl => ?_)
                                refine lv_iinc (v := v6_12 + (1 : Int32)) (lv' := [(6, .int (v6_12 + (1 : Int32))), (5, .int v5_12), (4, .int (1 : Int32)), (10, .int z_22), (9, .int z_19), (8, .int z_17), (7, .int z_15), (0, .ref (ad 0)), (1, .int p0), (2, .int z_1), (3, .int z_3)]) hx hb dL_areMarksSo_285 hl (k := 10) rfl rfl (by decide) rfl (fun ls hl => ?_)
                                refine lv_goto (tgt := 67) hx hb dL_areMarksSo_288 (by decide) ?_
                                exact ih v5_12 (v6_12 + (1 : Int32))  z h _ _ _ hP hD hS (lv_sub hl [7, 8, 9, 10, 2, 1, 0] rfl) kex
                              · rw [if_neg c_37] at h
                                refine lv_iload hx hb dL_areMarksSo_273 (lv_at hl 2 rfl) ?_
                                refine lv_iload hx hb dL_areMarksSo_275 (lv_at hl 1 rfl) ?_
                                refine lv_isub hx hb dL_areMarksSo_277 ?_
                                refine lv_goto (tgt := 283) hx hb dL_areMarksSo_278 (by decide) ?_
                                refine lv_istore (lv' := [(5, .int (z_19 - z_22)), (4, .int (1 : Int32)), (10, .int z_22), (9, .int z_19), (8, .int z_17), (7, .int z_15), (0, .ref (ad 0)), (1, .int p0), (2, .int z_1), (3, .int z_3), (6, .int v6_12)]) hx hb dL_areMarksSo_283 hl (by decide) rfl (fun ls hl => ?_)
                                refine lv_iinc (v := v6_12 + (1 : Int32)) (lv' := [(6, .int (v6_12 + (1 : Int32))), (5, .int (z_19 - z_22)), (4, .int (1 : Int32)), (10, .int z_22), (9, .int z_19), (8, .int z_17), (7, .int z_15), (0, .ref (ad 0)), (1, .int p0), (2, .int z_1), (3, .int z_3)]) hx hb dL_areMarksSo_285 hl (k := 10) rfl rfl (by decide) rfl (fun ls hl => ?_)
                                refine lv_goto (tgt := 67) hx hb dL_areMarksSo_288 (by decide) ?_
                                exact ih (z_19 - z_22) (v6_12 + (1 : Int32))  z h _ _ _ hP hD hS (lv_sub hl [7, 8, 9, 10, 2, 1, 0] rfl) kex
                            · rw [if_neg c_36] at h
                              refine lv_iload hx hb dL_areMarksSo_233 (lv_at hl 3 rfl) ?_
                              refine lv_iload_n hx hb dL_areMarksSo_235 rfl (lv_at hl 8 rfl) ?_
                              refine lv_icmp_ne (tgt := 260) hx hb dL_areMarksSo_236 (by decide) (fun c_38 => ?_) (fun c_38 => ?_)
                              · rw [if_neg c_38] at h
                                cases h
                              · rw [if_pos c_38] at h
                                refine lv_iload hx hb dL_areMarksSo_239 (lv_at hl 2 rfl) ?_
                                refine lv_iload_n hx hb dL_areMarksSo_241 rfl (lv_at hl 8 rfl) ?_
                                refine lv_icmp_ne (tgt := 260) hx hb dL_areMarksSo_242 (by decide) (fun c_39 => ?_) (fun c_39 => ?_)
                                · rw [if_neg c_39] at h
                                  cases h
                                · rw [if_pos c_39] at h
                                  refine lv_aload_n hx hb dL_areMarksSo_245 rfl (lv_at hl 5 rfl) ?_
                                  refine lv_iload_n hx hb dL_areMarksSo_246 rfl (lv_at hl 6 rfl) ?_
                                  refine lv_iload hx hb dL_areMarksSo_247 (lv_at hl 4 rfl) ?_
                                  obtain ⟨z_40, hz_41, h⟩ := qm_bind h
                                  refine va_calli (va_runV (As := [.int p0, .int z_15]) (rest := []) ⟨hx, hb, hml, hown, hts⟩ (kX6_reallyUpTo l D A ad cI cQ rest S p0 z_15 z_40 hz_41) (cwV 2 hts gL_areMarksSo_X6_reallyUpTo rfl rfl rfl (by decide +kernel) ⟨Nat.le_of_ble_eq_true rfl, Nat.le_of_ble_eq_true rfl⟩) ⟨qn_blind, va_recv hK hP (ci := 6) (q0 := 0) rfl qg_Q, fun U hU hW => ⟨rfl, qm_go hA hS hP hK hD hU hW, qn_go hZ hW⟩⟩ rfl rfl hl.1 rfl (lv_room (Nat.le_of_ble_eq_true rfl)) dL_areMarksSo_249 ⟨Nat.le_of_ble_eq_true rfl, Nat.le_of_ble_eq_true rfl⟩) hS (fun _ _ h9 => h9) (fun _ h9 => h9) (fun v u t H1 locs1 ht hvm hw hB hz1 hk1 hS => ?_)
                                  obtain ⟨hw1, hw2⟩ := hw
                                  have hw2 : S = u := hw2.symm
                                  have hw1 : z_40 = v := hw1.symm
                                  subst hw1
                                  subst hw2
                                  obtain ⟨hP, hD⟩ := qm_bk ht hB
                                  clear hB
                                  refine lv_iload_n hx hb dL_areMarksSo_252 rfl (lv_at hl 8 rfl) ?_
                                  refine lv_icmp_ne (tgt := 260) hx hb dL_areMarksSo_253 (by decide) (fun c_42 => ?_) (fun c_42 => ?_)
                                  · rw [if_neg c_42] at h
                                    cases h
                                  · rw [if_pos c_42] at h
                                    refine lv_iconst (v := (1 : Int32)) hx hb dL_areMarksSo_256 (by decide) ?_
                                    refine lv_goto (tgt := 261) hx hb dL_areMarksSo_257 (by decide) ?_
                                    refine lv_istore (lv' := [(4, .int (1 : Int32)), (10, .int z_22), (9, .int z_19), (8, .int z_17), (7, .int z_15), (0, .ref (ad 0)), (1, .int p0), (2, .int z_1), (3, .int z_3), (5, .int v5_12), (6, .int v6_12)]) hx hb dL_areMarksSo_261 hl (by decide) rfl (fun ls hl => ?_)
                                    refine lv_iload hx hb dL_areMarksSo_263 (lv_at hl 2 rfl) ?_
                                    refine lv_iload hx hb dL_areMarksSo_265 (lv_at hl 1 rfl) ?_
                                    refine lv_isub hx hb dL_areMarksSo_267 ?_
                                    refine lv_iload hx hb dL_areMarksSo_268 (lv_at hl 9 rfl) ?_
                                    refine lv_icmp_le (tgt := 281) hx hb dL_areMarksSo_270 (by decide) (fun c_43 => ?_) (fun c_43 => ?_)
                                    · rw [if_pos c_43] at h
                                      refine lv_iload hx hb dL_areMarksSo_281 (lv_at hl 9 rfl) ?_
                                      refine lv_istore (lv' := [(5, .int v5_12), (4, .int (1 : Int32)), (10, .int z_22), (9, .int z_19), (8, .int z_17), (7, .int z_15), (0, .ref (ad 0)), (1, .int p0), (2, .int z_1), (3, .int z_3), (6, .int v6_12)]) hx hb dL_areMarksSo_283 hl (by decide) rfl (fun ls hl => ?_)
                                      refine lv_iinc (v := v6_12 + (1 : Int32)) (lv' := [(6, .int (v6_12 + (1 : Int32))), (5, .int v5_12), (4, .int (1 : Int32)), (10, .int z_22), (9, .int z_19), (8, .int z_17), (7, .int z_15), (0, .ref (ad 0)), (1, .int p0), (2, .int z_1), (3, .int z_3)]) hx hb dL_areMarksSo_285 hl (k := 10) rfl rfl (by decide) rfl (fun ls hl => ?_)
                                      refine lv_goto (tgt := 67) hx hb dL_areMarksSo_288 (by decide) ?_
                                      exact ih v5_12 (v6_12 + (1 : Int32))  z h _ _ _ hP hD hS (lv_sub hl [7, 8, 9, 10, 2, 1, 0] rfl) kex
                                    · rw [if_neg c_43] at h
                                      refine lv_iload hx hb dL_areMarksSo_273 (lv_at hl 2 rfl) ?_
                                      refine lv_iload hx hb dL_areMarksSo_275 (lv_at hl 1 rfl) ?_
                                      refine lv_isub hx hb dL_areMarksSo_277 ?_
                                      refine lv_goto (tgt := 283) hx hb dL_areMarksSo_278 (by decide) ?_
                                      refine lv_istore (lv' := [(5, .int (z_19 - z_22)), (4, .int (1 : Int32)), (10, .int z_22), (9, .int z_19), (8, .int z_17), (7, .int z_15), (0, .ref (ad 0)), (1, .int p0), (2, .int z_1), (3, .int z_3), (6, .int v6_12)]) hx hb dL_areMarksSo_283 hl (by decide) rfl (fun ls hl => ?_)
                                      refine lv_iinc (v := v6_12 + (1 : Int32)) (lv' := [(6, .int (v6_12 + (1 : Int32))), (5, .int (z_19 - z_22)), (4, .int (1 : Int32)), (10, .int z_22), (9, .int z_19), (8, .int z_17), (7, .int z_15), (0, .ref (ad 0)), (1, .int p0), (2, .int z_1), (3, .int z_3)]) hx hb dL_areMarksSo_285 hl (k := 10) rfl rfl (by decide) rfl (fun ls hl => ?_)
                                      refine lv_goto (tgt := 67) hx hb dL_areMarksSo_288 (by decide) ?_
                                      exact ih (z_19 - z_22) (v6_12 + (1 : Int32))  z h _ _ _ hP hD hS (lv_sub hl [7, 8, 9, 10, 2, 1, 0] rfl) kex
                          · rw [if_neg c_35] at h
                            refine lv_iload hx hb dL_areMarksSo_201 (lv_at hl 3 rfl) ?_
                            refine lv_iconst (v := (1 : Int32)) hx hb dL_areMarksSo_203 (by decide) ?_
                            refine lv_icmp_ne (tgt := 260) hx hb dL_areMarksSo_204 (by decide) (fun c_44 => ?_) (fun c_44 => ?_)
                            · rw [if_neg c_44] at h
                              cases h
                            · rw [if_pos c_44] at h
                              refine lv_iload hx hb dL_areMarksSo_207 (lv_at hl 2 rfl) ?_
                              refine lv_iconst (v := (1 : Int32)) hx hb dL_areMarksSo_209 (by decide) ?_
                              refine lv_icmp_ne (tgt := 260) hx hb dL_areMarksSo_210 (by decide) (fun c_45 => ?_) (fun c_45 => ?_)
                              · rw [if_neg c_45] at h
                                cases h
                              · rw [if_pos c_45] at h
                                refine lv_aload_n hx hb dL_areMarksSo_213 rfl (lv_at hl 5 rfl) ?_
                                refine lv_iload_n hx hb dL_areMarksSo_214 rfl (lv_at hl 6 rfl) ?_
                                refine lv_iload hx hb dL_areMarksSo_215 (lv_at hl 4 rfl) ?_
                                refine lv_iconst (v := (1 : Int32)) hx hb dL_areMarksSo_217 (by decide) ?_
                                refine lv_isub hx hb dL_areMarksSo_218 ?_
                                obtain ⟨z_46, hz_47, h⟩ := qm_bind h
                                refine va_calli (va_runV (As := [.int p0, .int (z_15 - (1 : Int32))]) (rest := []) ⟨hx, hb, hml, hown, hts⟩ (kX6_reallyUpTo l D A ad cI cQ rest S p0 (z_15 - (1 : Int32)) z_46 hz_47) (cwV 2 hts gL_areMarksSo_X6_reallyUpTo rfl rfl rfl (by decide +kernel) ⟨Nat.le_of_ble_eq_true rfl, Nat.le_of_ble_eq_true rfl⟩) ⟨qn_blind, va_recv hK hP (ci := 6) (q0 := 0) rfl qg_Q, fun U hU hW => ⟨rfl, qm_go hA hS hP hK hD hU hW, qn_go hZ hW⟩⟩ rfl rfl hl.1 rfl (lv_room (Nat.le_of_ble_eq_true rfl)) dL_areMarksSo_219 ⟨Nat.le_of_ble_eq_true rfl, Nat.le_of_ble_eq_true rfl⟩) hS (fun _ _ h9 => h9) (fun _ h9 => h9) (fun v u t H1 locs1 ht hvm hw hB hz1 hk1 hS => ?_)
                                obtain ⟨hw1, hw2⟩ := hw
                                have hw2 : S = u := hw2.symm
                                have hw1 : z_46 = v := hw1.symm
                                subst hw1
                                subst hw2
                                obtain ⟨hP, hD⟩ := qm_bk ht hB
                                clear hB
                                refine lv_if_ne (tgt := 260) hx hb dL_areMarksSo_222 (by decide) (fun c_48 => ?_) (fun c_48 => ?_)
                                · rw [if_neg c_48] at h
                                  cases h
                                · rw [if_pos c_48] at h
                                  refine lv_iload hx hb dL_areMarksSo_225 (lv_at hl 10 rfl) ?_
                                  refine lv_iload_n hx hb dL_areMarksSo_227 rfl (lv_at hl 7 rfl) ?_
                                  refine lv_iconst (v := (1 : Int32)) hx hb dL_areMarksSo_228 (by decide) ?_
                                  refine lv_isub hx hb dL_areMarksSo_229 ?_
                                  refine lv_icmp_lt (tgt := 256) hx hb dL_areMarksSo_230 (by decide) (fun c_49 => ?_) (fun c_49 => ?_)
                                  · rw [if_pos c_49] at h
                                    refine lv_iconst (v := (1 : Int32)) hx hb dL_areMarksSo_256 (by decide) ?_
                                    refine lv_goto (tgt := 261) hx hb dL_areMarksSo_257 (by decide) ?_
                                    refine lv_istore (lv' := [(4, .int (1 : Int32)), (10, .int z_22), (9, .int z_19), (8, .int z_17), (7, .int z_15), (0, .ref (ad 0)), (1, .int p0), (2, .int z_1), (3, .int z_3), (5, .int v5_12), (6, .int v6_12)]) hx hb dL_areMarksSo_261 hl (by decide) rfl (fun ls hl => ?_)
                                    refine lv_iload hx hb dL_areMarksSo_263 (lv_at hl 2 rfl) ?_
                                    refine lv_iload hx hb dL_areMarksSo_265 (lv_at hl 1 rfl) ?_
                                    refine lv_isub hx hb dL_areMarksSo_267 ?_
                                    refine lv_iload hx hb dL_areMarksSo_268 (lv_at hl 9 rfl) ?_
                                    refine lv_icmp_le (tgt := 281) hx hb dL_areMarksSo_270 (by decide) (fun c_50 => ?_) (fun c_50 => ?_)
                                    · rw [if_pos c_50] at h
                                      refine lv_iload hx hb dL_areMarksSo_281 (lv_at hl 9 rfl) ?_
                                      refine lv_istore (lv' := [(5, .int v5_12), (4, .int (1 : Int32)), (10, .int z_22), (9, .int z_19), (8, .int z_17), (7, .int z_15), (0, .ref (ad 0)), (1, .int p0), (2, .int z_1), (3, .int z_3), (6, .int v6_12)]) hx hb dL_areMarksSo_283 hl (by decide) rfl (fun ls hl => ?_)
                                      refine lv_iinc (v := v6_12 + (1 : Int32)) (lv' := [(6, .int (v6_12 + (1 : Int32))), (5, .int v5_12), (4, .int (1 : Int32)), (10, .int z_22), (9, .int z_19), (8, .int z_17), (7, .int z_15), (0, .ref (ad 0)), (1, .int p0), (2, .int z_1), (3, .int z_3)]) hx hb dL_areMarksSo_285 hl (k := 10) rfl rfl (by decide) rfl (fun ls hl => ?_)
                                      refine lv_goto (tgt := 67) hx hb dL_areMarksSo_288 (by decide) ?_
                                      exact ih v5_12 (v6_12 + (1 : Int32))  z h _ _ _ hP hD hS (lv_sub hl [7, 8, 9, 10, 2, 1, 0] rfl) kex
                                    · rw [if_neg c_50] at h
                                      refine lv_iload hx hb dL_areMarksSo_273 (lv_at hl 2 rfl) ?_
                                      refine lv_iload hx hb dL_areMarksSo_275 (lv_at hl 1 rfl) ?_
                                      refine lv_isub hx hb dL_areMarksSo_277 ?_
                                      refine lv_goto (tgt := 283) hx hb dL_areMarksSo_278 (by decide) ?_
                                      refine lv_istore (lv' := [(5, .int (z_19 - z_22)), (4, .int (1 : Int32)), (10, .int z_22), (9, .int z_19), (8, .int z_17), (7, .int z_15), (0, .ref (ad 0)), (1, .int p0), (2, .int z_1), (3, .int z_3), (6, .int v6_12)]) hx hb dL_areMarksSo_283 hl (by decide) rfl (fun ls hl => ?_)
                                      refine lv_iinc (v := v6_12 + (1 : Int32)) (lv' := [(6, .int (v6_12 + (1 : Int32))), (5, .int (z_19 - z_22)), (4, .int (1 : Int32)), (10, .int z_22), (9, .int z_19), (8, .int z_17), (7, .int z_15), (0, .ref (ad 0)), (1, .int p0), (2, .int z_1), (3, .int z_3)]) hx hb dL_areMarksSo_285 hl (k := 10) rfl rfl (by decide) rfl (fun ls hl => ?_)
                                      refine lv_goto (tgt := 67) hx hb dL_areMarksSo_288 (by decide) ?_
                                      exact ih (z_19 - z_22) (v6_12 + (1 : Int32))  z h _ _ _ hP hD hS (lv_sub hl [7, 8, 9, 10, 2, 1, 0] rfl) kex
                                  · rw [if_neg c_49] at h
                                    refine lv_iload hx hb dL_areMarksSo_233 (lv_at hl 3 rfl) ?_
                                    refine lv_iload_n hx hb dL_areMarksSo_235 rfl (lv_at hl 8 rfl) ?_
                                    refine lv_icmp_ne (tgt := 260) hx hb dL_areMarksSo_236 (by decide) (fun c_51 => ?_) (fun c_51 => ?_)
                                    · rw [if_neg c_51] at h
                                      cases h
                                    · rw [if_pos c_51] at h
                                      refine lv_iload hx hb dL_areMarksSo_239 (lv_at hl 2 rfl) ?_
                                      refine lv_iload_n hx hb dL_areMarksSo_241 rfl (lv_at hl 8 rfl) ?_
                                      refine lv_icmp_ne (tgt := 260) hx hb dL_areMarksSo_242 (by decide) (fun c_52 => ?_) (fun c_52 => ?_)
                                      · rw [if_neg c_52] at h
                                        cases h
                                      · rw [if_pos c_52] at h
                                        refine lv_aload_n hx hb dL_areMarksSo_245 rfl (lv_at hl 5 rfl) ?_
                                        refine lv_iload_n hx hb dL_areMarksSo_246 rfl (lv_at hl 6 rfl) ?_
                                        refine lv_iload hx hb dL_areMarksSo_247 (lv_at hl 4 rfl) ?_
                                        obtain ⟨z_53, hz_54, h⟩ := qm_bind h
                                        refine va_calli (va_runV (As := [.int p0, .int z_15]) (rest := []) ⟨hx, hb, hml, hown, hts⟩ (kX6_reallyUpTo l D A ad cI cQ rest S p0 z_15 z_53 hz_54) (cwV 2 hts gL_areMarksSo_X6_reallyUpTo rfl rfl rfl (by decide +kernel) ⟨Nat.le_of_ble_eq_true rfl, Nat.le_of_ble_eq_true rfl⟩) ⟨qn_blind, va_recv hK hP (ci := 6) (q0 := 0) rfl qg_Q, fun U hU hW => ⟨rfl, qm_go hA hS hP hK hD hU hW, qn_go hZ hW⟩⟩ rfl rfl hl.1 rfl (lv_room (Nat.le_of_ble_eq_true rfl)) dL_areMarksSo_249 ⟨Nat.le_of_ble_eq_true rfl, Nat.le_of_ble_eq_true rfl⟩) hS (fun _ _ h9 => h9) (fun _ h9 => h9) (fun v u t H1 locs1 ht hvm hw hB hz1 hk1 hS => ?_)
                                        obtain ⟨hw1, hw2⟩ := hw
                                        have hw2 : S = u := hw2.symm
                                        have hw1 : z_53 = v := hw1.symm
                                        subst hw1
                                        subst hw2
                                        obtain ⟨hP, hD⟩ := qm_bk ht hB
                                        clear hB
                                        refine lv_iload_n hx hb dL_areMarksSo_252 rfl (lv_at hl 8 rfl) ?_
                                        refine lv_icmp_ne (tgt := 260) hx hb dL_areMarksSo_253 (by decide) (fun c_55 => ?_) (fun c_55 => ?_)
                                        · rw [if_neg c_55] at h
                                          cases h
                                        · rw [if_pos c_55] at h
                                          refine lv_iconst (v := (1 : Int32)) hx hb dL_areMarksSo_256 (by decide) ?_
                                          refine lv_goto (tgt := 261) hx hb dL_areMarksSo_257 (by decide) ?_
                                          refine lv_istore (lv' := [(4, .int (1 : Int32)), (10, .int z_22), (9, .int z_19), (8, .int z_17), (7, .int z_15), (0, .ref (ad 0)), (1, .int p0), (2, .int z_1), (3, .int z_3), (5, .int v5_12), (6, .int v6_12)]) hx hb dL_areMarksSo_261 hl (by decide) rfl (fun ls hl => ?_)
                                          refine lv_iload hx hb dL_areMarksSo_263 (lv_at hl 2 rfl) ?_
                                          refine lv_iload hx hb dL_areMarksSo_265 (lv_at hl 1 rfl) ?_
                                          refine lv_isub hx hb dL_areMarksSo_267 ?_
                                          refine lv_iload hx hb dL_areMarksSo_268 (lv_at hl 9 rfl) ?_
                                          refine lv_icmp_le (tgt := 281) hx hb dL_areMarksSo_270 (by decide) (fun c_56 => ?_) (fun c_56 => ?_)
                                          · rw [if_pos c_56] at h
                                            refine lv_iload hx hb dL_areMarksSo_281 (lv_at hl 9 rfl) ?_
                                            refine lv_istore (lv' := [(5, .int v5_12), (4, .int (1 : Int32)), (10, .int z_22), (9, .int z_19), (8, .int z_17), (7, .int z_15), (0, .ref (ad 0)), (1, .int p0), (2, .int z_1), (3, .int z_3), (6, .int v6_12)]) hx hb dL_areMarksSo_283 hl (by decide) rfl (fun ls hl => ?_)
                                            refine lv_iinc (v := v6_12 + (1 : Int32)) (lv' := [(6, .int (v6_12 + (1 : Int32))), (5, .int v5_12), (4, .int (1 : Int32)), (10, .int z_22), (9, .int z_19), (8, .int z_17), (7, .int z_15), (0, .ref (ad 0)), (1, .int p0), (2, .int z_1), (3, .int z_3)]) hx hb dL_areMarksSo_285 hl (k := 10) rfl rfl (by decide) rfl (fun ls hl => ?_)
                                            refine lv_goto (tgt := 67) hx hb dL_areMarksSo_288 (by decide) ?_
                                            exact ih v5_12 (v6_12 + (1 : Int32))  z h _ _ _ hP hD hS (lv_sub hl [7, 8, 9, 10, 2, 1, 0] rfl) kex
                                          · rw [if_neg c_56] at h
                                            refine lv_iload hx hb dL_areMarksSo_273 (lv_at hl 2 rfl) ?_
                                            refine lv_iload hx hb dL_areMarksSo_275 (lv_at hl 1 rfl) ?_
                                            refine lv_isub hx hb dL_areMarksSo_277 ?_
                                            refine lv_goto (tgt := 283) hx hb dL_areMarksSo_278 (by decide) ?_
                                            refine lv_istore (lv' := [(5, .int (z_19 - z_22)), (4, .int (1 : Int32)), (10, .int z_22), (9, .int z_19), (8, .int z_17), (7, .int z_15), (0, .ref (ad 0)), (1, .int p0), (2, .int z_1), (3, .int z_3), (6, .int v6_12)]) hx hb dL_areMarksSo_283 hl (by decide) rfl (fun ls hl => ?_)
                                            refine lv_iinc (v := v6_12 + (1 : Int32)) (lv' := [(6, .int (v6_12 + (1 : Int32))), (5, .int (z_19 - z_22)), (4, .int (1 : Int32)), (10, .int z_22), (9, .int z_19), (8, .int z_17), (7, .int z_15), (0, .ref (ad 0)), (1, .int p0), (2, .int z_1), (3, .int z_3)]) hx hb dL_areMarksSo_285 hl (k := 10) rfl rfl (by decide) rfl (fun ls hl => ?_)
                                            refine lv_goto (tgt := 67) hx hb dL_areMarksSo_288 (by decide) ?_
                                            exact ih (z_19 - z_22) (v6_12 + (1 : Int32))  z h _ _ _ hP hD hS (lv_sub hl [7, 8, 9, 10, 2, 1, 0] rfl) kex
              · rw [if_pos c_21] at h
                refine lv_iconst (v := (0 : Int32)) hx hb dL_areMarksSo_110 (by decide) ?_
                refine lv_goto (tgt := 123) hx hb dL_areMarksSo_111 (by decide) ?_
                refine lv_istore (lv' := [(10, .int (0 : Int32)), (9, .int z_19), (8, .int z_17), (7, .int z_15), (0, .ref (ad 0)), (1, .int p0), (2, .int z_1), (3, .int z_3), (4, .int (1 : Int32)), (5, .int v5_12), (6, .int v6_12)]) hx hb dL_areMarksSo_123 hl (by decide) rfl (fun ls hl => ?_)
                refine lv_iload hx hb dL_areMarksSo_125 (lv_at hl 2 rfl) ?_
                refine lv_iload hx hb dL_areMarksSo_127 (lv_at hl 0 rfl) ?_
                refine lv_icmp_le (tgt := 188) hx hb dL_areMarksSo_129 (by decide) (fun c_57 => ?_) (fun c_57 => ?_)
                · rw [if_pos c_57] at h
                  cases h
                · rw [if_neg c_57] at h
                  refine lv_iload hx hb dL_areMarksSo_132 (lv_at hl 2 rfl) ?_
                  refine lv_iload hx hb dL_areMarksSo_134 (lv_at hl 1 rfl) ?_
                  refine lv_icmp_gt (tgt := 188) hx hb dL_areMarksSo_136 (by decide) (fun c_58 => ?_) (fun c_58 => ?_)
                  · rw [if_pos c_58] at h
                    cases h
                  · rw [if_neg c_58] at h
                    refine lv_iload hx hb dL_areMarksSo_139 (lv_at hl 10 rfl) ?_
                    refine lv_if_eq (tgt := 158) hx hb dL_areMarksSo_141 (by decide) (fun _ => ?_) (fun c => absurd c_21 c)
                    refine lv_aload_n hx hb dL_areMarksSo_158 rfl (lv_at hl 4 rfl) ?_
                    refine lv_iload_n hx hb dL_areMarksSo_159 rfl (lv_at hl 5 rfl) ?_
                    refine lv_iload hx hb dL_areMarksSo_160 (lv_at hl 3 rfl) ?_
                    obtain ⟨z_59, hz_60, h⟩ := qm_bind h
                    refine va_calli (va_runV (As := [.int p0, .int z_15]) (rest := []) ⟨hx, hb, hml, hown, hts⟩ (kX6_reallyUpTo l D A ad cI cQ rest S p0 z_15 z_59 hz_60) (cwV 2 hts gL_areMarksSo_X6_reallyUpTo rfl rfl rfl (by decide +kernel) ⟨Nat.le_of_ble_eq_true rfl, Nat.le_of_ble_eq_true rfl⟩) ⟨qn_blind, va_recv hK hP (ci := 6) (q0 := 0) rfl qg_Q, fun U hU hW => ⟨rfl, qm_go hA hS hP hK hD hU hW, qn_go hZ hW⟩⟩ rfl rfl hl.1 rfl (lv_room (Nat.le_of_ble_eq_true rfl)) dL_areMarksSo_162 ⟨Nat.le_of_ble_eq_true rfl, Nat.le_of_ble_eq_true rfl⟩) hS (fun _ _ h9 => h9) (fun _ h9 => h9) (fun v u t H1 locs1 ht hvm hw hB hz1 hk1 hS => ?_)
                    obtain ⟨hw1, hw2⟩ := hw
                    have hw2 : S = u := hw2.symm
                    have hw1 : z_59 = v := hw1.symm
                    subst hw1
                    subst hw2
                    obtain ⟨hP, hD⟩ := qm_bk ht hB
                    clear hB
                    refine lv_iload hx hb dL_areMarksSo_165 (lv_at hl 2 rfl) ?_
                    refine lv_icmp_lt (tgt := 188) hx hb dL_areMarksSo_167 (by decide) (fun c_61 => ?_) (fun c_61 => ?_)
                    · rw [if_pos c_61] at h
                      cases h
                    · rw [if_neg c_61] at h
                      refine lv_aload_n hx hb dL_areMarksSo_170 rfl (lv_at hl 4 rfl) ?_
                      refine lv_iload_n hx hb dL_areMarksSo_171 rfl (lv_at hl 5 rfl) ?_
                      refine lv_iload hx hb dL_areMarksSo_172 (lv_at hl 3 rfl) ?_
                      refine lv_iconst (v := (1 : Int32)) hx hb dL_areMarksSo_174 (by decide) ?_
                      refine lv_isub hx hb dL_areMarksSo_175 ?_
                      obtain ⟨z_62, hz_63, h⟩ := qm_bind h
                      refine va_calli (va_runV (As := [.int p0, .int (z_15 - (1 : Int32))]) (rest := []) ⟨hx, hb, hml, hown, hts⟩ (kX6_reallyUpTo l D A ad cI cQ rest S p0 (z_15 - (1 : Int32)) z_62 hz_63) (cwV 2 hts gL_areMarksSo_X6_reallyUpTo rfl rfl rfl (by decide +kernel) ⟨Nat.le_of_ble_eq_true rfl, Nat.le_of_ble_eq_true rfl⟩) ⟨qn_blind, va_recv hK hP (ci := 6) (q0 := 0) rfl qg_Q, fun U hU hW => ⟨rfl, qm_go hA hS hP hK hD hU hW, qn_go hZ hW⟩⟩ rfl rfl hl.1 rfl (lv_room (Nat.le_of_ble_eq_true rfl)) dL_areMarksSo_176 ⟨Nat.le_of_ble_eq_true rfl, Nat.le_of_ble_eq_true rfl⟩) hS (fun _ _ h9 => h9) (fun _ h9 => h9) (fun v u t H1 locs1 ht hvm hw hB hz1 hk1 hS => ?_)
                      obtain ⟨hw1, hw2⟩ := hw
                      have hw2 : S = u := hw2.symm
                      have hw1 : z_62 = v := hw1.symm
                      subst hw1
                      subst hw2
                      obtain ⟨hP, hD⟩ := qm_bk ht hB
                      clear hB
                      refine lv_iload hx hb dL_areMarksSo_179 (lv_at hl 1 rfl) ?_
                      refine lv_icmp_ge (tgt := 188) hx hb dL_areMarksSo_181 (by decide) (fun c_64 => ?_) (fun c_64 => ?_)
                      · rw [if_pos c_64] at h
                        cases h
                      · rw [if_neg c_64] at h
                        refine lv_iconst (v := (1 : Int32)) hx hb dL_areMarksSo_184 (by decide) ?_
                        refine lv_goto (tgt := 189) hx hb dL_areMarksSo_185 (by decide) ?_
                        refine lv_istore (lv' := [(4, .int (1 : Int32)), (10, .int (0 : Int32)), (9, .int z_19), (8, .int z_17), (7, .int z_15), (0, .ref (ad 0)), (1, .int p0), (2, .int z_1), (3, .int z_3), (5, .int v5_12), (6, .int v6_12)]) hx hb dL_areMarksSo_189 hl (by decide) rfl (fun ls hl => ?_)
                        refine lv_iload hx hb dL_areMarksSo_191 (lv_at hl 0 rfl) ?_
                        refine lv_if_eq (tgt := 260) hx hb dL_areMarksSo_193 (by decide) (fun c => absurd c (by decide)) (fun _ => ?_)
                        refine lv_iload hx hb dL_areMarksSo_196 (lv_at hl 10 rfl) ?_
                        refine lv_if_gt (tgt := 225) hx hb dL_areMarksSo_198 (by decide) (fun c_65 => ?_) (fun c_65 => ?_)
                        · rw [if_pos c_65] at h
                          refine lv_iload hx hb dL_areMarksSo_225 (lv_at hl 10 rfl) ?_
                          refine lv_iload_n hx hb dL_areMarksSo_227 rfl (lv_at hl 7 rfl) ?_
                          refine lv_iconst (v := (1 : Int32)) hx hb dL_areMarksSo_228 (by decide) ?_
                          refine lv_isub hx hb dL_areMarksSo_229 ?_
                          refine lv_icmp_lt (tgt := 256) hx hb dL_areMarksSo_230 (by decide) (fun c_66 => ?_) (fun c_66 => ?_)
                          · rw [if_pos c_66] at h
                            refine lv_iconst (v := (1 : Int32)) hx hb dL_areMarksSo_256 (by decide) ?_
                            refine lv_goto (tgt := 261) hx hb dL_areMarksSo_257 (by decide) ?_
                            refine lv_istore (lv' := [(4, .int (1 : Int32)), (10, .int (0 : Int32)), (9, .int z_19), (8, .int z_17), (7, .int z_15), (0, .ref (ad 0)), (1, .int p0), (2, .int z_1), (3, .int z_3), (5, .int v5_12), (6, .int v6_12)]) hx hb dL_areMarksSo_261 hl (by decide) rfl (fun ls hl => ?_)
                            refine lv_iload hx hb dL_areMarksSo_263 (lv_at hl 2 rfl) ?_
                            refine lv_iload hx hb dL_areMarksSo_265 (lv_at hl 1 rfl) ?_
                            refine lv_isub hx hb dL_areMarksSo_267 ?_
                            refine lv_iload hx hb dL_areMarksSo_268 (lv_at hl 9 rfl) ?_
                            refine lv_icmp_le (tgt := 281) hx hb dL_areMarksSo_270 (by decide) (fun c_67 => ?_) (fun c_67 => ?_)
                            · rw [if_pos c_67] at h
                              refine lv_iload hx hb dL_areMarksSo_281 (lv_at hl 9 rfl) ?_
                              refine lv_istore (lv' := [(5, .int v5_12), (4, .int (1 : Int32)), (10, .int (0 : Int32)), (9, .int z_19), (8, .int z_17), (7, .int z_15), (0, .ref (ad 0)), (1, .int p0), (2, .int z_1), (3, .int z_3), (6, .int v6_12)]) hx hb dL_areMarksSo_283 hl (by decide) rfl (fun ls hl => ?_)
                              refine lv_iinc (v := v6_12 + (1 : Int32)) (lv' := [(6, .int (v6_12 + (1 : Int32))), (5, .int v5_12), (4, .int (1 : Int32)), (10, .int (0 : Int32)), (9, .int z_19), (8, .int z_17), (7, .int z_15), (0, .ref (ad 0)), (1, .int p0), (2, .int z_1), (3, .int z_3)]) hx hb dL_areMarksSo_285 hl (k := 10) rfl rfl (by decide) rfl (fun ls hl => ?_)
                              refine lv_goto (tgt := 67) hx hb dL_areMarksSo_288 (by decide) ?_
                              exact ih v5_12 (v6_12 + (1 : Int32))  z h _ _ _ hP hD hS (lv_sub hl [7, 8, 9, 10, 2, 1, 0] rfl) kex
                            · rw [if_neg c_67] at h
                              refine lv_iload hx hb dL_areMarksSo_273 (lv_at hl 2 rfl) ?_
                              refine lv_iload hx hb dL_areMarksSo_275 (lv_at hl 1 rfl) ?_
                              refine lv_isub hx hb dL_areMarksSo_277 ?_
                              refine lv_goto (tgt := 283) hx hb dL_areMarksSo_278 (by decide) ?_
                              refine lv_istore (lv' := [(5, .int (z_19 - (0 : Int32))), (4, .int (1 : Int32)), (10, .int (0 : Int32)), (9, .int z_19), (8, .int z_17), (7, .int z_15), (0, .ref (ad 0)), (1, .int p0), (2, .int z_1), (3, .int z_3), (6, .int v6_12)]) hx hb dL_areMarksSo_283 hl (by decide) rfl (fun ls hl => ?_)
                              refine lv_iinc (v := v6_12 + (1 : Int32)) (lv' := [(6, .int (v6_12 + (1 : Int32))), (5, .int (z_19 - (0 : Int32))), (4, .int (1 : Int32)), (10, .int (0 : Int32)), (9, .int z_19), (8, .int z_17), (7, .int z_15), (0, .ref (ad 0)), (1, .int p0), (2, .int z_1), (3, .int z_3)]) hx hb dL_areMarksSo_285 hl (k := 10) rfl rfl (by decide) rfl (fun ls hl => ?_)
                              refine lv_goto (tgt := 67) hx hb dL_areMarksSo_288 (by decide) ?_
                              exact ih (z_19 - (0 : Int32)) (v6_12 + (1 : Int32))  z h _ _ _ hP hD hS (lv_sub hl [7, 8, 9, 10, 2, 1, 0] rfl) kex
                          · rw [if_neg c_66] at h
                            refine lv_iload hx hb dL_areMarksSo_233 (lv_at hl 3 rfl) ?_
                            refine lv_iload_n hx hb dL_areMarksSo_235 rfl (lv_at hl 8 rfl) ?_
                            refine lv_icmp_ne (tgt := 260) hx hb dL_areMarksSo_236 (by decide) (fun c_68 => ?_) (fun c_68 => ?_)
                            · rw [if_neg c_68] at h
                              cases h
                            · rw [if_pos c_68] at h
                              refine lv_iload hx hb dL_areMarksSo_239 (lv_at hl 2 rfl) ?_
                              refine lv_iload_n hx hb dL_areMarksSo_241 rfl (lv_at hl 8 rfl) ?_
                              refine lv_icmp_ne (tgt := 260) hx hb dL_areMarksSo_242 (by decide) (fun c_69 => ?_) (fun c_69 => ?_)
                              · rw [if_neg c_69] at h
                                cases h
                              · rw [if_pos c_69] at h
                                refine lv_aload_n hx hb dL_areMarksSo_245 rfl (lv_at hl 5 rfl) ?_
                                refine lv_iload_n hx hb dL_areMarksSo_246 rfl (lv_at hl 6 rfl) ?_
                                refine lv_iload hx hb dL_areMarksSo_247 (lv_at hl 4 rfl) ?_
                                obtain ⟨z_70, hz_71, h⟩ := qm_bind h
                                refine va_calli (va_runV (As := [.int p0, .int z_15]) (rest := []) ⟨hx, hb, hml, hown, hts⟩ (kX6_reallyUpTo l D A ad cI cQ rest S p0 z_15 z_70 hz_71) (cwV 2 hts gL_areMarksSo_X6_reallyUpTo rfl rfl rfl (by decide +kernel) ⟨Nat.le_of_ble_eq_true rfl, Nat.le_of_ble_eq_true rfl⟩) ⟨qn_blind, va_recv hK hP (ci := 6) (q0 := 0) rfl qg_Q, fun U hU hW => ⟨rfl, qm_go hA hS hP hK hD hU hW, qn_go hZ hW⟩⟩ rfl rfl hl.1 rfl (lv_room (Nat.le_of_ble_eq_true rfl)) dL_areMarksSo_249 ⟨Nat.le_of_ble_eq_true rfl, Nat.le_of_ble_eq_true rfl⟩) hS (fun _ _ h9 => h9) (fun _ h9 => h9) (fun v u t H1 locs1 ht hvm hw hB hz1 hk1 hS => ?_)
                                obtain ⟨hw1, hw2⟩ := hw
                                have hw2 : S = u := hw2.symm
                                have hw1 : z_70 = v := hw1.symm
                                subst hw1
                                subst hw2
                                obtain ⟨hP, hD⟩ := qm_bk ht hB
                                clear hB
                                refine lv_iload_n hx hb dL_areMarksSo_252 rfl (lv_at hl 8 rfl) ?_
                                refine lv_icmp_ne (tgt := 260) hx hb dL_areMarksSo_253 (by decide) (fun c_72 => ?_) (fun c_72 => ?_)
                                · rw [if_neg c_72] at h
                                  cases h
                                · rw [if_pos c_72] at h
                                  refine lv_iconst (v := (1 : Int32)) hx hb dL_areMarksSo_256 (by decide) ?_
                                  refine lv_goto (tgt := 261) hx hb dL_areMarksSo_257 (by decide) ?_
                                  refine lv_istore (lv' := [(4, .int (1 : Int32)), (10, .int (0 : Int32)), (9, .int z_19), (8, .int z_17), (7, .int z_15), (0, .ref (ad 0)), (1, .int p0), (2, .int z_1), (3, .int z_3), (5, .int v5_12), (6, .int v6_12)]) hx hb dL_areMarksSo_261 hl (by decide) rfl (fun ls hl => ?_)
                                  refine lv_iload hx hb dL_areMarksSo_263 (lv_at hl 2 rfl) ?_
                                  refine lv_iload hx hb dL_areMarksSo_265 (lv_at hl 1 rfl) ?_
                                  refine lv_isub hx hb dL_areMarksSo_267 ?_
                                  refine lv_iload hx hb dL_areMarksSo_268 (lv_at hl 9 rfl) ?_
                                  refine lv_icmp_le (tgt := 281) hx hb dL_areMarksSo_270 (by decide) (fun c_73 => ?_) (fun c_73 => ?_)
                                  · rw [if_pos c_73] at h
                                    refine lv_iload hx hb dL_areMarksSo_281 (lv_at hl 9 rfl) ?_
                                    refine lv_istore (lv' := [(5, .int v5_12), (4, .int (1 : Int32)), (10, .int (0 : Int32)), (9, .int z_19), (8, .int z_17), (7, .int z_15), (0, .ref (ad 0)), (1, .int p0), (2, .int z_1), (3, .int z_3), (6, .int v6_12)]) hx hb dL_areMarksSo_283 hl (by decide) rfl (fun ls hl => ?_)
                                    refine lv_iinc (v := v6_12 + (1 : Int32)) (lv' := [(6, .int (v6_12 + (1 : Int32))), (5, .int v5_12), (4, .int (1 : Int32)), (10, .int (0 : Int32)), (9, .int z_19), (8, .int z_17), (7, .int z_15), (0, .ref (ad 0)), (1, .int p0), (2, .int z_1), (3, .int z_3)]) hx hb dL_areMarksSo_285 hl (k := 10) rfl rfl (by decide) rfl (fun ls hl => ?_)
                                    refine lv_goto (tgt := 67) hx hb dL_areMarksSo_288 (by decide) ?_
                                    exact ih v5_12 (v6_12 + (1 : Int32))  z h _ _ _ hP hD hS (lv_sub hl [7, 8, 9, 10, 2, 1, 0] rfl) kex
                                  · rw [if_neg c_73] at h
                                    refine lv_iload hx hb dL_areMarksSo_273 (lv_at hl 2 rfl) ?_
                                    refine lv_iload hx hb dL_areMarksSo_275 (lv_at hl 1 rfl) ?_
                                    refine lv_isub hx hb dL_areMarksSo_277 ?_
                                    refine lv_goto (tgt := 283) hx hb dL_areMarksSo_278 (by decide) ?_
                                    refine lv_istore (lv' := [(5, .int (z_19 - (0 : Int32))), (4, .int (1 : Int32)), (10, .int (0 : Int32)), (9, .int z_19), (8, .int z_17), (7, .int z_15), (0, .ref (ad 0)), (1, .int p0), (2, .int z_1), (3, .int z_3), (6, .int v6_12)]) hx hb dL_areMarksSo_283 hl (by decide) rfl (fun ls hl => ?_)
                                    refine lv_iinc (v := v6_12 + (1 : Int32)) (lv' := [(6, .int (v6_12 + (1 : Int32))), (5, .int (z_19 - (0 : Int32))), (4, .int (1 : Int32)), (10, .int (0 : Int32)), (9, .int z_19), (8, .int z_17), (7, .int z_15), (0, .ref (ad 0)), (1, .int p0), (2, .int z_1), (3, .int z_3)]) hx hb dL_areMarksSo_285 hl (k := 10) rfl rfl (by decide) rfl (fun ls hl => ?_)
                                    refine lv_goto (tgt := 67) hx hb dL_areMarksSo_288 (by decide) ?_
                                    exact ih (z_19 - (0 : Int32)) (v6_12 + (1 : Int32))  z h _ _ _ hP hD hS (lv_sub hl [7, 8, 9, 10, 2, 1, 0] rfl) kex
                        · rw [if_neg c_65] at h
                          refine lv_iload hx hb dL_areMarksSo_201 (lv_at hl 3 rfl) ?_
                          refine lv_iconst (v := (1 : Int32)) hx hb dL_areMarksSo_203 (by decide) ?_
                          refine lv_icmp_ne (tgt := 260) hx hb dL_areMarksSo_204 (by decide) (fun c_74 => ?_) (fun c_74 => ?_)
                          · rw [if_neg c_74] at h
                            cases h
                          · rw [if_pos c_74] at h
                            refine lv_iload hx hb dL_areMarksSo_207 (lv_at hl 2 rfl) ?_
                            refine lv_iconst (v := (1 : Int32)) hx hb dL_areMarksSo_209 (by decide) ?_
                            refine lv_icmp_ne (tgt := 260) hx hb dL_areMarksSo_210 (by decide) (fun c_75 => ?_) (fun c_75 => ?_)
                            · rw [if_neg c_75] at h
                              cases h
                            · rw [if_pos c_75] at h
                              refine lv_aload_n hx hb dL_areMarksSo_213 rfl (lv_at hl 5 rfl) ?_
                              refine lv_iload_n hx hb dL_areMarksSo_214 rfl (lv_at hl 6 rfl) ?_
                              refine lv_iload hx hb dL_areMarksSo_215 (lv_at hl 4 rfl) ?_
                              refine lv_iconst (v := (1 : Int32)) hx hb dL_areMarksSo_217 (by decide) ?_
                              refine lv_isub hx hb dL_areMarksSo_218 ?_
                              obtain ⟨z_76, hz_77, h⟩ := qm_bind h
                              refine va_calli (va_runV (As := [.int p0, .int (z_15 - (1 : Int32))]) (rest := []) ⟨hx, hb, hml, hown, hts⟩ (kX6_reallyUpTo l D A ad cI cQ rest S p0 (z_15 - (1 : Int32)) z_76 hz_77) (cwV 2 hts gL_areMarksSo_X6_reallyUpTo rfl rfl rfl (by decide +kernel) ⟨Nat.le_of_ble_eq_true rfl, Nat.le_of_ble_eq_true rfl⟩) ⟨qn_blind, va_recv hK hP (ci := 6) (q0 := 0) rfl qg_Q, fun U hU hW => ⟨rfl, qm_go hA hS hP hK hD hU hW, qn_go hZ hW⟩⟩ rfl rfl hl.1 rfl (lv_room (Nat.le_of_ble_eq_true rfl)) dL_areMarksSo_219 ⟨Nat.le_of_ble_eq_true rfl, Nat.le_of_ble_eq_true rfl⟩) hS (fun _ _ h9 => h9) (fun _ h9 => h9) (fun v u t H1 locs1 ht hvm hw hB hz1 hk1 hS => ?_)
                              obtain ⟨hw1, hw2⟩ := hw
                              have hw2 : S = u := hw2.symm
                              have hw1 : z_76 = v := hw1.symm
                              subst hw1
                              subst hw2
                              obtain ⟨hP, hD⟩ := qm_bk ht hB
                              clear hB
                              refine lv_if_ne (tgt := 260) hx hb dL_areMarksSo_222 (by decide) (fun c_78 => ?_) (fun c_78 => ?_)
                              · rw [if_neg c_78] at h
                                cases h
                              · rw [if_pos c_78] at h
                                refine lv_iload hx hb dL_areMarksSo_225 (lv_at hl 10 rfl) ?_
                                refine lv_iload_n hx hb dL_areMarksSo_227 rfl (lv_at hl 7 rfl) ?_
                                refine lv_iconst (v := (1 : Int32)) hx hb dL_areMarksSo_228 (by decide) ?_
                                refine lv_isub hx hb dL_areMarksSo_229 ?_
                                refine lv_icmp_lt (tgt := 256) hx hb dL_areMarksSo_230 (by decide) (fun c_79 => ?_) (fun c_79 => ?_)
                                · rw [if_pos c_79] at h
                                  refine lv_iconst (v := (1 : Int32)) hx hb dL_areMarksSo_256 (by decide) ?_
                                  refine lv_goto (tgt := 261) hx hb dL_areMarksSo_257 (by decide) ?_
                                  refine lv_istore (lv' := [(4, .int (1 : Int32)), (10, .int (0 : Int32)), (9, .int z_19), (8, .int z_17), (7, .int z_15), (0, .ref (ad 0)), (1, .int p0), (2, .int z_1), (3, .int z_3), (5, .int v5_12), (6, .int v6_12)]) hx hb dL_areMarksSo_261 hl (by decide) rfl (fun ls hl => ?_)
                                  refine lv_iload hx hb dL_areMarksSo_263 (lv_at hl 2 rfl) ?_
                                  refine lv_iload hx hb dL_areMarksSo_265 (lv_at hl 1 rfl) ?_
                                  refine lv_isub hx hb dL_areMarksSo_267 ?_
                                  refine lv_iload hx hb dL_areMarksSo_268 (lv_at hl 9 rfl) ?_
                                  refine lv_icmp_le (tgt := 281) hx hb dL_areMarksSo_270 (by decide) (fun c_80 => ?_) (fun c_80 => ?_)
                                  · rw [if_pos c_80] at h
                                    refine lv_iload hx hb dL_areMarksSo_281 (lv_at hl 9 rfl) ?_
                                    refine lv_istore (lv' := [(5, .int v5_12), (4, .int (1 : Int32)), (10, .int (0 : Int32)), (9, .int z_19), (8, .int z_17), (7, .int z_15), (0, .ref (ad 0)), (1, .int p0), (2, .int z_1), (3, .int z_3), (6, .int v6_12)]) hx hb dL_areMarksSo_283 hl (by decide) rfl (fun ls hl => ?_)
                                    refine lv_iinc (v := v6_12 + (1 : Int32)) (lv' := [(6, .int (v6_12 + (1 : Int32))), (5, .int v5_12), (4, .int (1 : Int32)), (10, .int (0 : Int32)), (9, .int z_19), (8, .int z_17), (7, .int z_15), (0, .ref (ad 0)), (1, .int p0), (2, .int z_1), (3, .int z_3)]) hx hb dL_areMarksSo_285 hl (k := 10) rfl rfl (by decide) rfl (fun ls hl => ?_)
                                    refine lv_goto (tgt := 67) hx hb dL_areMarksSo_288 (by decide) ?_
                                    exact ih v5_12 (v6_12 + (1 : Int32))  z h _ _ _ hP hD hS (lv_sub hl [7, 8, 9, 10, 2, 1, 0] rfl) kex
                                  · rw [if_neg c_80] at h
                                    refine lv_iload hx hb dL_areMarksSo_273 (lv_at hl 2 rfl) ?_
                                    refine lv_iload hx hb dL_areMarksSo_275 (lv_at hl 1 rfl) ?_
                                    refine lv_isub hx hb dL_areMarksSo_277 ?_
                                    refine lv_goto (tgt := 283) hx hb dL_areMarksSo_278 (by decide) ?_
                                    refine lv_istore (lv' := [(5, .int (z_19 - (0 : Int32))), (4, .int (1 : Int32)), (10, .int (0 : Int32)), (9, .int z_19), (8, .int z_17), (7, .int z_15), (0, .ref (ad 0)), (1, .int p0), (2, .int z_1), (3, .int z_3), (6, .int v6_12)]) hx hb dL_areMarksSo_283 hl (by decide) rfl (fun ls hl => ?_)
                                    refine lv_iinc (v := v6_12 + (1 : Int32)) (lv' := [(6, .int (v6_12 + (1 : Int32))), (5, .int (z_19 - (0 : Int32))), (4, .int (1 : Int32)), (10, .int (0 : Int32)), (9, .int z_19), (8, .int z_17), (7, .int z_15), (0, .ref (ad 0)), (1, .int p0), (2, .int z_1), (3, .int z_3)]) hx hb dL_areMarksSo_285 hl (k := 10) rfl rfl (by decide) rfl (fun ls hl => ?_)
                                    refine lv_goto (tgt := 67) hx hb dL_areMarksSo_288 (by decide) ?_
                                    exact ih (z_19 - (0 : Int32)) (v6_12 + (1 : Int32))  z h _ _ _ hP hD hS (lv_sub hl [7, 8, 9, 10, 2, 1, 0] rfl) kex
                                · rw [if_neg c_79] at h
                                  refine lv_iload hx hb dL_areMarksSo_233 (lv_at hl 3 rfl) ?_
                                  refine lv_iload_n hx hb dL_areMarksSo_235 rfl (lv_at hl 8 rfl) ?_
                                  refine lv_icmp_ne (tgt := 260) hx hb dL_areMarksSo_236 (by decide) (fun c_81 => ?_) (fun c_81 => ?_)
                                  · rw [if_neg c_81] at h
                                    cases h
                                  · rw [if_pos c_81] at h
                                    refine lv_iload hx hb dL_areMarksSo_239 (lv_at hl 2 rfl) ?_
                                    refine lv_iload_n hx hb dL_areMarksSo_241 rfl (lv_at hl 8 rfl) ?_
                                    refine lv_icmp_ne (tgt := 260) hx hb dL_areMarksSo_242 (by decide) (fun c_82 => ?_) (fun c_82 => ?_)
                                    · rw [if_neg c_82] at h
                                      cases h
                                    · rw [if_pos c_82] at h
                                      refine lv_aload_n hx hb dL_areMarksSo_245 rfl (lv_at hl 5 rfl) ?_
                                      refine lv_iload_n hx hb dL_areMarksSo_246 rfl (lv_at hl 6 rfl) ?_
                                      refine lv_iload hx hb dL_areMarksSo_247 (lv_at hl 4 rfl) ?_
                                      obtain ⟨z_83, hz_84, h⟩ := qm_bind h
                                      refine va_calli (va_runV (As := [.int p0, .int z_15]) (rest := []) ⟨hx, hb, hml, hown, hts⟩ (kX6_reallyUpTo l D A ad cI cQ rest S p0 z_15 z_83 hz_84) (cwV 2 hts gL_areMarksSo_X6_reallyUpTo rfl rfl rfl (by decide +kernel) ⟨Nat.le_of_ble_eq_true rfl, Nat.le_of_ble_eq_true rfl⟩) ⟨qn_blind, va_recv hK hP (ci := 6) (q0 := 0) rfl qg_Q, fun U hU hW => ⟨rfl, qm_go hA hS hP hK hD hU hW, qn_go hZ hW⟩⟩ rfl rfl hl.1 rfl (lv_room (Nat.le_of_ble_eq_true rfl)) dL_areMarksSo_249 ⟨Nat.le_of_ble_eq_true rfl, Nat.le_of_ble_eq_true rfl⟩) hS (fun _ _ h9 => h9) (fun _ h9 => h9) (fun v u t H1 locs1 ht hvm hw hB hz1 hk1 hS => ?_)
                                      obtain ⟨hw1, hw2⟩ := hw
                                      have hw2 : S = u := hw2.symm
                                      have hw1 : z_83 = v := hw1.symm
                                      subst hw1
                                      subst hw2
                                      obtain ⟨hP, hD⟩ := qm_bk ht hB
                                      clear hB
                                      refine lv_iload_n hx hb dL_areMarksSo_252 rfl (lv_at hl 8 rfl) ?_
                                      refine lv_icmp_ne (tgt := 260) hx hb dL_areMarksSo_253 (by decide) (fun c_85 => ?_) (fun c_85 => ?_)
                                      · rw [if_neg c_85] at h
                                        cases h
                                      · rw [if_pos c_85] at h
                                        refine lv_iconst (v := (1 : Int32)) hx hb dL_areMarksSo_256 (by decide) ?_
                                        refine lv_goto (tgt := 261) hx hb dL_areMarksSo_257 (by decide) ?_
                                        refine lv_istore (lv' := [(4, .int (1 : Int32)), (10, .int (0 : Int32)), (9, .int z_19), (8, .int z_17), (7, .int z_15), (0, .ref (ad 0)), (1, .int p0), (2, .int z_1), (3, .int z_3), (5, .int v5_12), (6, .int v6_12)]) hx hb dL_areMarksSo_261 hl (by decide) rfl (fun ls hl => ?_)
                                        refine lv_iload hx hb dL_areMarksSo_263 (lv_at hl 2 rfl) ?_
                                        refine lv_iload hx hb dL_areMarksSo_265 (lv_at hl 1 rfl) ?_
                                        refine lv_isub hx hb dL_areMarksSo_267 ?_
                                        refine lv_iload hx hb dL_areMarksSo_268 (lv_at hl 9 rfl) ?_
                                        refine lv_icmp_le (tgt := 281) hx hb dL_areMarksSo_270 (by decide) (fun c_86 => ?_) (fun c_86 => ?_)
                                        · rw [if_pos c_86] at h
                                          refine lv_iload hx hb dL_areMarksSo_281 (lv_at hl 9 rfl) ?_
                                          refine lv_istore (lv' := [(5, .int v5_12), (4, .int (1 : Int32)), (10, .int (0 : Int32)), (9, .int z_19), (8, .int z_17), (7, .int z_15), (0, .ref (ad 0)), (1, .int p0), (2, .int z_1), (3, .int z_3), (6, .int v6_12)]) hx hb dL_areMarksSo_283 hl (by decide) rfl (fun ls hl => ?_)
                                          refine lv_iinc (v := v6_12 + (1 : Int32)) (lv' := [(6, .int (v6_12 + (1 : Int32))), (5, .int v5_12), (4, .int (1 : Int32)), (10, .int (0 : Int32)), (9, .int z_19), (8, .int z_17), (7, .int z_15), (0, .ref (ad 0)), (1, .int p0), (2, .int z_1), (3, .int z_3)]) hx hb dL_areMarksSo_285 hl (k := 10) rfl rfl (by decide) rfl (fun ls hl => ?_)
                                          refine lv_goto (tgt := 67) hx hb dL_areMarksSo_288 (by decide) ?_
                                          exact ih v5_12 (v6_12 + (1 : Int32))  z h _ _ _ hP hD hS (lv_sub hl [7, 8, 9, 10, 2, 1, 0] rfl) kex
                                        · rw [if_neg c_86] at h
                                          refine lv_iload hx hb dL_areMarksSo_273 (lv_at hl 2 rfl) ?_
                                          refine lv_iload hx hb dL_areMarksSo_275 (lv_at hl 1 rfl) ?_
                                          refine lv_isub hx hb dL_areMarksSo_277 ?_
                                          refine lv_goto (tgt := 283) hx hb dL_areMarksSo_278 (by decide) ?_
                                          refine lv_istore (lv' := [(5, .int (z_19 - (0 : Int32))), (4, .int (1 : Int32)), (10, .int (0 : Int32)), (9, .int z_19), (8, .int z_17), (7, .int z_15), (0, .ref (ad 0)), (1, .int p0), (2, .int z_1), (3, .int z_3), (6, .int v6_12)]) hx hb dL_areMarksSo_283 hl (by decide) rfl (fun ls hl => ?_)
                                          refine lv_iinc (v := v6_12 + (1 : Int32)) (lv' := [(6, .int (v6_12 + (1 : Int32))), (5, .int (z_19 - (0 : Int32))), (4, .int (1 : Int32)), (10, .int (0 : Int32)), (9, .int z_19), (8, .int z_17), (7, .int z_15), (0, .ref (ad 0)), (1, .int p0), (2, .int z_1), (3, .int z_3)]) hx hb dL_areMarksSo_285 hl (k := 10) rfl rfl (by decide) rfl (fun ls hl => ?_)
                                          refine lv_goto (tgt := 67) hx hb dL_areMarksSo_288 (by decide) ?_
                                          exact ih (z_19 - (0 : Int32)) (v6_12 + (1 : Int32))  z h _ _ _ hP hD hS (lv_sub hl [7, 8, 9, 10, 2, 1, 0] rfl) kex
        obtain ⟨z_87, hz_88, h⟩ := qm_bind h
        refine loop_13 qm_F (0 : Int32) (0 : Int32) z_87 hz_88 _ _ _ hP hD hS (lv_sub hl [5, 6, 4, 3, 2, 1, 0] rfl) (fun H locs ls hP hD hS hl => ?_)
        refine lv_aload_n hx hb dL_areMarksSo_291 rfl (lv_at hl 0 rfl) ?_
        refine lv_iload_n hx hb dL_areMarksSo_292 rfl (lv_at hl 1 rfl) ?_
        obtain ⟨z_89, hz_90, h⟩ := qm_bind h
        refine va_calli (va_runV (As := [.int p0]) (rest := []) ⟨hx, hb, hml, hown, hts⟩ (kX6_allowance l D A ad cI cQ rest S p0 z_89 hz_90) (cwV 1 hts gL_areMarksSo_X6_allowance rfl rfl rfl (by decide +kernel) ⟨Nat.le_of_ble_eq_true rfl, Nat.le_of_ble_eq_true rfl⟩) ⟨qn_blind, va_recv hK hP (ci := 6) (q0 := 0) rfl qg_Q, fun U hU hW => ⟨rfl, qm_go hA hS hP hK hD hU hW, qn_go hZ hW⟩⟩ rfl rfl hl.1 rfl (lv_room (Nat.le_of_ble_eq_true rfl)) dL_areMarksSo_293 ⟨Nat.le_of_ble_eq_true rfl, Nat.le_of_ble_eq_true rfl⟩) hS (fun _ _ h9 => h9) (fun _ h9 => h9) (fun v u t H1 locs1 ht hvm hw hB hz1 hk1 hS => ?_)
        obtain ⟨hw1, hw2⟩ := hw
        have hw2 : S = u := hw2.symm
        have hw1 : z_89 = v := hw1.symm
        subst hw1
        subst hw2
        obtain ⟨hP, hD⟩ := qm_bk ht hB
        clear hB
        refine lv_iconst (v := (1 : Int32)) hx hb dL_areMarksSo_296 (by decide) ?_
        refine lv_icmp_le (tgt := 308) hx hb dL_areMarksSo_297 (by decide) (fun c_91 => ?_) (fun c_91 => ?_)
        · rw [if_pos c_91] at h
          refine lv_iconst (v := (1 : Int32)) hx hb dL_areMarksSo_308 (by decide) ?_
          refine lv_istore (lv' := [(6, .int (1 : Int32)), (0, .ref (ad 0)), (1, .int p0), (2, .int z_1), (3, .int z_3), (4, .int (1 : Int32)), (5, .int z_87)]) hx hb dL_areMarksSo_309 hl (by decide) rfl (fun ls hl => ?_)
          refine lv_iload hx hb dL_areMarksSo_311 (lv_at hl 5 rfl) ?_
          refine lv_if_eq (tgt := 378) hx hb dL_areMarksSo_313 (by decide) (fun c => absurd c (by decide)) (fun _ => ?_)
          refine lv_aload_n hx hb dL_areMarksSo_316 rfl (lv_at hl 1 rfl) ?_
          refine lv_iload_n hx hb dL_areMarksSo_317 rfl (lv_at hl 2 rfl) ?_
          obtain ⟨z_92, hz_93, h⟩ := qm_bind h
          refine va_calli (va_runV (As := [.int p0]) (rest := []) ⟨hx, hb, hml, hown, hts⟩ (kX6_widest l D A ad cI cQ rest S p0 z_92 hz_93) (cwV 1 hts gL_areMarksSo_X6_widest rfl rfl rfl (by decide +kernel) ⟨Nat.le_of_ble_eq_true rfl, Nat.le_of_ble_eq_true rfl⟩) ⟨qn_blind, va_recv hK hP (ci := 6) (q0 := 0) rfl qg_Q, fun U hU hW => ⟨rfl, qm_go hA hS hP hK hD hU hW, qn_go hZ hW⟩⟩ rfl rfl hl.1 rfl (lv_room (Nat.le_of_ble_eq_true rfl)) dL_areMarksSo_318 ⟨Nat.le_of_ble_eq_true rfl, Nat.le_of_ble_eq_true rfl⟩) hS (fun _ _ h9 => h9) (fun _ h9 => h9) (fun v u t H1 locs1 ht hvm hw hB hz1 hk1 hS => ?_)
          obtain ⟨hw1, hw2⟩ := hw
          have hw2 : S = u := hw2.symm
          have hw1 : z_92 = v := hw1.symm
          subst hw1
          subst hw2
          obtain ⟨hP, hD⟩ := qm_bk ht hB
          clear hB
          refine lv_iload hx hb dL_areMarksSo_321 (lv_at hl 6 rfl) ?_
          refine lv_icmp_ne (tgt := 378) hx hb dL_areMarksSo_323 (by decide) (fun c_94 => ?_) (fun c_94 => ?_)
          · rw [if_neg c_94] at h
            cases h
          · rw [if_pos c_94] at h
            refine lv_iload hx hb dL_areMarksSo_326 (lv_at hl 6 rfl) ?_
            refine lv_iload hx hb dL_areMarksSo_328 (lv_at hl 0 rfl) ?_
            refine lv_icmp_le (tgt := 337) hx hb dL_areMarksSo_330 (by decide) (fun c_95 => ?_) (fun c_95 => ?_)
            · rw [if_pos c_95] at h
              refine lv_iload_n hx hb dL_areMarksSo_337 rfl (lv_at hl 4 rfl) ?_
              refine lv_if_ne (tgt := 354) hx hb dL_areMarksSo_338 (by decide) (fun _ => ?_) (fun c => absurd c c_6)
              refine lv_aload_n hx hb dL_areMarksSo_354 rfl (lv_at hl 1 rfl) ?_
              refine lv_iload_n hx hb dL_areMarksSo_355 rfl (lv_at hl 2 rfl) ?_
              obtain ⟨z_96, hz_97, h⟩ := qm_bind h
              refine va_calld (va_runV (As := [.int p0]) (rest := []) ⟨hx, hb, hml, hown, hts⟩ (kX6_part l D A ad cI cQ rest S p0 z_96 hz_97) (cwV 1 hts gL_areMarksSo_X6_part rfl rfl rfl (by decide +kernel) ⟨Nat.le_of_ble_eq_true rfl, Nat.le_of_ble_eq_true rfl⟩) ⟨qn_blind, va_recv hK hP (ci := 6) (q0 := 0) rfl qg_Q, fun U hU hW => ⟨rfl, qm_go hA hS hP hK hD hU hW, qn_go hZ hW⟩⟩ rfl rfl hl.1 rfl (lv_room (Nat.le_of_ble_eq_true rfl)) dL_areMarksSo_356 ⟨Nat.le_of_ble_eq_true rfl, Nat.le_of_ble_eq_true rfl⟩) hS (fun _ _ h9 => h9) (fun _ h9 => h9) (fun v u t H1 locs1 ht hvm hw hB hz1 hk1 hS => ?_)
              obtain ⟨hw1, hw2⟩ := hw
              have hw2 : S = u := hw2.symm
              have hw1 : z_96 = v := hw1.symm
              subst hw1
              subst hw2
              obtain ⟨hP, hD⟩ := qm_bk ht hB
              clear hB
              refine lv_dconst0 hx hb dL_areMarksSo_359 ?_
              refine lv_dcmp hx hb dL_areMarksSo_360 ?_
              refine lv_if_le (tgt := 378) hx hb dL_areMarksSo_361 (by decide) (fun c_98 => ?_) (fun c_98 => ?_)
              · rw [if_pos c_98] at h
                cases h
              · rw [if_neg c_98] at h
                refine lv_aload_n hx hb dL_areMarksSo_364 rfl (lv_at hl 1 rfl) ?_
                refine lv_iload_n hx hb dL_areMarksSo_365 rfl (lv_at hl 2 rfl) ?_
                obtain ⟨z_99, hz_100, h⟩ := qm_bind h
                refine va_calld (va_runV (As := [.int p0]) (rest := []) ⟨hx, hb, hml, hown, hts⟩ (kX6_part l D A ad cI cQ rest S p0 z_99 hz_100) (cwV 1 hts gL_areMarksSo_X6_part rfl rfl rfl (by decide +kernel) ⟨Nat.le_of_ble_eq_true rfl, Nat.le_of_ble_eq_true rfl⟩) ⟨qn_blind, va_recv hK hP (ci := 6) (q0 := 0) rfl qg_Q, fun U hU hW => ⟨rfl, qm_go hA hS hP hK hD hU hW, qn_go hZ hW⟩⟩ rfl rfl hl.1 rfl (lv_room (Nat.le_of_ble_eq_true rfl)) dL_areMarksSo_366 ⟨Nat.le_of_ble_eq_true rfl, Nat.le_of_ble_eq_true rfl⟩) hS (fun _ _ h9 => h9) (fun _ h9 => h9) (fun v u t H1 locs1 ht hvm hw hB hz1 hk1 hS => ?_)
                obtain ⟨hw1, hw2⟩ := hw
                have hw2 : S = u := hw2.symm
                have hw1 : z_99 = v := hw1.symm
                subst hw1
                subst hw2
                obtain ⟨hP, hD⟩ := qm_bk ht hB
                clear hB
                refine lv_dconst1 hx hb dL_areMarksSo_369 ?_
                refine lv_dcmp hx hb dL_areMarksSo_370 ?_
                refine lv_if_gt (tgt := 378) hx hb dL_areMarksSo_371 (by decide) (fun c_101 => ?_) (fun c_101 => ?_)
                · rw [if_pos c_101] at h
                  cases h
                · rw [if_neg c_101] at h
                  refine lv_iconst (v := (1 : Int32)) hx hb dL_areMarksSo_374 (by decide) ?_
                  refine lv_goto (tgt := 379) hx hb dL_areMarksSo_375 (by decide) ?_
                  have h := Option.some.inj h
                  subst h
                  rw [hQX]
                  exact W.zret (v := (1 : Int32)) hx hb hr rfl (fun t ht hW => ⟨⟨(1 : Int32), S, rfl, ⟨rfl, rfl⟩, qm_en ht hP hD⟩, hS.F ht⟩) hS.2.2 dL_areMarksSo_379
            · rw [if_neg c_95] at h
              refine lv_iload_n hx hb dL_areMarksSo_333 rfl (lv_at hl 3 rfl) ?_
              refine lv_if_ne (tgt := 378) hx hb dL_areMarksSo_334 (by decide) (fun _ => ?_) (fun c => absurd c c_5)
              cases h
        · rw [if_neg c_91] at h
          refine lv_aload_n hx hb dL_areMarksSo_300 rfl (lv_at hl 0 rfl) ?_
          refine lv_iload_n hx hb dL_areMarksSo_301 rfl (lv_at hl 1 rfl) ?_
          obtain ⟨z_102, hz_103, h⟩ := qm_bind h
          refine va_calli (va_runV (As := [.int p0]) (rest := []) ⟨hx, hb, hml, hown, hts⟩ (kX6_allowance l D A ad cI cQ rest S p0 z_102 hz_103) (cwV 1 hts gL_areMarksSo_X6_allowance rfl rfl rfl (by decide +kernel) ⟨Nat.le_of_ble_eq_true rfl, Nat.le_of_ble_eq_true rfl⟩) ⟨qn_blind, va_recv hK hP (ci := 6) (q0 := 0) rfl qg_Q, fun U hU hW => ⟨rfl, qm_go hA hS hP hK hD hU hW, qn_go hZ hW⟩⟩ rfl rfl hl.1 rfl (lv_room (Nat.le_of_ble_eq_true rfl)) dL_areMarksSo_302 ⟨Nat.le_of_ble_eq_true rfl, Nat.le_of_ble_eq_true rfl⟩) hS (fun _ _ h9 => h9) (fun _ h9 => h9) (fun v u t H1 locs1 ht hvm hw hB hz1 hk1 hS => ?_)
          obtain ⟨hw1, hw2⟩ := hw
          have hw2 : S = u := hw2.symm
          have hw1 : z_102 = v := hw1.symm
          subst hw1
          subst hw2
          obtain ⟨hP, hD⟩ := qm_bk ht hB
          clear hB
          refine lv_goto (tgt := 309) hx hb dL_areMarksSo_305 (by decide) ?_
          refine lv_istore (lv' := [(6, .int z_102), (0, .ref (ad 0)), (1, .int p0), (2, .int z_1), (3, .int z_3), (4, .int (1 : Int32)), (5, .int z_87)]) hx hb dL_areMarksSo_309 hl (by decide) rfl (fun ls hl => ?_)
          refine lv_iload hx hb dL_areMarksSo_311 (lv_at hl 5 rfl) ?_
          refine lv_if_eq (tgt := 378) hx hb dL_areMarksSo_313 (by decide) (fun c => absurd c (by decide)) (fun _ => ?_)
          refine lv_aload_n hx hb dL_areMarksSo_316 rfl (lv_at hl 1 rfl) ?_
          refine lv_iload_n hx hb dL_areMarksSo_317 rfl (lv_at hl 2 rfl) ?_
          obtain ⟨z_104, hz_105, h⟩ := qm_bind h
          refine va_calli (va_runV (As := [.int p0]) (rest := []) ⟨hx, hb, hml, hown, hts⟩ (kX6_widest l D A ad cI cQ rest S p0 z_104 hz_105) (cwV 1 hts gL_areMarksSo_X6_widest rfl rfl rfl (by decide +kernel) ⟨Nat.le_of_ble_eq_true rfl, Nat.le_of_ble_eq_true rfl⟩) ⟨qn_blind, va_recv hK hP (ci := 6) (q0 := 0) rfl qg_Q, fun U hU hW => ⟨rfl, qm_go hA hS hP hK hD hU hW, qn_go hZ hW⟩⟩ rfl rfl hl.1 rfl (lv_room (Nat.le_of_ble_eq_true rfl)) dL_areMarksSo_318 ⟨Nat.le_of_ble_eq_true rfl, Nat.le_of_ble_eq_true rfl⟩) hS (fun _ _ h9 => h9) (fun _ h9 => h9) (fun v u t H1 locs1 ht hvm hw hB hz1 hk1 hS => ?_)
          obtain ⟨hw1, hw2⟩ := hw
          have hw2 : S = u := hw2.symm
          have hw1 : z_104 = v := hw1.symm
          subst hw1
          subst hw2
          obtain ⟨hP, hD⟩ := qm_bk ht hB
          clear hB
          refine lv_iload hx hb dL_areMarksSo_321 (lv_at hl 6 rfl) ?_
          refine lv_icmp_ne (tgt := 378) hx hb dL_areMarksSo_323 (by decide) (fun c_106 => ?_) (fun c_106 => ?_)
          · rw [if_neg c_106] at h
            cases h
          · rw [if_pos c_106] at h
            refine lv_iload hx hb dL_areMarksSo_326 (lv_at hl 6 rfl) ?_
            refine lv_iload hx hb dL_areMarksSo_328 (lv_at hl 0 rfl) ?_
            refine lv_icmp_le (tgt := 337) hx hb dL_areMarksSo_330 (by decide) (fun c_107 => ?_) (fun c_107 => ?_)
            · rw [if_pos c_107] at h
              refine lv_iload_n hx hb dL_areMarksSo_337 rfl (lv_at hl 4 rfl) ?_
              refine lv_if_ne (tgt := 354) hx hb dL_areMarksSo_338 (by decide) (fun _ => ?_) (fun c => absurd c c_6)
              refine lv_aload_n hx hb dL_areMarksSo_354 rfl (lv_at hl 1 rfl) ?_
              refine lv_iload_n hx hb dL_areMarksSo_355 rfl (lv_at hl 2 rfl) ?_
              obtain ⟨z_108, hz_109, h⟩ := qm_bind h
              refine va_calld (va_runV (As := [.int p0]) (rest := []) ⟨hx, hb, hml, hown, hts⟩ (kX6_part l D A ad cI cQ rest S p0 z_108 hz_109) (cwV 1 hts gL_areMarksSo_X6_part rfl rfl rfl (by decide +kernel) ⟨Nat.le_of_ble_eq_true rfl, Nat.le_of_ble_eq_true rfl⟩) ⟨qn_blind, va_recv hK hP (ci := 6) (q0 := 0) rfl qg_Q, fun U hU hW => ⟨rfl, qm_go hA hS hP hK hD hU hW, qn_go hZ hW⟩⟩ rfl rfl hl.1 rfl (lv_room (Nat.le_of_ble_eq_true rfl)) dL_areMarksSo_356 ⟨Nat.le_of_ble_eq_true rfl, Nat.le_of_ble_eq_true rfl⟩) hS (fun _ _ h9 => h9) (fun _ h9 => h9) (fun v u t H1 locs1 ht hvm hw hB hz1 hk1 hS => ?_)
              obtain ⟨hw1, hw2⟩ := hw
              have hw2 : S = u := hw2.symm
              have hw1 : z_108 = v := hw1.symm
              subst hw1
              subst hw2
              obtain ⟨hP, hD⟩ := qm_bk ht hB
              clear hB
              refine lv_dconst0 hx hb dL_areMarksSo_359 ?_
              refine lv_dcmp hx hb dL_areMarksSo_360 ?_
              refine lv_if_le (tgt := 378) hx hb dL_areMarksSo_361 (by decide) (fun c_110 => ?_) (fun c_110 => ?_)
              · rw [if_pos c_110] at h
                cases h
              · rw [if_neg c_110] at h
                refine lv_aload_n hx hb dL_areMarksSo_364 rfl (lv_at hl 1 rfl) ?_
                refine lv_iload_n hx hb dL_areMarksSo_365 rfl (lv_at hl 2 rfl) ?_
                obtain ⟨z_111, hz_112, h⟩ := qm_bind h
                refine va_calld (va_runV (As := [.int p0]) (rest := []) ⟨hx, hb, hml, hown, hts⟩ (kX6_part l D A ad cI cQ rest S p0 z_111 hz_112) (cwV 1 hts gL_areMarksSo_X6_part rfl rfl rfl (by decide +kernel) ⟨Nat.le_of_ble_eq_true rfl, Nat.le_of_ble_eq_true rfl⟩) ⟨qn_blind, va_recv hK hP (ci := 6) (q0 := 0) rfl qg_Q, fun U hU hW => ⟨rfl, qm_go hA hS hP hK hD hU hW, qn_go hZ hW⟩⟩ rfl rfl hl.1 rfl (lv_room (Nat.le_of_ble_eq_true rfl)) dL_areMarksSo_366 ⟨Nat.le_of_ble_eq_true rfl, Nat.le_of_ble_eq_true rfl⟩) hS (fun _ _ h9 => h9) (fun _ h9 => h9) (fun v u t H1 locs1 ht hvm hw hB hz1 hk1 hS => ?_)
                obtain ⟨hw1, hw2⟩ := hw
                have hw2 : S = u := hw2.symm
                have hw1 : z_111 = v := hw1.symm
                subst hw1
                subst hw2
                obtain ⟨hP, hD⟩ := qm_bk ht hB
                clear hB
                refine lv_dconst1 hx hb dL_areMarksSo_369 ?_
                refine lv_dcmp hx hb dL_areMarksSo_370 ?_
                refine lv_if_gt (tgt := 378) hx hb dL_areMarksSo_371 (by decide) (fun c_113 => ?_) (fun c_113 => ?_)
                · rw [if_pos c_113] at h
                  cases h
                · rw [if_neg c_113] at h
                  refine lv_iconst (v := (1 : Int32)) hx hb dL_areMarksSo_374 (by decide) ?_
                  refine lv_goto (tgt := 379) hx hb dL_areMarksSo_375 (by decide) ?_
                  have h := Option.some.inj h
                  subst h
                  rw [hQX]
                  exact W.zret (v := (1 : Int32)) hx hb hr rfl (fun t ht hW => ⟨⟨(1 : Int32), S, rfl, ⟨rfl, rfl⟩, qm_en ht hP hD⟩, hS.F ht⟩) hS.2.2 dL_areMarksSo_379
            · rw [if_neg c_107] at h
              refine lv_iload_n hx hb dL_areMarksSo_333 rfl (lv_at hl 3 rfl) ?_
              refine lv_if_ne (tgt := 378) hx hb dL_areMarksSo_334 (by decide) (fun _ => ?_) (fun c => absurd c c_5)
              cases h
    · rw [if_pos c_6] at h
      refine lv_iconst (v := (1 : Int32)) hx hb dL_areMarksSo_25 (by decide) ?_
      refine lv_goto (tgt := 30) hx hb dL_areMarksSo_26 (by decide) ?_
      refine lv_icmp_ne (tgt := 58) hx hb dL_areMarksSo_30 (by decide) (fun _ => ?_) (fun c => absurd c (by decide))
      cases h
  · rw [if_pos c_5] at h
    refine lv_iconst (v := (1 : Int32)) hx hb dL_areMarksSo_16 (by decide) ?_
    refine lv_goto (tgt := 21) hx hb dL_areMarksSo_17 (by decide) ?_
    refine lv_iload_n hx hb dL_areMarksSo_21 rfl (lv_at hl 0 rfl) ?_
    refine lv_if_ne (tgt := 29) hx hb dL_areMarksSo_22 (by decide) (fun c_114 => ?_) (fun c_114 => ?_)
    · rw [if_neg c_114] at h
      refine lv_iconst (v := (0 : Int32)) hx hb dL_areMarksSo_29 (by decide) ?_
      refine lv_icmp_ne (tgt := 58) hx hb dL_areMarksSo_30 (by decide) (fun _ => ?_) (fun c => absurd c (by decide))
      cases h
    · rw [if_pos c_114] at h
      refine lv_iconst (v := (1 : Int32)) hx hb dL_areMarksSo_25 (by decide) ?_
      refine lv_goto (tgt := 30) hx hb dL_areMarksSo_26 (by decide) ?_
      refine lv_icmp_ne (tgt := 58) hx hb dL_areMarksSo_30 (by decide) (fun c => absurd (by decide) c) (fun _ => ?_)
      refine lv_aload_n hx hb dL_areMarksSo_33 rfl (lv_at hl 2 rfl) ?_
      refine lv_iload_n hx hb dL_areMarksSo_34 rfl (lv_at hl 3 rfl) ?_
      obtain ⟨z_115, hz_116, h⟩ := qm_bind h
      refine va_calli (va_runV (As := [.int p0]) (rest := []) ⟨hx, hb, hml, hown, hts⟩ (kX6_allowance l D A ad cI cQ rest S p0 z_115 hz_116) (cwV 1 hts gL_areMarksSo_X6_allowance rfl rfl rfl (by decide +kernel) ⟨Nat.le_of_ble_eq_true rfl, Nat.le_of_ble_eq_true rfl⟩) ⟨qn_blind, va_recv hK hP (ci := 6) (q0 := 0) rfl qg_Q, fun U hU hW => ⟨rfl, qm_go hA hS hP hK hD hU hW, qn_go hZ hW⟩⟩ rfl rfl hl.1 rfl (lv_room (Nat.le_of_ble_eq_true rfl)) dL_areMarksSo_35 ⟨Nat.le_of_ble_eq_true rfl, Nat.le_of_ble_eq_true rfl⟩) hS (fun _ _ h9 => h9) (fun _ h9 => h9) (fun v u t H1 locs1 ht hvm hw hB hz1 hk1 hS => ?_)
      obtain ⟨hw1, hw2⟩ := hw
      have hw2 : S = u := hw2.symm
      have hw1 : z_115 = v := hw1.symm
      subst hw1
      subst hw2
      obtain ⟨hP, hD⟩ := qm_bk ht hB
      clear hB
      refine lv_iconst (v := (2 : Int32)) hx hb dL_areMarksSo_38 (by decide) ?_
      refine lv_aload_n hx hb dL_areMarksSo_39 rfl (lv_at hl 2 rfl) ?_
      refine lv_iload_n hx hb dL_areMarksSo_40 rfl (lv_at hl 3 rfl) ?_
      obtain ⟨z_117, hz_118, h⟩ := qm_bind h
      refine va_calli (va_runV (As := [.int p0]) (rest := [.int (2 : Int32), .int z_115]) ⟨hx, hb, hml, hown, hts⟩ (kX6_bound l D A ad cI cQ rest S p0 z_117 hz_118) (cwV 1 hts gL_areMarksSo_X6_bound rfl rfl rfl (by decide +kernel) ⟨Nat.le_of_ble_eq_true rfl, Nat.le_of_ble_eq_true rfl⟩) ⟨qn_blind, va_recv hK hP (ci := 6) (q0 := 0) rfl qg_Q, fun U hU hW => ⟨rfl, qm_go hA hS hP hK hD hU hW, qn_go hZ hW⟩⟩ rfl rfl hl.1 rfl (lv_room (Nat.le_of_ble_eq_true rfl)) dL_areMarksSo_41 ⟨Nat.le_of_ble_eq_true rfl, Nat.le_of_ble_eq_true rfl⟩) hS (fun _ _ h9 => h9) (fun _ h9 => h9) (fun v u t H1 locs1 ht hvm hw hB hz1 hk1 hS => ?_)
      obtain ⟨hw1, hw2⟩ := hw
      have hw2 : S = u := hw2.symm
      have hw1 : z_117 = v := hw1.symm
      subst hw1
      subst hw2
      obtain ⟨hP, hD⟩ := qm_bk ht hB
      clear hB
      refine lv_imul hx hb dL_areMarksSo_44 ?_
      refine lv_iload_n hx hb dL_areMarksSo_45 rfl (lv_at hl 0 rfl) ?_
      refine lv_imul hx hb dL_areMarksSo_46 ?_
      refine lv_sipush (v := (1000 : Int32)) hx hb dL_areMarksSo_47 (by decide) ?_
      refine lv_idiv hx hb dL_areMarksSo_50 (by decide) ?_
      refine lv_icmp_ne (tgt := 58) hx hb dL_areMarksSo_51 (by decide) (fun c_119 => ?_) (fun c_119 => ?_)
      · rw [if_neg c_119] at h
        cases h
      · rw [if_pos c_119] at h
        refine lv_iconst (v := (1 : Int32)) hx hb dL_areMarksSo_54 (by decide) ?_
        refine lv_goto (tgt := 59) hx hb dL_areMarksSo_55 (by decide) ?_
        refine lv_istore (lv' := [(4, .int (1 : Int32)), (3, .int z_3), (2, .int z_1), (0, .ref (ad 0)), (1, .int p0)]) hx hb dL_areMarksSo_59 hl (by decide) rfl (fun ls hl => ?_)
        refine lv_iconst (v := (0 : Int32)) hx hb dL_areMarksSo_61 (by decide) ?_
        refine lv_istore (lv' := [(5, .int (0 : Int32)), (4, .int (1 : Int32)), (3, .int z_3), (2, .int z_1), (0, .ref (ad 0)), (1, .int p0)]) hx hb dL_areMarksSo_62 hl (by decide) rfl (fun ls hl => ?_)
        refine lv_iconst (v := (0 : Int32)) hx hb dL_areMarksSo_64 (by decide) ?_
        refine lv_istore (lv' := [(6, .int (0 : Int32)), (5, .int (0 : Int32)), (4, .int (1 : Int32)), (3, .int z_3), (2, .int z_1), (0, .ref (ad 0)), (1, .int p0)]) hx hb dL_areMarksSo_65 hl (by decide) rfl (fun ls hl => ?_)
        have loop_121 : ∀ (fuel : Nat) (v5_120 v6_120 : Int32) (z : Int32), fL_areMarksSo_L67 p0 z_1 z_3 fuel v5_120 v6_120 S = some z → ∀ (H : Heap) (locs : List Loc) (ls : Array Slot), va_P D vwCl (qm_W ad cI cQ rest S) H → va_D A (qm_W ad cI cQ rest S) → va_S A s.heap H locs → lv_has ls 11 [(0, .ref (ad 0)), (1, .int p0), (2, .int z_1), (3, .int z_3), (4, .int (1 : Int32)), (5, .int v5_120), (6, .int v6_120)] → (∀ (H : Heap) (locs : List Loc) (ls : Array Slot), va_P D vwCl (qm_W ad cI cQ rest S) H → va_D A (qm_W ad cI cQ rest S) → va_S A s.heap H locs → lv_has ls 11 [(0, .ref (ad 0)), (1, .int p0), (2, .int z_1), (3, .int z_3), (4, .int (1 : Int32)), (5, .int z)] → W p l e ({ frames := 6, cells := 0, slots := 0, locals := 129 } : Room) s m ([.ref (ad 0), .int p0] : List Value).toArray below meth c H locs 0 0 QX (F0 m 291 ls [])) → W p l e ({ frames := 6, cells := 0, slots := 0, locals := 129 } : Room) s m ([.ref (ad 0), .int p0] : List Value).toArray below meth c H locs 0 0 QX (F0 m 67 ls []) := by
          intro fuel
          induction fuel with
          | zero =>
            intro v5_120 v6_120 z h
            rw [fL_areMarksSo_L67] at h
            cases h
          | succ fuel ih =>
            intro v5_120 v6_120 z h H locs ls hP hD hS hl kex
            rw [fL_areMarksSo_L67] at h
            refine lv_iload hx hb dL_areMarksSo_67 (lv_at hl 6 rfl) ?_
            refine lv_iload_n hx hb dL_areMarksSo_69 rfl (lv_at hl 2 rfl) ?_
            refine lv_icmp_ge (tgt := 291) hx hb dL_areMarksSo_70 (by decide) (fun c_122 => ?_) (fun c_122 => ?_)
            · rw [if_pos c_122] at h
              have h := Option.some.inj h
              subst h
              exact kex _ _ _ hP hD hS (lv_sub hl [0, 1, 2, 3, 4, 5] rfl)
            · rw [if_neg c_122] at h
              refine lv_iload hx hb dL_areMarksSo_73 (lv_at hl 4 rfl) ?_
              refine lv_if_eq (tgt := 291) hx hb dL_areMarksSo_75 (by decide) (fun c => absurd c (by decide)) (fun _ => ?_)
              refine lv_aload_n hx hb dL_areMarksSo_78 rfl (lv_at hl 0 rfl) ?_
              refine lv_iload_n hx hb dL_areMarksSo_79 rfl (lv_at hl 1 rfl) ?_
              refine lv_iload hx hb dL_areMarksSo_80 (lv_at hl 6 rfl) ?_
              obtain ⟨z_123, hz_124, h⟩ := qm_bind h
              refine va_calli (va_runV (As := [.int p0, .int v6_120]) (rest := []) ⟨hx, hb, hml, hown, hts⟩ (kX6_value l D A ad cI cQ rest S p0 v6_120 z_123 hz_124) (cwV 2 hts gL_areMarksSo_X6_value rfl rfl rfl (by decide +kernel) ⟨Nat.le_of_ble_eq_true rfl, Nat.le_of_ble_eq_true rfl⟩) ⟨qn_blind, va_recv hK hP (ci := 6) (q0 := 0) rfl qg_Q, fun U hU hW => ⟨rfl, qm_go hA hS hP hK hD hU hW, qn_go hZ hW⟩⟩ rfl rfl hl.1 rfl (lv_room (Nat.le_of_ble_eq_true rfl)) dL_areMarksSo_82 ⟨Nat.le_of_ble_eq_true rfl, Nat.le_of_ble_eq_true rfl⟩) hS (fun _ _ h9 => h9) (fun _ h9 => h9) (fun v u t H1 locs1 ht hvm hw hB hz1 hk1 hS => ?_)
              obtain ⟨hw1, hw2⟩ := hw
              have hw2 : S = u := hw2.symm
              have hw1 : z_123 = v := hw1.symm
              subst hw1
              subst hw2
              obtain ⟨hP, hD⟩ := qm_bk ht hB
              clear hB
              refine lv_istore (lv' := [(7, .int z_123), (0, .ref (ad 0)), (1, .int p0), (2, .int z_1), (3, .int z_3), (4, .int (1 : Int32)), (5, .int v5_120), (6, .int v6_120)]) hx hb dL_areMarksSo_85 hl (by decide) rfl (fun ls hl => ?_)
              refine lv_aload_n hx hb dL_areMarksSo_87 rfl (lv_at hl 1 rfl) ?_
              refine lv_iload_n hx hb dL_areMarksSo_88 rfl (lv_at hl 2 rfl) ?_
              refine lv_iload hx hb dL_areMarksSo_89 (lv_at hl 7 rfl) ?_
              obtain ⟨z_125, hz_126, h⟩ := qm_bind h
              refine va_calli (va_runV (As := [.int p0, .int v6_120]) (rest := []) ⟨hx, hb, hml, hown, hts⟩ (kX6_lowestRank l D A ad cI cQ rest S p0 v6_120 z_125 hz_126) (cwV 2 hts gL_areMarksSo_X6_lowestRank rfl rfl rfl (by decide +kernel) ⟨Nat.le_of_ble_eq_true rfl, Nat.le_of_ble_eq_true rfl⟩) ⟨qn_blind, va_recv hK hP (ci := 6) (q0 := 0) rfl qg_Q, fun U hU hW => ⟨rfl, qm_go hA hS hP hK hD hU hW, qn_go hZ hW⟩⟩ rfl rfl hl.1 rfl (lv_room (Nat.le_of_ble_eq_true rfl)) dL_areMarksSo_91 ⟨Nat.le_of_ble_eq_true rfl, Nat.le_of_ble_eq_true rfl⟩) hS (fun _ _ h9 => h9) (fun _ h9 => h9) (fun v u t H1 locs1 ht hvm hw hB hz1 hk1 hS => ?_)
              obtain ⟨hw1, hw2⟩ := hw
              have hw2 : S = u := hw2.symm
              have hw1 : z_125 = v := hw1.symm
              subst hw1
              subst hw2
              obtain ⟨hP, hD⟩ := qm_bk ht hB
              clear hB
              refine lv_istore (lv' := [(8, .int z_125), (7, .int z_123), (0, .ref (ad 0)), (1, .int p0), (2, .int z_1), (3, .int z_3), (4, .int (1 : Int32)), (5, .int v5_120), (6, .int v6_120)]) hx hb dL_areMarksSo_94 hl (by decide) rfl (fun ls hl => ?_)
              refine lv_aload_n hx hb dL_areMarksSo_96 rfl (lv_at hl 2 rfl) ?_
              refine lv_iload_n hx hb dL_areMarksSo_97 rfl (lv_at hl 3 rfl) ?_
              refine lv_iload hx hb dL_areMarksSo_98 (lv_at hl 8 rfl) ?_
              obtain ⟨z_127, hz_128, h⟩ := qm_bind h
              refine va_calli (va_runV (As := [.int p0, .int v6_120]) (rest := []) ⟨hx, hb, hml, hown, hts⟩ (kX6_highestRank l D A ad cI cQ rest S p0 v6_120 z_127 hz_128) (cwV 2 hts gL_areMarksSo_X6_highestRank rfl rfl rfl (by decide +kernel) ⟨Nat.le_of_ble_eq_true rfl, Nat.le_of_ble_eq_true rfl⟩) ⟨qn_blind, va_recv hK hP (ci := 6) (q0 := 0) rfl qg_Q, fun U hU hW => ⟨rfl, qm_go hA hS hP hK hD hU hW, qn_go hZ hW⟩⟩ rfl rfl hl.1 rfl (lv_room (Nat.le_of_ble_eq_true rfl)) dL_areMarksSo_100 ⟨Nat.le_of_ble_eq_true rfl, Nat.le_of_ble_eq_true rfl⟩) hS (fun _ _ h9 => h9) (fun _ h9 => h9) (fun v u t H1 locs1 ht hvm hw hB hz1 hk1 hS => ?_)
              obtain ⟨hw1, hw2⟩ := hw
              have hw2 : S = u := hw2.symm
              have hw1 : z_127 = v := hw1.symm
              subst hw1
              subst hw2
              obtain ⟨hP, hD⟩ := qm_bk ht hB
              clear hB
              refine lv_istore (lv' := [(9, .int z_127), (8, .int z_125), (7, .int z_123), (0, .ref (ad 0)), (1, .int p0), (2, .int z_1), (3, .int z_3), (4, .int (1 : Int32)), (5, .int v5_120), (6, .int v6_120)]) hx hb dL_areMarksSo_103 hl (by decide) rfl (fun ls hl => ?_)
              refine lv_iload hx hb dL_areMarksSo_105 (lv_at hl 9 rfl) ?_
              refine lv_if_ne (tgt := 114) hx hb dL_areMarksSo_107 (by decide) (fun c_129 => ?_) (fun c_129 => ?_)
              · rw [if_neg c_129] at h
                refine lv_aload_n hx hb dL_areMarksSo_114 rfl (lv_at hl 3 rfl) ?_
                refine lv_iload_n hx hb dL_areMarksSo_115 rfl (lv_at hl 4 rfl) ?_
                refine lv_iload hx hb dL_areMarksSo_116 (lv_at hl 9 rfl) ?_
                refine lv_iconst (v := (1 : Int32)) hx hb dL_areMarksSo_118 (by decide) ?_
                refine lv_isub hx hb dL_areMarksSo_119 ?_
                obtain ⟨z_130, hz_131, h⟩ := qm_bind h
                refine va_calli (va_runV (As := [.int p0, .int (v6_120 - (1 : Int32))]) (rest := []) ⟨hx, hb, hml, hown, hts⟩ (kX6_lowestRank l D A ad cI cQ rest S p0 (v6_120 - (1 : Int32)) z_130 hz_131) (cwV 2 hts gL_areMarksSo_X6_lowestRank rfl rfl rfl (by decide +kernel) ⟨Nat.le_of_ble_eq_true rfl, Nat.le_of_ble_eq_true rfl⟩) ⟨qn_blind, va_recv hK hP (ci := 6) (q0 := 0) rfl qg_Q, fun U hU hW => ⟨rfl, qm_go hA hS hP hK hD hU hW, qn_go hZ hW⟩⟩ rfl rfl hl.1 rfl (lv_room (Nat.le_of_ble_eq_true rfl)) dL_areMarksSo_120 ⟨Nat.le_of_ble_eq_true rfl, Nat.le_of_ble_eq_true rfl⟩) hS (fun _ _ h9 => h9) (fun _ h9 => h9) (fun v u t H1 locs1 ht hvm hw hB hz1 hk1 hS => ?_)
                obtain ⟨hw1, hw2⟩ := hw
                have hw2 : S = u := hw2.symm
                have hw1 : z_130 = v := hw1.symm
                subst hw1
                subst hw2
                obtain ⟨hP, hD⟩ := qm_bk ht hB
                clear hB
                refine lv_istore (lv' := [(10, .int z_130), (9, .int z_127), (8, .int z_125), (7, .int z_123), (0, .ref (ad 0)), (1, .int p0), (2, .int z_1), (3, .int z_3), (4, .int (1 : Int32)), (5, .int v5_120), (6, .int v6_120)]) hx hb dL_areMarksSo_123 hl (by decide) rfl (fun ls hl => ?_)
                refine lv_iload hx hb dL_areMarksSo_125 (lv_at hl 2 rfl) ?_
                refine lv_iload hx hb dL_areMarksSo_127 (lv_at hl 0 rfl) ?_
                refine lv_icmp_le (tgt := 188) hx hb dL_areMarksSo_129 (by decide) (fun c_132 => ?_) (fun c_132 => ?_)
                · rw [if_pos c_132] at h
                  cases h
                · rw [if_neg c_132] at h
                  refine lv_iload hx hb dL_areMarksSo_132 (lv_at hl 2 rfl) ?_
                  refine lv_iload hx hb dL_areMarksSo_134 (lv_at hl 1 rfl) ?_
                  refine lv_icmp_gt (tgt := 188) hx hb dL_areMarksSo_136 (by decide) (fun c_133 => ?_) (fun c_133 => ?_)
                  · rw [if_pos c_133] at h
                    cases h
                  · rw [if_neg c_133] at h
                    refine lv_iload hx hb dL_areMarksSo_139 (lv_at hl 10 rfl) ?_
                    refine lv_if_eq (tgt := 158) hx hb dL_areMarksSo_141 (by decide) (fun c => absurd c c_129) (fun _ => ?_)
                    refine lv_aload_n hx hb dL_areMarksSo_144 rfl (lv_at hl 4 rfl) ?_
                    refine lv_iload_n hx hb dL_areMarksSo_145 rfl (lv_at hl 5 rfl) ?_
                    refine lv_iload hx hb dL_areMarksSo_146 (lv_at hl 10 rfl) ?_
                    refine lv_iconst (v := (1 : Int32)) hx hb dL_areMarksSo_148 (by decide) ?_
                    refine lv_isub hx hb dL_areMarksSo_149 ?_
                    obtain ⟨z_134, hz_135, h⟩ := qm_bind h
                    refine va_calli (va_runV (As := [.int p0, .int (v6_120 - (1 : Int32))]) (rest := []) ⟨hx, hb, hml, hown, hts⟩ (kX6_value l D A ad cI cQ rest S p0 (v6_120 - (1 : Int32)) z_134 hz_135) (cwV 2 hts gL_areMarksSo_X6_value rfl rfl rfl (by decide +kernel) ⟨Nat.le_of_ble_eq_true rfl, Nat.le_of_ble_eq_true rfl⟩) ⟨qn_blind, va_recv hK hP (ci := 6) (q0 := 0) rfl qg_Q, fun U hU hW => ⟨rfl, qm_go hA hS hP hK hD hU hW, qn_go hZ hW⟩⟩ rfl rfl hl.1 rfl (lv_room (Nat.le_of_ble_eq_true rfl)) dL_areMarksSo_150 ⟨Nat.le_of_ble_eq_true rfl, Nat.le_of_ble_eq_true rfl⟩) hS (fun _ _ h9 => h9) (fun _ h9 => h9) (fun v u t H1 locs1 ht hvm hw hB hz1 hk1 hS => ?_)
                    obtain ⟨hw1, hw2⟩ := hw
                    have hw2 : S = u := hw2.symm
                    have hw1 : z_134 = v := hw1.symm
                    subst hw1
                    subst hw2
                    obtain ⟨hP, hD⟩ := qm_bk ht hB
                    clear hB
                    refine lv_iload hx hb dL_areMarksSo_153 (lv_at hl 3 rfl) ?_
                    refine lv_icmp_gt (tgt := 188) hx hb dL_areMarksSo_155 (by decide) (fun c_136 => ?_) (fun c_136 => ?_)
                    · rw [if_pos c_136] at h
                      cases h
                    · rw [if_neg c_136] at h
                      refine lv_aload_n hx hb dL_areMarksSo_158 rfl (lv_at hl 4 rfl) ?_
                      refine lv_iload_n hx hb dL_areMarksSo_159 rfl (lv_at hl 5 rfl) ?_
                      refine lv_iload hx hb dL_areMarksSo_160 (lv_at hl 3 rfl) ?_
                      obtain ⟨z_137, hz_138, h⟩ := qm_bind h
                      refine va_calli (va_runV (As := [.int p0, .int z_123]) (rest := []) ⟨hx, hb, hml, hown, hts⟩ (kX6_reallyUpTo l D A ad cI cQ rest S p0 z_123 z_137 hz_138) (cwV 2 hts gL_areMarksSo_X6_reallyUpTo rfl rfl rfl (by decide +kernel) ⟨Nat.le_of_ble_eq_true rfl, Nat.le_of_ble_eq_true rfl⟩) ⟨qn_blind, va_recv hK hP (ci := 6) (q0 := 0) rfl qg_Q, fun U hU hW => ⟨rfl, qm_go hA hS hP hK hD hU hW, qn_go hZ hW⟩⟩ rfl rfl hl.1 rfl (lv_room (Nat.le_of_ble_eq_true rfl)) dL_areMarksSo_162 ⟨Nat.le_of_ble_eq_true rfl, Nat.le_of_ble_eq_true rfl⟩) hS (fun _ _ h9 => h9) (fun _ h9 => h9) (fun v u t H1 locs1 ht hvm hw hB hz1 hk1 hS => ?_)
                      obtain ⟨hw1, hw2⟩ := hw
                      have hw2 : S = u := hw2.symm
                      have hw1 : z_137 = v := hw1.symm
                      subst hw1
                      subst hw2
                      obtain ⟨hP, hD⟩ := qm_bk ht hB
                      clear hB
                      refine lv_iload hx hb dL_areMarksSo_165 (lv_at hl 2 rfl) ?_
                      refine lv_icmp_lt (tgt := 188) hx hb dL_areMarksSo_167 (by decide) (fun c_139 => ?_) (fun c_139 => ?_)
                      · rw [if_pos c_139] at h
                        cases h
                      · rw [if_neg c_139] at h
                        refine lv_aload_n hx hb dL_areMarksSo_170 rfl (lv_at hl 4 rfl) ?_
                        refine lv_iload_n hx hb dL_areMarksSo_171 rfl (lv_at hl 5 rfl) ?_
                        refine lv_iload hx hb dL_areMarksSo_172 (lv_at hl 3 rfl) ?_
                        refine lv_iconst (v := (1 : Int32)) hx hb dL_areMarksSo_174 (by decide) ?_
                        refine lv_isub hx hb dL_areMarksSo_175 ?_
                        obtain ⟨z_140, hz_141, h⟩ := qm_bind h
                        refine va_calli (va_runV (As := [.int p0, .int (z_123 - (1 : Int32))]) (rest := []) ⟨hx, hb, hml, hown, hts⟩ (kX6_reallyUpTo l D A ad cI cQ rest S p0 (z_123 - (1 : Int32)) z_140 hz_141) (cwV 2 hts gL_areMarksSo_X6_reallyUpTo rfl rfl rfl (by decide +kernel) ⟨Nat.le_of_ble_eq_true rfl, Nat.le_of_ble_eq_true rfl⟩) ⟨qn_blind, va_recv hK hP (ci := 6) (q0 := 0) rfl qg_Q, fun U hU hW => ⟨rfl, qm_go hA hS hP hK hD hU hW, qn_go hZ hW⟩⟩ rfl rfl hl.1 rfl (lv_room (Nat.le_of_ble_eq_true rfl)) dL_areMarksSo_176 ⟨Nat.le_of_ble_eq_true rfl, Nat.le_of_ble_eq_true rfl⟩) hS (fun _ _ h9 => h9) (fun _ h9 => h9) (fun v u t H1 locs1 ht hvm hw hB hz1 hk1 hS => ?_)
                        obtain ⟨hw1, hw2⟩ := hw
                        have hw2 : S = u := hw2.symm
                        have hw1 : z_140 = v := hw1.symm
                        subst hw1
                        subst hw2
                        obtain ⟨hP, hD⟩ := qm_bk ht hB
                        clear hB
                        refine lv_iload hx hb dL_areMarksSo_179 (lv_at hl 1 rfl) ?_
                        refine lv_icmp_ge (tgt := 188) hx hb dL_areMarksSo_181 (by decide) (fun c_142 => ?_) (fun c_142 => ?_)
                        · rw [if_pos c_142] at h
                          cases h
                        · rw [if_neg c_142] at h
                          refine lv_iconst (v := (1 : Int32)) hx hb dL_areMarksSo_184 (by decide) ?_
                          refine lv_goto (tgt := 189) hx hb dL_areMarksSo_185 (by decide) ?_
                          refine lv_istore (lv' := [(4, .int (1 : Int32)), (10, .int z_130), (9, .int z_127), (8, .int z_125), (7, .int z_123), (0, .ref (ad 0)), (1, .int p0), (2, .int z_1), (3, .int z_3), (5, .int v5_120), (6, .int v6_120)]) hx hb dL_areMarksSo_189 hl (by decide) rfl (fun ls hl => ?_)
                          refine lv_iload hx hb dL_areMarksSo_191 (lv_at hl 0 rfl) ?_
                          refine lv_if_eq (tgt := 260) hx hb dL_areMarksSo_193 (by decide) (fun c => absurd c (by decide)) (fun _ => ?_)
                          refine lv_iload hx hb dL_areMarksSo_196 (lv_at hl 10 rfl) ?_
                          refine lv_if_gt (tgt := 225) hx hb dL_areMarksSo_198 (by decide) (fun c_143 => ?_) (fun c_143 => ?_)
                          · rw [if_pos c_143] at h
                            refine lv_iload hx hb dL_areMarksSo_225 (lv_at hl 10 rfl) ?_
                            refine lv_iload_n hx hb dL_areMarksSo_227 rfl (lv_at hl 7 rfl) ?_
                            refine lv_iconst (v := (1 : Int32)) hx hb dL_areMarksSo_228 (by decide) ?_
                            refine lv_isub hx hb dL_areMarksSo_229 ?_
                            refine lv_icmp_lt (tgt := 256) hx hb dL_areMarksSo_230 (by decide) (fun c_144 => ?_) (fun c_144 => ?_)
                            · rw [if_pos c_144] at h
                              refine lv_iconst (v := (1 : Int32)) hx hb dL_areMarksSo_256 (by decide) ?_
                              refine lv_goto (tgt := 261) hx hb dL_areMarksSo_257 (by decide) ?_
                              refine lv_istore (lv' := [(4, .int (1 : Int32)), (10, .int z_130), (9, .int z_127), (8, .int z_125), (7, .int z_123), (0, .ref (ad 0)), (1, .int p0), (2, .int z_1), (3, .int z_3), (5, .int v5_120), (6, .int v6_120)]) hx hb dL_areMarksSo_261 hl (by decide) rfl (fun ls hl => ?_)
                              refine lv_iload hx hb dL_areMarksSo_263 (lv_at hl 2 rfl) ?_
                              refine lv_iload hx hb dL_areMarksSo_265 (lv_at hl 1 rfl) ?_
                              refine lv_isub hx hb dL_areMarksSo_267 ?_
                              refine lv_iload hx hb dL_areMarksSo_268 (lv_at hl 9 rfl) ?_
                              refine lv_icmp_le (tgt := 281) hx hb dL_areMarksSo_270 (by decide) (fun c_145 => ?_) (fun c_145 => ?_)
                              · rw [if_pos c_145] at h
                                refine lv_iload hx hb dL_areMarksSo_281 (lv_at hl 9 rfl) ?_
                                refine lv_istore (lv' := [(5, .int v5_120), (4, .int (1 : Int32)), (10, .int z_130), (9, .int z_127), (8, .int z_125), (7, .int z_123), (0, .ref (ad 0)), (1, .int p0), (2, .int z_1), (3, .int z_3), (6, .int v6_120)]) hx hb dL_areMarksSo_283 hl (by decide) rfl (fun ls hl => ?_)
                                refine lv_iinc (v := v6_120 + (1 : Int32)) (lv' := [(6, .int (v6_120 + (1 : Int32))), (5, .int v5_120), (4, .int (1 : Int32)), (10, .int z_130), (9, .int z_127), (8, .int z_125), (7, .int z_123), (0, .ref (ad 0)), (1, .int p0), (2, .int z_1), (3, .int z_3)]) hx hb dL_areMarksSo_285 hl (k := 10) rfl rfl (by decide) rfl (fun ls hl => ?_)
                                refine lv_goto (tgt := 67) hx hb dL_areMarksSo_288 (by decide) ?_
                                exact ih v5_120 (v6_120 + (1 : Int32))  z h _ _ _ hP hD hS (lv_sub hl [7, 8, 9, 10, 2, 1, 0] rfl) kex
                              · rw [if_neg c_145] at h
                                refine lv_iload hx hb dL_areMarksSo_273 (lv_at hl 2 rfl) ?_
                                refine lv_iload hx hb dL_areMarksSo_275 (lv_at hl 1 rfl) ?_
                                refine lv_isub hx hb dL_areMarksSo_277 ?_
                                refine lv_goto (tgt := 283) hx hb dL_areMarksSo_278 (by decide) ?_
                                refine lv_istore (lv' := [(5, .int (z_127 - z_130)), (4, .int (1 : Int32)), (10, .int z_130), (9, .int z_127), (8, .int z_125), (7, .int z_123), (0, .ref (ad 0)), (1, .int p0), (2, .int z_1), (3, .int z_3), (6, .int v6_120)]) hx hb dL_areMarksSo_283 hl (by decide) rfl (fun ls hl => ?_)
                                refine lv_iinc (v := v6_120 + (1 : Int32)) (lv' := [(6, .int (v6_120 + (1 : Int32))), (5, .int (z_127 - z_130)), (4, .int (1 : Int32)), (10, .int z_130), (9, .int z_127), (8, .int z_125), (7, .int z_123), (0, .ref (ad 0)), (1, .int p0), (2, .int z_1), (3, .int z_3)]) hx hb dL_areMarksSo_285 hl (k := 10) rfl rfl (by decide) rfl (fun ls hl => ?_)
                                refine lv_goto (tgt := 67) hx hb dL_areMarksSo_288 (by decide) ?_
                                exact ih (z_127 - z_130) (v6_120 + (1 : Int32))  z h _ _ _ hP hD hS (lv_sub hl [7, 8, 9, 10, 2, 1, 0] rfl) kex
                            · rw [if_neg c_144] at h
                              refine lv_iload hx hb dL_areMarksSo_233 (lv_at hl 3 rfl) ?_
                              refine lv_iload_n hx hb dL_areMarksSo_235 rfl (lv_at hl 8 rfl) ?_
                              refine lv_icmp_ne (tgt := 260) hx hb dL_areMarksSo_236 (by decide) (fun c_146 => ?_) (fun c_146 => ?_)
                              · rw [if_neg c_146] at h
                                cases h
                              · rw [if_pos c_146] at h
                                refine lv_iload hx hb dL_areMarksSo_239 (lv_at hl 2 rfl) ?_
                                refine lv_iload_n hx hb dL_areMarksSo_241 rfl (lv_at hl 8 rfl) ?_
                                refine lv_icmp_ne (tgt := 260) hx hb dL_areMarksSo_242 (by decide) (fun c_147 => ?_) (fun c_147 => ?_)
                                · rw [if_neg c_147] at h
                                  cases h
                                · rw [if_pos c_147] at h
                                  refine lv_aload_n hx hb dL_areMarksSo_245 rfl (lv_at hl 5 rfl) ?_
                                  refine lv_iload_n hx hb dL_areMarksSo_246 rfl (lv_at hl 6 rfl) ?_
                                  refine lv_iload hx hb dL_areMarksSo_247 (lv_at hl 4 rfl) ?_
                                  obtain ⟨z_148, hz_149, h⟩ := qm_bind h
                                  refine va_calli (va_runV (As := [.int p0, .int z_123]) (rest := []) ⟨hx, hb, hml, hown, hts⟩ (kX6_reallyUpTo l D A ad cI cQ rest S p0 z_123 z_148 hz_149) (cwV 2 hts gL_areMarksSo_X6_reallyUpTo rfl rfl rfl (by decide +kernel) ⟨Nat.le_of_ble_eq_true rfl, Nat.le_of_ble_eq_true rfl⟩) ⟨qn_blind, va_recv hK hP (ci := 6) (q0 := 0) rfl qg_Q, fun U hU hW => ⟨rfl, qm_go hA hS hP hK hD hU hW, qn_go hZ hW⟩⟩ rfl rfl hl.1 rfl (lv_room (Nat.le_of_ble_eq_true rfl)) dL_areMarksSo_249 ⟨Nat.le_of_ble_eq_true rfl, Nat.le_of_ble_eq_true rfl⟩) hS (fun _ _ h9 => h9) (fun _ h9 => h9) (fun v u t H1 locs1 ht hvm hw hB hz1 hk1 hS => ?_)
                                  obtain ⟨hw1, hw2⟩ := hw
                                  have hw2 : S = u := hw2.symm
                                  have hw1 : z_148 = v := hw1.symm
                                  subst hw1
                                  subst hw2
                                  obtain ⟨hP, hD⟩ := qm_bk ht hB
                                  clear hB
                                  refine lv_iload_n hx hb dL_areMarksSo_252 rfl (lv_at hl 8 rfl) ?_
                                  refine lv_icmp_ne (tgt := 260) hx hb dL_areMarksSo_253 (by decide) (fun c_150 => ?_) (fun c_150 => ?_)
                                  · rw [if_neg c_150] at h
                                    cases h
                                  · rw [if_pos c_150] at h
                                    refine lv_iconst (v := (1 : Int32)) hx hb dL_areMarksSo_256 (by decide) ?_
                                    refine lv_goto (tgt := 261) hx hb dL_areMarksSo_257 (by decide) ?_
                                    refine lv_istore (lv' := [(4, .int (1 : Int32)), (10, .int z_130), (9, .int z_127), (8, .int z_125), (7, .int z_123), (0, .ref (ad 0)), (1, .int p0), (2, .int z_1), (3, .int z_3), (5, .int v5_120), (6, .int v6_120)]) hx hb dL_areMarksSo_261 hl (by decide) rfl (fun ls hl => ?_)
                                    refine lv_iload hx hb dL_areMarksSo_263 (lv_at hl 2 rfl) ?_
                                    refine lv_iload hx hb dL_areMarksSo_265 (lv_at hl 1 rfl) ?_
                                    refine lv_isub hx hb dL_areMarksSo_267 ?_
                                    refine lv_iload hx hb dL_areMarksSo_268 (lv_at hl 9 rfl) ?_
                                    refine lv_icmp_le (tgt := 281) hx hb dL_areMarksSo_270 (by decide) (fun c_151 => ?_) (fun c_151 => ?_)
                                    · rw [if_pos c_151] at h
                                      refine lv_iload hx hb dL_areMarksSo_281 (lv_at hl 9 rfl) ?_
                                      refine lv_istore (lv' := [(5, .int v5_120), (4, .int (1 : Int32)), (10, .int z_130), (9, .int z_127), (8, .int z_125), (7, .int z_123), (0, .ref (ad 0)), (1, .int p0), (2, .int z_1), (3, .int z_3), (6, .int v6_120)]) hx hb dL_areMarksSo_283 hl (by decide) rfl (fun ls hl => ?_)
                                      refine lv_iinc (v := v6_120 + (1 : Int32)) (lv' := [(6, .int (v6_120 + (1 : Int32))), (5, .int v5_120), (4, .int (1 : Int32)), (10, .int z_130), (9, .int z_127), (8, .int z_125), (7, .int z_123), (0, .ref (ad 0)), (1, .int p0), (2, .int z_1), (3, .int z_3)]) hx hb dL_areMarksSo_285 hl (k := 10) rfl rfl (by decide) rfl (fun ls hl => ?_)
                                      refine lv_goto (tgt := 67) hx hb dL_areMarksSo_288 (by decide) ?_
                                      exact ih v5_120 (v6_120 + (1 : Int32))  z h _ _ _ hP hD hS (lv_sub hl [7, 8, 9, 10, 2, 1, 0] rfl) kex
                                    · rw [if_neg c_151] at h
                                      refine lv_iload hx hb dL_areMarksSo_273 (lv_at hl 2 rfl) ?_
                                      refine lv_iload hx hb dL_areMarksSo_275 (lv_at hl 1 rfl) ?_
                                      refine lv_isub hx hb dL_areMarksSo_277 ?_
                                      refine lv_goto (tgt := 283) hx hb dL_areMarksSo_278 (by decide) ?_
                                      refine lv_istore (lv' := [(5, .int (z_127 - z_130)), (4, .int (1 : Int32)), (10, .int z_130), (9, .int z_127), (8, .int z_125), (7, .int z_123), (0, .ref (ad 0)), (1, .int p0), (2, .int z_1), (3, .int z_3), (6, .int v6_120)]) hx hb dL_areMarksSo_283 hl (by decide) rfl (fun ls hl => ?_)
                                      refine lv_iinc (v := v6_120 + (1 : Int32)) (lv' := [(6, .int (v6_120 + (1 : Int32))), (5, .int (z_127 - z_130)), (4, .int (1 : Int32)), (10, .int z_130), (9, .int z_127), (8, .int z_125), (7, .int z_123), (0, .ref (ad 0)), (1, .int p0), (2, .int z_1), (3, .int z_3)]) hx hb dL_areMarksSo_285 hl (k := 10) rfl rfl (by decide) rfl (fun ls hl => ?_)
                                      refine lv_goto (tgt := 67) hx hb dL_areMarksSo_288 (by decide) ?_
                                      exact ih (z_127 - z_130) (v6_120 + (1 : Int32))  z h _ _ _ hP hD hS (lv_sub hl [7, 8, 9, 10, 2, 1, 0] rfl) kex
                          · rw [if_neg c_143] at h
                            refine lv_iload hx hb dL_areMarksSo_201 (lv_at hl 3 rfl) ?_
                            refine lv_iconst (v := (1 : Int32)) hx hb dL_areMarksSo_203 (by decide) ?_
                            refine lv_icmp_ne (tgt := 260) hx hb dL_areMarksSo_204 (by decide) (fun c_152 => ?_) (fun c_152 => ?_)
                            · rw [if_neg c_152] at h
                              cases h
                            · rw [if_pos c_152] at h
                              refine lv_iload hx hb dL_areMarksSo_207 (lv_at hl 2 rfl) ?_
                              refine lv_iconst (v := (1 : Int32)) hx hb dL_areMarksSo_209 (by decide) ?_
                              refine lv_icmp_ne (tgt := 260) hx hb dL_areMarksSo_210 (by decide) (fun c_153 => ?_) (fun c_153 => ?_)
                              · rw [if_neg c_153] at h
                                cases h
                              · rw [if_pos c_153] at h
                                refine lv_aload_n hx hb dL_areMarksSo_213 rfl (lv_at hl 5 rfl) ?_
                                refine lv_iload_n hx hb dL_areMarksSo_214 rfl (lv_at hl 6 rfl) ?_
                                refine lv_iload hx hb dL_areMarksSo_215 (lv_at hl 4 rfl) ?_
                                refine lv_iconst (v := (1 : Int32)) hx hb dL_areMarksSo_217 (by decide) ?_
                                refine lv_isub hx hb dL_areMarksSo_218 ?_
                                obtain ⟨z_154, hz_155, h⟩ := qm_bind h
                                refine va_calli (va_runV (As := [.int p0, .int (z_123 - (1 : Int32))]) (rest := []) ⟨hx, hb, hml, hown, hts⟩ (kX6_reallyUpTo l D A ad cI cQ rest S p0 (z_123 - (1 : Int32)) z_154 hz_155) (cwV 2 hts gL_areMarksSo_X6_reallyUpTo rfl rfl rfl (by decide +kernel) ⟨Nat.le_of_ble_eq_true rfl, Nat.le_of_ble_eq_true rfl⟩) ⟨qn_blind, va_recv hK hP (ci := 6) (q0 := 0) rfl qg_Q, fun U hU hW => ⟨rfl, qm_go hA hS hP hK hD hU hW, qn_go hZ hW⟩⟩ rfl rfl hl.1 rfl (lv_room (Nat.le_of_ble_eq_true rfl)) dL_areMarksSo_219 ⟨Nat.le_of_ble_eq_true rfl, Nat.le_of_ble_eq_true rfl⟩) hS (fun _ _ h9 => h9) (fun _ h9 => h9) (fun v u t H1 locs1 ht hvm hw hB hz1 hk1 hS => ?_)
                                obtain ⟨hw1, hw2⟩ := hw
                                have hw2 : S = u := hw2.symm
                                have hw1 : z_154 = v := hw1.symm
                                subst hw1
                                subst hw2
                                obtain ⟨hP, hD⟩ := qm_bk ht hB
                                clear hB
                                refine lv_if_ne (tgt := 260) hx hb dL_areMarksSo_222 (by decide) (fun c_156 => ?_) (fun c_156 => ?_)
                                · rw [if_neg c_156] at h
                                  cases h
                                · rw [if_pos c_156] at h
                                  refine lv_iload hx hb dL_areMarksSo_225 (lv_at hl 10 rfl) ?_
                                  refine lv_iload_n hx hb dL_areMarksSo_227 rfl (lv_at hl 7 rfl) ?_
                                  refine lv_iconst (v := (1 : Int32)) hx hb dL_areMarksSo_228 (by decide) ?_
                                  refine lv_isub hx hb dL_areMarksSo_229 ?_
                                  refine lv_icmp_lt (tgt := 256) hx hb dL_areMarksSo_230 (by decide) (fun c_157 => ?_) (fun c_157 => ?_)
                                  · rw [if_pos c_157] at h
                                    refine lv_iconst (v := (1 : Int32)) hx hb dL_areMarksSo_256 (by decide) ?_
                                    refine lv_goto (tgt := 261) hx hb dL_areMarksSo_257 (by decide) ?_
                                    refine lv_istore (lv' := [(4, .int (1 : Int32)), (10, .int z_130), (9, .int z_127), (8, .int z_125), (7, .int z_123), (0, .ref (ad 0)), (1, .int p0), (2, .int z_1), (3, .int z_3), (5, .int v5_120), (6, .int v6_120)]) hx hb dL_areMarksSo_261 hl (by decide) rfl (fun ls hl => ?_)
                                    refine lv_iload hx hb dL_areMarksSo_263 (lv_at hl 2 rfl) ?_
                                    refine lv_iload hx hb dL_areMarksSo_265 (lv_at hl 1 rfl) ?_
                                    refine lv_isub hx hb dL_areMarksSo_267 ?_
                                    refine lv_iload hx hb dL_areMarksSo_268 (lv_at hl 9 rfl) ?_
                                    refine lv_icmp_le (tgt := 281) hx hb dL_areMarksSo_270 (by decide) (fun c_158 => ?_) (fun c_158 => ?_)
                                    · rw [if_pos c_158] at h
                                      refine lv_iload hx hb dL_areMarksSo_281 (lv_at hl 9 rfl) ?_
                                      refine lv_istore (lv' := [(5, .int v5_120), (4, .int (1 : Int32)), (10, .int z_130), (9, .int z_127), (8, .int z_125), (7, .int z_123), (0, .ref (ad 0)), (1, .int p0), (2, .int z_1), (3, .int z_3), (6, .int v6_120)]) hx hb dL_areMarksSo_283 hl (by decide) rfl (fun ls hl => ?_)
                                      refine lv_iinc (v := v6_120 + (1 : Int32)) (lv' := [(6, .int (v6_120 + (1 : Int32))), (5, .int v5_120), (4, .int (1 : Int32)), (10, .int z_130), (9, .int z_127), (8, .int z_125), (7, .int z_123), (0, .ref (ad 0)), (1, .int p0), (2, .int z_1), (3, .int z_3)]) hx hb dL_areMarksSo_285 hl (k := 10) rfl rfl (by decide) rfl (fun ls hl => ?_)
                                      refine lv_goto (tgt := 67) hx hb dL_areMarksSo_288 (by decide) ?_
                                      exact ih v5_120 (v6_120 + (1 : Int32))  z h _ _ _ hP hD hS (lv_sub hl [7, 8, 9, 10, 2, 1, 0] rfl) kex
                                    · rw [if_neg c_158] at h
                                      refine lv_iload hx hb dL_areMarksSo_273 (lv_at hl 2 rfl) ?_
                                      refine lv_iload hx hb dL_areMarksSo_275 (lv_at hl 1 rfl) ?_
                                      refine lv_isub hx hb dL_areMarksSo_277 ?_
                                      refine lv_goto (tgt := 283) hx hb dL_areMarksSo_278 (by decide) ?_
                                      refine lv_istore (lv' := [(5, .int (z_127 - z_130)), (4, .int (1 : Int32)), (10, .int z_130), (9, .int z_127), (8, .int z_125), (7, .int z_123), (0, .ref (ad 0)), (1, .int p0), (2, .int z_1), (3, .int z_3), (6, .int v6_120)]) hx hb dL_areMarksSo_283 hl (by decide) rfl (fun ls hl => ?_)
                                      refine lv_iinc (v := v6_120 + (1 : Int32)) (lv' := [(6, .int (v6_120 + (1 : Int32))), (5, .int (z_127 - z_130)), (4, .int (1 : Int32)), (10, .int z_130), (9, .int z_127), (8, .int z_125), (7, .int z_123), (0, .ref (ad 0)), (1, .int p0), (2, .int z_1), (3, .int z_3)]) hx hb dL_areMarksSo_285 hl (k := 10) rfl rfl (by decide) rfl (fun ls hl => ?_)
                                      refine lv_goto (tgt := 67) hx hb dL_areMarksSo_288 (by decide) ?_
                                      exact ih (z_127 - z_130) (v6_120 + (1 : Int32))  z h _ _ _ hP hD hS (lv_sub hl [7, 8, 9, 10, 2, 1, 0] rfl) kex
                                  · rw [if_neg c_157] at h
                                    refine lv_iload hx hb dL_areMarksSo_233 (lv_at hl 3 rfl) ?_
                                    refine lv_iload_n hx hb dL_areMarksSo_235 rfl (lv_at hl 8 rfl) ?_
                                    refine lv_icmp_ne (tgt := 260) hx hb dL_areMarksSo_236 (by decide) (fun c_159 => ?_) (fun c_159 => ?_)
                                    · rw [if_neg c_159] at h
                                      cases h
                                    · rw [if_pos c_159] at h
                                      refine lv_iload hx hb dL_areMarksSo_239 (lv_at hl 2 rfl) ?_
                                      refine lv_iload_n hx hb dL_areMarksSo_241 rfl (lv_at hl 8 rfl) ?_
                                      refine lv_icmp_ne (tgt := 260) hx hb dL_areMarksSo_242 (by decide) (fun c_160 => ?_) (fun c_160 => ?_)
                                      · rw [if_neg c_160] at h
                                        cases h
                                      · rw [if_pos c_160] at h
                                        refine lv_aload_n hx hb dL_areMarksSo_245 rfl (lv_at hl 5 rfl) ?_
                                        refine lv_iload_n hx hb dL_areMarksSo_246 rfl (lv_at hl 6 rfl) ?_
                                        refine lv_iload hx hb dL_areMarksSo_247 (lv_at hl 4 rfl) ?_
                                        obtain ⟨z_161, hz_162, h⟩ := qm_bind h
                                        refine va_calli (va_runV (As := [.int p0, .int z_123]) (rest := []) ⟨hx, hb, hml, hown, hts⟩ (kX6_reallyUpTo l D A ad cI cQ rest S p0 z_123 z_161 hz_162) (cwV 2 hts gL_areMarksSo_X6_reallyUpTo rfl rfl rfl (by decide +kernel) ⟨Nat.le_of_ble_eq_true rfl, Nat.le_of_ble_eq_true rfl⟩) ⟨qn_blind, va_recv hK hP (ci := 6) (q0 := 0) rfl qg_Q, fun U hU hW => ⟨rfl, qm_go hA hS hP hK hD hU hW, qn_go hZ hW⟩⟩ rfl rfl hl.1 rfl (lv_room (Nat.le_of_ble_eq_true rfl)) dL_areMarksSo_249 ⟨Nat.le_of_ble_eq_true rfl, Nat.le_of_ble_eq_true rfl⟩) hS (fun _ _ h9 => h9) (fun _ h9 => h9) (fun v u t H1 locs1 ht hvm hw hB hz1 hk1 hS => ?_)
                                        obtain ⟨hw1, hw2⟩ := hw
                                        have hw2 : S = u := hw2.symm
                                        have hw1 : z_161 = v := hw1.symm
                                        subst hw1
                                        subst hw2
                                        obtain ⟨hP, hD⟩ := qm_bk ht hB
                                        clear hB
                                        refine lv_iload_n hx hb dL_areMarksSo_252 rfl (lv_at hl 8 rfl) ?_
                                        refine lv_icmp_ne (tgt := 260) hx hb dL_areMarksSo_253 (by decide) (fun c_163 => ?_) (fun c_163 => ?_)
                                        · rw [if_neg c_163] at h
                                          cases h
                                        · rw [if_pos c_163] at h
                                          refine lv_iconst (v := (1 : Int32)) hx hb dL_areMarksSo_256 (by decide) ?_
                                          refine lv_goto (tgt := 261) hx hb dL_areMarksSo_257 (by decide) ?_
                                          refine lv_istore (lv' := [(4, .int (1 : Int32)), (10, .int z_130), (9, .int z_127), (8, .int z_125), (7, .int z_123), (0, .ref (ad 0)), (1, .int p0), (2, .int z_1), (3, .int z_3), (5, .int v5_120), (6, .int v6_120)]) hx hb dL_areMarksSo_261 hl (by decide) rfl (fun ls hl => ?_)
                                          refine lv_iload hx hb dL_areMarksSo_263 (lv_at hl 2 rfl) ?_
                                          refine lv_iload hx hb dL_areMarksSo_265 (lv_at hl 1 rfl) ?_
                                          refine lv_isub hx hb dL_areMarksSo_267 ?_
                                          refine lv_iload hx hb dL_areMarksSo_268 (lv_at hl 9 rfl) ?_
                                          refine lv_icmp_le (tgt := 281) hx hb dL_areMarksSo_270 (by decide) (fun c_164 => ?_) (fun c_164 => ?_)
                                          · rw [if_pos c_164] at h
                                            refine lv_iload hx hb dL_areMarksSo_281 (lv_at hl 9 rfl) ?_
                                            refine lv_istore (lv' := [(5, .int v5_120), (4, .int (1 : Int32)), (10, .int z_130), (9, .int z_127), (8, .int z_125), (7, .int z_123), (0, .ref (ad 0)), (1, .int p0), (2, .int z_1), (3, .int z_3), (6, .int v6_120)]) hx hb dL_areMarksSo_283 hl (by decide) rfl (fun ls hl => ?_)
                                            refine lv_iinc (v := v6_120 + (1 : Int32)) (lv' := [(6, .int (v6_120 + (1 : Int32))), (5, .int v5_120), (4, .int (1 : Int32)), (10, .int z_130), (9, .int z_127), (8, .int z_125), (7, .int z_123), (0, .ref (ad 0)), (1, .int p0), (2, .int z_1), (3, .int z_3)]) hx hb dL_areMarksSo_285 hl (k := 10) rfl rfl (by decide) rfl (fun ls hl => ?_)
                                            refine lv_goto (tgt := 67) hx hb dL_areMarksSo_288 (by decide) ?_
                                            exact ih v5_120 (v6_120 + (1 : Int32))  z h _ _ _ hP hD hS (lv_sub hl [7, 8, 9, 10, 2, 1, 0] rfl) kex
                                          · rw [if_neg c_164] at h
                                            refine lv_iload hx hb dL_areMarksSo_273 (lv_at hl 2 rfl) ?_
                                            refine lv_iload hx hb dL_areMarksSo_275 (lv_at hl 1 rfl) ?_
                                            refine lv_isub hx hb dL_areMarksSo_277 ?_
                                            refine lv_goto (tgt := 283) hx hb dL_areMarksSo_278 (by decide) ?_
                                            refine lv_istore (lv' := [(5, .int (z_127 - z_130)), (4, .int (1 : Int32)), (10, .int z_130), (9, .int z_127), (8, .int z_125), (7, .int z_123), (0, .ref (ad 0)), (1, .int p0), (2, .int z_1), (3, .int z_3), (6, .int v6_120)]) hx hb dL_areMarksSo_283 hl (by decide) rfl (fun ls hl => ?_)
                                            refine lv_iinc (v := v6_120 + (1 : Int32)) (lv' := [(6, .int (v6_120 + (1 : Int32))), (5, .int (z_127 - z_130)), (4, .int (1 : Int32)), (10, .int z_130), (9, .int z_127), (8, .int z_125), (7, .int z_123), (0, .ref (ad 0)), (1, .int p0), (2, .int z_1), (3, .int z_3)]) hx hb dL_areMarksSo_285 hl (k := 10) rfl rfl (by decide) rfl (fun ls hl => ?_)
                                            refine lv_goto (tgt := 67) hx hb dL_areMarksSo_288 (by decide) ?_
                                            exact ih (z_127 - z_130) (v6_120 + (1 : Int32))  z h _ _ _ hP hD hS (lv_sub hl [7, 8, 9, 10, 2, 1, 0] rfl) kex
              · rw [if_pos c_129] at h
                refine lv_iconst (v := (0 : Int32)) hx hb dL_areMarksSo_110 (by decide) ?_
                refine lv_goto (tgt := 123) hx hb dL_areMarksSo_111 (by decide) ?_
                refine lv_istore (lv' := [(10, .int (0 : Int32)), (9, .int z_127), (8, .int z_125), (7, .int z_123), (0, .ref (ad 0)), (1, .int p0), (2, .int z_1), (3, .int z_3), (4, .int (1 : Int32)), (5, .int v5_120), (6, .int v6_120)]) hx hb dL_areMarksSo_123 hl (by decide) rfl (fun ls hl => ?_)
                refine lv_iload hx hb dL_areMarksSo_125 (lv_at hl 2 rfl) ?_
                refine lv_iload hx hb dL_areMarksSo_127 (lv_at hl 0 rfl) ?_
                refine lv_icmp_le (tgt := 188) hx hb dL_areMarksSo_129 (by decide) (fun c_165 => ?_) (fun c_165 => ?_)
                · rw [if_pos c_165] at h
                  cases h
                · rw [if_neg c_165] at h
                  refine lv_iload hx hb dL_areMarksSo_132 (lv_at hl 2 rfl) ?_
                  refine lv_iload hx hb dL_areMarksSo_134 (lv_at hl 1 rfl) ?_
                  refine lv_icmp_gt (tgt := 188) hx hb dL_areMarksSo_136 (by decide) (fun c_166 => ?_) (fun c_166 => ?_)
                  · rw [if_pos c_166] at h
                    cases h
                  · rw [if_neg c_166] at h
                    refine lv_iload hx hb dL_areMarksSo_139 (lv_at hl 10 rfl) ?_
                    refine lv_if_eq (tgt := 158) hx hb dL_areMarksSo_141 (by decide) (fun _ => ?_) (fun c => absurd c_129 c)
                    refine lv_aload_n hx hb dL_areMarksSo_158 rfl (lv_at hl 4 rfl) ?_
                    refine lv_iload_n hx hb dL_areMarksSo_159 rfl (lv_at hl 5 rfl) ?_
                    refine lv_iload hx hb dL_areMarksSo_160 (lv_at hl 3 rfl) ?_
                    obtain ⟨z_167, hz_168, h⟩ := qm_bind h
                    refine va_calli (va_runV (As := [.int p0, .int z_123]) (rest := []) ⟨hx, hb, hml, hown, hts⟩ (kX6_reallyUpTo l D A ad cI cQ rest S p0 z_123 z_167 hz_168) (cwV 2 hts gL_areMarksSo_X6_reallyUpTo rfl rfl rfl (by decide +kernel) ⟨Nat.le_of_ble_eq_true rfl, Nat.le_of_ble_eq_true rfl⟩) ⟨qn_blind, va_recv hK hP (ci := 6) (q0 := 0) rfl qg_Q, fun U hU hW => ⟨rfl, qm_go hA hS hP hK hD hU hW, qn_go hZ hW⟩⟩ rfl rfl hl.1 rfl (lv_room (Nat.le_of_ble_eq_true rfl)) dL_areMarksSo_162 ⟨Nat.le_of_ble_eq_true rfl, Nat.le_of_ble_eq_true rfl⟩) hS (fun _ _ h9 => h9) (fun _ h9 => h9) (fun v u t H1 locs1 ht hvm hw hB hz1 hk1 hS => ?_)
                    obtain ⟨hw1, hw2⟩ := hw
                    have hw2 : S = u := hw2.symm
                    have hw1 : z_167 = v := hw1.symm
                    subst hw1
                    subst hw2
                    obtain ⟨hP, hD⟩ := qm_bk ht hB
                    clear hB
                    refine lv_iload hx hb dL_areMarksSo_165 (lv_at hl 2 rfl) ?_
                    refine lv_icmp_lt (tgt := 188) hx hb dL_areMarksSo_167 (by decide) (fun c_169 => ?_) (fun c_169 => ?_)
                    · rw [if_pos c_169] at h
                      cases h
                    · rw [if_neg c_169] at h
                      refine lv_aload_n hx hb dL_areMarksSo_170 rfl (lv_at hl 4 rfl) ?_
                      refine lv_iload_n hx hb dL_areMarksSo_171 rfl (lv_at hl 5 rfl) ?_
                      refine lv_iload hx hb dL_areMarksSo_172 (lv_at hl 3 rfl) ?_
                      refine lv_iconst (v := (1 : Int32)) hx hb dL_areMarksSo_174 (by decide) ?_
                      refine lv_isub hx hb dL_areMarksSo_175 ?_
                      obtain ⟨z_170, hz_171, h⟩ := qm_bind h
                      refine va_calli (va_runV (As := [.int p0, .int (z_123 - (1 : Int32))]) (rest := []) ⟨hx, hb, hml, hown, hts⟩ (kX6_reallyUpTo l D A ad cI cQ rest S p0 (z_123 - (1 : Int32)) z_170 hz_171) (cwV 2 hts gL_areMarksSo_X6_reallyUpTo rfl rfl rfl (by decide +kernel) ⟨Nat.le_of_ble_eq_true rfl, Nat.le_of_ble_eq_true rfl⟩) ⟨qn_blind, va_recv hK hP (ci := 6) (q0 := 0) rfl qg_Q, fun U hU hW => ⟨rfl, qm_go hA hS hP hK hD hU hW, qn_go hZ hW⟩⟩ rfl rfl hl.1 rfl (lv_room (Nat.le_of_ble_eq_true rfl)) dL_areMarksSo_176 ⟨Nat.le_of_ble_eq_true rfl, Nat.le_of_ble_eq_true rfl⟩) hS (fun _ _ h9 => h9) (fun _ h9 => h9) (fun v u t H1 locs1 ht hvm hw hB hz1 hk1 hS => ?_)
                      obtain ⟨hw1, hw2⟩ := hw
                      have hw2 : S = u := hw2.symm
                      have hw1 : z_170 = v := hw1.symm
                      subst hw1
                      subst hw2
                      obtain ⟨hP, hD⟩ := qm_bk ht hB
                      clear hB
                      refine lv_iload hx hb dL_areMarksSo_179 (lv_at hl 1 rfl) ?_
                      refine lv_icmp_ge (tgt := 188) hx hb dL_areMarksSo_181 (by decide) (fun c_172 => ?_) (fun c_172 => ?_)
                      · rw [if_pos c_172] at h
                        cases h
                      · rw [if_neg c_172] at h
                        refine lv_iconst (v := (1 : Int32)) hx hb dL_areMarksSo_184 (by decide) ?_
                        refine lv_goto (tgt := 189) hx hb dL_areMarksSo_185 (by decide) ?_
                        refine lv_istore (lv' := [(4, .int (1 : Int32)), (10, .int (0 : Int32)), (9, .int z_127), (8, .int z_125), (7, .int z_123), (0, .ref (ad 0)), (1, .int p0), (2, .int z_1), (3, .int z_3), (5, .int v5_120), (6, .int v6_120)]) hx hb dL_areMarksSo_189 hl (by decide) rfl (fun ls hl => ?_)
                        refine lv_iload hx hb dL_areMarksSo_191 (lv_at hl 0 rfl) ?_
                        refine lv_if_eq (tgt := 260) hx hb dL_areMarksSo_193 (by decide) (fun c => absurd c (by decide)) (fun _ => ?_)
                        refine lv_iload hx hb dL_areMarksSo_196 (lv_at hl 10 rfl) ?_
                        refine lv_if_gt (tgt := 225) hx hb dL_areMarksSo_198 (by decide) (fun c_173 => ?_) (fun c_173 => ?_)
                        · rw [if_pos c_173] at h
                          refine lv_iload hx hb dL_areMarksSo_225 (lv_at hl 10 rfl) ?_
                          refine lv_iload_n hx hb dL_areMarksSo_227 rfl (lv_at hl 7 rfl) ?_
                          refine lv_iconst (v := (1 : Int32)) hx hb dL_areMarksSo_228 (by decide) ?_
                          refine lv_isub hx hb dL_areMarksSo_229 ?_
                          refine lv_icmp_lt (tgt := 256) hx hb dL_areMarksSo_230 (by decide) (fun c_174 => ?_) (fun c_174 => ?_)
                          · rw [if_pos c_174] at h
                            refine lv_iconst (v := (1 : Int32)) hx hb dL_areMarksSo_256 (by decide) ?_
                            refine lv_goto (tgt := 261) hx hb dL_areMarksSo_257 (by decide) ?_
                            refine lv_istore (lv' := [(4, .int (1 : Int32)), (10, .int (0 : Int32)), (9, .int z_127), (8, .int z_125), (7, .int z_123), (0, .ref (ad 0)), (1, .int p0), (2, .int z_1), (3, .int z_3), (5, .int v5_120), (6, .int v6_120)]) hx hb dL_areMarksSo_261 hl (by decide) rfl (fun ls hl => ?_)
                            refine lv_iload hx hb dL_areMarksSo_263 (lv_at hl 2 rfl) ?_
                            refine lv_iload hx hb dL_areMarksSo_265 (lv_at hl 1 rfl) ?_
                            refine lv_isub hx hb dL_areMarksSo_267 ?_
                            refine lv_iload hx hb dL_areMarksSo_268 (lv_at hl 9 rfl) ?_
                            refine lv_icmp_le (tgt := 281) hx hb dL_areMarksSo_270 (by decide) (fun c_175 => ?_) (fun c_175 => ?_)
                            · rw [if_pos c_175] at h
                              refine lv_iload hx hb dL_areMarksSo_281 (lv_at hl 9 rfl) ?_
                              refine lv_istore (lv' := [(5, .int v5_120), (4, .int (1 : Int32)), (10, .int (0 : Int32)), (9, .int z_127), (8, .int z_125), (7, .int z_123), (0, .ref (ad 0)), (1, .int p0), (2, .int z_1), (3, .int z_3), (6, .int v6_120)]) hx hb dL_areMarksSo_283 hl (by decide) rfl (fun ls hl => ?_)
                              refine lv_iinc (v := v6_120 + (1 : Int32)) (lv' := [(6, .int (v6_120 + (1 : Int32))), (5, .int v5_120), (4, .int (1 : Int32)), (10, .int (0 : Int32)), (9, .int z_127), (8, .int z_125), (7, .int z_123), (0, .ref (ad 0)), (1, .int p0), (2, .int z_1), (3, .int z_3)]) hx hb dL_areMarksSo_285 hl (k := 10) rfl rfl (by decide) rfl (fun ls hl => ?_)
                              refine lv_goto (tgt := 67) hx hb dL_areMarksSo_288 (by decide) ?_
                              exact ih v5_120 (v6_120 + (1 : Int32))  z h _ _ _ hP hD hS (lv_sub hl [7, 8, 9, 10, 2, 1, 0] rfl) kex
                            · rw [if_neg c_175] at h
                              refine lv_iload hx hb dL_areMarksSo_273 (lv_at hl 2 rfl) ?_
                              refine lv_iload hx hb dL_areMarksSo_275 (lv_at hl 1 rfl) ?_
                              refine lv_isub hx hb dL_areMarksSo_277 ?_
                              refine lv_goto (tgt := 283) hx hb dL_areMarksSo_278 (by decide) ?_
                              refine lv_istore (lv' := [(5, .int (z_127 - (0 : Int32))), (4, .int (1 : Int32)), (10, .int (0 : Int32)), (9, .int z_127), (8, .int z_125), (7, .int z_123), (0, .ref (ad 0)), (1, .int p0), (2, .int z_1), (3, .int z_3), (6, .int v6_120)]) hx hb dL_areMarksSo_283 hl (by decide) rfl (fun ls hl => ?_)
                              refine lv_iinc (v := v6_120 + (1 : Int32)) (lv' := [(6, .int (v6_120 + (1 : Int32))), (5, .int (z_127 - (0 : Int32))), (4, .int (1 : Int32)), (10, .int (0 : Int32)), (9, .int z_127), (8, .int z_125), (7, .int z_123), (0, .ref (ad 0)), (1, .int p0), (2, .int z_1), (3, .int z_3)]) hx hb dL_areMarksSo_285 hl (k := 10) rfl rfl (by decide) rfl (fun ls hl => ?_)
                              refine lv_goto (tgt := 67) hx hb dL_areMarksSo_288 (by decide) ?_
                              exact ih (z_127 - (0 : Int32)) (v6_120 + (1 : Int32))  z h _ _ _ hP hD hS (lv_sub hl [7, 8, 9, 10, 2, 1, 0] rfl) kex
                          · rw [if_neg c_174] at h
                            refine lv_iload hx hb dL_areMarksSo_233 (lv_at hl 3 rfl) ?_
                            refine lv_iload_n hx hb dL_areMarksSo_235 rfl (lv_at hl 8 rfl) ?_
                            refine lv_icmp_ne (tgt := 260) hx hb dL_areMarksSo_236 (by decide) (fun c_176 => ?_) (fun c_176 => ?_)
                            · rw [if_neg c_176] at h
                              cases h
                            · rw [if_pos c_176] at h
                              refine lv_iload hx hb dL_areMarksSo_239 (lv_at hl 2 rfl) ?_
                              refine lv_iload_n hx hb dL_areMarksSo_241 rfl (lv_at hl 8 rfl) ?_
                              refine lv_icmp_ne (tgt := 260) hx hb dL_areMarksSo_242 (by decide) (fun c_177 => ?_) (fun c_177 => ?_)
                              · rw [if_neg c_177] at h
                                cases h
                              · rw [if_pos c_177] at h
                                refine lv_aload_n hx hb dL_areMarksSo_245 rfl (lv_at hl 5 rfl) ?_
                                refine lv_iload_n hx hb dL_areMarksSo_246 rfl (lv_at hl 6 rfl) ?_
                                refine lv_iload hx hb dL_areMarksSo_247 (lv_at hl 4 rfl) ?_
                                obtain ⟨z_178, hz_179, h⟩ := qm_bind h
                                refine va_calli (va_runV (As := [.int p0, .int z_123]) (rest := []) ⟨hx, hb, hml, hown, hts⟩ (kX6_reallyUpTo l D A ad cI cQ rest S p0 z_123 z_178 hz_179) (cwV 2 hts gL_areMarksSo_X6_reallyUpTo rfl rfl rfl (by decide +kernel) ⟨Nat.le_of_ble_eq_true rfl, Nat.le_of_ble_eq_true rfl⟩) ⟨qn_blind, va_recv hK hP (ci := 6) (q0 := 0) rfl qg_Q, fun U hU hW => ⟨rfl, qm_go hA hS hP hK hD hU hW, qn_go hZ hW⟩⟩ rfl rfl hl.1 rfl (lv_room (Nat.le_of_ble_eq_true rfl)) dL_areMarksSo_249 ⟨Nat.le_of_ble_eq_true rfl, Nat.le_of_ble_eq_true rfl⟩) hS (fun _ _ h9 => h9) (fun _ h9 => h9) (fun v u t H1 locs1 ht hvm hw hB hz1 hk1 hS => ?_)
                                obtain ⟨hw1, hw2⟩ := hw
                                have hw2 : S = u := hw2.symm
                                have hw1 : z_178 = v := hw1.symm
                                subst hw1
                                subst hw2
                                obtain ⟨hP, hD⟩ := qm_bk ht hB
                                clear hB
                                refine lv_iload_n hx hb dL_areMarksSo_252 rfl (lv_at hl 8 rfl) ?_
                                refine lv_icmp_ne (tgt := 260) hx hb dL_areMarksSo_253 (by decide) (fun c_180 => ?_) (fun c_180 => ?_)
                                · rw [if_neg c_180] at h
                                  cases h
                                · rw [if_pos c_180] at h
                                  refine lv_iconst (v := (1 : Int32)) hx hb dL_areMarksSo_256 (by decide) ?_
                                  refine lv_goto (tgt := 261) hx hb dL_areMarksSo_257 (by decide) ?_
                                  refine lv_istore (lv' := [(4, .int (1 : Int32)), (10, .int (0 : Int32)), (9, .int z_127), (8, .int z_125), (7, .int z_123), (0, .ref (ad 0)), (1, .int p0), (2, .int z_1), (3, .int z_3), (5, .int v5_120), (6, .int v6_120)]) hx hb dL_areMarksSo_261 hl (by decide) rfl (fun ls hl => ?_)
                                  refine lv_iload hx hb dL_areMarksSo_263 (lv_at hl 2 rfl) ?_
                                  refine lv_iload hx hb dL_areMarksSo_265 (lv_at hl 1 rfl) ?_
                                  refine lv_isub hx hb dL_areMarksSo_267 ?_
                                  refine lv_iload hx hb dL_areMarksSo_268 (lv_at hl 9 rfl) ?_
                                  refine lv_icmp_le (tgt := 281) hx hb dL_areMarksSo_270 (by decide) (fun c_181 => ?_) (fun c_181 => ?_)
                                  · rw [if_pos c_181] at h
                                    refine lv_iload hx hb dL_areMarksSo_281 (lv_at hl 9 rfl) ?_
                                    refine lv_istore (lv' := [(5, .int v5_120), (4, .int (1 : Int32)), (10, .int (0 : Int32)), (9, .int z_127), (8, .int z_125), (7, .int z_123), (0, .ref (ad 0)), (1, .int p0), (2, .int z_1), (3, .int z_3), (6, .int v6_120)]) hx hb dL_areMarksSo_283 hl (by decide) rfl (fun ls hl => ?_)
                                    refine lv_iinc (v := v6_120 + (1 : Int32)) (lv' := [(6, .int (v6_120 + (1 : Int32))), (5, .int v5_120), (4, .int (1 : Int32)), (10, .int (0 : Int32)), (9, .int z_127), (8, .int z_125), (7, .int z_123), (0, .ref (ad 0)), (1, .int p0), (2, .int z_1), (3, .int z_3)]) hx hb dL_areMarksSo_285 hl (k := 10) rfl rfl (by decide) rfl (fun ls hl => ?_)
                                    refine lv_goto (tgt := 67) hx hb dL_areMarksSo_288 (by decide) ?_
                                    exact ih v5_120 (v6_120 + (1 : Int32))  z h _ _ _ hP hD hS (lv_sub hl [7, 8, 9, 10, 2, 1, 0] rfl) kex
                                  · rw [if_neg c_181] at h
                                    refine lv_iload hx hb dL_areMarksSo_273 (lv_at hl 2 rfl) ?_
                                    refine lv_iload hx hb dL_areMarksSo_275 (lv_at hl 1 rfl) ?_
                                    refine lv_isub hx hb dL_areMarksSo_277 ?_
                                    refine lv_goto (tgt := 283) hx hb dL_areMarksSo_278 (by decide) ?_
                                    refine lv_istore (lv' := [(5, .int (z_127 - (0 : Int32))), (4, .int (1 : Int32)), (10, .int (0 : Int32)), (9, .int z_127), (8, .int z_125), (7, .int z_123), (0, .ref (ad 0)), (1, .int p0), (2, .int z_1), (3, .int z_3), (6, .int v6_120)]) hx hb dL_areMarksSo_283 hl (by decide) rfl (fun ls hl => ?_)
                                    refine lv_iinc (v := v6_120 + (1 : Int32)) (lv' := [(6, .int (v6_120 + (1 : Int32))), (5, .int (z_127 - (0 : Int32))), (4, .int (1 : Int32)), (10, .int (0 : Int32)), (9, .int z_127), (8, .int z_125), (7, .int z_123), (0, .ref (ad 0)), (1, .int p0), (2, .int z_1), (3, .int z_3)]) hx hb dL_areMarksSo_285 hl (k := 10) rfl rfl (by decide) rfl (fun ls hl => ?_)
                                    refine lv_goto (tgt := 67) hx hb dL_areMarksSo_288 (by decide) ?_
                                    exact ih (z_127 - (0 : Int32)) (v6_120 + (1 : Int32))  z h _ _ _ hP hD hS (lv_sub hl [7, 8, 9, 10, 2, 1, 0] rfl) kex
                        · rw [if_neg c_173] at h
                          refine lv_iload hx hb dL_areMarksSo_201 (lv_at hl 3 rfl) ?_
                          refine lv_iconst (v := (1 : Int32)) hx hb dL_areMarksSo_203 (by decide) ?_
                          refine lv_icmp_ne (tgt := 260) hx hb dL_areMarksSo_204 (by decide) (fun c_182 => ?_) (fun c_182 => ?_)
                          · rw [if_neg c_182] at h
                            cases h
                          · rw [if_pos c_182] at h
                            refine lv_iload hx hb dL_areMarksSo_207 (lv_at hl 2 rfl) ?_
                            refine lv_iconst (v := (1 : Int32)) hx hb dL_areMarksSo_209 (by decide) ?_
                            refine lv_icmp_ne (tgt := 260) hx hb dL_areMarksSo_210 (by decide) (fun c_183 => ?_) (fun c_183 => ?_)
                            · rw [if_neg c_183] at h
                              cases h
                            · rw [if_pos c_183] at h
                              refine lv_aload_n hx hb dL_areMarksSo_213 rfl (lv_at hl 5 rfl) ?_
                              refine lv_iload_n hx hb dL_areMarksSo_214 rfl (lv_at hl 6 rfl) ?_
                              refine lv_iload hx hb dL_areMarksSo_215 (lv_at hl 4 rfl) ?_
                              refine lv_iconst (v := (1 : Int32)) hx hb dL_areMarksSo_217 (by decide) ?_
                              refine lv_isub hx hb dL_areMarksSo_218 ?_
                              obtain ⟨z_184, hz_185, h⟩ := qm_bind h
                              refine va_calli (va_runV (As := [.int p0, .int (z_123 - (1 : Int32))]) (rest := []) ⟨hx, hb, hml, hown, hts⟩ (kX6_reallyUpTo l D A ad cI cQ rest S p0 (z_123 - (1 : Int32)) z_184 hz_185) (cwV 2 hts gL_areMarksSo_X6_reallyUpTo rfl rfl rfl (by decide +kernel) ⟨Nat.le_of_ble_eq_true rfl, Nat.le_of_ble_eq_true rfl⟩) ⟨qn_blind, va_recv hK hP (ci := 6) (q0 := 0) rfl qg_Q, fun U hU hW => ⟨rfl, qm_go hA hS hP hK hD hU hW, qn_go hZ hW⟩⟩ rfl rfl hl.1 rfl (lv_room (Nat.le_of_ble_eq_true rfl)) dL_areMarksSo_219 ⟨Nat.le_of_ble_eq_true rfl, Nat.le_of_ble_eq_true rfl⟩) hS (fun _ _ h9 => h9) (fun _ h9 => h9) (fun v u t H1 locs1 ht hvm hw hB hz1 hk1 hS => ?_)
                              obtain ⟨hw1, hw2⟩ := hw
                              have hw2 : S = u := hw2.symm
                              have hw1 : z_184 = v := hw1.symm
                              subst hw1
                              subst hw2
                              obtain ⟨hP, hD⟩ := qm_bk ht hB
                              clear hB
                              refine lv_if_ne (tgt := 260) hx hb dL_areMarksSo_222 (by decide) (fun c_186 => ?_) (fun c_186 => ?_)
                              · rw [if_neg c_186] at h
                                cases h
                              · rw [if_pos c_186] at h
                                refine lv_iload hx hb dL_areMarksSo_225 (lv_at hl 10 rfl) ?_
                                refine lv_iload_n hx hb dL_areMarksSo_227 rfl (lv_at hl 7 rfl) ?_
                                refine lv_iconst (v := (1 : Int32)) hx hb dL_areMarksSo_228 (by decide) ?_
                                refine lv_isub hx hb dL_areMarksSo_229 ?_
                                refine lv_icmp_lt (tgt := 256) hx hb dL_areMarksSo_230 (by decide) (fun c_187 => ?_) (fun c_187 => ?_)
                                · rw [if_pos c_187] at h
                                  refine lv_iconst (v := (1 : Int32)) hx hb dL_areMarksSo_256 (by decide) ?_
                                  refine lv_goto (tgt := 261) hx hb dL_areMarksSo_257 (by decide) ?_
                                  refine lv_istore (lv' := [(4, .int (1 : Int32)), (10, .int (0 : Int32)), (9, .int z_127), (8, .int z_125), (7, .int z_123), (0, .ref (ad 0)), (1, .int p0), (2, .int z_1), (3, .int z_3), (5, .int v5_120), (6, .int v6_120)]) hx hb dL_areMarksSo_261 hl (by decide) rfl (fun ls hl => ?_)
                                  refine lv_iload hx hb dL_areMarksSo_263 (lv_at hl 2 rfl) ?_
                                  refine lv_iload hx hb dL_areMarksSo_265 (lv_at hl 1 rfl) ?_
                                  refine lv_isub hx hb dL_areMarksSo_267 ?_
                                  refine lv_iload hx hb dL_areMarksSo_268 (lv_at hl 9 rfl) ?_
                                  refine lv_icmp_le (tgt := 281) hx hb dL_areMarksSo_270 (by decide) (fun c_188 => ?_) (fun c_188 => ?_)
                                  · rw [if_pos c_188] at h
                                    refine lv_iload hx hb dL_areMarksSo_281 (lv_at hl 9 rfl) ?_
                                    refine lv_istore (lv' := [(5, .int v5_120), (4, .int (1 : Int32)), (10, .int (0 : Int32)), (9, .int z_127), (8, .int z_125), (7, .int z_123), (0, .ref (ad 0)), (1, .int p0), (2, .int z_1), (3, .int z_3), (6, .int v6_120)]) hx hb dL_areMarksSo_283 hl (by decide) rfl (fun ls hl => ?_)
                                    refine lv_iinc (v := v6_120 + (1 : Int32)) (lv' := [(6, .int (v6_120 + (1 : Int32))), (5, .int v5_120), (4, .int (1 : Int32)), (10, .int (0 : Int32)), (9, .int z_127), (8, .int z_125), (7, .int z_123), (0, .ref (ad 0)), (1, .int p0), (2, .int z_1), (3, .int z_3)]) hx hb dL_areMarksSo_285 hl (k := 10) rfl rfl (by decide) rfl (fun ls hl => ?_)
                                    refine lv_goto (tgt := 67) hx hb dL_areMarksSo_288 (by decide) ?_
                                    exact ih v5_120 (v6_120 + (1 : Int32))  z h _ _ _ hP hD hS (lv_sub hl [7, 8, 9, 10, 2, 1, 0] rfl) kex
                                  · rw [if_neg c_188] at h
                                    refine lv_iload hx hb dL_areMarksSo_273 (lv_at hl 2 rfl) ?_
                                    refine lv_iload hx hb dL_areMarksSo_275 (lv_at hl 1 rfl) ?_
                                    refine lv_isub hx hb dL_areMarksSo_277 ?_
                                    refine lv_goto (tgt := 283) hx hb dL_areMarksSo_278 (by decide) ?_
                                    refine lv_istore (lv' := [(5, .int (z_127 - (0 : Int32))), (4, .int (1 : Int32)), (10, .int (0 : Int32)), (9, .int z_127), (8, .int z_125), (7, .int z_123), (0, .ref (ad 0)), (1, .int p0), (2, .int z_1), (3, .int z_3), (6, .int v6_120)]) hx hb dL_areMarksSo_283 hl (by decide) rfl (fun ls hl => ?_)
                                    refine lv_iinc (v := v6_120 + (1 : Int32)) (lv' := [(6, .int (v6_120 + (1 : Int32))), (5, .int (z_127 - (0 : Int32))), (4, .int (1 : Int32)), (10, .int (0 : Int32)), (9, .int z_127), (8, .int z_125), (7, .int z_123), (0, .ref (ad 0)), (1, .int p0), (2, .int z_1), (3, .int z_3)]) hx hb dL_areMarksSo_285 hl (k := 10) rfl rfl (by decide) rfl (fun ls hl => ?_)
                                    refine lv_goto (tgt := 67) hx hb dL_areMarksSo_288 (by decide) ?_
                                    exact ih (z_127 - (0 : Int32)) (v6_120 + (1 : Int32))  z h _ _ _ hP hD hS (lv_sub hl [7, 8, 9, 10, 2, 1, 0] rfl) kex
                                · rw [if_neg c_187] at h
                                  refine lv_iload hx hb dL_areMarksSo_233 (lv_at hl 3 rfl) ?_
                                  refine lv_iload_n hx hb dL_areMarksSo_235 rfl (lv_at hl 8 rfl) ?_
                                  refine lv_icmp_ne (tgt := 260) hx hb dL_areMarksSo_236 (by decide) (fun c_189 => ?_) (fun c_189 => ?_)
                                  · rw [if_neg c_189] at h
                                    cases h
                                  · rw [if_pos c_189] at h
                                    refine lv_iload hx hb dL_areMarksSo_239 (lv_at hl 2 rfl) ?_
                                    refine lv_iload_n hx hb dL_areMarksSo_241 rfl (lv_at hl 8 rfl) ?_
                                    refine lv_icmp_ne (tgt := 260) hx hb dL_areMarksSo_242 (by decide) (fun c_190 => ?_) (fun c_190 => ?_)
                                    · rw [if_neg c_190] at h
                                      cases h
                                    · rw [if_pos c_190] at h
                                      refine lv_aload_n hx hb dL_areMarksSo_245 rfl (lv_at hl 5 rfl) ?_
                                      refine lv_iload_n hx hb dL_areMarksSo_246 rfl (lv_at hl 6 rfl) ?_
                                      refine lv_iload hx hb dL_areMarksSo_247 (lv_at hl 4 rfl) ?_
                                      obtain ⟨z_191, hz_192, h⟩ := qm_bind h
                                      refine va_calli (va_runV (As := [.int p0, .int z_123]) (rest := []) ⟨hx, hb, hml, hown, hts⟩ (kX6_reallyUpTo l D A ad cI cQ rest S p0 z_123 z_191 hz_192) (cwV 2 hts gL_areMarksSo_X6_reallyUpTo rfl rfl rfl (by decide +kernel) ⟨Nat.le_of_ble_eq_true rfl, Nat.le_of_ble_eq_true rfl⟩) ⟨qn_blind, va_recv hK hP (ci := 6) (q0 := 0) rfl qg_Q, fun U hU hW => ⟨rfl, qm_go hA hS hP hK hD hU hW, qn_go hZ hW⟩⟩ rfl rfl hl.1 rfl (lv_room (Nat.le_of_ble_eq_true rfl)) dL_areMarksSo_249 ⟨Nat.le_of_ble_eq_true rfl, Nat.le_of_ble_eq_true rfl⟩) hS (fun _ _ h9 => h9) (fun _ h9 => h9) (fun v u t H1 locs1 ht hvm hw hB hz1 hk1 hS => ?_)
                                      obtain ⟨hw1, hw2⟩ := hw
                                      have hw2 : S = u := hw2.symm
                                      have hw1 : z_191 = v := hw1.symm
                                      subst hw1
                                      subst hw2
                                      obtain ⟨hP, hD⟩ := qm_bk ht hB
                                      clear hB
                                      refine lv_iload_n hx hb dL_areMarksSo_252 rfl (lv_at hl 8 rfl) ?_
                                      refine lv_icmp_ne (tgt := 260) hx hb dL_areMarksSo_253 (by decide) (fun c_193 => ?_) (fun c_193 => ?_)
                                      · rw [if_neg c_193] at h
                                        cases h
                                      · rw [if_pos c_193] at h
                                        refine lv_iconst (v := (1 : Int32)) hx hb dL_areMarksSo_256 (by decide) ?_
                                        refine lv_goto (tgt := 261) hx hb dL_areMarksSo_257 (by decide) ?_
                                        refine lv_istore (lv' := [(4, .int (1 : Int32)), (10, .int (0 : Int32)), (9, .int z_127), (8, .int z_125), (7, .int z_123), (0, .ref (ad 0)), (1, .int p0), (2, .int z_1), (3, .int z_3), (5, .int v5_120), (6, .int v6_120)]) hx hb dL_areMarksSo_261 hl (by decide) rfl (fun ls hl => ?_)
                                        refine lv_iload hx hb dL_areMarksSo_263 (lv_at hl 2 rfl) ?_
                                        refine lv_iload hx hb dL_areMarksSo_265 (lv_at hl 1 rfl) ?_
                                        refine lv_isub hx hb dL_areMarksSo_267 ?_
                                        refine lv_iload hx hb dL_areMarksSo_268 (lv_at hl 9 rfl) ?_
                                        refine lv_icmp_le (tgt := 281) hx hb dL_areMarksSo_270 (by decide) (fun c_194 => ?_) (fun c_194 => ?_)
                                        · rw [if_pos c_194] at h
                                          refine lv_iload hx hb dL_areMarksSo_281 (lv_at hl 9 rfl) ?_
                                          refine lv_istore (lv' := [(5, .int v5_120), (4, .int (1 : Int32)), (10, .int (0 : Int32)), (9, .int z_127), (8, .int z_125), (7, .int z_123), (0, .ref (ad 0)), (1, .int p0), (2, .int z_1), (3, .int z_3), (6, .int v6_120)]) hx hb dL_areMarksSo_283 hl (by decide) rfl (fun ls hl => ?_)
                                          refine lv_iinc (v := v6_120 + (1 : Int32)) (lv' := [(6, .int (v6_120 + (1 : Int32))), (5, .int v5_120), (4, .int (1 : Int32)), (10, .int (0 : Int32)), (9, .int z_127), (8, .int z_125), (7, .int z_123), (0, .ref (ad 0)), (1, .int p0), (2, .int z_1), (3, .int z_3)]) hx hb dL_areMarksSo_285 hl (k := 10) rfl rfl (by decide) rfl (fun ls hl => ?_)
                                          refine lv_goto (tgt := 67) hx hb dL_areMarksSo_288 (by decide) ?_
                                          exact ih v5_120 (v6_120 + (1 : Int32))  z h _ _ _ hP hD hS (lv_sub hl [7, 8, 9, 10, 2, 1, 0] rfl) kex
                                        · rw [if_neg c_194] at h
                                          refine lv_iload hx hb dL_areMarksSo_273 (lv_at hl 2 rfl) ?_
                                          refine lv_iload hx hb dL_areMarksSo_275 (lv_at hl 1 rfl) ?_
                                          refine lv_isub hx hb dL_areMarksSo_277 ?_
                                          refine lv_goto (tgt := 283) hx hb dL_areMarksSo_278 (by decide) ?_
                                          refine lv_istore (lv' := [(5, .int (z_127 - (0 : Int32))), (4, .int (1 : Int32)), (10, .int (0 : Int32)), (9, .int z_127), (8, .int z_125), (7, .int z_123), (0, .ref (ad 0)), (1, .int p0), (2, .int z_1), (3, .int z_3), (6, .int v6_120)]) hx hb dL_areMarksSo_283 hl (by decide) rfl (fun ls hl => ?_)
                                          refine lv_iinc (v := v6_120 + (1 : Int32)) (lv' := [(6, .int (v6_120 + (1 : Int32))), (5, .int (z_127 - (0 : Int32))), (4, .int (1 : Int32)), (10, .int (0 : Int32)), (9, .int z_127), (8, .int z_125), (7, .int z_123), (0, .ref (ad 0)), (1, .int p0), (2, .int z_1), (3, .int z_3)]) hx hb dL_areMarksSo_285 hl (k := 10) rfl rfl (by decide) rfl (fun ls hl => ?_)
                                          refine lv_goto (tgt := 67) hx hb dL_areMarksSo_288 (by decide) ?_
                                          exact ih (z_127 - (0 : Int32)) (v6_120 + (1 : Int32))  z h _ _ _ hP hD hS (lv_sub hl [7, 8, 9, 10, 2, 1, 0] rfl) kex
        obtain ⟨z_195, hz_196, h⟩ := qm_bind h
        refine loop_121 qm_F (0 : Int32) (0 : Int32) z_195 hz_196 _ _ _ hP hD hS (lv_sub hl [5, 6, 4, 3, 2, 1, 0] rfl) (fun H locs ls hP hD hS hl => ?_)
        refine lv_aload_n hx hb dL_areMarksSo_291 rfl (lv_at hl 0 rfl) ?_
        refine lv_iload_n hx hb dL_areMarksSo_292 rfl (lv_at hl 1 rfl) ?_
        obtain ⟨z_197, hz_198, h⟩ := qm_bind h
        refine va_calli (va_runV (As := [.int p0]) (rest := []) ⟨hx, hb, hml, hown, hts⟩ (kX6_allowance l D A ad cI cQ rest S p0 z_197 hz_198) (cwV 1 hts gL_areMarksSo_X6_allowance rfl rfl rfl (by decide +kernel) ⟨Nat.le_of_ble_eq_true rfl, Nat.le_of_ble_eq_true rfl⟩) ⟨qn_blind, va_recv hK hP (ci := 6) (q0 := 0) rfl qg_Q, fun U hU hW => ⟨rfl, qm_go hA hS hP hK hD hU hW, qn_go hZ hW⟩⟩ rfl rfl hl.1 rfl (lv_room (Nat.le_of_ble_eq_true rfl)) dL_areMarksSo_293 ⟨Nat.le_of_ble_eq_true rfl, Nat.le_of_ble_eq_true rfl⟩) hS (fun _ _ h9 => h9) (fun _ h9 => h9) (fun v u t H1 locs1 ht hvm hw hB hz1 hk1 hS => ?_)
        obtain ⟨hw1, hw2⟩ := hw
        have hw2 : S = u := hw2.symm
        have hw1 : z_197 = v := hw1.symm
        subst hw1
        subst hw2
        obtain ⟨hP, hD⟩ := qm_bk ht hB
        clear hB
        refine lv_iconst (v := (1 : Int32)) hx hb dL_areMarksSo_296 (by decide) ?_
        refine lv_icmp_le (tgt := 308) hx hb dL_areMarksSo_297 (by decide) (fun c_199 => ?_) (fun c_199 => ?_)
        · rw [if_pos c_199] at h
          refine lv_iconst (v := (1 : Int32)) hx hb dL_areMarksSo_308 (by decide) ?_
          refine lv_istore (lv' := [(6, .int (1 : Int32)), (0, .ref (ad 0)), (1, .int p0), (2, .int z_1), (3, .int z_3), (4, .int (1 : Int32)), (5, .int z_195)]) hx hb dL_areMarksSo_309 hl (by decide) rfl (fun ls hl => ?_)
          refine lv_iload hx hb dL_areMarksSo_311 (lv_at hl 5 rfl) ?_
          refine lv_if_eq (tgt := 378) hx hb dL_areMarksSo_313 (by decide) (fun c => absurd c (by decide)) (fun _ => ?_)
          refine lv_aload_n hx hb dL_areMarksSo_316 rfl (lv_at hl 1 rfl) ?_
          refine lv_iload_n hx hb dL_areMarksSo_317 rfl (lv_at hl 2 rfl) ?_
          obtain ⟨z_200, hz_201, h⟩ := qm_bind h
          refine va_calli (va_runV (As := [.int p0]) (rest := []) ⟨hx, hb, hml, hown, hts⟩ (kX6_widest l D A ad cI cQ rest S p0 z_200 hz_201) (cwV 1 hts gL_areMarksSo_X6_widest rfl rfl rfl (by decide +kernel) ⟨Nat.le_of_ble_eq_true rfl, Nat.le_of_ble_eq_true rfl⟩) ⟨qn_blind, va_recv hK hP (ci := 6) (q0 := 0) rfl qg_Q, fun U hU hW => ⟨rfl, qm_go hA hS hP hK hD hU hW, qn_go hZ hW⟩⟩ rfl rfl hl.1 rfl (lv_room (Nat.le_of_ble_eq_true rfl)) dL_areMarksSo_318 ⟨Nat.le_of_ble_eq_true rfl, Nat.le_of_ble_eq_true rfl⟩) hS (fun _ _ h9 => h9) (fun _ h9 => h9) (fun v u t H1 locs1 ht hvm hw hB hz1 hk1 hS => ?_)
          obtain ⟨hw1, hw2⟩ := hw
          have hw2 : S = u := hw2.symm
          have hw1 : z_200 = v := hw1.symm
          subst hw1
          subst hw2
          obtain ⟨hP, hD⟩ := qm_bk ht hB
          clear hB
          refine lv_iload hx hb dL_areMarksSo_321 (lv_at hl 6 rfl) ?_
          refine lv_icmp_ne (tgt := 378) hx hb dL_areMarksSo_323 (by decide) (fun c_202 => ?_) (fun c_202 => ?_)
          · rw [if_neg c_202] at h
            cases h
          · rw [if_pos c_202] at h
            refine lv_iload hx hb dL_areMarksSo_326 (lv_at hl 6 rfl) ?_
            refine lv_iload hx hb dL_areMarksSo_328 (lv_at hl 0 rfl) ?_
            refine lv_icmp_le (tgt := 337) hx hb dL_areMarksSo_330 (by decide) (fun c_203 => ?_) (fun c_203 => ?_)
            · rw [if_pos c_203] at h
              refine lv_iload_n hx hb dL_areMarksSo_337 rfl (lv_at hl 4 rfl) ?_
              refine lv_if_ne (tgt := 354) hx hb dL_areMarksSo_338 (by decide) (fun c => absurd c_114 c) (fun _ => ?_)
              refine lv_aload_n hx hb dL_areMarksSo_341 rfl (lv_at hl 1 rfl) ?_
              refine lv_iload_n hx hb dL_areMarksSo_342 rfl (lv_at hl 2 rfl) ?_
              obtain ⟨z_204, hz_205, h⟩ := qm_bind h
              refine va_calld (va_runV (As := [.int p0]) (rest := []) ⟨hx, hb, hml, hown, hts⟩ (kX6_part l D A ad cI cQ rest S p0 z_204 hz_205) (cwV 1 hts gL_areMarksSo_X6_part rfl rfl rfl (by decide +kernel) ⟨Nat.le_of_ble_eq_true rfl, Nat.le_of_ble_eq_true rfl⟩) ⟨qn_blind, va_recv hK hP (ci := 6) (q0 := 0) rfl qg_Q, fun U hU hW => ⟨rfl, qm_go hA hS hP hK hD hU hW, qn_go hZ hW⟩⟩ rfl rfl hl.1 rfl (lv_room (Nat.le_of_ble_eq_true rfl)) dL_areMarksSo_343 ⟨Nat.le_of_ble_eq_true rfl, Nat.le_of_ble_eq_true rfl⟩) hS (fun _ _ h9 => h9) (fun _ h9 => h9) (fun v u t H1 locs1 ht hvm hw hB hz1 hk1 hS => ?_)
              obtain ⟨hw1, hw2⟩ := hw
              have hw2 : S = u := hw2.symm
              have hw1 : z_204 = v := hw1.symm
              subst hw1
              subst hw2
              obtain ⟨hP, hD⟩ := qm_bk ht hB
              clear hB
              refine lv_dconst0 hx hb dL_areMarksSo_346 ?_
              refine lv_dcmp hx hb dL_areMarksSo_347 ?_
              refine lv_if_ne (tgt := 378) hx hb dL_areMarksSo_348 (by decide) (fun c_206 => ?_) (fun c_206 => ?_)
              · rw [if_neg c_206] at h
                cases h
              · rw [if_pos c_206] at h
                refine lv_goto (tgt := 374) hx hb dL_areMarksSo_351 (by decide) ?_
                refine lv_iconst (v := (1 : Int32)) hx hb dL_areMarksSo_374 (by decide) ?_
                refine lv_goto (tgt := 379) hx hb dL_areMarksSo_375 (by decide) ?_
                have h := Option.some.inj h
                subst h
                rw [hQX]
                exact W.zret (v := (1 : Int32)) hx hb hr rfl (fun t ht hW => ⟨⟨(1 : Int32), S, rfl, ⟨rfl, rfl⟩, qm_en ht hP hD⟩, hS.F ht⟩) hS.2.2 dL_areMarksSo_379
            · rw [if_neg c_203] at h
              refine lv_iload_n hx hb dL_areMarksSo_333 rfl (lv_at hl 3 rfl) ?_
              refine lv_if_ne (tgt := 378) hx hb dL_areMarksSo_334 (by decide) (fun c => absurd c_5 c) (fun _ => ?_)
              refine lv_iload_n hx hb dL_areMarksSo_337 rfl (lv_at hl 4 rfl) ?_
              refine lv_if_ne (tgt := 354) hx hb dL_areMarksSo_338 (by decide) (fun c => absurd c_114 c) (fun _ => ?_)
              refine lv_aload_n hx hb dL_areMarksSo_341 rfl (lv_at hl 1 rfl) ?_
              refine lv_iload_n hx hb dL_areMarksSo_342 rfl (lv_at hl 2 rfl) ?_
              obtain ⟨z_207, hz_208, h⟩ := qm_bind h
              refine va_calld (va_runV (As := [.int p0]) (rest := []) ⟨hx, hb, hml, hown, hts⟩ (kX6_part l D A ad cI cQ rest S p0 z_207 hz_208) (cwV 1 hts gL_areMarksSo_X6_part rfl rfl rfl (by decide +kernel) ⟨Nat.le_of_ble_eq_true rfl, Nat.le_of_ble_eq_true rfl⟩) ⟨qn_blind, va_recv hK hP (ci := 6) (q0 := 0) rfl qg_Q, fun U hU hW => ⟨rfl, qm_go hA hS hP hK hD hU hW, qn_go hZ hW⟩⟩ rfl rfl hl.1 rfl (lv_room (Nat.le_of_ble_eq_true rfl)) dL_areMarksSo_343 ⟨Nat.le_of_ble_eq_true rfl, Nat.le_of_ble_eq_true rfl⟩) hS (fun _ _ h9 => h9) (fun _ h9 => h9) (fun v u t H1 locs1 ht hvm hw hB hz1 hk1 hS => ?_)
              obtain ⟨hw1, hw2⟩ := hw
              have hw2 : S = u := hw2.symm
              have hw1 : z_207 = v := hw1.symm
              subst hw1
              subst hw2
              obtain ⟨hP, hD⟩ := qm_bk ht hB
              clear hB
              refine lv_dconst0 hx hb dL_areMarksSo_346 ?_
              refine lv_dcmp hx hb dL_areMarksSo_347 ?_
              refine lv_if_ne (tgt := 378) hx hb dL_areMarksSo_348 (by decide) (fun c_209 => ?_) (fun c_209 => ?_)
              · rw [if_neg c_209] at h
                cases h
              · rw [if_pos c_209] at h
                refine lv_goto (tgt := 374) hx hb dL_areMarksSo_351 (by decide) ?_
                refine lv_iconst (v := (1 : Int32)) hx hb dL_areMarksSo_374 (by decide) ?_
                refine lv_goto (tgt := 379) hx hb dL_areMarksSo_375 (by decide) ?_
                have h := Option.some.inj h
                subst h
                rw [hQX]
                exact W.zret (v := (1 : Int32)) hx hb hr rfl (fun t ht hW => ⟨⟨(1 : Int32), S, rfl, ⟨rfl, rfl⟩, qm_en ht hP hD⟩, hS.F ht⟩) hS.2.2 dL_areMarksSo_379
        · rw [if_neg c_199] at h
          refine lv_aload_n hx hb dL_areMarksSo_300 rfl (lv_at hl 0 rfl) ?_
          refine lv_iload_n hx hb dL_areMarksSo_301 rfl (lv_at hl 1 rfl) ?_
          obtain ⟨z_210, hz_211, h⟩ := qm_bind h
          refine va_calli (va_runV (As := [.int p0]) (rest := []) ⟨hx, hb, hml, hown, hts⟩ (kX6_allowance l D A ad cI cQ rest S p0 z_210 hz_211) (cwV 1 hts gL_areMarksSo_X6_allowance rfl rfl rfl (by decide +kernel) ⟨Nat.le_of_ble_eq_true rfl, Nat.le_of_ble_eq_true rfl⟩) ⟨qn_blind, va_recv hK hP (ci := 6) (q0 := 0) rfl qg_Q, fun U hU hW => ⟨rfl, qm_go hA hS hP hK hD hU hW, qn_go hZ hW⟩⟩ rfl rfl hl.1 rfl (lv_room (Nat.le_of_ble_eq_true rfl)) dL_areMarksSo_302 ⟨Nat.le_of_ble_eq_true rfl, Nat.le_of_ble_eq_true rfl⟩) hS (fun _ _ h9 => h9) (fun _ h9 => h9) (fun v u t H1 locs1 ht hvm hw hB hz1 hk1 hS => ?_)
          obtain ⟨hw1, hw2⟩ := hw
          have hw2 : S = u := hw2.symm
          have hw1 : z_210 = v := hw1.symm
          subst hw1
          subst hw2
          obtain ⟨hP, hD⟩ := qm_bk ht hB
          clear hB
          refine lv_goto (tgt := 309) hx hb dL_areMarksSo_305 (by decide) ?_
          refine lv_istore (lv' := [(6, .int z_210), (0, .ref (ad 0)), (1, .int p0), (2, .int z_1), (3, .int z_3), (4, .int (1 : Int32)), (5, .int z_195)]) hx hb dL_areMarksSo_309 hl (by decide) rfl (fun ls hl => ?_)
          refine lv_iload hx hb dL_areMarksSo_311 (lv_at hl 5 rfl) ?_
          refine lv_if_eq (tgt := 378) hx hb dL_areMarksSo_313 (by decide) (fun c => absurd c (by decide)) (fun _ => ?_)
          refine lv_aload_n hx hb dL_areMarksSo_316 rfl (lv_at hl 1 rfl) ?_
          refine lv_iload_n hx hb dL_areMarksSo_317 rfl (lv_at hl 2 rfl) ?_
          obtain ⟨z_212, hz_213, h⟩ := qm_bind h
          refine va_calli (va_runV (As := [.int p0]) (rest := []) ⟨hx, hb, hml, hown, hts⟩ (kX6_widest l D A ad cI cQ rest S p0 z_212 hz_213) (cwV 1 hts gL_areMarksSo_X6_widest rfl rfl rfl (by decide +kernel) ⟨Nat.le_of_ble_eq_true rfl, Nat.le_of_ble_eq_true rfl⟩) ⟨qn_blind, va_recv hK hP (ci := 6) (q0 := 0) rfl qg_Q, fun U hU hW => ⟨rfl, qm_go hA hS hP hK hD hU hW, qn_go hZ hW⟩⟩ rfl rfl hl.1 rfl (lv_room (Nat.le_of_ble_eq_true rfl)) dL_areMarksSo_318 ⟨Nat.le_of_ble_eq_true rfl, Nat.le_of_ble_eq_true rfl⟩) hS (fun _ _ h9 => h9) (fun _ h9 => h9) (fun v u t H1 locs1 ht hvm hw hB hz1 hk1 hS => ?_)
          obtain ⟨hw1, hw2⟩ := hw
          have hw2 : S = u := hw2.symm
          have hw1 : z_212 = v := hw1.symm
          subst hw1
          subst hw2
          obtain ⟨hP, hD⟩ := qm_bk ht hB
          clear hB
          refine lv_iload hx hb dL_areMarksSo_321 (lv_at hl 6 rfl) ?_
          refine lv_icmp_ne (tgt := 378) hx hb dL_areMarksSo_323 (by decide) (fun c_214 => ?_) (fun c_214 => ?_)
          · rw [if_neg c_214] at h
            cases h
          · rw [if_pos c_214] at h
            refine lv_iload hx hb dL_areMarksSo_326 (lv_at hl 6 rfl) ?_
            refine lv_iload hx hb dL_areMarksSo_328 (lv_at hl 0 rfl) ?_
            refine lv_icmp_le (tgt := 337) hx hb dL_areMarksSo_330 (by decide) (fun c_215 => ?_) (fun c_215 => ?_)
            · rw [if_pos c_215] at h
              refine lv_iload_n hx hb dL_areMarksSo_337 rfl (lv_at hl 4 rfl) ?_
              refine lv_if_ne (tgt := 354) hx hb dL_areMarksSo_338 (by decide) (fun c => absurd c_114 c) (fun _ => ?_)
              refine lv_aload_n hx hb dL_areMarksSo_341 rfl (lv_at hl 1 rfl) ?_
              refine lv_iload_n hx hb dL_areMarksSo_342 rfl (lv_at hl 2 rfl) ?_
              obtain ⟨z_216, hz_217, h⟩ := qm_bind h
              refine va_calld (va_runV (As := [.int p0]) (rest := []) ⟨hx, hb, hml, hown, hts⟩ (kX6_part l D A ad cI cQ rest S p0 z_216 hz_217) (cwV 1 hts gL_areMarksSo_X6_part rfl rfl rfl (by decide +kernel) ⟨Nat.le_of_ble_eq_true rfl, Nat.le_of_ble_eq_true rfl⟩) ⟨qn_blind, va_recv hK hP (ci := 6) (q0 := 0) rfl qg_Q, fun U hU hW => ⟨rfl, qm_go hA hS hP hK hD hU hW, qn_go hZ hW⟩⟩ rfl rfl hl.1 rfl (lv_room (Nat.le_of_ble_eq_true rfl)) dL_areMarksSo_343 ⟨Nat.le_of_ble_eq_true rfl, Nat.le_of_ble_eq_true rfl⟩) hS (fun _ _ h9 => h9) (fun _ h9 => h9) (fun v u t H1 locs1 ht hvm hw hB hz1 hk1 hS => ?_)
              obtain ⟨hw1, hw2⟩ := hw
              have hw2 : S = u := hw2.symm
              have hw1 : z_216 = v := hw1.symm
              subst hw1
              subst hw2
              obtain ⟨hP, hD⟩ := qm_bk ht hB
              clear hB
              refine lv_dconst0 hx hb dL_areMarksSo_346 ?_
              refine lv_dcmp hx hb dL_areMarksSo_347 ?_
              refine lv_if_ne (tgt := 378) hx hb dL_areMarksSo_348 (by decide) (fun c_218 => ?_) (fun c_218 => ?_)
              · rw [if_neg c_218] at h
                cases h
              · rw [if_pos c_218] at h
                refine lv_goto (tgt := 374) hx hb dL_areMarksSo_351 (by decide) ?_
                refine lv_iconst (v := (1 : Int32)) hx hb dL_areMarksSo_374 (by decide) ?_
                refine lv_goto (tgt := 379) hx hb dL_areMarksSo_375 (by decide) ?_
                have h := Option.some.inj h
                subst h
                rw [hQX]
                exact W.zret (v := (1 : Int32)) hx hb hr rfl (fun t ht hW => ⟨⟨(1 : Int32), S, rfl, ⟨rfl, rfl⟩, qm_en ht hP hD⟩, hS.F ht⟩) hS.2.2 dL_areMarksSo_379
            · rw [if_neg c_215] at h
              refine lv_iload_n hx hb dL_areMarksSo_333 rfl (lv_at hl 3 rfl) ?_
              refine lv_if_ne (tgt := 378) hx hb dL_areMarksSo_334 (by decide) (fun c => absurd c_5 c) (fun _ => ?_)
              refine lv_iload_n hx hb dL_areMarksSo_337 rfl (lv_at hl 4 rfl) ?_
              refine lv_if_ne (tgt := 354) hx hb dL_areMarksSo_338 (by decide) (fun c => absurd c_114 c) (fun _ => ?_)
              refine lv_aload_n hx hb dL_areMarksSo_341 rfl (lv_at hl 1 rfl) ?_
              refine lv_iload_n hx hb dL_areMarksSo_342 rfl (lv_at hl 2 rfl) ?_
              obtain ⟨z_219, hz_220, h⟩ := qm_bind h
              refine va_calld (va_runV (As := [.int p0]) (rest := []) ⟨hx, hb, hml, hown, hts⟩ (kX6_part l D A ad cI cQ rest S p0 z_219 hz_220) (cwV 1 hts gL_areMarksSo_X6_part rfl rfl rfl (by decide +kernel) ⟨Nat.le_of_ble_eq_true rfl, Nat.le_of_ble_eq_true rfl⟩) ⟨qn_blind, va_recv hK hP (ci := 6) (q0 := 0) rfl qg_Q, fun U hU hW => ⟨rfl, qm_go hA hS hP hK hD hU hW, qn_go hZ hW⟩⟩ rfl rfl hl.1 rfl (lv_room (Nat.le_of_ble_eq_true rfl)) dL_areMarksSo_343 ⟨Nat.le_of_ble_eq_true rfl, Nat.le_of_ble_eq_true rfl⟩) hS (fun _ _ h9 => h9) (fun _ h9 => h9) (fun v u t H1 locs1 ht hvm hw hB hz1 hk1 hS => ?_)
              obtain ⟨hw1, hw2⟩ := hw
              have hw2 : S = u := hw2.symm
              have hw1 : z_219 = v := hw1.symm
              subst hw1
              subst hw2
              obtain ⟨hP, hD⟩ := qm_bk ht hB
              clear hB
              refine lv_dconst0 hx hb dL_areMarksSo_346 ?_
              refine lv_dcmp hx hb dL_areMarksSo_347 ?_
              refine lv_if_ne (tgt := 378) hx hb dL_areMarksSo_348 (by decide) (fun c_221 => ?_) (fun c_221 => ?_)
              · rw [if_neg c_221] at h
                cases h
              · rw [if_pos c_221] at h
                refine lv_goto (tgt := 374) hx hb dL_areMarksSo_351 (by decide) ?_
                refine lv_iconst (v := (1 : Int32)) hx hb dL_areMarksSo_374 (by decide) ?_
                refine lv_goto (tgt := 379) hx hb dL_areMarksSo_375 (by decide) ?_
                have h := Option.some.inj h
                subst h
                rw [hQX]
                exact W.zret (v := (1 : Int32)) hx hb hr rfl (fun t ht hW => ⟨⟨(1 : Int32), S, rfl, ⟨rfl, rfl⟩, qm_en ht hP hD⟩, hS.F ht⟩) hS.2.2 dL_areMarksSo_379
