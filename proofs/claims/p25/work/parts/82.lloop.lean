noncomputable def fL_law_L10 (L : Nat) (xs : Nat → Int32) : Nat → Int32 → qm_S → Option (qm_S)
  | 0, _, _ => none
  | fuel + 1, v2, S =>
    (if (50 : Int32) ≤ v2 then some S else Option.bind (fL_cell S L xs v2) (fun z_2 => Option.bind (fL_cell S L xs (v2 + (14 : Int32))) (fun z_4 => (if (z_2 &&& (64 : Int32)) = 0 then Option.bind (fL_low S (z_2 >>> ((4 : Int32) &&& 31)) (4 : Int32)) (fun z_23 => Option.bind (fL_does S z_23 z_2 z_4) (fun z_25 => qm_gd (z_25.1 = 1) (Option.bind (fL_low z_25.2 z_4 (1001 : Int32)) (fun z_28 => Option.bind (fL_number z_25.2 z_2) (fun z_30 => Option.bind (fL_areAnswersSo z_25.2 z_23 z_28 z_30) (fun z_32 => qm_gd (z_32 = 1) ((if (v2 - v2 / (5 : Int32) * (5 : Int32)) = (4 : Int32) then Option.bind (fL_areMarksSo z_25.2 z_23) (fun z_36 => qm_gd (z_36 = 1) (fL_law_L10 L xs fuel (v2 + (1 : Int32)) z_25.2)) else fL_law_L10 L xs fuel (v2 + (1 : Int32)) z_25.2)))))))) else Option.bind (fL_low S (z_2 >>> ((4 : Int32) &&& 31)) (2 : Int32)) (fun z_7 => Option.bind (fL_does S z_7 z_2 z_4) (fun z_9 => qm_gd (z_9.1 = 1) (Option.bind (fL_low z_9.2 z_4 (1001 : Int32)) (fun z_12 => Option.bind (fL_number z_9.2 z_2) (fun z_14 => Option.bind (fL_areAnswersSo z_9.2 z_7 z_12 z_14) (fun z_16 => qm_gd (z_16 = 1) ((if (v2 - v2 / (5 : Int32) * (5 : Int32)) = (4 : Int32) then Option.bind (fL_areMarksSo z_9.2 z_7) (fun z_20 => qm_gd (z_20 = 1) (fL_law_L10 L xs fuel (v2 + (1 : Int32)) z_9.2)) else fL_law_L10 L xs fuel (v2 + (1 : Int32)) z_9.2))))))))))))
set_option maxHeartbeats 4000000 in
set_option maxRecDepth 100000 in
theorem pl_loop {p : Program} {l : Launch} {e : Env} {s : State} {m : MethodId} {below : List Frame} {meth : Method} {c : Code} {b L : Nat} {xs : Nat → Int32} {Q : State → Prop} {D : va_G} {A : Nat → Prop} {cI cQ : ClassId} {ad : Nat → Nat} {rest : va_W} (hhalt : ∀ (H : Heap) (locs : List Loc) (ls : Array Slot), va_S A s.heap H locs → W p l e room_1 s m #[Value.ref b] below meth c H locs 2820 16920 Q (F0 m 111 ls [])) (hx : p.tables.exec = Jvm.exec) (hb : c.code = cL_law) (hml : c.maxLocals = 6) (hown : s.vm.findClass RL = some m.cls) (hts : ∀ w ∈ wsL_law, w.before #[Value.ref b] s = true) (hX : va_X b L xs s s.heap) (hbl : b < s.heap.size) (hbA : ¬ A b) (hA : ∀ q : Nat, s.heap.size ≤ q → A q) (hK : va_K D vwCl (qm_T cI cQ) s) (hZ : qn_Z s) (S z : qm_S) (h : Option.bind (fL_law_L10 L xs qm_F (0 : Int32) S) (fun y => some y) = some z) {H : Heap} {locs : List Loc} {ls : Array Slot} (hP : va_P D vwCl (qm_W ad cI cQ rest S) H) (hD : va_D A (qm_W ad cI cQ rest S)) (hS : va_S A s.heap H locs) (hl : lv_has ls 6 [(2, .int (0 : Int32)), (1, .ref (ad 0)), (0, .ref b)]) : W p l e room_1 s m #[Value.ref b] below meth c H locs 2820 16920 Q (F0 m 10 ls []) := by
  have loop_2 : ∀ (fuel : Nat) (v2_1 : Int32) (S_1 : qm_S) (z : qm_S), fL_law_L10 L xs fuel v2_1 S_1 = some z → ∀ (H : Heap) (locs : List Loc) (ls : Array Slot), va_P D vwCl (qm_W ad cI cQ rest S_1) H → va_D A (qm_W ad cI cQ rest S_1) → va_S A s.heap H locs → lv_has ls 6 [(0, .ref b), (1, .ref (ad 0)), (2, .int v2_1)] → (∀ (H : Heap) (locs : List Loc) (ls : Array Slot), va_P D vwCl (qm_W ad cI cQ rest z) H → va_D A (qm_W ad cI cQ rest z) → va_S A s.heap H locs → lv_has ls 6 [] → W p l e room_1 s m #[Value.ref b] below meth c H locs 2820 16920 Q (F0 m 111 ls [])) → W p l e room_1 s m #[Value.ref b] below meth c H locs 2820 16920 Q (F0 m 10 ls []) := by
    intro fuel
    induction fuel with
    | zero =>
      intro v2_1 S_1 z h
      rw [fL_law_L10] at h
      cases h
    | succ fuel ih =>
      intro v2_1 S_1 z h H locs ls hP hD hS hl kex
      rw [fL_law_L10] at h
      refine lv_iload_n hx hb dL_law_10 rfl (lv_at hl 2 rfl) ?_
      refine lv_bipush (v := (50 : Int32)) hx hb dL_law_11 (by decide) ?_
      refine lv_icmp_ge (tgt := 111) hx hb dL_law_13 (by decide) (fun c_3 => ?_) (fun c_3 => ?_)
      · rw [if_pos c_3] at h
        have h := Option.some.inj h
        subst h
        exact kex _ _ _ hP hD hS (lv_sub hl [] rfl)
      · rw [if_neg c_3] at h
        refine lv_aload_n hx hb dL_law_16 rfl (lv_at hl 0 rfl) ?_
        refine lv_iload_n hx hb dL_law_17 rfl (lv_at hl 2 rfl) ?_
        obtain ⟨z_4, hz_5, h⟩ := qm_bind h
        refine va_calli (va_runS (As := [.ref b, .int v2_1]) (rest := []) ⟨hx, hb, hml, hown, hts⟩ (kL_cell l D A ad cI cQ rest S_1 b L xs v2_1 z_4 hz_5) (va_cwS 2 hts gL_law_L_cell rfl rfl rfl (by decide +kernel) ⟨Nat.le_of_ble_eq_true rfl, Nat.le_of_ble_eq_true rfl⟩) ⟨qs_blind, fun U hU hW => ⟨rfl, qm_go hA hS hP hK hD hU hW, qs_go hX hbl hbA hS hU hW⟩⟩ rfl rfl hl.1 rfl (lv_room (Nat.le_of_ble_eq_true rfl)) dL_law_18 ⟨Nat.le_of_ble_eq_true rfl, Nat.le_of_ble_eq_true rfl⟩) hS (fun _ _ h9 => h9) (fun _ h9 => h9) (fun v u t H1 locs1 ht hvm hw hB hz1 hk1 hS => ?_)
        obtain ⟨hw1, hw2⟩ := hw
        have hw2 : S_1 = u := hw2.symm
        have hw1 : z_4 = v := hw1.symm
        subst hw1
        subst hw2
        obtain ⟨hP, hD⟩ := qm_bk ht hB
        clear hB
        refine lv_istore_n (lv' := [(3, .int z_4), (0, .ref b), (1, .ref (ad 0)), (2, .int v2_1)]) hx hb dL_law_21 rfl hl (by decide) rfl (fun ls hl => ?_)
        refine lv_aload_n hx hb dL_law_22 rfl (lv_at hl 1 rfl) ?_
        refine lv_iload_n hx hb dL_law_23 rfl (lv_at hl 3 rfl) ?_
        refine lv_bipush (v := (14 : Int32)) hx hb dL_law_24 (by decide) ?_
        refine lv_iadd hx hb dL_law_26 ?_
        obtain ⟨z_6, hz_7, h⟩ := qm_bind h
        refine va_calli (va_runS (As := [.ref b, .int (v2_1 + (14 : Int32))]) (rest := []) ⟨hx, hb, hml, hown, hts⟩ (kL_cell l D A ad cI cQ rest S_1 b L xs (v2_1 + (14 : Int32)) z_6 hz_7) (va_cwS 2 hts gL_law_L_cell rfl rfl rfl (by decide +kernel) ⟨Nat.le_of_ble_eq_true rfl, Nat.le_of_ble_eq_true rfl⟩) ⟨qs_blind, fun U hU hW => ⟨rfl, qm_go hA hS hP hK hD hU hW, qs_go hX hbl hbA hS hU hW⟩⟩ rfl rfl hl.1 rfl (lv_room (Nat.le_of_ble_eq_true rfl)) dL_law_27 ⟨Nat.le_of_ble_eq_true rfl, Nat.le_of_ble_eq_true rfl⟩) hS (fun _ _ h9 => h9) (fun _ h9 => h9) (fun v u t H1 locs1 ht hvm hw hB hz1 hk1 hS => ?_)
        obtain ⟨hw1, hw2⟩ := hw
        have hw2 : S_1 = u := hw2.symm
        have hw1 : z_6 = v := hw1.symm
        subst hw1
        subst hw2
        obtain ⟨hP, hD⟩ := qm_bk ht hB
        clear hB
        refine lv_istore (lv' := [(4, .int z_6), (3, .int z_4), (0, .ref b), (1, .ref (ad 0)), (2, .int v2_1)]) hx hb dL_law_30 hl (by decide) rfl (fun ls hl => ?_)
        refine lv_iload_n hx hb dL_law_32 rfl (lv_at hl 1 rfl) ?_
        refine lv_iconst (v := (4 : Int32)) hx hb dL_law_33 (by decide) ?_
        refine lv_ishr hx hb dL_law_34 ?_
        refine lv_iload_n hx hb dL_law_35 rfl (lv_at hl 1 rfl) ?_
        refine lv_bipush (v := (64 : Int32)) hx hb dL_law_36 (by decide) ?_
        refine lv_iand hx hb dL_law_38 ?_
        refine lv_if_ne (tgt := 46) hx hb dL_law_39 (by decide) (fun c_8 => ?_) (fun c_8 => ?_)
        · rw [if_neg c_8] at h
          refine lv_iconst (v := (2 : Int32)) hx hb dL_law_46 (by decide) ?_
          obtain ⟨z_9, hz_10, h⟩ := qm_bind h
          refine va_calli (va_runS (As := [.int (z_4 >>> ((4 : Int32) &&& 31)), .int (2 : Int32)]) (rest := []) ⟨hx, hb, hml, hown, hts⟩ (kL_low l D A ad cI cQ rest S_1 (z_4 >>> ((4 : Int32) &&& 31)) (2 : Int32) z_9 hz_10) (va_cwS 2 hts gL_law_L_low rfl rfl rfl (by decide +kernel) ⟨Nat.le_of_ble_eq_true rfl, Nat.le_of_ble_eq_true rfl⟩) ⟨qm_blind, fun U hU hW => ⟨rfl, qm_go hA hS hP hK hD hU hW⟩⟩ rfl rfl hl.1 rfl (lv_room (Nat.le_of_ble_eq_true rfl)) dL_law_47 ⟨Nat.le_of_ble_eq_true rfl, Nat.le_of_ble_eq_true rfl⟩) hS (fun _ _ h9 => h9) (fun _ h9 => h9) (fun v u t H1 locs1 ht hvm hw hB hz1 hk1 hS => ?_)
          obtain ⟨hw1, hw2⟩ := hw
          have hw2 : S_1 = u := hw2.symm
          have hw1 : z_9 = v := hw1.symm
          subst hw1
          subst hw2
          obtain ⟨hP, hD⟩ := qm_bk ht hB
          clear hB
          refine lv_istore (lv' := [(5, .int z_9), (4, .int z_6), (3, .int z_4), (0, .ref b), (1, .ref (ad 0)), (2, .int v2_1)]) hx hb dL_law_50 hl (by decide) rfl (fun ls hl => ?_)
          refine lv_aload_n hx hb dL_law_52 rfl (lv_at hl 4 rfl) ?_
          refine lv_iload hx hb dL_law_53 (lv_at hl 0 rfl) ?_
          refine lv_iload_n hx hb dL_law_55 rfl (lv_at hl 2 rfl) ?_
          refine lv_iload hx hb dL_law_56 (lv_at hl 1 rfl) ?_
          obtain ⟨z_11, hz_12, h⟩ := qm_bind h
          refine va_calli (va_runS (As := [.ref (ad 0), .int z_9, .int z_4, .int z_6]) (rest := []) ⟨hx, hb, hml, hown, hts⟩ (kL_does l D A ad cI cQ rest S_1 z_9 z_4 z_6 z_11 hz_12) (va_cwS 4 hts gL_law_L_does rfl rfl rfl (by decide +kernel) ⟨Nat.le_of_ble_eq_true rfl, Nat.le_of_ble_eq_true rfl⟩) ⟨qn_blind, fun U hU hW => ⟨rfl, qm_go hA hS hP hK hD hU hW, qn_go hZ hW⟩⟩ rfl rfl hl.1 rfl (lv_room (Nat.le_of_ble_eq_true rfl)) dL_law_58 ⟨Nat.le_of_ble_eq_true rfl, Nat.le_of_ble_eq_true rfl⟩) hS (fun _ _ h9 => h9) (fun _ h9 => h9) (fun v u t H1 locs1 ht hvm hw hB hz1 hk1 hS => ?_)
          obtain ⟨hw1, hw2⟩ := hw
          have hw2 : z_11.2 = u := hw2.symm
          obtain ⟨g_13, h⟩ := qm_gd_some h
          have hw1 : v = (1 : Int32) := hw1.trans g_13
          subst hw1
          subst hw2
          obtain ⟨hP, hD⟩ := qm_bk ht hB
          clear hB
          refine lv_if_eq (tgt := 85) hx hb dL_law_61 (by decide) (fun c => absurd c (by decide)) (fun _ => ?_)
          refine lv_aload_n hx hb dL_law_64 rfl (lv_at hl 4 rfl) ?_
          refine lv_iload hx hb dL_law_65 (lv_at hl 0 rfl) ?_
          refine lv_iload hx hb dL_law_67 (lv_at hl 1 rfl) ?_
          refine lv_sipush (v := (1001 : Int32)) hx hb dL_law_69 (by decide) ?_
          obtain ⟨z_14, hz_15, h⟩ := qm_bind h
          refine va_calli (va_runS (As := [.int z_6, .int (1001 : Int32)]) (rest := [.int z_9, .ref (ad 0)]) ⟨hx, hb, hml, hown, hts⟩ (kL_low l D A ad cI cQ rest z_11.2 z_6 (1001 : Int32) z_14 hz_15) (va_cwS 2 hts gL_law_L_low rfl rfl rfl (by decide +kernel) ⟨Nat.le_of_ble_eq_true rfl, Nat.le_of_ble_eq_true rfl⟩) ⟨qm_blind, fun U hU hW => ⟨rfl, qm_go hA hS hP hK hD hU hW⟩⟩ rfl rfl hl.1 rfl (lv_room (Nat.le_of_ble_eq_true rfl)) dL_law_72 ⟨Nat.le_of_ble_eq_true rfl, Nat.le_of_ble_eq_true rfl⟩) hS (fun _ _ h9 => h9) (fun _ h9 => h9) (fun v u t H1 locs1 ht hvm hw hB hz1 hk1 hS => ?_)
          obtain ⟨hw1, hw2⟩ := hw
          have hw2 : z_11.2 = u := hw2.symm
          have hw1 : z_14 = v := hw1.symm
          subst hw1
          subst hw2
          obtain ⟨hP, hD⟩ := qm_bk ht hB
          clear hB
          refine lv_iload_n hx hb dL_law_75 rfl (lv_at hl 2 rfl) ?_
          obtain ⟨z_16, hz_17, h⟩ := qm_bind h
          refine va_calli (va_runS (As := [.int z_4]) (rest := [.int z_14, .int z_9, .ref (ad 0)]) ⟨hx, hb, hml, hown, hts⟩ (kL_number l D A ad cI cQ rest z_11.2 z_4 z_16 hz_17) (va_cwS 1 hts gL_law_L_number rfl rfl rfl (by decide +kernel) ⟨Nat.le_of_ble_eq_true rfl, Nat.le_of_ble_eq_true rfl⟩) ⟨qm_blind, fun U hU hW => ⟨rfl, qm_go hA hS hP hK hD hU hW⟩⟩ rfl rfl hl.1 rfl (lv_room (Nat.le_of_ble_eq_true rfl)) dL_law_76 ⟨Nat.le_of_ble_eq_true rfl, Nat.le_of_ble_eq_true rfl⟩) hS (fun _ _ h9 => h9) (fun _ h9 => h9) (fun v u t H1 locs1 ht hvm hw hB hz1 hk1 hS => ?_)
          obtain ⟨hw1, hw2⟩ := hw
          have hw2 : z_11.2 = u := hw2.symm
          have hw1 : z_16 = v := hw1.symm
          subst hw1
          subst hw2
          obtain ⟨hP, hD⟩ := qm_bk ht hB
          clear hB
          obtain ⟨z_18, hz_19, h⟩ := qm_bind h
          refine va_calli (va_runS (As := [.ref (ad 0), .int z_9, .int z_14, .int z_16]) (rest := []) ⟨hx, hb, hml, hown, hts⟩ (kL_areAnswersSo l D A ad cI cQ rest z_11.2 z_9 z_14 z_16 z_18 hz_19) (va_cwS 4 hts gL_law_L_areAnswersSo rfl rfl rfl (by decide +kernel) ⟨Nat.le_of_ble_eq_true rfl, Nat.le_of_ble_eq_true rfl⟩) ⟨qn_blind, fun U hU hW => ⟨rfl, qm_go hA hS hP hK hD hU hW, qn_go hZ hW⟩⟩ rfl rfl hl.1 rfl (lv_room (Nat.le_of_ble_eq_true rfl)) dL_law_79 ⟨Nat.le_of_ble_eq_true rfl, Nat.le_of_ble_eq_true rfl⟩) hS (fun _ _ h9 => h9) (fun _ h9 => h9) (fun v u t H1 locs1 ht hvm hw hB hz1 hk1 hS => ?_)
          obtain ⟨hw1, hw2⟩ := hw
          have hw2 : z_11.2 = u := hw2.symm
          obtain ⟨g_20, h⟩ := qm_gd_some h
          have hw1 : v = (1 : Int32) := hw1.trans g_20
          subst hw1
          subst hw2
          obtain ⟨hP, hD⟩ := qm_bk ht hB
          clear hB
          refine lv_if_ne (tgt := 87) hx hb dL_law_82 (by decide) (fun _ => ?_) (fun c => absurd c (by decide))
          refine lv_iload_n hx hb dL_law_87 rfl (lv_at hl 5 rfl) ?_
          refine lv_iconst (v := (5 : Int32)) hx hb dL_law_88 (by decide) ?_
          refine lv_irem hx hb dL_law_89 (by decide) ?_
          refine lv_iconst (v := (4 : Int32)) hx hb dL_law_90 (by decide) ?_
          refine lv_icmp_ne (tgt := 105) hx hb dL_law_91 (by decide) (fun c_21 => ?_) (fun c_21 => ?_)
          · rw [if_neg c_21] at h
            refine lv_iinc (v := v2_1 + (1 : Int32)) (lv' := [(2, .int (v2_1 + (1 : Int32))), (5, .int z_9), (4, .int z_6), (3, .int z_4), (0, .ref b), (1, .ref (ad 0))]) hx hb dL_law_105 hl (k := 5) rfl rfl (by decide) rfl (fun ls hl => ?_)
            refine lv_goto (tgt := 10) hx hb dL_law_108 (by decide) ?_
            exact ih (v2_1 + (1 : Int32)) z_11.2 z h _ _ _ hP hD hS (lv_sub hl [4, 5, 0] rfl) kex
          · rw [if_pos c_21] at h
            refine lv_aload_n hx hb dL_law_94 rfl (lv_at hl 4 rfl) ?_
            refine lv_iload hx hb dL_law_95 (lv_at hl 0 rfl) ?_
            obtain ⟨z_22, hz_23, h⟩ := qm_bind h
            refine va_calli (va_runS (As := [.ref (ad 0), .int z_9]) (rest := []) ⟨hx, hb, hml, hown, hts⟩ (kL_areMarksSo l D A ad cI cQ rest z_11.2 z_9 z_22 hz_23) (va_cwS 2 hts gL_law_L_areMarksSo rfl rfl rfl (by decide +kernel) ⟨Nat.le_of_ble_eq_true rfl, Nat.le_of_ble_eq_true rfl⟩) ⟨qn_blind, fun U hU hW => ⟨rfl, qm_go hA hS hP hK hD hU hW, qn_go hZ hW⟩⟩ rfl rfl hl.1 rfl (lv_room (Nat.le_of_ble_eq_true rfl)) dL_law_97 ⟨Nat.le_of_ble_eq_true rfl, Nat.le_of_ble_eq_true rfl⟩) hS (fun _ _ h9 => h9) (fun _ h9 => h9) (fun v u t H1 locs1 ht hvm hw hB hz1 hk1 hS => ?_)
            obtain ⟨hw1, hw2⟩ := hw
            have hw2 : z_11.2 = u := hw2.symm
            obtain ⟨g_24, h⟩ := qm_gd_some h
            have hw1 : v = (1 : Int32) := hw1.trans g_24
            subst hw1
            subst hw2
            obtain ⟨hP, hD⟩ := qm_bk ht hB
            clear hB
            refine lv_if_ne (tgt := 105) hx hb dL_law_100 (by decide) (fun _ => ?_) (fun c => absurd c (by decide))
            refine lv_iinc (v := v2_1 + (1 : Int32)) (lv' := [(2, .int (v2_1 + (1 : Int32))), (5, .int z_9), (4, .int z_6), (3, .int z_4), (0, .ref b), (1, .ref (ad 0))]) hx hb dL_law_105 hl (k := 5) rfl rfl (by decide) rfl (fun ls hl => ?_)
            refine lv_goto (tgt := 10) hx hb dL_law_108 (by decide) ?_
            exact ih (v2_1 + (1 : Int32)) z_11.2 z h _ _ _ hP hD hS (lv_sub hl [4, 5, 0] rfl) kex
        · rw [if_pos c_8] at h
          refine lv_iconst (v := (4 : Int32)) hx hb dL_law_42 (by decide) ?_
          refine lv_goto (tgt := 47) hx hb dL_law_43 (by decide) ?_
          obtain ⟨z_25, hz_26, h⟩ := qm_bind h
          refine va_calli (va_runS (As := [.int (z_4 >>> ((4 : Int32) &&& 31)), .int (4 : Int32)]) (rest := []) ⟨hx, hb, hml, hown, hts⟩ (kL_low l D A ad cI cQ rest S_1 (z_4 >>> ((4 : Int32) &&& 31)) (4 : Int32) z_25 hz_26) (va_cwS 2 hts gL_law_L_low rfl rfl rfl (by decide +kernel) ⟨Nat.le_of_ble_eq_true rfl, Nat.le_of_ble_eq_true rfl⟩) ⟨qm_blind, fun U hU hW => ⟨rfl, qm_go hA hS hP hK hD hU hW⟩⟩ rfl rfl hl.1 rfl (lv_room (Nat.le_of_ble_eq_true rfl)) dL_law_47 ⟨Nat.le_of_ble_eq_true rfl, Nat.le_of_ble_eq_true rfl⟩) hS (fun _ _ h9 => h9) (fun _ h9 => h9) (fun v u t H1 locs1 ht hvm hw hB hz1 hk1 hS => ?_)
          obtain ⟨hw1, hw2⟩ := hw
          have hw2 : S_1 = u := hw2.symm
          have hw1 : z_25 = v := hw1.symm
          subst hw1
          subst hw2
          obtain ⟨hP, hD⟩ := qm_bk ht hB
          clear hB
          refine lv_istore (lv' := [(5, .int z_25), (4, .int z_6), (3, .int z_4), (0, .ref b), (1, .ref (ad 0)), (2, .int v2_1)]) hx hb dL_law_50 hl (by decide) rfl (fun ls hl => ?_)
          refine lv_aload_n hx hb dL_law_52 rfl (lv_at hl 4 rfl) ?_
          refine lv_iload hx hb dL_law_53 (lv_at hl 0 rfl) ?_
          refine lv_iload_n hx hb dL_law_55 rfl (lv_at hl 2 rfl) ?_
          refine lv_iload hx hb dL_law_56 (lv_at hl 1 rfl) ?_
          obtain ⟨z_27, hz_28, h⟩ := qm_bind h
          refine va_calli (va_runS (As := [.ref (ad 0), .int z_25, .int z_4, .int z_6]) (rest := []) ⟨hx, hb, hml, hown, hts⟩ (kL_does l D A ad cI cQ rest S_1 z_25 z_4 z_6 z_27 hz_28) (va_cwS 4 hts gL_law_L_does rfl rfl rfl (by decide +kernel) ⟨Nat.le_of_ble_eq_true rfl, Nat.le_of_ble_eq_true rfl⟩) ⟨qn_blind, fun U hU hW => ⟨rfl, qm_go hA hS hP hK hD hU hW, qn_go hZ hW⟩⟩ rfl rfl hl.1 rfl (lv_room (Nat.le_of_ble_eq_true rfl)) dL_law_58 ⟨Nat.le_of_ble_eq_true rfl, Nat.le_of_ble_eq_true rfl⟩) hS (fun _ _ h9 => h9) (fun _ h9 => h9) (fun v u t H1 locs1 ht hvm hw hB hz1 hk1 hS => ?_)
          obtain ⟨hw1, hw2⟩ := hw
          have hw2 : z_27.2 = u := hw2.symm
          obtain ⟨g_29, h⟩ := qm_gd_some h
          have hw1 : v = (1 : Int32) := hw1.trans g_29
          subst hw1
          subst hw2
          obtain ⟨hP, hD⟩ := qm_bk ht hB
          clear hB
          refine lv_if_eq (tgt := 85) hx hb dL_law_61 (by decide) (fun c => absurd c (by decide)) (fun _ => ?_)
          refine lv_aload_n hx hb dL_law_64 rfl (lv_at hl 4 rfl) ?_
          refine lv_iload hx hb dL_law_65 (lv_at hl 0 rfl) ?_
          refine lv_iload hx hb dL_law_67 (lv_at hl 1 rfl) ?_
          refine lv_sipush (v := (1001 : Int32)) hx hb dL_law_69 (by decide) ?_
          obtain ⟨z_30, hz_31, h⟩ := qm_bind h
          refine va_calli (va_runS (As := [.int z_6, .int (1001 : Int32)]) (rest := [.int z_25, .ref (ad 0)]) ⟨hx, hb, hml, hown, hts⟩ (kL_low l D A ad cI cQ rest z_27.2 z_6 (1001 : Int32) z_30 hz_31) (va_cwS 2 hts gL_law_L_low rfl rfl rfl (by decide +kernel) ⟨Nat.le_of_ble_eq_true rfl, Nat.le_of_ble_eq_true rfl⟩) ⟨qm_blind, fun U hU hW => ⟨rfl, qm_go hA hS hP hK hD hU hW⟩⟩ rfl rfl hl.1 rfl (lv_room (Nat.le_of_ble_eq_true rfl)) dL_law_72 ⟨Nat.le_of_ble_eq_true rfl, Nat.le_of_ble_eq_true rfl⟩) hS (fun _ _ h9 => h9) (fun _ h9 => h9) (fun v u t H1 locs1 ht hvm hw hB hz1 hk1 hS => ?_)
          obtain ⟨hw1, hw2⟩ := hw
          have hw2 : z_27.2 = u := hw2.symm
          have hw1 : z_30 = v := hw1.symm
          subst hw1
          subst hw2
          obtain ⟨hP, hD⟩ := qm_bk ht hB
          clear hB
          refine lv_iload_n hx hb dL_law_75 rfl (lv_at hl 2 rfl) ?_
          obtain ⟨z_32, hz_33, h⟩ := qm_bind h
          refine va_calli (va_runS (As := [.int z_4]) (rest := [.int z_30, .int z_25, .ref (ad 0)]) ⟨hx, hb, hml, hown, hts⟩ (kL_number l D A ad cI cQ rest z_27.2 z_4 z_32 hz_33) (va_cwS 1 hts gL_law_L_number rfl rfl rfl (by decide +kernel) ⟨Nat.le_of_ble_eq_true rfl, Nat.le_of_ble_eq_true rfl⟩) ⟨qm_blind, fun U hU hW => ⟨rfl, qm_go hA hS hP hK hD hU hW⟩⟩ rfl rfl hl.1 rfl (lv_room (Nat.le_of_ble_eq_true rfl)) dL_law_76 ⟨Nat.le_of_ble_eq_true rfl, Nat.le_of_ble_eq_true rfl⟩) hS (fun _ _ h9 => h9) (fun _ h9 => h9) (fun v u t H1 locs1 ht hvm hw hB hz1 hk1 hS => ?_)
          obtain ⟨hw1, hw2⟩ := hw
          have hw2 : z_27.2 = u := hw2.symm
          have hw1 : z_32 = v := hw1.symm
          subst hw1
          subst hw2
          obtain ⟨hP, hD⟩ := qm_bk ht hB
          clear hB
          obtain ⟨z_34, hz_35, h⟩ := qm_bind h
          refine va_calli (va_runS (As := [.ref (ad 0), .int z_25, .int z_30, .int z_32]) (rest := []) ⟨hx, hb, hml, hown, hts⟩ (kL_areAnswersSo l D A ad cI cQ rest z_27.2 z_25 z_30 z_32 z_34 hz_35) (va_cwS 4 hts gL_law_L_areAnswersSo rfl rfl rfl (by decide +kernel) ⟨Nat.le_of_ble_eq_true rfl, Nat.le_of_ble_eq_true rfl⟩) ⟨qn_blind, fun U hU hW => ⟨rfl, qm_go hA hS hP hK hD hU hW, qn_go hZ hW⟩⟩ rfl rfl hl.1 rfl (lv_room (Nat.le_of_ble_eq_true rfl)) dL_law_79 ⟨Nat.le_of_ble_eq_true rfl, Nat.le_of_ble_eq_true rfl⟩) hS (fun _ _ h9 => h9) (fun _ h9 => h9) (fun v u t H1 locs1 ht hvm hw hB hz1 hk1 hS => ?_)
          obtain ⟨hw1, hw2⟩ := hw
          have hw2 : z_27.2 = u := hw2.symm
          obtain ⟨g_36, h⟩ := qm_gd_some h
          have hw1 : v = (1 : Int32) := hw1.trans g_36
          subst hw1
          subst hw2
          obtain ⟨hP, hD⟩ := qm_bk ht hB
          clear hB
          refine lv_if_ne (tgt := 87) hx hb dL_law_82 (by decide) (fun _ => ?_) (fun c => absurd c (by decide))
          refine lv_iload_n hx hb dL_law_87 rfl (lv_at hl 5 rfl) ?_
          refine lv_iconst (v := (5 : Int32)) hx hb dL_law_88 (by decide) ?_
          refine lv_irem hx hb dL_law_89 (by decide) ?_
          refine lv_iconst (v := (4 : Int32)) hx hb dL_law_90 (by decide) ?_
          refine lv_icmp_ne (tgt := 105) hx hb dL_law_91 (by decide) (fun c_37 => ?_) (fun c_37 => ?_)
          · rw [if_neg c_37] at h
            refine lv_iinc (v := v2_1 + (1 : Int32)) (lv' := [(2, .int (v2_1 + (1 : Int32))), (5, .int z_25), (4, .int z_6), (3, .int z_4), (0, .ref b), (1, .ref (ad 0))]) hx hb dL_law_105 hl (k := 5) rfl rfl (by decide) rfl (fun ls hl => ?_)
            refine lv_goto (tgt := 10) hx hb dL_law_108 (by decide) ?_
            exact ih (v2_1 + (1 : Int32)) z_27.2 z h _ _ _ hP hD hS (lv_sub hl [4, 5, 0] rfl) kex
          · rw [if_pos c_37] at h
            refine lv_aload_n hx hb dL_law_94 rfl (lv_at hl 4 rfl) ?_
            refine lv_iload hx hb dL_law_95 (lv_at hl 0 rfl) ?_
            obtain ⟨z_38, hz_39, h⟩ := qm_bind h
            refine va_calli (va_runS (As := [.ref (ad 0), .int z_25]) (rest := []) ⟨hx, hb, hml, hown, hts⟩ (kL_areMarksSo l D A ad cI cQ rest z_27.2 z_25 z_38 hz_39) (va_cwS 2 hts gL_law_L_areMarksSo rfl rfl rfl (by decide +kernel) ⟨Nat.le_of_ble_eq_true rfl, Nat.le_of_ble_eq_true rfl⟩) ⟨qn_blind, fun U hU hW => ⟨rfl, qm_go hA hS hP hK hD hU hW, qn_go hZ hW⟩⟩ rfl rfl hl.1 rfl (lv_room (Nat.le_of_ble_eq_true rfl)) dL_law_97 ⟨Nat.le_of_ble_eq_true rfl, Nat.le_of_ble_eq_true rfl⟩) hS (fun _ _ h9 => h9) (fun _ h9 => h9) (fun v u t H1 locs1 ht hvm hw hB hz1 hk1 hS => ?_)
            obtain ⟨hw1, hw2⟩ := hw
            have hw2 : z_27.2 = u := hw2.symm
            obtain ⟨g_40, h⟩ := qm_gd_some h
            have hw1 : v = (1 : Int32) := hw1.trans g_40
            subst hw1
            subst hw2
            obtain ⟨hP, hD⟩ := qm_bk ht hB
            clear hB
            refine lv_if_ne (tgt := 105) hx hb dL_law_100 (by decide) (fun _ => ?_) (fun c => absurd c (by decide))
            refine lv_iinc (v := v2_1 + (1 : Int32)) (lv' := [(2, .int (v2_1 + (1 : Int32))), (5, .int z_25), (4, .int z_6), (3, .int z_4), (0, .ref b), (1, .ref (ad 0))]) hx hb dL_law_105 hl (k := 5) rfl rfl (by decide) rfl (fun ls hl => ?_)
            refine lv_goto (tgt := 10) hx hb dL_law_108 (by decide) ?_
            exact ih (v2_1 + (1 : Int32)) z_27.2 z h _ _ _ hP hD hS (lv_sub hl [4, 5, 0] rfl) kex
  obtain ⟨z_41, hz_42, h⟩ := qm_bind h
  refine loop_2 qm_F (0 : Int32) S z_41 hz_42 _ _ _ hP hD hS (lv_sub hl [2, 1, 0] rfl) (fun H locs ls hP hD hS hl => ?_)
  exact hhalt H locs ls hS
