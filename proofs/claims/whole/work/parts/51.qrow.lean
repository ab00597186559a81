noncomputable def fX6_showRow_L67 (x3 : Int32) (x4 : Int32) (n5 : Nat) : Nat → Int32 → Int32 → qm_S → Option (qm_S)
  | 0, _, _, _ => none
  | fuel + 1, v6, v7, S =>
    (if x4 ≤ v7 then some S else Option.bind (fX0_take S n5 v6) (fun z_27 => (if (v6 + x3) ≤ (9999 : Int32) then fX6_showRow_L67 x3 x4 n5 fuel (v6 + x3) (v7 + (1 : Int32)) z_27 else fX6_showRow_L67 x3 x4 n5 fuel ((v6 + x3) + (-20000 : Int32)) (v7 + (1 : Int32)) z_27)))
noncomputable def fX6_showRow (S : qm_S) (p0 : Int32) (p1 : Int32) (p2 : Int32) (p3 : Int32) : Option ((Int32 × qm_S) ⊕ String) :=
  Option.bind (fX6_counterAt S p0) (fun z_1 => Sum.elim (fun a_3 => qm_gd (a_3 < 4) (Option.bind (fX6_isNumber S p1) (fun z_6 => Option.bind (fX6_demandInRange S z_6) (fun z_8 => Sum.elim (fun a_10 => (if p2 < 0 then Option.bind (fX6_demandInRange S (0 : Int32)) (fun z_13 => Sum.elim (fun a_15 => (if p3 < (1 : Int32) then Option.bind (fX6_demandInRange S (0 : Int32)) (fun z_18 => Sum.elim (fun a_20 => Option.bind (fX0_demandRoomFor S a_3 p3) (fun z_22 => Sum.elim (fun a_24 => Option.bind (fX6_showRow_L67 p2 p3 a_3 qm_F p1 (0 : Int32) S) (fun z_32 => some (.inl (((z_32.1 a_3).1), z_32)))) (fun e => some (.inr e)) z_22)) (fun e => some (.inr e)) z_18) else (if (100 : Int32) < p3 then Option.bind (fX6_demandInRange S (0 : Int32)) (fun z_35 => Sum.elim (fun a_37 => Option.bind (fX0_demandRoomFor S a_3 p3) (fun z_39 => Sum.elim (fun a_41 => Option.bind (fX6_showRow_L67 p2 p3 a_3 qm_F p1 (0 : Int32) S) (fun z_49 => some (.inl (((z_49.1 a_3).1), z_49)))) (fun e => some (.inr e)) z_39)) (fun e => some (.inr e)) z_35) else Option.bind (fX6_demandInRange S (1 : Int32)) (fun z_51 => Sum.elim (fun a_53 => Option.bind (fX0_demandRoomFor S a_3 p3) (fun z_55 => Sum.elim (fun a_57 => Option.bind (fX6_showRow_L67 p2 p3 a_3 qm_F p1 (0 : Int32) S) (fun z_65 => some (.inl (((z_65.1 a_3).1), z_65)))) (fun e => some (.inr e)) z_55)) (fun e => some (.inr e)) z_51)))) (fun e => some (.inr e)) z_13) else (if (9999 : Int32) < p2 then Option.bind (fX6_demandInRange S (0 : Int32)) (fun z_68 => Sum.elim (fun a_70 => (if p3 < (1 : Int32) then Option.bind (fX6_demandInRange S (0 : Int32)) (fun z_73 => Sum.elim (fun a_75 => Option.bind (fX0_demandRoomFor S a_3 p3) (fun z_77 => Sum.elim (fun a_79 => Option.bind (fX6_showRow_L67 p2 p3 a_3 qm_F p1 (0 : Int32) S) (fun z_87 => some (.inl (((z_87.1 a_3).1), z_87)))) (fun e => some (.inr e)) z_77)) (fun e => some (.inr e)) z_73) else (if (100 : Int32) < p3 then Option.bind (fX6_demandInRange S (0 : Int32)) (fun z_90 => Sum.elim (fun a_92 => Option.bind (fX0_demandRoomFor S a_3 p3) (fun z_94 => Sum.elim (fun a_96 => Option.bind (fX6_showRow_L67 p2 p3 a_3 qm_F p1 (0 : Int32) S) (fun z_104 => some (.inl (((z_104.1 a_3).1), z_104)))) (fun e => some (.inr e)) z_94)) (fun e => some (.inr e)) z_90) else Option.bind (fX6_demandInRange S (1 : Int32)) (fun z_106 => Sum.elim (fun a_108 => Option.bind (fX0_demandRoomFor S a_3 p3) (fun z_110 => Sum.elim (fun a_112 => Option.bind (fX6_showRow_L67 p2 p3 a_3 qm_F p1 (0 : Int32) S) (fun z_120 => some (.inl (((z_120.1 a_3).1), z_120)))) (fun e => some (.inr e)) z_110)) (fun e => some (.inr e)) z_106)))) (fun e => some (.inr e)) z_68) else Option.bind (fX6_demandInRange S (1 : Int32)) (fun z_122 => Sum.elim (fun a_124 => (if p3 < (1 : Int32) then Option.bind (fX6_demandInRange S (0 : Int32)) (fun z_127 => Sum.elim (fun a_129 => Option.bind (fX0_demandRoomFor S a_3 p3) (fun z_131 => Sum.elim (fun a_133 => Option.bind (fX6_showRow_L67 p2 p3 a_3 qm_F p1 (0 : Int32) S) (fun z_141 => some (.inl (((z_141.1 a_3).1), z_141)))) (fun e => some (.inr e)) z_131)) (fun e => some (.inr e)) z_127) else (if (100 : Int32) < p3 then Option.bind (fX6_demandInRange S (0 : Int32)) (fun z_144 => Sum.elim (fun a_146 => Option.bind (fX0_demandRoomFor S a_3 p3) (fun z_148 => Sum.elim (fun a_150 => Option.bind (fX6_showRow_L67 p2 p3 a_3 qm_F p1 (0 : Int32) S) (fun z_158 => some (.inl (((z_158.1 a_3).1), z_158)))) (fun e => some (.inr e)) z_148)) (fun e => some (.inr e)) z_144) else Option.bind (fX6_demandInRange S (1 : Int32)) (fun z_160 => Sum.elim (fun a_162 => Option.bind (fX0_demandRoomFor S a_3 p3) (fun z_164 => Sum.elim (fun a_166 => Option.bind (fX6_showRow_L67 p2 p3 a_3 qm_F p1 (0 : Int32) S) (fun z_174 => some (.inl (((z_174.1 a_3).1), z_174)))) (fun e => some (.inr e)) z_164)) (fun e => some (.inr e)) z_160)))) (fun e => some (.inr e)) z_122)))) (fun e => some (.inr e)) z_8)))) (fun e => some (.inr e)) z_1)
set_option maxHeartbeats 4000000 in
set_option maxRecDepth 100000 in
theorem kX6_showRow {l : Launch} (hst : l.stackTraces = false) (_ : Launch) (D : va_G) (A : Nat → Prop) (ad : Nat → Nat) (cI cQ : ClassId) (rest : va_W) (S : qm_S) (p0 : Int32) (p1 : Int32) (p2 : Int32) (p3 : Int32) (z : (Int32 × qm_S) ⊕ String) (h : fX6_showRow S p0 p1 p2 p3 = some z) : vx_Met l yX6_showRow wsX6_showRow ({ frames := 7, cells := 5, slots := 30, locals := 147 }) (va_Pc [.ref (ad 0), .int p0, .int p1, .int p2, .int p3] (qm_BZ D A (qm_T cI cQ) (qm_W ad cI cQ rest S))) (qm_Ys D A (qm_W ad cI cQ rest) z) (qm_YX D A (qm_W ad cI cQ rest S) (fun E => z = .inr E)) 5 30 A := by
  refine vx_ofW (cc := cX6_showRow) (maxL := 8) (ret := (some .int)) (by decide) rfl ?_
  intro p e s m args below meth c s₁ B hml hno hv
  obtain ⟨rfl, ⟨hA, hP, hK, hD⟩, hZ⟩ := hv
  have hx := B.exec
  have hb := B.bytes
  have hr := B.returns
  have hts := atoms_spec (ws := wsX6_showRow) B.pre
  have hown : s.vm.findClass RX6 = some m.cls := findClass_of_methodNamed B.named
  have hlocks := B.notSynchronized
  have hS : va_S A s.heap s.heap [] := va_S.rf
  have hl := lv_entry ([.ref (ad 0), .int p0, .int p1, .int p2, .int p3]) (n := 8) (Nat.le_of_ble_eq_true rfl)
  rw [lg_entry_eq]
  generalize (lg_sl ([.ref (ad 0), .int p0, .int p1, .int p2, .int p3]) ++ List.replicate (8 - (lg_sl ([.ref (ad 0), .int p0, .int p1, .int p2, .int p3])).length) Slot.unset).toArray = ls at hl ⊢
  have hl : lv_has ls 8 [(0, .ref (ad 0)), (1, .int p0), (2, .int p1), (3, .int p2), (4, .int p3)] := hl
  obtain ⟨QX, hQX⟩ : ∃ q, q = vx_MQ below (qm_Ys D A (qm_W ad cI cQ rest) z) (qm_YX D A (qm_W ad cI cQ rest S) (fun E => z = .inr E)) ([.ref (ad 0), .int p0, .int p1, .int p2, .int p3] : List Value).toArray s 5 30 A := ⟨_, rfl⟩
  rw [← hQX]
  rw [fX6_showRow] at h
  refine lv_aload_n hx hb dX6_showRow_0 rfl (lv_at hl 0 rfl) ?_
  refine lv_iload_n hx hb dX6_showRow_1 rfl (lv_at hl 1 rfl) ?_
  obtain ⟨z_1, hz_2, h⟩ := qm_bind h
  rcases z_1 with a_3 | e_4
  · refine qx_callr (vx_runV (As := [.int p0]) (rest := []) ⟨hx, hb, hml, hown, hts⟩ (kX6_counterAt hst l D A ad cI cQ rest S p0 _ hz_2) (cwV 1 hts gX6_showRow_X6_counterAt rfl rfl rfl (by decide +kernel) ⟨Nat.le_of_ble_eq_true rfl, Nat.le_of_ble_eq_true rfl⟩) ⟨qm_blindZ, va_recv hK hP (ci := 6) (q0 := 0) rfl qg_Q, fun U hU hW => ⟨rfl, qm_go hA hS hP hK hD hU hW, qm_Zgo hZ hS hU hW⟩⟩ rfl rfl hl.1 rfl (lv_room (Nat.le_of_ble_eq_true rfl)) dX6_showRow_2 ⟨Nat.le_of_ble_eq_true rfl, Nat.le_of_ble_eq_true rfl⟩) hS (fun _ _ h9 => h9) (fun _ h9 => h9) (fun _ _ h9 => h9) (fun E ce q9 u9 t H1 locs1 ht hvm hw hB hz1 hk1 hS hce hcv hcl => absurd hB.1 (fun q => by cases q)) (fun u ra t H1 locs1 ht hvm hw hB hz1 hk1 hS => ?_)
    rw [Sum.elim_inl] at h
    obtain ⟨⟨i9, hi1, hi2⟩, hB⟩ := hB
    have hi1 := Sum.inl.inj hi1
    subst hi1
    have hi2 : ad (2 + a_3) = ra := hi2.symm
    subst hi2
    have hw : S = u := hw.symm
    subst hw
    obtain ⟨hk_5, h⟩ := qm_gd_some h
    obtain ⟨hP, hD⟩ := qm_bk ht hB
    refine lv_astore (lv' := [(5, .ref (ad (2 + a_3))), (0, .ref (ad 0)), (1, .int p0), (2, .int p1), (3, .int p2), (4, .int p3)]) hx hb dX6_showRow_5 hl (by decide) rfl (fun ls hl => ?_)
    refine lv_iload_n hx hb dX6_showRow_7 rfl (lv_at hl 3 rfl) ?_
    obtain ⟨z_6, hz_7, h⟩ := qm_bind h
    refine va_calli (va_runS (As := [.int p1]) (rest := []) ⟨hx, hb, hml, hown, hts⟩ (kX6_isNumber l D A ad cI cQ rest S p1 z_6 hz_7) (va_cwS 1 hts gX6_showRow_X6_isNumber rfl rfl rfl (by decide +kernel) ⟨Nat.le_of_ble_eq_true rfl, Nat.le_of_ble_eq_true rfl⟩) ⟨qm_blind, fun U hU hW => ⟨rfl, qm_go hA hS hP hK hD hU hW⟩⟩ rfl rfl hl.1 rfl (lv_room (Nat.le_of_ble_eq_true rfl)) dX6_showRow_8 ⟨Nat.le_of_ble_eq_true rfl, Nat.le_of_ble_eq_true rfl⟩) hS (fun _ _ h9 => h9) (fun _ h9 => h9) (fun v u t H1 locs1 ht hvm hw hB hz1 hk1 hS => ?_)
    obtain ⟨hw1, hw2⟩ := hw
    have hw1 : z_6 = v := hw1.symm
    have hw2 : S = u := hw2.symm
    subst hw1
    subst hw2
    obtain ⟨hP, hD⟩ := qm_bk ht hB
    obtain ⟨z_8, hz_9, h⟩ := qm_bind h
    rcases z_8 with a_10 | e_11
    · refine vx_callv (vx_runS (As := [.int z_6]) (rest := []) ⟨hx, hb, hml, hown, hts⟩ (kX6_demandInRange hst l D A ad cI cQ rest S z_6 _ hz_9) (va_cwS 1 hts gX6_showRow_X6_demandInRange rfl rfl rfl (by decide +kernel) ⟨Nat.le_of_ble_eq_true rfl, Nat.le_of_ble_eq_true rfl⟩) ⟨qm_blindZ, fun U hU hW => ⟨rfl, qm_go hA hS hP hK hD hU hW, qm_Zgo hZ hS hU hW⟩⟩ rfl rfl hl.1 rfl (lv_room (Nat.le_of_ble_eq_true rfl)) dX6_showRow_11 ⟨Nat.le_of_ble_eq_true rfl, Nat.le_of_ble_eq_true rfl⟩) hS (fun _ _ h9 => h9) (fun _ h9 => h9) (fun _ _ h9 => h9) (fun E ce q9 u9 t H1 locs1 ht hvm hw hB hz1 hk1 hS hce hcv hcl => absurd hB.1 (fun q => by cases q)) (fun u t H1 locs1 ht hvm hw hB hz1 hk1 hS => ?_)
      rw [Sum.elim_inl] at h
      obtain ⟨hw1, hw2⟩ := hw
      have hw2 : S = u := hw2.symm
      subst hw2
      obtain ⟨hP, hD⟩ := qm_bk ht hB
      refine lv_iload_n hx hb dX6_showRow_14 rfl (lv_at hl 4 rfl) ?_
      refine lv_if_lt (tgt := 29) hx hb dX6_showRow_15 (by decide) (fun c_12 => ?_) (fun c_12 => ?_)
      · rw [if_pos c_12] at h
        refine lv_iconst (v := (0 : Int32)) hx hb dX6_showRow_29 (by decide) ?_
        obtain ⟨z_13, hz_14, h⟩ := qm_bind h
        rcases z_13 with a_15 | e_16
        · refine vx_callv (vx_runS (As := [.int (0 : Int32)]) (rest := []) ⟨hx, hb, hml, hown, hts⟩ (kX6_demandInRange hst l D A ad cI cQ rest S (0 : Int32) _ hz_14) (va_cwS 1 hts gX6_showRow_X6_demandInRange rfl rfl rfl (by decide +kernel) ⟨Nat.le_of_ble_eq_true rfl, Nat.le_of_ble_eq_true rfl⟩) ⟨qm_blindZ, fun U hU hW => ⟨rfl, qm_go hA hS hP hK hD hU hW, qm_Zgo hZ hS hU hW⟩⟩ rfl rfl hl.1 rfl (lv_room (Nat.le_of_ble_eq_true rfl)) dX6_showRow_30 ⟨Nat.le_of_ble_eq_true rfl, Nat.le_of_ble_eq_true rfl⟩) hS (fun _ _ h9 => h9) (fun _ h9 => h9) (fun _ _ h9 => h9) (fun E ce q9 u9 t H1 locs1 ht hvm hw hB hz1 hk1 hS hce hcv hcl => absurd hB.1 (fun q => by cases q)) (fun u t H1 locs1 ht hvm hw hB hz1 hk1 hS => ?_)
          rw [Sum.elim_inl] at h
          obtain ⟨hw1, hw2⟩ := hw
          have hw2 : S = u := hw2.symm
          subst hw2
          obtain ⟨hP, hD⟩ := qm_bk ht hB
          refine lv_iload hx hb dX6_showRow_33 (lv_at hl 5 rfl) ?_
          refine lv_iconst (v := (1 : Int32)) hx hb dX6_showRow_35 (by decide) ?_
          refine lv_icmp_lt (tgt := 50) hx hb dX6_showRow_36 (by decide) (fun c_17 => ?_) (fun c_17 => ?_)
          · rw [if_pos c_17] at h
            refine lv_iconst (v := (0 : Int32)) hx hb dX6_showRow_50 (by decide) ?_
            obtain ⟨z_18, hz_19, h⟩ := qm_bind h
            rcases z_18 with a_20 | e_21
            · refine vx_callv (vx_runS (As := [.int (0 : Int32)]) (rest := []) ⟨hx, hb, hml, hown, hts⟩ (kX6_demandInRange hst l D A ad cI cQ rest S (0 : Int32) _ hz_19) (va_cwS 1 hts gX6_showRow_X6_demandInRange rfl rfl rfl (by decide +kernel) ⟨Nat.le_of_ble_eq_true rfl, Nat.le_of_ble_eq_true rfl⟩) ⟨qm_blindZ, fun U hU hW => ⟨rfl, qm_go hA hS hP hK hD hU hW, qm_Zgo hZ hS hU hW⟩⟩ rfl rfl hl.1 rfl (lv_room (Nat.le_of_ble_eq_true rfl)) dX6_showRow_51 ⟨Nat.le_of_ble_eq_true rfl, Nat.le_of_ble_eq_true rfl⟩) hS (fun _ _ h9 => h9) (fun _ h9 => h9) (fun _ _ h9 => h9) (fun E ce q9 u9 t H1 locs1 ht hvm hw hB hz1 hk1 hS hce hcv hcl => absurd hB.1 (fun q => by cases q)) (fun u t H1 locs1 ht hvm hw hB hz1 hk1 hS => ?_)
              rw [Sum.elim_inl] at h
              obtain ⟨hw1, hw2⟩ := hw
              have hw2 : S = u := hw2.symm
              subst hw2
              obtain ⟨hP, hD⟩ := qm_bk ht hB
              refine lv_aload hx hb dX6_showRow_54 (lv_at hl 0 rfl) ?_
              refine lv_iload hx hb dX6_showRow_56 (lv_at hl 5 rfl) ?_
              obtain ⟨z_22, hz_23, h⟩ := qm_bind h
              rcases z_22 with a_24 | e_25
              · refine vx_callv (vx_runV (As := [.int p3]) (rest := []) ⟨hx, hb, hml, hown, hts⟩ (kX0_demandRoomFor hst l D A ad cI cQ rest S a_3 hk_5 p3 _ hz_23) (cwV 1 hts gX6_showRow_X0_demandRoomFor rfl rfl rfl (by decide +kernel) ⟨Nat.le_of_ble_eq_true rfl, Nat.le_of_ble_eq_true rfl⟩) ⟨qm_blindZ, va_recv hK hP (ci := 0) (q0 := (2 + a_3)) rfl (qg_C hk_5), fun U hU hW => ⟨rfl, qm_go hA hS hP hK hD hU hW, qm_Zgo hZ hS hU hW⟩⟩ rfl rfl hl.1 rfl (lv_room (Nat.le_of_ble_eq_true rfl)) dX6_showRow_58 ⟨Nat.le_of_ble_eq_true rfl, Nat.le_of_ble_eq_true rfl⟩) hS (fun _ _ h9 => h9) (fun _ h9 => h9) (fun _ _ h9 => h9) (fun E ce q9 u9 t H1 locs1 ht hvm hw hB hz1 hk1 hS hce hcv hcl => absurd hB.1 (fun q => by cases q)) (fun u t H1 locs1 ht hvm hw hB hz1 hk1 hS => ?_)
                rw [Sum.elim_inl] at h
                obtain ⟨hw1, hw2⟩ := hw
                have hw2 : S = u := hw2.symm
                subst hw2
                obtain ⟨hP, hD⟩ := qm_bk ht hB
                refine lv_iload_n hx hb dX6_showRow_61 rfl (lv_at hl 3 rfl) ?_
                refine lv_istore (lv' := [(6, .int p1), (5, .ref (ad (2 + a_3))), (0, .ref (ad 0)), (1, .int p0), (2, .int p1), (3, .int p2), (4, .int p3)]) hx hb dX6_showRow_62 hl (by decide) rfl (fun ls hl => ?_)
                refine lv_iconst (v := (0 : Int32)) hx hb dX6_showRow_64 (by decide) ?_
                refine lv_istore (lv' := [(7, .int (0 : Int32)), (6, .int p1), (5, .ref (ad (2 + a_3))), (0, .ref (ad 0)), (1, .int p0), (2, .int p1), (3, .int p2), (4, .int p3)]) hx hb dX6_showRow_65 hl (by decide) rfl (fun ls hl => ?_)
                have loop_27 : ∀ (fuel : Nat) (v6_26 v7_26 : Int32) (S_26 : qm_S) (z : qm_S), fX6_showRow_L67 p2 p3 a_3 fuel v6_26 v7_26 S_26 = some z → ∀ (H : Heap) (locs : List Loc) (ls : Array Slot), va_P D vwCl (qm_W ad cI cQ rest S_26) H → va_D A (qm_W ad cI cQ rest S_26) → va_S A s.heap H locs → lv_has ls 8 [(3, .int p2), (4, .int p3), (5, .ref (ad (2 + a_3))), (6, .int v6_26), (7, .int v7_26)] → (∀ (H : Heap) (locs : List Loc) (ls : Array Slot), va_P D vwCl (qm_W ad cI cQ rest z) H → va_D A (qm_W ad cI cQ rest z) → va_S A s.heap H locs → lv_has ls 8 [(5, .ref (ad (2 + a_3)))] → W p l e ({ frames := 7, cells := 5, slots := 30, locals := 147 } : Room) s m ([.ref (ad 0), .int p0, .int p1, .int p2, .int p3] : List Value).toArray below meth c H locs 5 30 QX (F0 m 107 ls [])) → W p l e ({ frames := 7, cells := 5, slots := 30, locals := 147 } : Room) s m ([.ref (ad 0), .int p0, .int p1, .int p2, .int p3] : List Value).toArray below meth c H locs 5 30 QX (F0 m 67 ls []) := by
                  intro fuel
                  induction fuel with
                  | zero =>
                    intro v6_26 v7_26 S_26 z h
                    rw [fX6_showRow_L67] at h
                    cases h
                  | succ fuel ih =>
                    intro v6_26 v7_26 S_26 z h H locs ls hP hD hS hl kex
                    rw [fX6_showRow_L67] at h
                    refine lv_iload hx hb dX6_showRow_67 (lv_at hl 4 rfl) ?_
                    refine lv_iload hx hb dX6_showRow_69 (lv_at hl 1 rfl) ?_
                    refine lv_icmp_ge (tgt := 107) hx hb dX6_showRow_71 (by decide) (fun c_28 => ?_) (fun c_28 => ?_)
                    · rw [if_pos c_28] at h
                      have h := Option.some.inj h
                      subst h
                      exact kex _ _ _ hP hD hS (lv_sub hl [2] rfl)
                    · rw [if_neg c_28] at h
                      refine lv_aload hx hb dX6_showRow_74 (lv_at hl 2 rfl) ?_
                      refine lv_iload hx hb dX6_showRow_76 (lv_at hl 3 rfl) ?_
                      obtain ⟨z_29, hz_30, h⟩ := qm_bind h
                      refine va_callv (va_runV (As := [.int v6_26]) (rest := []) ⟨hx, hb, hml, hown, hts⟩ (kX0_take l D A ad cI cQ rest S_26 a_3 hk_5 v6_26 z_29 hz_30) (cwV 1 hts gX6_showRow_X0_take rfl rfl rfl (by decide +kernel) ⟨Nat.le_of_ble_eq_true rfl, Nat.le_of_ble_eq_true rfl⟩) ⟨qm_blind, va_recv hK hP (ci := 0) (q0 := (2 + a_3)) rfl (qg_C hk_5), fun U hU hW => ⟨rfl, qm_go hA hS hP hK hD hU hW⟩⟩ rfl rfl hl.1 rfl (lv_room (Nat.le_of_ble_eq_true rfl)) dX6_showRow_78 ⟨Nat.le_of_ble_eq_true rfl, Nat.le_of_ble_eq_true rfl⟩) hS (fun _ _ h9 => h9) (fun _ h9 => h9) (fun u t H1 locs1 ht hvm hw hB hz1 hk1 hS => ?_)
                      have hw : z_29 = u := hw.symm
                      subst hw
                      obtain ⟨hP, hD⟩ := qm_bk ht hB
                      refine lv_iload hx hb dX6_showRow_81 (lv_at hl 3 rfl) ?_
                      refine lv_iload_n hx hb dX6_showRow_83 rfl (lv_at hl 0 rfl) ?_
                      refine lv_iadd hx hb dX6_showRow_84 ?_
                      refine lv_istore (lv' := [(6, .int (v6_26 + p2)), (3, .int p2), (4, .int p3), (5, .ref (ad (2 + a_3))), (7, .int v7_26)]) hx hb dX6_showRow_85 hl (by decide) rfl (fun ls hl => ?_)
                      refine lv_iload hx hb dX6_showRow_87 (lv_at hl 0 rfl) ?_
                      refine lv_sipush (v := (9999 : Int32)) hx hb dX6_showRow_89 (by decide) ?_
                      refine lv_icmp_le (tgt := 101) hx hb dX6_showRow_92 (by decide) (fun c_31 => ?_) (fun c_31 => ?_)
                      · rw [if_pos c_31] at h
                        refine lv_iinc (v := v7_26 + (1 : Int32)) (lv' := [(7, .int (v7_26 + (1 : Int32))), (6, .int (v6_26 + p2)), (3, .int p2), (4, .int p3), (5, .ref (ad (2 + a_3)))]) hx hb dX6_showRow_101 hl (k := 4) rfl rfl (by decide) rfl (fun ls hl => ?_)
                        refine lv_goto (tgt := 67) hx hb dX6_showRow_104 (by decide) ?_
                        exact ih (v6_26 + p2) (v7_26 + (1 : Int32)) z_29 z h _ _ _ hP hD hS (lv_sub hl [2, 3, 4, 1, 0] rfl) kex
                      · rw [if_neg c_31] at h
                        refine lv_iincW (v := (v6_26 + p2) + (-20000 : Int32)) (lv' := [(6, .int ((v6_26 + p2) + (-20000 : Int32))), (3, .int p2), (4, .int p3), (5, .ref (ad (2 + a_3))), (7, .int v7_26)]) hx hb dX6_showRow_95 hl (k := 0) rfl (congrArg (fun q9 : Int32 => (v6_26 + p2) + q9) (show Int32.ofInt (-20000) = (-20000 : Int32) by decide)) (by decide) rfl (fun ls hl => ?_)
                        refine lv_iinc (v := v7_26 + (1 : Int32)) (lv' := [(7, .int (v7_26 + (1 : Int32))), (6, .int ((v6_26 + p2) + (-20000 : Int32))), (3, .int p2), (4, .int p3), (5, .ref (ad (2 + a_3)))]) hx hb dX6_showRow_101 hl (k := 4) rfl rfl (by decide) rfl (fun ls hl => ?_)
                        refine lv_goto (tgt := 67) hx hb dX6_showRow_104 (by decide) ?_
                        exact ih ((v6_26 + p2) + (-20000 : Int32)) (v7_26 + (1 : Int32)) z_29 z h _ _ _ hP hD hS (lv_sub hl [2, 3, 4, 1, 0] rfl) kex
                obtain ⟨z_32, hz_33, h⟩ := qm_bind h
                refine loop_27 qm_F p1 (0 : Int32) S z_32 hz_33 _ _ _ hP hD hS (lv_sub hl [6, 7, 2, 1, 0] rfl) (fun H locs ls hP hD hS hl => ?_)
                refine lv_aload hx hb dX6_showRow_107 (lv_at hl 0 rfl) ?_
                refine va_getN (D := D) (ci := 0) (v := .ref (ad (6 + a_3))) (C := RX0) (T := TX0) (N := 4) hx hb hts (by decide +kernel) hown hK hP (2 + a_3) (qg_C hk_5) rfl 0 (by decide) (va_Nw.use rfl (qz_frow hZ)) (fun _ h9 => h9) rfl dX6_showRow_109 ?_
                refine va_calli (va_runV (As := []) (rest := []) ⟨hx, hb, hml, hown, hts⟩ (nX3_length l D A ad cI cQ rest z_32 a_3 hk_5) (cwV 0 hts gX6_showRow_X3_length rfl rfl rfl (by decide +kernel) ⟨Nat.le_of_ble_eq_true rfl, Nat.le_of_ble_eq_true rfl⟩) ⟨qm_blind, va_recv hK hP (ci := 3) (q0 := (6 + a_3)) rfl (qg_M hk_5), fun U hU hW => ⟨rfl, qm_go hA hS hP hK hD hU hW⟩⟩ rfl rfl hl.1 rfl (lv_room (Nat.le_of_ble_eq_true rfl)) dX6_showRow_112 ⟨Nat.le_of_ble_eq_true rfl, Nat.le_of_ble_eq_true rfl⟩) hS (fun _ _ h9 => h9) (fun _ h9 => h9) (fun v u t H1 locs1 ht hvm hw hB hz1 hk1 hS => ?_)
                obtain ⟨hw1, hw2⟩ := hw
                have hw1 : ((z_32.1 a_3).1) = v := hw1.symm
                have hw2 : z_32 = u := hw2.symm
                subst hw1
                subst hw2
                obtain ⟨hP, hD⟩ := qm_bk ht hB
                have h := Option.some.inj h
                subst h
                rw [hQX]
                refine vx_ret ?_
                refine W.widen (k := 5) (n := 30) (Nat.le_of_ble_eq_true rfl) (Nat.le_of_ble_eq_true rfl) ?_
                exact W.iret (v := ((z_32.1 a_3).1)) hx hb hr (fun t ht hW => ⟨⟨((z_32.1 a_3).1), z_32, rfl, rfl, qm_en ht hP hD⟩, hS.F ht⟩) hS.2.2 dX6_showRow_115
              · refine vx_callv (vx_runV (As := [.int p3]) (rest := []) ⟨hx, hb, hml, hown, hts⟩ (kX0_demandRoomFor hst l D A ad cI cQ rest S a_3 hk_5 p3 _ hz_23) (cwV 1 hts gX6_showRow_X0_demandRoomFor rfl rfl rfl (by decide +kernel) ⟨Nat.le_of_ble_eq_true rfl, Nat.le_of_ble_eq_true rfl⟩) ⟨qm_blindZ, va_recv hK hP (ci := 0) (q0 := (2 + a_3)) rfl (qg_C hk_5), fun U hU hW => ⟨rfl, qm_go hA hS hP hK hD hU hW, qm_Zgo hZ hS hU hW⟩⟩ rfl rfl hl.1 rfl (lv_room (Nat.le_of_ble_eq_true rfl)) dX6_showRow_58 ⟨Nat.le_of_ble_eq_true rfl, Nat.le_of_ble_eq_true rfl⟩) hS (fun _ _ h9 => h9) (fun _ h9 => h9) (fun _ _ h9 => h9) (fun E ce q9 u9 t H1 locs1 ht hvm hw hB hz1 hk1 hS hce hcv hcl => ?_) (fun u t H1 locs1 ht hvm hw hB hz1 hk1 hS => absurd (hw.1) (fun q => by cases q))
                obtain ⟨hE1, hE2⟩ := hB
                have hE1 := Sum.inr.inj hE1
                subst hE1
                obtain ⟨hP, hD⟩ := qm_bk ht hE2
                have h := Option.some.inj h
                subst h
                rw [hQX]
                exact vx_out (fun x9 q9 => (hno x9 q9).elim) hlocks hce hcv hcl (fun t9 ht9 hvm9 => ⟨(), trivial, ⟨rfl, qm_en ht9 hP hD⟩, hS.F ht9⟩) hS.2.2 (Nat.le_of_ble_eq_true rfl) (Nat.le_of_ble_eq_true rfl)
            · refine vx_callv (vx_runS (As := [.int (0 : Int32)]) (rest := []) ⟨hx, hb, hml, hown, hts⟩ (kX6_demandInRange hst l D A ad cI cQ rest S (0 : Int32) _ hz_19) (va_cwS 1 hts gX6_showRow_X6_demandInRange rfl rfl rfl (by decide +kernel) ⟨Nat.le_of_ble_eq_true rfl, Nat.le_of_ble_eq_true rfl⟩) ⟨qm_blindZ, fun U hU hW => ⟨rfl, qm_go hA hS hP hK hD hU hW, qm_Zgo hZ hS hU hW⟩⟩ rfl rfl hl.1 rfl (lv_room (Nat.le_of_ble_eq_true rfl)) dX6_showRow_51 ⟨Nat.le_of_ble_eq_true rfl, Nat.le_of_ble_eq_true rfl⟩) hS (fun _ _ h9 => h9) (fun _ h9 => h9) (fun _ _ h9 => h9) (fun E ce q9 u9 t H1 locs1 ht hvm hw hB hz1 hk1 hS hce hcv hcl => ?_) (fun u t H1 locs1 ht hvm hw hB hz1 hk1 hS => absurd (hw.1) (fun q => by cases q))
              obtain ⟨hE1, hE2⟩ := hB
              have hE1 := Sum.inr.inj hE1
              subst hE1
              obtain ⟨hP, hD⟩ := qm_bk ht hE2
              have h := Option.some.inj h
              subst h
              rw [hQX]
              exact vx_out (fun x9 q9 => (hno x9 q9).elim) hlocks hce hcv hcl (fun t9 ht9 hvm9 => ⟨(), trivial, ⟨rfl, qm_en ht9 hP hD⟩, hS.F ht9⟩) hS.2.2 (Nat.le_of_ble_eq_true rfl) (Nat.le_of_ble_eq_true rfl)
          · rw [if_neg c_17] at h
            refine lv_iload hx hb dX6_showRow_39 (lv_at hl 5 rfl) ?_
            refine lv_bipush (v := (100 : Int32)) hx hb dX6_showRow_41 (by decide) ?_
            refine lv_icmp_gt (tgt := 50) hx hb dX6_showRow_43 (by decide) (fun c_34 => ?_) (fun c_34 => ?_)
            · rw [if_pos c_34] at h
              refine lv_iconst (v := (0 : Int32)) hx hb dX6_showRow_50 (by decide) ?_
              obtain ⟨z_35, hz_36, h⟩ := qm_bind h
              rcases z_35 with a_37 | e_38
              · refine vx_callv (vx_runS (As := [.int (0 : Int32)]) (rest := []) ⟨hx, hb, hml, hown, hts⟩ (kX6_demandInRange hst l D A ad cI cQ rest S (0 : Int32) _ hz_36) (va_cwS 1 hts gX6_showRow_X6_demandInRange rfl rfl rfl (by decide +kernel) ⟨Nat.le_of_ble_eq_true rfl, Nat.le_of_ble_eq_true rfl⟩) ⟨qm_blindZ, fun U hU hW => ⟨rfl, qm_go hA hS hP hK hD hU hW, qm_Zgo hZ hS hU hW⟩⟩ rfl rfl hl.1 rfl (lv_room (Nat.le_of_ble_eq_true rfl)) dX6_showRow_51 ⟨Nat.le_of_ble_eq_true rfl, Nat.le_of_ble_eq_true rfl⟩) hS (fun _ _ h9 => h9) (fun _ h9 => h9) (fun _ _ h9 => h9) (fun E ce q9 u9 t H1 locs1 ht hvm hw hB hz1 hk1 hS hce hcv hcl => absurd hB.1 (fun q => by cases q)) (fun u t H1 locs1 ht hvm hw hB hz1 hk1 hS => ?_)
                rw [Sum.elim_inl] at h
                obtain ⟨hw1, hw2⟩ := hw
                have hw2 : S = u := hw2.symm
                subst hw2
                obtain ⟨hP, hD⟩ := qm_bk ht hB
                refine lv_aload hx hb dX6_showRow_54 (lv_at hl 0 rfl) ?_
                refine lv_iload hx hb dX6_showRow_56 (lv_at hl 5 rfl) ?_
                obtain ⟨z_39, hz_40, h⟩ := qm_bind h
                rcases z_39 with a_41 | e_42
                · refine vx_callv (vx_runV (As := [.int p3]) (rest := []) ⟨hx, hb, hml, hown, hts⟩ (kX0_demandRoomFor hst l D A ad cI cQ rest S a_3 hk_5 p3 _ hz_40) (cwV 1 hts gX6_showRow_X0_demandRoomFor rfl rfl rfl (by decide +kernel) ⟨Nat.le_of_ble_eq_true rfl, Nat.le_of_ble_eq_true rfl⟩) ⟨qm_blindZ, va_recv hK hP (ci := 0) (q0 := (2 + a_3)) rfl (qg_C hk_5), fun U hU hW => ⟨rfl, qm_go hA hS hP hK hD hU hW, qm_Zgo hZ hS hU hW⟩⟩ rfl rfl hl.1 rfl (lv_room (Nat.le_of_ble_eq_true rfl)) dX6_showRow_58 ⟨Nat.le_of_ble_eq_true rfl, Nat.le_of_ble_eq_true rfl⟩) hS (fun _ _ h9 => h9) (fun _ h9 => h9) (fun _ _ h9 => h9) (fun E ce q9 u9 t H1 locs1 ht hvm hw hB hz1 hk1 hS hce hcv hcl => absurd hB.1 (fun q => by cases q)) (fun u t H1 locs1 ht hvm hw hB hz1 hk1 hS => ?_)
                  rw [Sum.elim_inl] at h
                  obtain ⟨hw1, hw2⟩ := hw
                  have hw2 : S = u := hw2.symm
                  subst hw2
                  obtain ⟨hP, hD⟩ := qm_bk ht hB
                  refine lv_iload_n hx hb dX6_showRow_61 rfl (lv_at hl 3 rfl) ?_
                  refine lv_istore (lv' := [(6, .int p1), (5, .ref (ad (2 + a_3))), (0, .ref (ad 0)), (1, .int p0), (2, .int p1), (3, .int p2), (4, .int p3)]) hx hb dX6_showRow_62 hl (by decide) rfl (fun ls hl => ?_)
                  refine lv_iconst (v := (0 : Int32)) hx hb dX6_showRow_64 (by decide) ?_
                  refine lv_istore (lv' := [(7, .int (0 : Int32)), (6, .int p1), (5, .ref (ad (2 + a_3))), (0, .ref (ad 0)), (1, .int p0), (2, .int p1), (3, .int p2), (4, .int p3)]) hx hb dX6_showRow_65 hl (by decide) rfl (fun ls hl => ?_)
                  have loop_44 : ∀ (fuel : Nat) (v6_43 v7_43 : Int32) (S_43 : qm_S) (z : qm_S), fX6_showRow_L67 p2 p3 a_3 fuel v6_43 v7_43 S_43 = some z → ∀ (H : Heap) (locs : List Loc) (ls : Array Slot), va_P D vwCl (qm_W ad cI cQ rest S_43) H → va_D A (qm_W ad cI cQ rest S_43) → va_S A s.heap H locs → lv_has ls 8 [(3, .int p2), (4, .int p3), (5, .ref (ad (2 + a_3))), (6, .int v6_43), (7, .int v7_43)] → (∀ (H : Heap) (locs : List Loc) (ls : Array Slot), va_P D vwCl (qm_W ad cI cQ rest z) H → va_D A (qm_W ad cI cQ rest z) → va_S A s.heap H locs → lv_has ls 8 [(5, .ref (ad (2 + a_3)))] → W p l e ({ frames := 7, cells := 5, slots := 30, locals := 147 } : Room) s m ([.ref (ad 0), .int p0, .int p1, .int p2, .int p3] : List Value).toArray below meth c H locs 5 30 QX (F0 m 107 ls [])) → W p l e ({ frames := 7, cells := 5, slots := 30, locals := 147 } : Room) s m ([.ref (ad 0), .int p0, .int p1, .int p2, .int p3] : List Value).toArray below meth c H locs 5 30 QX (F0 m 67 ls []) := by
                    intro fuel
                    induction fuel with
                    | zero =>
                      intro v6_43 v7_43 S_43 z h
                      rw [fX6_showRow_L67] at h
                      cases h
                    | succ fuel ih =>
                      intro v6_43 v7_43 S_43 z h H locs ls hP hD hS hl kex
                      rw [fX6_showRow_L67] at h
                      refine lv_iload hx hb dX6_showRow_67 (lv_at hl 4 rfl) ?_
                      refine lv_iload hx hb dX6_showRow_69 (lv_at hl 1 rfl) ?_
                      refine lv_icmp_ge (tgt := 107) hx hb dX6_showRow_71 (by decide) (fun c_45 => ?_) (fun c_45 => ?_)
                      · rw [if_pos c_45] at h
                        have h := Option.some.inj h
                        subst h
                        exact kex _ _ _ hP hD hS (lv_sub hl [2] rfl)
                      · rw [if_neg c_45] at h
                        refine lv_aload hx hb dX6_showRow_74 (lv_at hl 2 rfl) ?_
                        refine lv_iload hx hb dX6_showRow_76 (lv_at hl 3 rfl) ?_
                        obtain ⟨z_46, hz_47, h⟩ := qm_bind h
                        refine va_callv (va_runV (As := [.int v6_43]) (rest := []) ⟨hx, hb, hml, hown, hts⟩ (kX0_take l D A ad cI cQ rest S_43 a_3 hk_5 v6_43 z_46 hz_47) (cwV 1 hts gX6_showRow_X0_take rfl rfl rfl (by decide +kernel) ⟨Nat.le_of_ble_eq_true rfl, Nat.le_of_ble_eq_true rfl⟩) ⟨qm_blind, va_recv hK hP (ci := 0) (q0 := (2 + a_3)) rfl (qg_C hk_5), fun U hU hW => ⟨rfl, qm_go hA hS hP hK hD hU hW⟩⟩ rfl rfl hl.1 rfl (lv_room (Nat.le_of_ble_eq_true rfl)) dX6_showRow_78 ⟨Nat.le_of_ble_eq_true rfl, Nat.le_of_ble_eq_true rfl⟩) hS (fun _ _ h9 => h9) (fun _ h9 => h9) (fun u t H1 locs1 ht hvm hw hB hz1 hk1 hS => ?_)
                        have hw : z_46 = u := hw.symm
                        subst hw
                        obtain ⟨hP, hD⟩ := qm_bk ht hB
                        refine lv_iload hx hb dX6_showRow_81 (lv_at hl 3 rfl) ?_
                        refine lv_iload_n hx hb dX6_showRow_83 rfl (lv_at hl 0 rfl) ?_
                        refine lv_iadd hx hb dX6_showRow_84 ?_
                        refine lv_istore (lv' := [(6, .int (v6_43 + p2)), (3, .int p2), (4, .int p3), (5, .ref (ad (2 + a_3))), (7, .int v7_43)]) hx hb dX6_showRow_85 hl (by decide) rfl (fun ls hl => ?_)
                        refine lv_iload hx hb dX6_showRow_87 (lv_at hl 0 rfl) ?_
                        refine lv_sipush (v := (9999 : Int32)) hx hb dX6_showRow_89 (by decide) ?_
                        refine lv_icmp_le (tgt := 101) hx hb dX6_showRow_92 (by decide) (fun c_48 => ?_) (fun c_48 => ?_)
                        · rw [if_pos c_48] at h
                          refine lv_iinc (v := v7_43 + (1 : Int32)) (lv' := [(7, .int (v7_43 + (1 : Int32))), (6, .int (v6_43 + p2)), (3, .int p2), (4, .int p3), (5, .ref (ad (2 + a_3)))]) hx hb dX6_showRow_101 hl (k := 4) rfl rfl (by decide) rfl (fun ls hl => ?_)
                          refine lv_goto (tgt := 67) hx hb dX6_showRow_104 (by decide) ?_
                          exact ih (v6_43 + p2) (v7_43 + (1 : Int32)) z_46 z h _ _ _ hP hD hS (lv_sub hl [2, 3, 4, 1, 0] rfl) kex
                        · rw [if_neg c_48] at h
                          refine lv_iincW (v := (v6_43 + p2) + (-20000 : Int32)) (lv' := [(6, .int ((v6_43 + p2) + (-20000 : Int32))), (3, .int p2), (4, .int p3), (5, .ref (ad (2 + a_3))), (7, .int v7_43)]) hx hb dX6_showRow_95 hl (k := 0) rfl (congrArg (fun q9 : Int32 => (v6_43 + p2) + q9) (show Int32.ofInt (-20000) = (-20000 : Int32) by decide)) (by decide) rfl (fun ls hl => ?_)
                          refine lv_iinc (v := v7_43 + (1 : Int32)) (lv' := [(7, .int (v7_43 + (1 : Int32))), (6, .int ((v6_43 + p2) + (-20000 : Int32))), (3, .int p2), (4, .int p3), (5, .ref (ad (2 + a_3)))]) hx hb dX6_showRow_101 hl (k := 4) rfl rfl (by decide) rfl (fun ls hl => ?_)
                          refine lv_goto (tgt := 67) hx hb dX6_showRow_104 (by decide) ?_
                          exact ih ((v6_43 + p2) + (-20000 : Int32)) (v7_43 + (1 : Int32)) z_46 z h _ _ _ hP hD hS (lv_sub hl [2, 3, 4, 1, 0] rfl) kex
                  obtain ⟨z_49, hz_50, h⟩ := qm_bind h
                  refine loop_44 qm_F p1 (0 : Int32) S z_49 hz_50 _ _ _ hP hD hS (lv_sub hl [6, 7, 2, 1, 0] rfl) (fun H locs ls hP hD hS hl => ?_)
                  refine lv_aload hx hb dX6_showRow_107 (lv_at hl 0 rfl) ?_
                  refine va_getN (D := D) (ci := 0) (v := .ref (ad (6 + a_3))) (C := RX0) (T := TX0) (N := 4) hx hb hts (by decide +kernel) hown hK hP (2 + a_3) (qg_C hk_5) rfl 0 (by decide) (va_Nw.use rfl (qz_frow hZ)) (fun _ h9 => h9) rfl dX6_showRow_109 ?_
                  refine va_calli (va_runV (As := []) (rest := []) ⟨hx, hb, hml, hown, hts⟩ (nX3_length l D A ad cI cQ rest z_49 a_3 hk_5) (cwV 0 hts gX6_showRow_X3_length rfl rfl rfl (by decide +kernel) ⟨Nat.le_of_ble_eq_true rfl, Nat.le_of_ble_eq_true rfl⟩) ⟨qm_blind, va_recv hK hP (ci := 3) (q0 := (6 + a_3)) rfl (qg_M hk_5), fun U hU hW => ⟨rfl, qm_go hA hS hP hK hD hU hW⟩⟩ rfl rfl hl.1 rfl (lv_room (Nat.le_of_ble_eq_true rfl)) dX6_showRow_112 ⟨Nat.le_of_ble_eq_true rfl, Nat.le_of_ble_eq_true rfl⟩) hS (fun _ _ h9 => h9) (fun _ h9 => h9) (fun v u t H1 locs1 ht hvm hw hB hz1 hk1 hS => ?_)
                  obtain ⟨hw1, hw2⟩ := hw
                  have hw1 : ((z_49.1 a_3).1) = v := hw1.symm
                  have hw2 : z_49 = u := hw2.symm
                  subst hw1
                  subst hw2
                  obtain ⟨hP, hD⟩ := qm_bk ht hB
                  have h := Option.some.inj h
                  subst h
                  rw [hQX]
                  refine vx_ret ?_
                  refine W.widen (k := 5) (n := 30) (Nat.le_of_ble_eq_true rfl) (Nat.le_of_ble_eq_true rfl) ?_
                  exact W.iret (v := ((z_49.1 a_3).1)) hx hb hr (fun t ht hW => ⟨⟨((z_49.1 a_3).1), z_49, rfl, rfl, qm_en ht hP hD⟩, hS.F ht⟩) hS.2.2 dX6_showRow_115
                · refine vx_callv (vx_runV (As := [.int p3]) (rest := []) ⟨hx, hb, hml, hown, hts⟩ (kX0_demandRoomFor hst l D A ad cI cQ rest S a_3 hk_5 p3 _ hz_40) (cwV 1 hts gX6_showRow_X0_demandRoomFor rfl rfl rfl (by decide +kernel) ⟨Nat.le_of_ble_eq_true rfl, Nat.le_of_ble_eq_true rfl⟩) ⟨qm_blindZ, va_recv hK hP (ci := 0) (q0 := (2 + a_3)) rfl (qg_C hk_5), fun U hU hW => ⟨rfl, qm_go hA hS hP hK hD hU hW, qm_Zgo hZ hS hU hW⟩⟩ rfl rfl hl.1 rfl (lv_room (Nat.le_of_ble_eq_true rfl)) dX6_showRow_58 ⟨Nat.le_of_ble_eq_true rfl, Nat.le_of_ble_eq_true rfl⟩) hS (fun _ _ h9 => h9) (fun _ h9 => h9) (fun _ _ h9 => h9) (fun E ce q9 u9 t H1 locs1 ht hvm hw hB hz1 hk1 hS hce hcv hcl => ?_) (fun u t H1 locs1 ht hvm hw hB hz1 hk1 hS => absurd (hw.1) (fun q => by cases q))
                  obtain ⟨hE1, hE2⟩ := hB
                  have hE1 := Sum.inr.inj hE1
                  subst hE1
                  obtain ⟨hP, hD⟩ := qm_bk ht hE2
                  have h := Option.some.inj h
                  subst h
                  rw [hQX]
                  exact vx_out (fun x9 q9 => (hno x9 q9).elim) hlocks hce hcv hcl (fun t9 ht9 hvm9 => ⟨(), trivial, ⟨rfl, qm_en ht9 hP hD⟩, hS.F ht9⟩) hS.2.2 (Nat.le_of_ble_eq_true rfl) (Nat.le_of_ble_eq_true rfl)
              · refine vx_callv (vx_runS (As := [.int (0 : Int32)]) (rest := []) ⟨hx, hb, hml, hown, hts⟩ (kX6_demandInRange hst l D A ad cI cQ rest S (0 : Int32) _ hz_36) (va_cwS 1 hts gX6_showRow_X6_demandInRange rfl rfl rfl (by decide +kernel) ⟨Nat.le_of_ble_eq_true rfl, Nat.le_of_ble_eq_true rfl⟩) ⟨qm_blindZ, fun U hU hW => ⟨rfl, qm_go hA hS hP hK hD hU hW, qm_Zgo hZ hS hU hW⟩⟩ rfl rfl hl.1 rfl (lv_room (Nat.le_of_ble_eq_true rfl)) dX6_showRow_51 ⟨Nat.le_of_ble_eq_true rfl, Nat.le_of_ble_eq_true rfl⟩) hS (fun _ _ h9 => h9) (fun _ h9 => h9) (fun _ _ h9 => h9) (fun E ce q9 u9 t H1 locs1 ht hvm hw hB hz1 hk1 hS hce hcv hcl => ?_) (fun u t H1 locs1 ht hvm hw hB hz1 hk1 hS => absurd (hw.1) (fun q => by cases q))
                obtain ⟨hE1, hE2⟩ := hB
                have hE1 := Sum.inr.inj hE1
                subst hE1
                obtain ⟨hP, hD⟩ := qm_bk ht hE2
                have h := Option.some.inj h
                subst h
                rw [hQX]
                exact vx_out (fun x9 q9 => (hno x9 q9).elim) hlocks hce hcv hcl (fun t9 ht9 hvm9 => ⟨(), trivial, ⟨rfl, qm_en ht9 hP hD⟩, hS.F ht9⟩) hS.2.2 (Nat.le_of_ble_eq_true rfl) (Nat.le_of_ble_eq_true rfl)
            · rw [if_neg c_34] at h
              refine lv_iconst (v := (1 : Int32)) hx hb dX6_showRow_46 (by decide) ?_
              refine lv_goto (tgt := 51) hx hb dX6_showRow_47 (by decide) ?_
              obtain ⟨z_51, hz_52, h⟩ := qm_bind h
              rcases z_51 with a_53 | e_54
              · refine vx_callv (vx_runS (As := [.int (1 : Int32)]) (rest := []) ⟨hx, hb, hml, hown, hts⟩ (kX6_demandInRange hst l D A ad cI cQ rest S (1 : Int32) _ hz_52) (va_cwS 1 hts gX6_showRow_X6_demandInRange rfl rfl rfl (by decide +kernel) ⟨Nat.le_of_ble_eq_true rfl, Nat.le_of_ble_eq_true rfl⟩) ⟨qm_blindZ, fun U hU hW => ⟨rfl, qm_go hA hS hP hK hD hU hW, qm_Zgo hZ hS hU hW⟩⟩ rfl rfl hl.1 rfl (lv_room (Nat.le_of_ble_eq_true rfl)) dX6_showRow_51 ⟨Nat.le_of_ble_eq_true rfl, Nat.le_of_ble_eq_true rfl⟩) hS (fun _ _ h9 => h9) (fun _ h9 => h9) (fun _ _ h9 => h9) (fun E ce q9 u9 t H1 locs1 ht hvm hw hB hz1 hk1 hS hce hcv hcl => absurd hB.1 (fun q => by cases q)) (fun u t H1 locs1 ht hvm hw hB hz1 hk1 hS => ?_)
                rw [Sum.elim_inl] at h
                obtain ⟨hw1, hw2⟩ := hw
                have hw2 : S = u := hw2.symm
                subst hw2
                obtain ⟨hP, hD⟩ := qm_bk ht hB
                refine lv_aload hx hb dX6_showRow_54 (lv_at hl 0 rfl) ?_
                refine lv_iload hx hb dX6_showRow_56 (lv_at hl 5 rfl) ?_
                obtain ⟨z_55, hz_56, h⟩ := qm_bind h
                rcases z_55 with a_57 | e_58
                · refine vx_callv (vx_runV (As := [.int p3]) (rest := []) ⟨hx, hb, hml, hown, hts⟩ (kX0_demandRoomFor hst l D A ad cI cQ rest S a_3 hk_5 p3 _ hz_56) (cwV 1 hts gX6_showRow_X0_demandRoomFor rfl rfl rfl (by decide +kernel) ⟨Nat.le_of_ble_eq_true rfl, Nat.le_of_ble_eq_true rfl⟩) ⟨qm_blindZ, va_recv hK hP (ci := 0) (q0 := (2 + a_3)) rfl (qg_C hk_5), fun U hU hW => ⟨rfl, qm_go hA hS hP hK hD hU hW, qm_Zgo hZ hS hU hW⟩⟩ rfl rfl hl.1 rfl (lv_room (Nat.le_of_ble_eq_true rfl)) dX6_showRow_58 ⟨Nat.le_of_ble_eq_true rfl, Nat.le_of_ble_eq_true rfl⟩) hS (fun _ _ h9 => h9) (fun _ h9 => h9) (fun _ _ h9 => h9) (fun E ce q9 u9 t H1 locs1 ht hvm hw hB hz1 hk1 hS hce hcv hcl => absurd hB.1 (fun q => by cases q)) (fun u t H1 locs1 ht hvm hw hB hz1 hk1 hS => ?_)
                  rw [Sum.elim_inl] at h
                  obtain ⟨hw1, hw2⟩ := hw
                  have hw2 : S = u := hw2.symm
                  subst hw2
                  obtain ⟨hP, hD⟩ := qm_bk ht hB
                  refine lv_iload_n hx hb dX6_showRow_61 rfl (lv_at hl 3 rfl) ?_
                  refine lv_istore (lv' := [(6, .int p1), (5, .ref (ad (2 + a_3))), (0, .ref (ad 0)), (1, .int p0), (2, .int p1), (3, .int p2), (4, .int p3)]) hx hb dX6_showRow_62 hl (by decide) rfl (fun ls hl => ?_)
                  refine lv_iconst (v := (0 : Int32)) hx hb dX6_showRow_64 (by decide) ?_
                  refine lv_istore (lv' := [(7, .int (0 : Int32)), (6, .int p1), (5, .ref (ad (2 + a_3))), (0, .ref (ad 0)), (1, .int p0), (2, .int p1), (3, .int p2), (4, .int p3)]) hx hb dX6_showRow_65 hl (by decide) rfl (fun ls hl => ?_)
                  have loop_60 : ∀ (fuel : Nat) (v6_59 v7_59 : Int32) (S_59 : qm_S) (z : qm_S), fX6_showRow_L67 p2 p3 a_3 fuel v6_59 v7_59 S_59 = some z → ∀ (H : Heap) (locs : List Loc) (ls : Array Slot), va_P D vwCl (qm_W ad cI cQ rest S_59) H → va_D A (qm_W ad cI cQ rest S_59) → va_S A s.heap H locs → lv_has ls 8 [(3, .int p2), (4, .int p3), (5, .ref (ad (2 + a_3))), (6, .int v6_59), (7, .int v7_59)] → (∀ (H : Heap) (locs : List Loc) (ls : Array Slot), va_P D vwCl (qm_W ad cI cQ rest z) H → va_D A (qm_W ad cI cQ rest z) → va_S A s.heap H locs → lv_has ls 8 [(5, .ref (ad (2 + a_3)))] → W p l e ({ frames := 7, cells := 5, slots := 30, locals := 147 } : Room) s m ([.ref (ad 0), .int p0, .int p1, .int p2, .int p3] : List Value).toArray below meth c H locs 5 30 QX (F0 m 107 ls [])) → W p l e ({ frames := 7, cells := 5, slots := 30, locals := 147 } : Room) s m ([.ref (ad 0), .int p0, .int p1, .int p2, .int p3] : List Value).toArray below meth c H locs 5 30 QX (F0 m 67 ls []) := by
                    intro fuel
                    induction fuel with
                    | zero =>
                      intro v6_59 v7_59 S_59 z h
                      rw [fX6_showRow_L67] at h
                      cases h
                    | succ fuel ih =>
                      intro v6_59 v7_59 S_59 z h H locs ls hP hD hS hl kex
                      rw [fX6_showRow_L67] at h
                      refine lv_iload hx hb dX6_showRow_67 (lv_at hl 4 rfl) ?_
                      refine lv_iload hx hb dX6_showRow_69 (lv_at hl 1 rfl) ?_
                      refine lv_icmp_ge (tgt := 107) hx hb dX6_showRow_71 (by decide) (fun c_61 => ?_) (fun c_61 => ?_)
                      · rw [if_pos c_61] at h
                        have h := Option.some.inj h
                        subst h
                        exact kex _ _ _ hP hD hS (lv_sub hl [2] rfl)
                      · rw [if_neg c_61] at h
                        refine lv_aload hx hb dX6_showRow_74 (lv_at hl 2 rfl) ?_
                        refine lv_iload hx hb dX6_showRow_76 (lv_at hl 3 rfl) ?_
                        obtain ⟨z_62, hz_63, h⟩ := qm_bind h
                        refine va_callv (va_runV (As := [.int v6_59]) (rest := []) ⟨hx, hb, hml, hown, hts⟩ (kX0_take l D A ad cI cQ rest S_59 a_3 hk_5 v6_59 z_62 hz_63) (cwV 1 hts gX6_showRow_X0_take rfl rfl rfl (by decide +kernel) ⟨Nat.le_of_ble_eq_true rfl, Nat.le_of_ble_eq_true rfl⟩) ⟨qm_blind, va_recv hK hP (ci := 0) (q0 := (2 + a_3)) rfl (qg_C hk_5), fun U hU hW => ⟨rfl, qm_go hA hS hP hK hD hU hW⟩⟩ rfl rfl hl.1 rfl (lv_room (Nat.le_of_ble_eq_true rfl)) dX6_showRow_78 ⟨Nat.le_of_ble_eq_true rfl, Nat.le_of_ble_eq_true rfl⟩) hS (fun _ _ h9 => h9) (fun _ h9 => h9) (fun u t H1 locs1 ht hvm hw hB hz1 hk1 hS => ?_)
                        have hw : z_62 = u := hw.symm
                        subst hw
                        obtain ⟨hP, hD⟩ := qm_bk ht hB
                        refine lv_iload hx hb dX6_showRow_81 (lv_at hl 3 rfl) ?_
                        refine lv_iload_n hx hb dX6_showRow_83 rfl (lv_at hl 0 rfl) ?_
                        refine lv_iadd hx hb dX6_showRow_84 ?_
                        refine lv_istore (lv' := [(6, .int (v6_59 + p2)), (3, .int p2), (4, .int p3), (5, .ref (ad (2 + a_3))), (7, .int v7_59)]) hx hb dX6_showRow_85 hl (by decide) rfl (fun ls hl => ?_)
                        refine lv_iload hx hb dX6_showRow_87 (lv_at hl 0 rfl) ?_
                        refine lv_sipush (v := (9999 : Int32)) hx hb dX6_showRow_89 (by decide) ?_
                        refine lv_icmp_le (tgt := 101) hx hb dX6_showRow_92 (by decide) (fun c_64 => ?_) (fun c_64 => ?_)
                        · rw [if_pos c_64] at h
                          refine lv_iinc (v := v7_59 + (1 : Int32)) (lv' := [(7, .int (v7_59 + (1 : Int32))), (6, .int (v6_59 + p2)), (3, .int p2), (4, .int p3), (5, .ref (ad (2 + a_3)))]) hx hb dX6_showRow_101 hl (k := 4) rfl rfl (by decide) rfl (fun ls hl => ?_)
                          refine lv_goto (tgt := 67) hx hb dX6_showRow_104 (by decide) ?_
                          exact ih (v6_59 + p2) (v7_59 + (1 : Int32)) z_62 z h _ _ _ hP hD hS (lv_sub hl [2, 3, 4, 1, 0] rfl) kex
                        · rw [if_neg c_64] at h
                          refine lv_iincW (v := (v6_59 + p2) + (-20000 : Int32)) (lv' := [(6, .int ((v6_59 + p2) + (-20000 : Int32))), (3, .int p2), (4, .int p3), (5, .ref (ad (2 + a_3))), (7, .int v7_59)]) hx hb dX6_showRow_95 hl (k := 0) rfl (congrArg (fun q9 : Int32 => (v6_59 + p2) + q9) (show Int32.ofInt (-20000) = (-20000 : Int32) by decide)) (by decide) rfl (fun ls hl => ?_)
                          refine lv_iinc (v := v7_59 + (1 : Int32)) (lv' := [(7, .int (v7_59 + (1 : Int32))), (6, .int ((v6_59 + p2) + (-20000 : Int32))), (3, .int p2), (4, .int p3), (5, .ref (ad (2 + a_3)))]) hx hb dX6_showRow_101 hl (k := 4) rfl rfl (by decide) rfl (fun ls hl => ?_)
                          refine lv_goto (tgt := 67) hx hb dX6_showRow_104 (by decide) ?_
                          exact ih ((v6_59 + p2) + (-20000 : Int32)) (v7_59 + (1 : Int32)) z_62 z h _ _ _ hP hD hS (lv_sub hl [2, 3, 4, 1, 0] rfl) kex
                  obtain ⟨z_65, hz_66, h⟩ := qm_bind h
                  refine loop_60 qm_F p1 (0 : Int32) S z_65 hz_66 _ _ _ hP hD hS (lv_sub hl [6, 7, 2, 1, 0] rfl) (fun H locs ls hP hD hS hl => ?_)
                  refine lv_aload hx hb dX6_showRow_107 (lv_at hl 0 rfl) ?_
                  refine va_getN (D := D) (ci := 0) (v := .ref (ad (6 + a_3))) (C := RX0) (T := TX0) (N := 4) hx hb hts (by decide +kernel) hown hK hP (2 + a_3) (qg_C hk_5) rfl 0 (by decide) (va_Nw.use rfl (qz_frow hZ)) (fun _ h9 => h9) rfl dX6_showRow_109 ?_
                  refine va_calli (va_runV (As := []) (rest := []) ⟨hx, hb, hml, hown, hts⟩ (nX3_length l D A ad cI cQ rest z_65 a_3 hk_5) (cwV 0 hts gX6_showRow_X3_length rfl rfl rfl (by decide +kernel) ⟨Nat.le_of_ble_eq_true rfl, Nat.le_of_ble_eq_true rfl⟩) ⟨qm_blind, va_recv hK hP (ci := 3) (q0 := (6 + a_3)) rfl (qg_M hk_5), fun U hU hW => ⟨rfl, qm_go hA hS hP hK hD hU hW⟩⟩ rfl rfl hl.1 rfl (lv_room (Nat.le_of_ble_eq_true rfl)) dX6_showRow_112 ⟨Nat.le_of_ble_eq_true rfl, Nat.le_of_ble_eq_true rfl⟩) hS (fun _ _ h9 => h9) (fun _ h9 => h9) (fun v u t H1 locs1 ht hvm hw hB hz1 hk1 hS => ?_)
                  obtain ⟨hw1, hw2⟩ := hw
                  have hw1 : ((z_65.1 a_3).1) = v := hw1.symm
                  have hw2 : z_65 = u := hw2.symm
                  subst hw1
                  subst hw2
                  obtain ⟨hP, hD⟩ := qm_bk ht hB
                  have h := Option.some.inj h
                  subst h
                  rw [hQX]
                  refine vx_ret ?_
                  refine W.widen (k := 5) (n := 30) (Nat.le_of_ble_eq_true rfl) (Nat.le_of_ble_eq_true rfl) ?_
                  exact W.iret (v := ((z_65.1 a_3).1)) hx hb hr (fun t ht hW => ⟨⟨((z_65.1 a_3).1), z_65, rfl, rfl, qm_en ht hP hD⟩, hS.F ht⟩) hS.2.2 dX6_showRow_115
                · refine vx_callv (vx_runV (As := [.int p3]) (rest := []) ⟨hx, hb, hml, hown, hts⟩ (kX0_demandRoomFor hst l D A ad cI cQ rest S a_3 hk_5 p3 _ hz_56) (cwV 1 hts gX6_showRow_X0_demandRoomFor rfl rfl rfl (by decide +kernel) ⟨Nat.le_of_ble_eq_true rfl, Nat.le_of_ble_eq_true rfl⟩) ⟨qm_blindZ, va_recv hK hP (ci := 0) (q0 := (2 + a_3)) rfl (qg_C hk_5), fun U hU hW => ⟨rfl, qm_go hA hS hP hK hD hU hW, qm_Zgo hZ hS hU hW⟩⟩ rfl rfl hl.1 rfl (lv_room (Nat.le_of_ble_eq_true rfl)) dX6_showRow_58 ⟨Nat.le_of_ble_eq_true rfl, Nat.le_of_ble_eq_true rfl⟩) hS (fun _ _ h9 => h9) (fun _ h9 => h9) (fun _ _ h9 => h9) (fun E ce q9 u9 t H1 locs1 ht hvm hw hB hz1 hk1 hS hce hcv hcl => ?_) (fun u t H1 locs1 ht hvm hw hB hz1 hk1 hS => absurd (hw.1) (fun q => by cases q))
                  obtain ⟨hE1, hE2⟩ := hB
                  have hE1 := Sum.inr.inj hE1
                  subst hE1
                  obtain ⟨hP, hD⟩ := qm_bk ht hE2
                  have h := Option.some.inj h
                  subst h
                  rw [hQX]
                  exact vx_out (fun x9 q9 => (hno x9 q9).elim) hlocks hce hcv hcl (fun t9 ht9 hvm9 => ⟨(), trivial, ⟨rfl, qm_en ht9 hP hD⟩, hS.F ht9⟩) hS.2.2 (Nat.le_of_ble_eq_true rfl) (Nat.le_of_ble_eq_true rfl)
              · refine vx_callv (vx_runS (As := [.int (1 : Int32)]) (rest := []) ⟨hx, hb, hml, hown, hts⟩ (kX6_demandInRange hst l D A ad cI cQ rest S (1 : Int32) _ hz_52) (va_cwS 1 hts gX6_showRow_X6_demandInRange rfl rfl rfl (by decide +kernel) ⟨Nat.le_of_ble_eq_true rfl, Nat.le_of_ble_eq_true rfl⟩) ⟨qm_blindZ, fun U hU hW => ⟨rfl, qm_go hA hS hP hK hD hU hW, qm_Zgo hZ hS hU hW⟩⟩ rfl rfl hl.1 rfl (lv_room (Nat.le_of_ble_eq_true rfl)) dX6_showRow_51 ⟨Nat.le_of_ble_eq_true rfl, Nat.le_of_ble_eq_true rfl⟩) hS (fun _ _ h9 => h9) (fun _ h9 => h9) (fun _ _ h9 => h9) (fun E ce q9 u9 t H1 locs1 ht hvm hw hB hz1 hk1 hS hce hcv hcl => ?_) (fun u t H1 locs1 ht hvm hw hB hz1 hk1 hS => absurd (hw.1) (fun q => by cases q))
                obtain ⟨hE1, hE2⟩ := hB
                have hE1 := Sum.inr.inj hE1
                subst hE1
                obtain ⟨hP, hD⟩ := qm_bk ht hE2
                have h := Option.some.inj h
                subst h
                rw [hQX]
                exact vx_out (fun x9 q9 => (hno x9 q9).elim) hlocks hce hcv hcl (fun t9 ht9 hvm9 => ⟨(), trivial, ⟨rfl, qm_en ht9 hP hD⟩, hS.F ht9⟩) hS.2.2 (Nat.le_of_ble_eq_true rfl) (Nat.le_of_ble_eq_true rfl)
        · refine vx_callv (vx_runS (As := [.int (0 : Int32)]) (rest := []) ⟨hx, hb, hml, hown, hts⟩ (kX6_demandInRange hst l D A ad cI cQ rest S (0 : Int32) _ hz_14) (va_cwS 1 hts gX6_showRow_X6_demandInRange rfl rfl rfl (by decide +kernel) ⟨Nat.le_of_ble_eq_true rfl, Nat.le_of_ble_eq_true rfl⟩) ⟨qm_blindZ, fun U hU hW => ⟨rfl, qm_go hA hS hP hK hD hU hW, qm_Zgo hZ hS hU hW⟩⟩ rfl rfl hl.1 rfl (lv_room (Nat.le_of_ble_eq_true rfl)) dX6_showRow_30 ⟨Nat.le_of_ble_eq_true rfl, Nat.le_of_ble_eq_true rfl⟩) hS (fun _ _ h9 => h9) (fun _ h9 => h9) (fun _ _ h9 => h9) (fun E ce q9 u9 t H1 locs1 ht hvm hw hB hz1 hk1 hS hce hcv hcl => ?_) (fun u t H1 locs1 ht hvm hw hB hz1 hk1 hS => absurd (hw.1) (fun q => by cases q))
          obtain ⟨hE1, hE2⟩ := hB
          have hE1 := Sum.inr.inj hE1
          subst hE1
          obtain ⟨hP, hD⟩ := qm_bk ht hE2
          have h := Option.some.inj h
          subst h
          rw [hQX]
          exact vx_out (fun x9 q9 => (hno x9 q9).elim) hlocks hce hcv hcl (fun t9 ht9 hvm9 => ⟨(), trivial, ⟨rfl, qm_en ht9 hP hD⟩, hS.F ht9⟩) hS.2.2 (Nat.le_of_ble_eq_true rfl) (Nat.le_of_ble_eq_true rfl)
      · rw [if_neg c_12] at h
        refine lv_iload_n hx hb dX6_showRow_18 rfl (lv_at hl 4 rfl) ?_
        refine lv_sipush (v := (9999 : Int32)) hx hb dX6_showRow_19 (by decide) ?_
        refine lv_icmp_gt (tgt := 29) hx hb dX6_showRow_22 (by decide) (fun c_67 => ?_) (fun c_67 => ?_)
        · rw [if_pos c_67] at h
          refine lv_iconst (v := (0 : Int32)) hx hb dX6_showRow_29 (by decide) ?_
          obtain ⟨z_68, hz_69, h⟩ := qm_bind h
          rcases z_68 with a_70 | e_71
          · refine vx_callv (vx_runS (As := [.int (0 : Int32)]) (rest := []) ⟨hx, hb, hml, hown, hts⟩ (kX6_demandInRange hst l D A ad cI cQ rest S (0 : Int32) _ hz_69) (va_cwS 1 hts gX6_showRow_X6_demandInRange rfl rfl rfl (by decide +kernel) ⟨Nat.le_of_ble_eq_true rfl, Nat.le_of_ble_eq_true rfl⟩) ⟨qm_blindZ, fun U hU hW => ⟨rfl, qm_go hA hS hP hK hD hU hW, qm_Zgo hZ hS hU hW⟩⟩ rfl rfl hl.1 rfl (lv_room (Nat.le_of_ble_eq_true rfl)) dX6_showRow_30 ⟨Nat.le_of_ble_eq_true rfl, Nat.le_of_ble_eq_true rfl⟩) hS (fun _ _ h9 => h9) (fun _ h9 => h9) (fun _ _ h9 => h9) (fun E ce q9 u9 t H1 locs1 ht hvm hw hB hz1 hk1 hS hce hcv hcl => absurd hB.1 (fun q => by cases q)) (fun u t H1 locs1 ht hvm hw hB hz1 hk1 hS => ?_)
            rw [Sum.elim_inl] at h
            obtain ⟨hw1, hw2⟩ := hw
            have hw2 : S = u := hw2.symm
            subst hw2
            obtain ⟨hP, hD⟩ := qm_bk ht hB
            refine lv_iload hx hb dX6_showRow_33 (lv_at hl 5 rfl) ?_
            refine lv_iconst (v := (1 : Int32)) hx hb dX6_showRow_35 (by decide) ?_
            refine lv_icmp_lt (tgt := 50) hx hb dX6_showRow_36 (by decide) (fun c_72 => ?_) (fun c_72 => ?_)
            · rw [if_pos c_72] at h
              refine lv_iconst (v := (0 : Int32)) hx hb dX6_showRow_50 (by decide) ?_
              obtain ⟨z_73, hz_74, h⟩ := qm_bind h
              rcases z_73 with a_75 | e_76
              · refine vx_callv (vx_runS (As := [.int (0 : Int32)]) (rest := []) ⟨hx, hb, hml, hown, hts⟩ (kX6_demandInRange hst l D A ad cI cQ rest S (0 : Int32) _ hz_74) (va_cwS 1 hts gX6_showRow_X6_demandInRange rfl rfl rfl (by decide +kernel) ⟨Nat.le_of_ble_eq_true rfl, Nat.le_of_ble_eq_true rfl⟩) ⟨qm_blindZ, fun U hU hW => ⟨rfl, qm_go hA hS hP hK hD hU hW, qm_Zgo hZ hS hU hW⟩⟩ rfl rfl hl.1 rfl (lv_room (Nat.le_of_ble_eq_true rfl)) dX6_showRow_51 ⟨Nat.le_of_ble_eq_true rfl, Nat.le_of_ble_eq_true rfl⟩) hS (fun _ _ h9 => h9) (fun _ h9 => h9) (fun _ _ h9 => h9) (fun E ce q9 u9 t H1 locs1 ht hvm hw hB hz1 hk1 hS hce hcv hcl => absurd hB.1 (fun q => by cases q)) (fun u t H1 locs1 ht hvm hw hB hz1 hk1 hS => ?_)
                rw [Sum.elim_inl] at h
                obtain ⟨hw1, hw2⟩ := hw
                have hw2 : S = u := hw2.symm
                subst hw2
                obtain ⟨hP, hD⟩ := qm_bk ht hB
                refine lv_aload hx hb dX6_showRow_54 (lv_at hl 0 rfl) ?_
                refine lv_iload hx hb dX6_showRow_56 (lv_at hl 5 rfl) ?_
                obtain ⟨z_77, hz_78, h⟩ := qm_bind h
                rcases z_77 with a_79 | e_80
                · refine vx_callv (vx_runV (As := [.int p3]) (rest := []) ⟨hx, hb, hml, hown, hts⟩ (kX0_demandRoomFor hst l D A ad cI cQ rest S a_3 hk_5 p3 _ hz_78) (cwV 1 hts gX6_showRow_X0_demandRoomFor rfl rfl rfl (by decide +kernel) ⟨Nat.le_of_ble_eq_true rfl, Nat.le_of_ble_eq_true rfl⟩) ⟨qm_blindZ, va_recv hK hP (ci := 0) (q0 := (2 + a_3)) rfl (qg_C hk_5), fun U hU hW => ⟨rfl, qm_go hA hS hP hK hD hU hW, qm_Zgo hZ hS hU hW⟩⟩ rfl rfl hl.1 rfl (lv_room (Nat.le_of_ble_eq_true rfl)) dX6_showRow_58 ⟨Nat.le_of_ble_eq_true rfl, Nat.le_of_ble_eq_true rfl⟩) hS (fun _ _ h9 => h9) (fun _ h9 => h9) (fun _ _ h9 => h9) (fun E ce q9 u9 t H1 locs1 ht hvm hw hB hz1 hk1 hS hce hcv hcl => absurd hB.1 (fun q => by cases q)) (fun u t H1 locs1 ht hvm hw hB hz1 hk1 hS => ?_)
                  rw [Sum.elim_inl] at h
                  obtain ⟨hw1, hw2⟩ := hw
                  have hw2 : S = u := hw2.symm
                  subst hw2
                  obtain ⟨hP, hD⟩ := qm_bk ht hB
                  refine lv_iload_n hx hb dX6_showRow_61 rfl (lv_at hl 3 rfl) ?_
                  refine lv_istore (lv' := [(6, .int p1), (5, .ref (ad (2 + a_3))), (0, .ref (ad 0)), (1, .int p0), (2, .int p1), (3, .int p2), (4, .int p3)]) hx hb dX6_showRow_62 hl (by decide) rfl (fun ls hl => ?_)
                  refine lv_iconst (v := (0 : Int32)) hx hb dX6_showRow_64 (by decide) ?_
                  refine lv_istore (lv' := [(7, .int (0 : Int32)), (6, .int p1), (5, .ref (ad (2 + a_3))), (0, .ref (ad 0)), (1, .int p0), (2, .int p1), (3, .int p2), (4, .int p3)]) hx hb dX6_showRow_65 hl (by decide) rfl (fun ls hl => ?_)
                  have loop_82 : ∀ (fuel : Nat) (v6_81 v7_81 : Int32) (S_81 : qm_S) (z : qm_S), fX6_showRow_L67 p2 p3 a_3 fuel v6_81 v7_81 S_81 = some z → ∀ (H : Heap) (locs : List Loc) (ls : Array Slot), va_P D vwCl (qm_W ad cI cQ rest S_81) H → va_D A (qm_W ad cI cQ rest S_81) → va_S A s.heap H locs → lv_has ls 8 [(3, .int p2), (4, .int p3), (5, .ref (ad (2 + a_3))), (6, .int v6_81), (7, .int v7_81)] → (∀ (H : Heap) (locs : List Loc) (ls : Array Slot), va_P D vwCl (qm_W ad cI cQ rest z) H → va_D A (qm_W ad cI cQ rest z) → va_S A s.heap H locs → lv_has ls 8 [(5, .ref (ad (2 + a_3)))] → W p l e ({ frames := 7, cells := 5, slots := 30, locals := 147 } : Room) s m ([.ref (ad 0), .int p0, .int p1, .int p2, .int p3] : List Value).toArray below meth c H locs 5 30 QX (F0 m 107 ls [])) → W p l e ({ frames := 7, cells := 5, slots := 30, locals := 147 } : Room) s m ([.ref (ad 0), .int p0, .int p1, .int p2, .int p3] : List Value).toArray below meth c H locs 5 30 QX (F0 m 67 ls []) := by
                    intro fuel
                    induction fuel with
                    | zero =>
                      intro v6_81 v7_81 S_81 z h
                      rw [fX6_showRow_L67] at h
                      cases h
                    | succ fuel ih =>
                      intro v6_81 v7_81 S_81 z h H locs ls hP hD hS hl kex
                      rw [fX6_showRow_L67] at h
                      refine lv_iload hx hb dX6_showRow_67 (lv_at hl 4 rfl) ?_
                      refine lv_iload hx hb dX6_showRow_69 (lv_at hl 1 rfl) ?_
                      refine lv_icmp_ge (tgt := 107) hx hb dX6_showRow_71 (by decide) (fun c_83 => ?_) (fun c_83 => ?_)
                      · rw [if_pos c_83] at h
                        have h := Option.some.inj h
                        subst h
                        exact kex _ _ _ hP hD hS (lv_sub hl [2] rfl)
                      · rw [if_neg c_83] at h
                        refine lv_aload hx hb dX6_showRow_74 (lv_at hl 2 rfl) ?_
                        refine lv_iload hx hb dX6_showRow_76 (lv_at hl 3 rfl) ?_
                        obtain ⟨z_84, hz_85, h⟩ := qm_bind h
                        refine va_callv (va_runV (As := [.int v6_81]) (rest := []) ⟨hx, hb, hml, hown, hts⟩ (kX0_take l D A ad cI cQ rest S_81 a_3 hk_5 v6_81 z_84 hz_85) (cwV 1 hts gX6_showRow_X0_take rfl rfl rfl (by decide +kernel) ⟨Nat.le_of_ble_eq_true rfl, Nat.le_of_ble_eq_true rfl⟩) ⟨qm_blind, va_recv hK hP (ci := 0) (q0 := (2 + a_3)) rfl (qg_C hk_5), fun U hU hW => ⟨rfl, qm_go hA hS hP hK hD hU hW⟩⟩ rfl rfl hl.1 rfl (lv_room (Nat.le_of_ble_eq_true rfl)) dX6_showRow_78 ⟨Nat.le_of_ble_eq_true rfl, Nat.le_of_ble_eq_true rfl⟩) hS (fun _ _ h9 => h9) (fun _ h9 => h9) (fun u t H1 locs1 ht hvm hw hB hz1 hk1 hS => ?_)
                        have hw : z_84 = u := hw.symm
                        subst hw
                        obtain ⟨hP, hD⟩ := qm_bk ht hB
                        refine lv_iload hx hb dX6_showRow_81 (lv_at hl 3 rfl) ?_
                        refine lv_iload_n hx hb dX6_showRow_83 rfl (lv_at hl 0 rfl) ?_
                        refine lv_iadd hx hb dX6_showRow_84 ?_
                        refine lv_istore (lv' := [(6, .int (v6_81 + p2)), (3, .int p2), (4, .int p3), (5, .ref (ad (2 + a_3))), (7, .int v7_81)]) hx hb dX6_showRow_85 hl (by decide) rfl (fun ls hl => ?_)
                        refine lv_iload hx hb dX6_showRow_87 (lv_at hl 0 rfl) ?_
                        refine lv_sipush (v := (9999 : Int32)) hx hb dX6_showRow_89 (by decide) ?_
                        refine lv_icmp_le (tgt := 101) hx hb dX6_showRow_92 (by decide) (fun c_86 => ?_) (fun c_86 => ?_)
                        · rw [if_pos c_86] at h
                          refine lv_iinc (v := v7_81 + (1 : Int32)) (lv' := [(7, .int (v7_81 + (1 : Int32))), (6, .int (v6_81 + p2)), (3, .int p2), (4, .int p3), (5, .ref (ad (2 + a_3)))]) hx hb dX6_showRow_101 hl (k := 4) rfl rfl (by decide) rfl (fun ls hl => ?_)
                          refine lv_goto (tgt := 67) hx hb dX6_showRow_104 (by decide) ?_
                          exact ih (v6_81 + p2) (v7_81 + (1 : Int32)) z_84 z h _ _ _ hP hD hS (lv_sub hl [2, 3, 4, 1, 0] rfl) kex
                        · rw [if_neg c_86] at h
                          refine lv_iincW (v := (v6_81 + p2) + (-20000 : Int32)) (lv' := [(6, .int ((v6_81 + p2) + (-20000 : Int32))), (3, .int p2), (4, .int p3), (5, .ref (ad (2 + a_3))), (7, .int v7_81)]) hx hb dX6_showRow_95 hl (k := 0) rfl (congrArg (fun q9 : Int32 => (v6_81 + p2) + q9) (show Int32.ofInt (-20000) = (-20000 : Int32) by decide)) (by decide) rfl (fun ls hl => ?_)
                          refine lv_iinc (v := v7_81 + (1 : Int32)) (lv' := [(7, .int (v7_81 + (1 : Int32))), (6, .int ((v6_81 + p2) + (-20000 : Int32))), (3, .int p2), (4, .int p3), (5, .ref (ad (2 + a_3)))]) hx hb dX6_showRow_101 hl (k := 4) rfl rfl (by decide) rfl (fun ls hl => ?_)
                          refine lv_goto (tgt := 67) hx hb dX6_showRow_104 (by decide) ?_
                          exact ih ((v6_81 + p2) + (-20000 : Int32)) (v7_81 + (1 : Int32)) z_84 z h _ _ _ hP hD hS (lv_sub hl [2, 3, 4, 1, 0] rfl) kex
                  obtain ⟨z_87, hz_88, h⟩ := qm_bind h
                  refine loop_82 qm_F p1 (0 : Int32) S z_87 hz_88 _ _ _ hP hD hS (lv_sub hl [6, 7, 2, 1, 0] rfl) (fun H locs ls hP hD hS hl => ?_)
                  refine lv_aload hx hb dX6_showRow_107 (lv_at hl 0 rfl) ?_
                  refine va_getN (D := D) (ci := 0) (v := .ref (ad (6 + a_3))) (C := RX0) (T := TX0) (N := 4) hx hb hts (by decide +kernel) hown hK hP (2 + a_3) (qg_C hk_5) rfl 0 (by decide) (va_Nw.use rfl (qz_frow hZ)) (fun _ h9 => h9) rfl dX6_showRow_109 ?_
                  refine va_calli (va_runV (As := []) (rest := []) ⟨hx, hb, hml, hown, hts⟩ (nX3_length l D A ad cI cQ rest z_87 a_3 hk_5) (cwV 0 hts gX6_showRow_X3_length rfl rfl rfl (by decide +kernel) ⟨Nat.le_of_ble_eq_true rfl, Nat.le_of_ble_eq_true rfl⟩) ⟨qm_blind, va_recv hK hP (ci := 3) (q0 := (6 + a_3)) rfl (qg_M hk_5), fun U hU hW => ⟨rfl, qm_go hA hS hP hK hD hU hW⟩⟩ rfl rfl hl.1 rfl (lv_room (Nat.le_of_ble_eq_true rfl)) dX6_showRow_112 ⟨Nat.le_of_ble_eq_true rfl, Nat.le_of_ble_eq_true rfl⟩) hS (fun _ _ h9 => h9) (fun _ h9 => h9) (fun v u t H1 locs1 ht hvm hw hB hz1 hk1 hS => ?_)
                  obtain ⟨hw1, hw2⟩ := hw
                  have hw1 : ((z_87.1 a_3).1) = v := hw1.symm
                  have hw2 : z_87 = u := hw2.symm
                  subst hw1
                  subst hw2
                  obtain ⟨hP, hD⟩ := qm_bk ht hB
                  have h := Option.some.inj h
                  subst h
                  rw [hQX]
                  refine vx_ret ?_
                  refine W.widen (k := 5) (n := 30) (Nat.le_of_ble_eq_true rfl) (Nat.le_of_ble_eq_true rfl) ?_
                  exact W.iret (v := ((z_87.1 a_3).1)) hx hb hr (fun t ht hW => ⟨⟨((z_87.1 a_3).1), z_87, rfl, rfl, qm_en ht hP hD⟩, hS.F ht⟩) hS.2.2 dX6_showRow_115
                · refine vx_callv (vx_runV (As := [.int p3]) (rest := []) ⟨hx, hb, hml, hown, hts⟩ (kX0_demandRoomFor hst l D A ad cI cQ rest S a_3 hk_5 p3 _ hz_78) (cwV 1 hts gX6_showRow_X0_demandRoomFor rfl rfl rfl (by decide +kernel) ⟨Nat.le_of_ble_eq_true rfl, Nat.le_of_ble_eq_true rfl⟩) ⟨qm_blindZ, va_recv hK hP (ci := 0) (q0 := (2 + a_3)) rfl (qg_C hk_5), fun U hU hW => ⟨rfl, qm_go hA hS hP hK hD hU hW, qm_Zgo hZ hS hU hW⟩⟩ rfl rfl hl.1 rfl (lv_room (Nat.le_of_ble_eq_true rfl)) dX6_showRow_58 ⟨Nat.le_of_ble_eq_true rfl, Nat.le_of_ble_eq_true rfl⟩) hS (fun _ _ h9 => h9) (fun _ h9 => h9) (fun _ _ h9 => h9) (fun E ce q9 u9 t H1 locs1 ht hvm hw hB hz1 hk1 hS hce hcv hcl => ?_) (fun u t H1 locs1 ht hvm hw hB hz1 hk1 hS => absurd (hw.1) (fun q => by cases q))
                  obtain ⟨hE1, hE2⟩ := hB
                  have hE1 := Sum.inr.inj hE1
                  subst hE1
                  obtain ⟨hP, hD⟩ := qm_bk ht hE2
                  have h := Option.some.inj h
                  subst h
                  rw [hQX]
                  exact vx_out (fun x9 q9 => (hno x9 q9).elim) hlocks hce hcv hcl (fun t9 ht9 hvm9 => ⟨(), trivial, ⟨rfl, qm_en ht9 hP hD⟩, hS.F ht9⟩) hS.2.2 (Nat.le_of_ble_eq_true rfl) (Nat.le_of_ble_eq_true rfl)
              · refine vx_callv (vx_runS (As := [.int (0 : Int32)]) (rest := []) ⟨hx, hb, hml, hown, hts⟩ (kX6_demandInRange hst l D A ad cI cQ rest S (0 : Int32) _ hz_74) (va_cwS 1 hts gX6_showRow_X6_demandInRange rfl rfl rfl (by decide +kernel) ⟨Nat.le_of_ble_eq_true rfl, Nat.le_of_ble_eq_true rfl⟩) ⟨qm_blindZ, fun U hU hW => ⟨rfl, qm_go hA hS hP hK hD hU hW, qm_Zgo hZ hS hU hW⟩⟩ rfl rfl hl.1 rfl (lv_room (Nat.le_of_ble_eq_true rfl)) dX6_showRow_51 ⟨Nat.le_of_ble_eq_true rfl, Nat.le_of_ble_eq_true rfl⟩) hS (fun _ _ h9 => h9) (fun _ h9 => h9) (fun _ _ h9 => h9) (fun E ce q9 u9 t H1 locs1 ht hvm hw hB hz1 hk1 hS hce hcv hcl => ?_) (fun u t H1 locs1 ht hvm hw hB hz1 hk1 hS => absurd (hw.1) (fun q => by cases q))
                obtain ⟨hE1, hE2⟩ := hB
                have hE1 := Sum.inr.inj hE1
                subst hE1
                obtain ⟨hP, hD⟩ := qm_bk ht hE2
                have h := Option.some.inj h
                subst h
                rw [hQX]
                exact vx_out (fun x9 q9 => (hno x9 q9).elim) hlocks hce hcv hcl (fun t9 ht9 hvm9 => ⟨(), trivial, ⟨rfl, qm_en ht9 hP hD⟩, hS.F ht9⟩) hS.2.2 (Nat.le_of_ble_eq_true rfl) (Nat.le_of_ble_eq_true rfl)
            · rw [if_neg c_72] at h
              refine lv_iload hx hb dX6_showRow_39 (lv_at hl 5 rfl) ?_
              refine lv_bipush (v := (100 : Int32)) hx hb dX6_showRow_41 (by decide) ?_
              refine lv_icmp_gt (tgt := 50) hx hb dX6_showRow_43 (by decide) (fun c_89 => ?_) (fun c_89 => ?_)
              · rw [if_pos c_89] at h
                refine lv_iconst (v := (0 : Int32)) hx hb dX6_showRow_50 (by decide) ?_
                obtain ⟨z_90, hz_91, h⟩ := qm_bind h
                rcases z_90 with a_92 | e_93
                · refine vx_callv (vx_runS (As := [.int (0 : Int32)]) (rest := []) ⟨hx, hb, hml, hown, hts⟩ (kX6_demandInRange hst l D A ad cI cQ rest S (0 : Int32) _ hz_91) (va_cwS 1 hts gX6_showRow_X6_demandInRange rfl rfl rfl (by decide +kernel) ⟨Nat.le_of_ble_eq_true rfl, Nat.le_of_ble_eq_true rfl⟩) ⟨qm_blindZ, fun U hU hW => ⟨rfl, qm_go hA hS hP hK hD hU hW, qm_Zgo hZ hS hU hW⟩⟩ rfl rfl hl.1 rfl (lv_room (Nat.le_of_ble_eq_true rfl)) dX6_showRow_51 ⟨Nat.le_of_ble_eq_true rfl, Nat.le_of_ble_eq_true rfl⟩) hS (fun _ _ h9 => h9) (fun _ h9 => h9) (fun _ _ h9 => h9) (fun E ce q9 u9 t H1 locs1 ht hvm hw hB hz1 hk1 hS hce hcv hcl => absurd hB.1 (fun q => by cases q)) (fun u t H1 locs1 ht hvm hw hB hz1 hk1 hS => ?_)
                  rw [Sum.elim_inl] at h
                  obtain ⟨hw1, hw2⟩ := hw
                  have hw2 : S = u := hw2.symm
                  subst hw2
                  obtain ⟨hP, hD⟩ := qm_bk ht hB
                  refine lv_aload hx hb dX6_showRow_54 (lv_at hl 0 rfl) ?_
                  refine lv_iload hx hb dX6_showRow_56 (lv_at hl 5 rfl) ?_
                  obtain ⟨z_94, hz_95, h⟩ := qm_bind h
                  rcases z_94 with a_96 | e_97
                  · refine vx_callv (vx_runV (As := [.int p3]) (rest := []) ⟨hx, hb, hml, hown, hts⟩ (kX0_demandRoomFor hst l D A ad cI cQ rest S a_3 hk_5 p3 _ hz_95) (cwV 1 hts gX6_showRow_X0_demandRoomFor rfl rfl rfl (by decide +kernel) ⟨Nat.le_of_ble_eq_true rfl, Nat.le_of_ble_eq_true rfl⟩) ⟨qm_blindZ, va_recv hK hP (ci := 0) (q0 := (2 + a_3)) rfl (qg_C hk_5), fun U hU hW => ⟨rfl, qm_go hA hS hP hK hD hU hW, qm_Zgo hZ hS hU hW⟩⟩ rfl rfl hl.1 rfl (lv_room (Nat.le_of_ble_eq_true rfl)) dX6_showRow_58 ⟨Nat.le_of_ble_eq_true rfl, Nat.le_of_ble_eq_true rfl⟩) hS (fun _ _ h9 => h9) (fun _ h9 => h9) (fun _ _ h9 => h9) (fun E ce q9 u9 t H1 locs1 ht hvm hw hB hz1 hk1 hS hce hcv hcl => absurd hB.1 (fun q => by cases q)) (fun u t H1 locs1 ht hvm hw hB hz1 hk1 hS => ?_)
                    rw [Sum.elim_inl] at h
                    obtain ⟨hw1, hw2⟩ := hw
                    have hw2 : S = u := hw2.symm
                    subst hw2
                    obtain ⟨hP, hD⟩ := qm_bk ht hB
                    refine lv_iload_n hx hb dX6_showRow_61 rfl (lv_at hl 3 rfl) ?_
                    refine lv_istore (lv' := [(6, .int p1), (5, .ref (ad (2 + a_3))), (0, .ref (ad 0)), (1, .int p0), (2, .int p1), (3, .int p2), (4, .int p3)]) hx hb dX6_showRow_62 hl (by decide) rfl (fun ls hl => ?_)
                    refine lv_iconst (v := (0 : Int32)) hx hb dX6_showRow_64 (by decide) ?_
                    refine lv_istore (lv' := [(7, .int (0 : Int32)), (6, .int p1), (5, .ref (ad (2 + a_3))), (0, .ref (ad 0)), (1, .int p0), (2, .int p1), (3, .int p2), (4, .int p3)]) hx hb dX6_showRow_65 hl (by decide) rfl (fun ls hl => ?_)
                    have loop_99 : ∀ (fuel : Nat) (v6_98 v7_98 : Int32) (S_98 : qm_S) (z : qm_S), fX6_showRow_L67 p2 p3 a_3 fuel v6_98 v7_98 S_98 = some z → ∀ (H : Heap) (locs : List Loc) (ls : Array Slot), va_P D vwCl (qm_W ad cI cQ rest S_98) H → va_D A (qm_W ad cI cQ rest S_98) → va_S A s.heap H locs → lv_has ls 8 [(3, .int p2), (4, .int p3), (5, .ref (ad (2 + a_3))), (6, .int v6_98), (7, .int v7_98)] → (∀ (H : Heap) (locs : List Loc) (ls : Array Slot), va_P D vwCl (qm_W ad cI cQ rest z) H → va_D A (qm_W ad cI cQ rest z) → va_S A s.heap H locs → lv_has ls 8 [(5, .ref (ad (2 + a_3)))] → W p l e ({ frames := 7, cells := 5, slots := 30, locals := 147 } : Room) s m ([.ref (ad 0), .int p0, .int p1, .int p2, .int p3] : List Value).toArray below meth c H locs 5 30 QX (F0 m 107 ls [])) → W p l e ({ frames := 7, cells := 5, slots := 30, locals := 147 } : Room) s m ([.ref (ad 0), .int p0, .int p1, .int p2, .int p3] : List Value).toArray below meth c H locs 5 30 QX (F0 m 67 ls []) := by
                      intro fuel
                      induction fuel with
                      | zero =>
                        intro v6_98 v7_98 S_98 z h
                        rw [fX6_showRow_L67] at h
                        cases h
                      | succ fuel ih =>
                        intro v6_98 v7_98 S_98 z h H locs ls hP hD hS hl kex
                        rw [fX6_showRow_L67] at h
                        refine lv_iload hx hb dX6_showRow_67 (lv_at hl 4 rfl) ?_
                        refine lv_iload hx hb dX6_showRow_69 (lv_at hl 1 rfl) ?_
                        refine lv_icmp_ge (tgt := 107) hx hb dX6_showRow_71 (by decide) (fun c_100 => ?_) (fun c_100 => ?_)
                        · rw [if_pos c_100] at h
                          have h := Option.some.inj h
                          subst h
                          exact kex _ _ _ hP hD hS (lv_sub hl [2] rfl)
                        · rw [if_neg c_100] at h
                          refine lv_aload hx hb dX6_showRow_74 (lv_at hl 2 rfl) ?_
                          refine lv_iload hx hb dX6_showRow_76 (lv_at hl 3 rfl) ?_
                          obtain ⟨z_101, hz_102, h⟩ := qm_bind h
                          refine va_callv (va_runV (As := [.int v6_98]) (rest := []) ⟨hx, hb, hml, hown, hts⟩ (kX0_take l D A ad cI cQ rest S_98 a_3 hk_5 v6_98 z_101 hz_102) (cwV 1 hts gX6_showRow_X0_take rfl rfl rfl (by decide +kernel) ⟨Nat.le_of_ble_eq_true rfl, Nat.le_of_ble_eq_true rfl⟩) ⟨qm_blind, va_recv hK hP (ci := 0) (q0 := (2 + a_3)) rfl (qg_C hk_5), fun U hU hW => ⟨rfl, qm_go hA hS hP hK hD hU hW⟩⟩ rfl rfl hl.1 rfl (lv_room (Nat.le_of_ble_eq_true rfl)) dX6_showRow_78 ⟨Nat.le_of_ble_eq_true rfl, Nat.le_of_ble_eq_true rfl⟩) hS (fun _ _ h9 => h9) (fun _ h9 => h9) (fun u t H1 locs1 ht hvm hw hB hz1 hk1 hS => ?_)
                          have hw : z_101 = u := hw.symm
                          subst hw
                          obtain ⟨hP, hD⟩ := qm_bk ht hB
                          refine lv_iload hx hb dX6_showRow_81 (lv_at hl 3 rfl) ?_
                          refine lv_iload_n hx hb dX6_showRow_83 rfl (lv_at hl 0 rfl) ?_
                          refine lv_iadd hx hb dX6_showRow_84 ?_
                          refine lv_istore (lv' := [(6, .int (v6_98 + p2)), (3, .int p2), (4, .int p3), (5, .ref (ad (2 + a_3))), (7, .int v7_98)]) hx hb dX6_showRow_85 hl (by decide) rfl (fun ls hl => ?_)
                          refine lv_iload hx hb dX6_showRow_87 (lv_at hl 0 rfl) ?_
                          refine lv_sipush (v := (9999 : Int32)) hx hb dX6_showRow_89 (by decide) ?_
                          refine lv_icmp_le (tgt := 101) hx hb dX6_showRow_92 (by decide) (fun c_103 => ?_) (fun c_103 => ?_)
                          · rw [if_pos c_103] at h
                            refine lv_iinc (v := v7_98 + (1 : Int32)) (lv' := [(7, .int (v7_98 + (1 : Int32))), (6, .int (v6_98 + p2)), (3, .int p2), (4, .int p3), (5, .ref (ad (2 + a_3)))]) hx hb dX6_showRow_101 hl (k := 4) rfl rfl (by decide) rfl (fun ls hl => ?_)
                            refine lv_goto (tgt := 67) hx hb dX6_showRow_104 (by decide) ?_
                            exact ih (v6_98 + p2) (v7_98 + (1 : Int32)) z_101 z h _ _ _ hP hD hS (lv_sub hl [2, 3, 4, 1, 0] rfl) kex
                          · rw [if_neg c_103] at h
                            refine lv_iincW (v := (v6_98 + p2) + (-20000 : Int32)) (lv' := [(6, .int ((v6_98 + p2) + (-20000 : Int32))), (3, .int p2), (4, .int p3), (5, .ref (ad (2 + a_3))), (7, .int v7_98)]) hx hb dX6_showRow_95 hl (k := 0) rfl (congrArg (fun q9 : Int32 => (v6_98 + p2) + q9) (show Int32.ofInt (-20000) = (-20000 : Int32) by decide)) (by decide) rfl (fun ls hl => ?_)
                            refine lv_iinc (v := v7_98 + (1 : Int32)) (lv' := [(7, .int (v7_98 + (1 : Int32))), (6, .int ((v6_98 + p2) + (-20000 : Int32))), (3, .int p2), (4, .int p3), (5, .ref (ad (2 + a_3)))]) hx hb dX6_showRow_101 hl (k := 4) rfl rfl (by decide) rfl (fun ls hl => ?_)
                            refine lv_goto (tgt := 67) hx hb dX6_showRow_104 (by decide) ?_
                            exact ih ((v6_98 + p2) + (-20000 : Int32)) (v7_98 + (1 : Int32)) z_101 z h _ _ _ hP hD hS (lv_sub hl [2, 3, 4, 1, 0] rfl) kex
                    obtain ⟨z_104, hz_105, h⟩ := qm_bind h
                    refine loop_99 qm_F p1 (0 : Int32) S z_104 hz_105 _ _ _ hP hD hS (lv_sub hl [6, 7, 2, 1, 0] rfl) (fun H locs ls hP hD hS hl => ?_)
                    refine lv_aload hx hb dX6_showRow_107 (lv_at hl 0 rfl) ?_
                    refine va_getN (D := D) (ci := 0) (v := .ref (ad (6 + a_3))) (C := RX0) (T := TX0) (N := 4) hx hb hts (by decide +kernel) hown hK hP (2 + a_3) (qg_C hk_5) rfl 0 (by decide) (va_Nw.use rfl (qz_frow hZ)) (fun _ h9 => h9) rfl dX6_showRow_109 ?_
                    refine va_calli (va_runV (As := []) (rest := []) ⟨hx, hb, hml, hown, hts⟩ (nX3_length l D A ad cI cQ rest z_104 a_3 hk_5) (cwV 0 hts gX6_showRow_X3_length rfl rfl rfl (by decide +kernel) ⟨Nat.le_of_ble_eq_true rfl, Nat.le_of_ble_eq_true rfl⟩) ⟨qm_blind, va_recv hK hP (ci := 3) (q0 := (6 + a_3)) rfl (qg_M hk_5), fun U hU hW => ⟨rfl, qm_go hA hS hP hK hD hU hW⟩⟩ rfl rfl hl.1 rfl (lv_room (Nat.le_of_ble_eq_true rfl)) dX6_showRow_112 ⟨Nat.le_of_ble_eq_true rfl, Nat.le_of_ble_eq_true rfl⟩) hS (fun _ _ h9 => h9) (fun _ h9 => h9) (fun v u t H1 locs1 ht hvm hw hB hz1 hk1 hS => ?_)
                    obtain ⟨hw1, hw2⟩ := hw
                    have hw1 : ((z_104.1 a_3).1) = v := hw1.symm
                    have hw2 : z_104 = u := hw2.symm
                    subst hw1
                    subst hw2
                    obtain ⟨hP, hD⟩ := qm_bk ht hB
                    have h := Option.some.inj h
                    subst h
                    rw [hQX]
                    refine vx_ret ?_
                    refine W.widen (k := 5) (n := 30) (Nat.le_of_ble_eq_true rfl) (Nat.le_of_ble_eq_true rfl) ?_
                    exact W.iret (v := ((z_104.1 a_3).1)) hx hb hr (fun t ht hW => ⟨⟨((z_104.1 a_3).1), z_104, rfl, rfl, qm_en ht hP hD⟩, hS.F ht⟩) hS.2.2 dX6_showRow_115
                  · refine vx_callv (vx_runV (As := [.int p3]) (rest := []) ⟨hx, hb, hml, hown, hts⟩ (kX0_demandRoomFor hst l D A ad cI cQ rest S a_3 hk_5 p3 _ hz_95) (cwV 1 hts gX6_showRow_X0_demandRoomFor rfl rfl rfl (by decide +kernel) ⟨Nat.le_of_ble_eq_true rfl, Nat.le_of_ble_eq_true rfl⟩) ⟨qm_blindZ, va_recv hK hP (ci := 0) (q0 := (2 + a_3)) rfl (qg_C hk_5), fun U hU hW => ⟨rfl, qm_go hA hS hP hK hD hU hW, qm_Zgo hZ hS hU hW⟩⟩ rfl rfl hl.1 rfl (lv_room (Nat.le_of_ble_eq_true rfl)) dX6_showRow_58 ⟨Nat.le_of_ble_eq_true rfl, Nat.le_of_ble_eq_true rfl⟩) hS (fun _ _ h9 => h9) (fun _ h9 => h9) (fun _ _ h9 => h9) (fun E ce q9 u9 t H1 locs1 ht hvm hw hB hz1 hk1 hS hce hcv hcl => ?_) (fun u t H1 locs1 ht hvm hw hB hz1 hk1 hS => absurd (hw.1) (fun q => by cases q))
                    obtain ⟨hE1, hE2⟩ := hB
                    have hE1 := Sum.inr.inj hE1
                    subst hE1
                    obtain ⟨hP, hD⟩ := qm_bk ht hE2
                    have h := Option.some.inj h
                    subst h
                    rw [hQX]
                    exact vx_out (fun x9 q9 => (hno x9 q9).elim) hlocks hce hcv hcl (fun t9 ht9 hvm9 => ⟨(), trivial, ⟨rfl, qm_en ht9 hP hD⟩, hS.F ht9⟩) hS.2.2 (Nat.le_of_ble_eq_true rfl) (Nat.le_of_ble_eq_true rfl)
                · refine vx_callv (vx_runS (As := [.int (0 : Int32)]) (rest := []) ⟨hx, hb, hml, hown, hts⟩ (kX6_demandInRange hst l D A ad cI cQ rest S (0 : Int32) _ hz_91) (va_cwS 1 hts gX6_showRow_X6_demandInRange rfl rfl rfl (by decide +kernel) ⟨Nat.le_of_ble_eq_true rfl, Nat.le_of_ble_eq_true rfl⟩) ⟨qm_blindZ, fun U hU hW => ⟨rfl, qm_go hA hS hP hK hD hU hW, qm_Zgo hZ hS hU hW⟩⟩ rfl rfl hl.1 rfl (lv_room (Nat.le_of_ble_eq_true rfl)) dX6_showRow_51 ⟨Nat.le_of_ble_eq_true rfl, Nat.le_of_ble_eq_true rfl⟩) hS (fun _ _ h9 => h9) (fun _ h9 => h9) (fun _ _ h9 => h9) (fun E ce q9 u9 t H1 locs1 ht hvm hw hB hz1 hk1 hS hce hcv hcl => ?_) (fun u t H1 locs1 ht hvm hw hB hz1 hk1 hS => absurd (hw.1) (fun q => by cases q))
                  obtain ⟨hE1, hE2⟩ := hB
                  have hE1 := Sum.inr.inj hE1
                  subst hE1
                  obtain ⟨hP, hD⟩ := qm_bk ht hE2
                  have h := Option.some.inj h
                  subst h
                  rw [hQX]
                  exact vx_out (fun x9 q9 => (hno x9 q9).elim) hlocks hce hcv hcl (fun t9 ht9 hvm9 => ⟨(), trivial, ⟨rfl, qm_en ht9 hP hD⟩, hS.F ht9⟩) hS.2.2 (Nat.le_of_ble_eq_true rfl) (Nat.le_of_ble_eq_true rfl)
              · rw [if_neg c_89] at h
                refine lv_iconst (v := (1 : Int32)) hx hb dX6_showRow_46 (by decide) ?_
                refine lv_goto (tgt := 51) hx hb dX6_showRow_47 (by decide) ?_
                obtain ⟨z_106, hz_107, h⟩ := qm_bind h
                rcases z_106 with a_108 | e_109
                · refine vx_callv (vx_runS (As := [.int (1 : Int32)]) (rest := []) ⟨hx, hb, hml, hown, hts⟩ (kX6_demandInRange hst l D A ad cI cQ rest S (1 : Int32) _ hz_107) (va_cwS 1 hts gX6_showRow_X6_demandInRange rfl rfl rfl (by decide +kernel) ⟨Nat.le_of_ble_eq_true rfl, Nat.le_of_ble_eq_true rfl⟩) ⟨qm_blindZ, fun U hU hW => ⟨rfl, qm_go hA hS hP hK hD hU hW, qm_Zgo hZ hS hU hW⟩⟩ rfl rfl hl.1 rfl (lv_room (Nat.le_of_ble_eq_true rfl)) dX6_showRow_51 ⟨Nat.le_of_ble_eq_true rfl, Nat.le_of_ble_eq_true rfl⟩) hS (fun _ _ h9 => h9) (fun _ h9 => h9) (fun _ _ h9 => h9) (fun E ce q9 u9 t H1 locs1 ht hvm hw hB hz1 hk1 hS hce hcv hcl => absurd hB.1 (fun q => by cases q)) (fun u t H1 locs1 ht hvm hw hB hz1 hk1 hS => ?_)
                  rw [Sum.elim_inl] at h
                  obtain ⟨hw1, hw2⟩ := hw
                  have hw2 : S = u := hw2.symm
                  subst hw2
                  obtain ⟨hP, hD⟩ := qm_bk ht hB
                  refine lv_aload hx hb dX6_showRow_54 (lv_at hl 0 rfl) ?_
                  refine lv_iload hx hb dX6_showRow_56 (lv_at hl 5 rfl) ?_
                  obtain ⟨z_110, hz_111, h⟩ := qm_bind h
                  rcases z_110 with a_112 | e_113
                  · refine vx_callv (vx_runV (As := [.int p3]) (rest := []) ⟨hx, hb, hml, hown, hts⟩ (kX0_demandRoomFor hst l D A ad cI cQ rest S a_3 hk_5 p3 _ hz_111) (cwV 1 hts gX6_showRow_X0_demandRoomFor rfl rfl rfl (by decide +kernel) ⟨Nat.le_of_ble_eq_true rfl, Nat.le_of_ble_eq_true rfl⟩) ⟨qm_blindZ, va_recv hK hP (ci := 0) (q0 := (2 + a_3)) rfl (qg_C hk_5), fun U hU hW => ⟨rfl, qm_go hA hS hP hK hD hU hW, qm_Zgo hZ hS hU hW⟩⟩ rfl rfl hl.1 rfl (lv_room (Nat.le_of_ble_eq_true rfl)) dX6_showRow_58 ⟨Nat.le_of_ble_eq_true rfl, Nat.le_of_ble_eq_true rfl⟩) hS (fun _ _ h9 => h9) (fun _ h9 => h9) (fun _ _ h9 => h9) (fun E ce q9 u9 t H1 locs1 ht hvm hw hB hz1 hk1 hS hce hcv hcl => absurd hB.1 (fun q => by cases q)) (fun u t H1 locs1 ht hvm hw hB hz1 hk1 hS => ?_)
                    rw [Sum.elim_inl] at h
                    obtain ⟨hw1, hw2⟩ := hw
                    have hw2 : S = u := hw2.symm
                    subst hw2
                    obtain ⟨hP, hD⟩ := qm_bk ht hB
                    refine lv_iload_n hx hb dX6_showRow_61 rfl (lv_at hl 3 rfl) ?_
                    refine lv_istore (lv' := [(6, .int p1), (5, .ref (ad (2 + a_3))), (0, .ref (ad 0)), (1, .int p0), (2, .int p1), (3, .int p2), (4, .int p3)]) hx hb dX6_showRow_62 hl (by decide) rfl (fun ls hl => ?_)
                    refine lv_iconst (v := (0 : Int32)) hx hb dX6_showRow_64 (by decide) ?_
                    refine lv_istore (lv' := [(7, .int (0 : Int32)), (6, .int p1), (5, .ref (ad (2 + a_3))), (0, .ref (ad 0)), (1, .int p0), (2, .int p1), (3, .int p2), (4, .int p3)]) hx hb dX6_showRow_65 hl (by decide) rfl (fun ls hl => ?_)
                    have loop_115 : ∀ (fuel : Nat) (v6_114 v7_114 : Int32) (S_114 : qm_S) (z : qm_S), fX6_showRow_L67 p2 p3 a_3 fuel v6_114 v7_114 S_114 = some z → ∀ (H : Heap) (locs : List Loc) (ls : Array Slot), va_P D vwCl (qm_W ad cI cQ rest S_114) H → va_D A (qm_W ad cI cQ rest S_114) → va_S A s.heap H locs → lv_has ls 8 [(3, .int p2), (4, .int p3), (5, .ref (ad (2 + a_3))), (6, .int v6_114), (7, .int v7_114)] → (∀ (H : Heap) (locs : List Loc) (ls : Array Slot), va_P D vwCl (qm_W ad cI cQ rest z) H → va_D A (qm_W ad cI cQ rest z) → va_S A s.heap H locs → lv_has ls 8 [(5, .ref (ad (2 + a_3)))] → W p l e ({ frames := 7, cells := 5, slots := 30, locals := 147 } : Room) s m ([.ref (ad 0), .int p0, .int p1, .int p2, .int p3] : List Value).toArray below meth c H locs 5 30 QX (F0 m 107 ls [])) → W p l e ({ frames := 7, cells := 5, slots := 30, locals := 147 } : Room) s m ([.ref (ad 0), .int p0, .int p1, .int p2, .int p3] : List Value).toArray below meth c H locs 5 30 QX (F0 m 67 ls []) := by
                      intro fuel
                      induction fuel with
                      | zero =>
                        intro v6_114 v7_114 S_114 z h
                        rw [fX6_showRow_L67] at h
                        cases h
                      | succ fuel ih =>
                        intro v6_114 v7_114 S_114 z h H locs ls hP hD hS hl kex
                        rw [fX6_showRow_L67] at h
                        refine lv_iload hx hb dX6_showRow_67 (lv_at hl 4 rfl) ?_
                        refine lv_iload hx hb dX6_showRow_69 (lv_at hl 1 rfl) ?_
                        refine lv_icmp_ge (tgt := 107) hx hb dX6_showRow_71 (by decide) (fun c_116 => ?_) (fun c_116 => ?_)
                        · rw [if_pos c_116] at h
                          have h := Option.some.inj h
                          subst h
                          exact kex _ _ _ hP hD hS (lv_sub hl [2] rfl)
                        · rw [if_neg c_116] at h
                          refine lv_aload hx hb dX6_showRow_74 (lv_at hl 2 rfl) ?_
                          refine lv_iload hx hb dX6_showRow_76 (lv_at hl 3 rfl) ?_
                          obtain ⟨z_117, hz_118, h⟩ := qm_bind h
                          refine va_callv (va_runV (As := [.int v6_114]) (rest := []) ⟨hx, hb, hml, hown, hts⟩ (kX0_take l D A ad cI cQ rest S_114 a_3 hk_5 v6_114 z_117 hz_118) (cwV 1 hts gX6_showRow_X0_take rfl rfl rfl (by decide +kernel) ⟨Nat.le_of_ble_eq_true rfl, Nat.le_of_ble_eq_true rfl⟩) ⟨qm_blind, va_recv hK hP (ci := 0) (q0 := (2 + a_3)) rfl (qg_C hk_5), fun U hU hW => ⟨rfl, qm_go hA hS hP hK hD hU hW⟩⟩ rfl rfl hl.1 rfl (lv_room (Nat.le_of_ble_eq_true rfl)) dX6_showRow_78 ⟨Nat.le_of_ble_eq_true rfl, Nat.le_of_ble_eq_true rfl⟩) hS (fun _ _ h9 => h9) (fun _ h9 => h9) (fun u t H1 locs1 ht hvm hw hB hz1 hk1 hS => ?_)
                          have hw : z_117 = u := hw.symm
                          subst hw
                          obtain ⟨hP, hD⟩ := qm_bk ht hB
                          refine lv_iload hx hb dX6_showRow_81 (lv_at hl 3 rfl) ?_
                          refine lv_iload_n hx hb dX6_showRow_83 rfl (lv_at hl 0 rfl) ?_
                          refine lv_iadd hx hb dX6_showRow_84 ?_
                          refine lv_istore (lv' := [(6, .int (v6_114 + p2)), (3, .int p2), (4, .int p3), (5, .ref (ad (2 + a_3))), (7, .int v7_114)]) hx hb dX6_showRow_85 hl (by decide) rfl (fun ls hl => ?_)
                          refine lv_iload hx hb dX6_showRow_87 (lv_at hl 0 rfl) ?_
                          refine lv_sipush (v := (9999 : Int32)) hx hb dX6_showRow_89 (by decide) ?_
                          refine lv_icmp_le (tgt := 101) hx hb dX6_showRow_92 (by decide) (fun c_119 => ?_) (fun c_119 => ?_)
                          · rw [if_pos c_119] at h
                            refine lv_iinc (v := v7_114 + (1 : Int32)) (lv' := [(7, .int (v7_114 + (1 : Int32))), (6, .int (v6_114 + p2)), (3, .int p2), (4, .int p3), (5, .ref (ad (2 + a_3)))]) hx hb dX6_showRow_101 hl (k := 4) rfl rfl (by decide) rfl (fun ls hl => ?_)
                            refine lv_goto (tgt := 67) hx hb dX6_showRow_104 (by decide) ?_
                            exact ih (v6_114 + p2) (v7_114 + (1 : Int32)) z_117 z h _ _ _ hP hD hS (lv_sub hl [2, 3, 4, 1, 0] rfl) kex
                          · rw [if_neg c_119] at h
                            refine lv_iincW (v := (v6_114 + p2) + (-20000 : Int32)) (lv' := [(6, .int ((v6_114 + p2) + (-20000 : Int32))), (3, .int p2), (4, .int p3), (5, .ref (ad (2 + a_3))), (7, .int v7_114)]) hx hb dX6_showRow_95 hl (k := 0) rfl (congrArg (fun q9 : Int32 => (v6_114 + p2) + q9) (show Int32.ofInt (-20000) = (-20000 : Int32) by decide)) (by decide) rfl (fun ls hl => ?_)
                            refine lv_iinc (v := v7_114 + (1 : Int32)) (lv' := [(7, .int (v7_114 + (1 : Int32))), (6, .int ((v6_114 + p2) + (-20000 : Int32))), (3, .int p2), (4, .int p3), (5, .ref (ad (2 + a_3)))]) hx hb dX6_showRow_101 hl (k := 4) rfl rfl (by decide) rfl (fun ls hl => ?_)
                            refine lv_goto (tgt := 67) hx hb dX6_showRow_104 (by decide) ?_
                            exact ih ((v6_114 + p2) + (-20000 : Int32)) (v7_114 + (1 : Int32)) z_117 z h _ _ _ hP hD hS (lv_sub hl [2, 3, 4, 1, 0] rfl) kex
                    obtain ⟨z_120, hz_121, h⟩ := qm_bind h
                    refine loop_115 qm_F p1 (0 : Int32) S z_120 hz_121 _ _ _ hP hD hS (lv_sub hl [6, 7, 2, 1, 0] rfl) (fun H locs ls hP hD hS hl => ?_)
                    refine lv_aload hx hb dX6_showRow_107 (lv_at hl 0 rfl) ?_
                    refine va_getN (D := D) (ci := 0) (v := .ref (ad (6 + a_3))) (C := RX0) (T := TX0) (N := 4) hx hb hts (by decide +kernel) hown hK hP (2 + a_3) (qg_C hk_5) rfl 0 (by decide) (va_Nw.use rfl (qz_frow hZ)) (fun _ h9 => h9) rfl dX6_showRow_109 ?_
                    refine va_calli (va_runV (As := []) (rest := []) ⟨hx, hb, hml, hown, hts⟩ (nX3_length l D A ad cI cQ rest z_120 a_3 hk_5) (cwV 0 hts gX6_showRow_X3_length rfl rfl rfl (by decide +kernel) ⟨Nat.le_of_ble_eq_true rfl, Nat.le_of_ble_eq_true rfl⟩) ⟨qm_blind, va_recv hK hP (ci := 3) (q0 := (6 + a_3)) rfl (qg_M hk_5), fun U hU hW => ⟨rfl, qm_go hA hS hP hK hD hU hW⟩⟩ rfl rfl hl.1 rfl (lv_room (Nat.le_of_ble_eq_true rfl)) dX6_showRow_112 ⟨Nat.le_of_ble_eq_true rfl, Nat.le_of_ble_eq_true rfl⟩) hS (fun _ _ h9 => h9) (fun _ h9 => h9) (fun v u t H1 locs1 ht hvm hw hB hz1 hk1 hS => ?_)
                    obtain ⟨hw1, hw2⟩ := hw
                    have hw1 : ((z_120.1 a_3).1) = v := hw1.symm
                    have hw2 : z_120 = u := hw2.symm
                    subst hw1
                    subst hw2
                    obtain ⟨hP, hD⟩ := qm_bk ht hB
                    have h := Option.some.inj h
                    subst h
                    rw [hQX]
                    refine vx_ret ?_
                    refine W.widen (k := 5) (n := 30) (Nat.le_of_ble_eq_true rfl) (Nat.le_of_ble_eq_true rfl) ?_
                    exact W.iret (v := ((z_120.1 a_3).1)) hx hb hr (fun t ht hW => ⟨⟨((z_120.1 a_3).1), z_120, rfl, rfl, qm_en ht hP hD⟩, hS.F ht⟩) hS.2.2 dX6_showRow_115
                  · refine vx_callv (vx_runV (As := [.int p3]) (rest := []) ⟨hx, hb, hml, hown, hts⟩ (kX0_demandRoomFor hst l D A ad cI cQ rest S a_3 hk_5 p3 _ hz_111) (cwV 1 hts gX6_showRow_X0_demandRoomFor rfl rfl rfl (by decide +kernel) ⟨Nat.le_of_ble_eq_true rfl, Nat.le_of_ble_eq_true rfl⟩) ⟨qm_blindZ, va_recv hK hP (ci := 0) (q0 := (2 + a_3)) rfl (qg_C hk_5), fun U hU hW => ⟨rfl, qm_go hA hS hP hK hD hU hW, qm_Zgo hZ hS hU hW⟩⟩ rfl rfl hl.1 rfl (lv_room (Nat.le_of_ble_eq_true rfl)) dX6_showRow_58 ⟨Nat.le_of_ble_eq_true rfl, Nat.le_of_ble_eq_true rfl⟩) hS (fun _ _ h9 => h9) (fun _ h9 => h9) (fun _ _ h9 => h9) (fun E ce q9 u9 t H1 locs1 ht hvm hw hB hz1 hk1 hS hce hcv hcl => ?_) (fun u t H1 locs1 ht hvm hw hB hz1 hk1 hS => absurd (hw.1) (fun q => by cases q))
                    obtain ⟨hE1, hE2⟩ := hB
                    have hE1 := Sum.inr.inj hE1
                    subst hE1
                    obtain ⟨hP, hD⟩ := qm_bk ht hE2
                    have h := Option.some.inj h
                    subst h
                    rw [hQX]
                    exact vx_out (fun x9 q9 => (hno x9 q9).elim) hlocks hce hcv hcl (fun t9 ht9 hvm9 => ⟨(), trivial, ⟨rfl, qm_en ht9 hP hD⟩, hS.F ht9⟩) hS.2.2 (Nat.le_of_ble_eq_true rfl) (Nat.le_of_ble_eq_true rfl)
                · refine vx_callv (vx_runS (As := [.int (1 : Int32)]) (rest := []) ⟨hx, hb, hml, hown, hts⟩ (kX6_demandInRange hst l D A ad cI cQ rest S (1 : Int32) _ hz_107) (va_cwS 1 hts gX6_showRow_X6_demandInRange rfl rfl rfl (by decide +kernel) ⟨Nat.le_of_ble_eq_true rfl, Nat.le_of_ble_eq_true rfl⟩) ⟨qm_blindZ, fun U hU hW => ⟨rfl, qm_go hA hS hP hK hD hU hW, qm_Zgo hZ hS hU hW⟩⟩ rfl rfl hl.1 rfl (lv_room (Nat.le_of_ble_eq_true rfl)) dX6_showRow_51 ⟨Nat.le_of_ble_eq_true rfl, Nat.le_of_ble_eq_true rfl⟩) hS (fun _ _ h9 => h9) (fun _ h9 => h9) (fun _ _ h9 => h9) (fun E ce q9 u9 t H1 locs1 ht hvm hw hB hz1 hk1 hS hce hcv hcl => ?_) (fun u t H1 locs1 ht hvm hw hB hz1 hk1 hS => absurd (hw.1) (fun q => by cases q))
                  obtain ⟨hE1, hE2⟩ := hB
                  have hE1 := Sum.inr.inj hE1
                  subst hE1
                  obtain ⟨hP, hD⟩ := qm_bk ht hE2
                  have h := Option.some.inj h
                  subst h
                  rw [hQX]
                  exact vx_out (fun x9 q9 => (hno x9 q9).elim) hlocks hce hcv hcl (fun t9 ht9 hvm9 => ⟨(), trivial, ⟨rfl, qm_en ht9 hP hD⟩, hS.F ht9⟩) hS.2.2 (Nat.le_of_ble_eq_true rfl) (Nat.le_of_ble_eq_true rfl)
          · refine vx_callv (vx_runS (As := [.int (0 : Int32)]) (rest := []) ⟨hx, hb, hml, hown, hts⟩ (kX6_demandInRange hst l D A ad cI cQ rest S (0 : Int32) _ hz_69) (va_cwS 1 hts gX6_showRow_X6_demandInRange rfl rfl rfl (by decide +kernel) ⟨Nat.le_of_ble_eq_true rfl, Nat.le_of_ble_eq_true rfl⟩) ⟨qm_blindZ, fun U hU hW => ⟨rfl, qm_go hA hS hP hK hD hU hW, qm_Zgo hZ hS hU hW⟩⟩ rfl rfl hl.1 rfl (lv_room (Nat.le_of_ble_eq_true rfl)) dX6_showRow_30 ⟨Nat.le_of_ble_eq_true rfl, Nat.le_of_ble_eq_true rfl⟩) hS (fun _ _ h9 => h9) (fun _ h9 => h9) (fun _ _ h9 => h9) (fun E ce q9 u9 t H1 locs1 ht hvm hw hB hz1 hk1 hS hce hcv hcl => ?_) (fun u t H1 locs1 ht hvm hw hB hz1 hk1 hS => absurd (hw.1) (fun q => by cases q))
            obtain ⟨hE1, hE2⟩ := hB
            have hE1 := Sum.inr.inj hE1
            subst hE1
            obtain ⟨hP, hD⟩ := qm_bk ht hE2
            have h := Option.some.inj h
            subst h
            rw [hQX]
            exact vx_out (fun x9 q9 => (hno x9 q9).elim) hlocks hce hcv hcl (fun t9 ht9 hvm9 => ⟨(), trivial, ⟨rfl, qm_en ht9 hP hD⟩, hS.F ht9⟩) hS.2.2 (Nat.le_of_ble_eq_true rfl) (Nat.le_of_ble_eq_true rfl)
        · rw [if_neg c_67] at h
          refine lv_iconst (v := (1 : Int32)) hx hb dX6_showRow_25 (by decide) ?_
          refine lv_goto (tgt := 30) hx hb dX6_showRow_26 (by decide) ?_
          obtain ⟨z_122, hz_123, h⟩ := qm_bind h
          rcases z_122 with a_124 | e_125
          · refine vx_callv (vx_runS (As := [.int (1 : Int32)]) (rest := []) ⟨hx, hb, hml, hown, hts⟩ (kX6_demandInRange hst l D A ad cI cQ rest S (1 : Int32) _ hz_123) (va_cwS 1 hts gX6_showRow_X6_demandInRange rfl rfl rfl (by decide +kernel) ⟨Nat.le_of_ble_eq_true rfl, Nat.le_of_ble_eq_true rfl⟩) ⟨qm_blindZ, fun U hU hW => ⟨rfl, qm_go hA hS hP hK hD hU hW, qm_Zgo hZ hS hU hW⟩⟩ rfl rfl hl.1 rfl (lv_room (Nat.le_of_ble_eq_true rfl)) dX6_showRow_30 ⟨Nat.le_of_ble_eq_true rfl, Nat.le_of_ble_eq_true rfl⟩) hS (fun _ _ h9 => h9) (fun _ h9 => h9) (fun _ _ h9 => h9) (fun E ce q9 u9 t H1 locs1 ht hvm hw hB hz1 hk1 hS hce hcv hcl => absurd hB.1 (fun q => by cases q)) (fun u t H1 locs1 ht hvm hw hB hz1 hk1 hS => ?_)
            rw [Sum.elim_inl] at h
            obtain ⟨hw1, hw2⟩ := hw
            have hw2 : S = u := hw2.symm
            subst hw2
            obtain ⟨hP, hD⟩ := qm_bk ht hB
            refine lv_iload hx hb dX6_showRow_33 (lv_at hl 5 rfl) ?_
            refine lv_iconst (v := (1 : Int32)) hx hb dX6_showRow_35 (by decide) ?_
            refine lv_icmp_lt (tgt := 50) hx hb dX6_showRow_36 (by decide) (fun c_126 => ?_) (fun c_126 => ?_)
            · rw [if_pos c_126] at h
              refine lv_iconst (v := (0 : Int32)) hx hb dX6_showRow_50 (by decide) ?_
              obtain ⟨z_127, hz_128, h⟩ := qm_bind h
              rcases z_127 with a_129 | e_130
              · refine vx_callv (vx_runS (As := [.int (0 : Int32)]) (rest := []) ⟨hx, hb, hml, hown, hts⟩ (kX6_demandInRange hst l D A ad cI cQ rest S (0 : Int32) _ hz_128) (va_cwS 1 hts gX6_showRow_X6_demandInRange rfl rfl rfl (by decide +kernel) ⟨Nat.le_of_ble_eq_true rfl, Nat.le_of_ble_eq_true rfl⟩) ⟨qm_blindZ, fun U hU hW => ⟨rfl, qm_go hA hS hP hK hD hU hW, qm_Zgo hZ hS hU hW⟩⟩ rfl rfl hl.1 rfl (lv_room (Nat.le_of_ble_eq_true rfl)) dX6_showRow_51 ⟨Nat.le_of_ble_eq_true rfl, Nat.le_of_ble_eq_true rfl⟩) hS (fun _ _ h9 => h9) (fun _ h9 => h9) (fun _ _ h9 => h9) (fun E ce q9 u9 t H1 locs1 ht hvm hw hB hz1 hk1 hS hce hcv hcl => absurd hB.1 (fun q => by cases q)) (fun u t H1 locs1 ht hvm hw hB hz1 hk1 hS => ?_)
                rw [Sum.elim_inl] at h
                obtain ⟨hw1, hw2⟩ := hw
                have hw2 : S = u := hw2.symm
                subst hw2
                obtain ⟨hP, hD⟩ := qm_bk ht hB
                refine lv_aload hx hb dX6_showRow_54 (lv_at hl 0 rfl) ?_
                refine lv_iload hx hb dX6_showRow_56 (lv_at hl 5 rfl) ?_
                obtain ⟨z_131, hz_132, h⟩ := qm_bind h
                rcases z_131 with a_133 | e_134
                · refine vx_callv (vx_runV (As := [.int p3]) (rest := []) ⟨hx, hb, hml, hown, hts⟩ (kX0_demandRoomFor hst l D A ad cI cQ rest S a_3 hk_5 p3 _ hz_132) (cwV 1 hts gX6_showRow_X0_demandRoomFor rfl rfl rfl (by decide +kernel) ⟨Nat.le_of_ble_eq_true rfl, Nat.le_of_ble_eq_true rfl⟩) ⟨qm_blindZ, va_recv hK hP (ci := 0) (q0 := (2 + a_3)) rfl (qg_C hk_5), fun U hU hW => ⟨rfl, qm_go hA hS hP hK hD hU hW, qm_Zgo hZ hS hU hW⟩⟩ rfl rfl hl.1 rfl (lv_room (Nat.le_of_ble_eq_true rfl)) dX6_showRow_58 ⟨Nat.le_of_ble_eq_true rfl, Nat.le_of_ble_eq_true rfl⟩) hS (fun _ _ h9 => h9) (fun _ h9 => h9) (fun _ _ h9 => h9) (fun E ce q9 u9 t H1 locs1 ht hvm hw hB hz1 hk1 hS hce hcv hcl => absurd hB.1 (fun q => by cases q)) (fun u t H1 locs1 ht hvm hw hB hz1 hk1 hS => ?_)
                  rw [Sum.elim_inl] at h
                  obtain ⟨hw1, hw2⟩ := hw
                  have hw2 : S = u := hw2.symm
                  subst hw2
                  obtain ⟨hP, hD⟩ := qm_bk ht hB
                  refine lv_iload_n hx hb dX6_showRow_61 rfl (lv_at hl 3 rfl) ?_
                  refine lv_istore (lv' := [(6, .int p1), (5, .ref (ad (2 + a_3))), (0, .ref (ad 0)), (1, .int p0), (2, .int p1), (3, .int p2), (4, .int p3)]) hx hb dX6_showRow_62 hl (by decide) rfl (fun ls hl => ?_)
                  refine lv_iconst (v := (0 : Int32)) hx hb dX6_showRow_64 (by decide) ?_
                  refine lv_istore (lv' := [(7, .int (0 : Int32)), (6, .int p1), (5, .ref (ad (2 + a_3))), (0, .ref (ad 0)), (1, .int p0), (2, .int p1), (3, .int p2), (4, .int p3)]) hx hb dX6_showRow_65 hl (by decide) rfl (fun ls hl => ?_)
                  have loop_136 : ∀ (fuel : Nat) (v6_135 v7_135 : Int32) (S_135 : qm_S) (z : qm_S), fX6_showRow_L67 p2 p3 a_3 fuel v6_135 v7_135 S_135 = some z → ∀ (H : Heap) (locs : List Loc) (ls : Array Slot), va_P D vwCl (qm_W ad cI cQ rest S_135) H → va_D A (qm_W ad cI cQ rest S_135) → va_S A s.heap H locs → lv_has ls 8 [(3, .int p2), (4, .int p3), (5, .ref (ad (2 + a_3))), (6, .int v6_135), (7, .int v7_135)] → (∀ (H : Heap) (locs : List Loc) (ls : Array Slot), va_P D vwCl (qm_W ad cI cQ rest z) H → va_D A (qm_W ad cI cQ rest z) → va_S A s.heap H locs → lv_has ls 8 [(5, .ref (ad (2 + a_3)))] → W p l e ({ frames := 7, cells := 5, slots := 30, locals := 147 } : Room) s m ([.ref (ad 0), .int p0, .int p1, .int p2, .int p3] : List Value).toArray below meth c H locs 5 30 QX (F0 m 107 ls [])) → W p l e ({ frames := 7, cells := 5, slots := 30, locals := 147 } : Room) s m ([.ref (ad 0), .int p0, .int p1, .int p2, .int p3] : List Value).toArray below meth c H locs 5 30 QX (F0 m 67 ls []) := by
                    intro fuel
                    induction fuel with
                    | zero =>
                      intro v6_135 v7_135 S_135 z h
                      rw [fX6_showRow_L67] at h
                      cases h
                    | succ fuel ih =>
                      intro v6_135 v7_135 S_135 z h H locs ls hP hD hS hl kex
                      rw [fX6_showRow_L67] at h
                      refine lv_iload hx hb dX6_showRow_67 (lv_at hl 4 rfl) ?_
                      refine lv_iload hx hb dX6_showRow_69 (lv_at hl 1 rfl) ?_
                      refine lv_icmp_ge (tgt := 107) hx hb dX6_showRow_71 (by decide) (fun c_137 => ?_) (fun c_137 => ?_)
                      · rw [if_pos c_137] at h
                        have h := Option.some.inj h
                        subst h
                        exact kex _ _ _ hP hD hS (lv_sub hl [2] rfl)
                      · rw [if_neg c_137] at h
                        refine lv_aload hx hb dX6_showRow_74 (lv_at hl 2 rfl) ?_
                        refine lv_iload hx hb dX6_showRow_76 (lv_at hl 3 rfl) ?_
                        obtain ⟨z_138, hz_139, h⟩ := qm_bind h
                        refine va_callv (va_runV (As := [.int v6_135]) (rest := []) ⟨hx, hb, hml, hown, hts⟩ (kX0_take l D A ad cI cQ rest S_135 a_3 hk_5 v6_135 z_138 hz_139) (cwV 1 hts gX6_showRow_X0_take rfl rfl rfl (by decide +kernel) ⟨Nat.le_of_ble_eq_true rfl, Nat.le_of_ble_eq_true rfl⟩) ⟨qm_blind, va_recv hK hP (ci := 0) (q0 := (2 + a_3)) rfl (qg_C hk_5), fun U hU hW => ⟨rfl, qm_go hA hS hP hK hD hU hW⟩⟩ rfl rfl hl.1 rfl (lv_room (Nat.le_of_ble_eq_true rfl)) dX6_showRow_78 ⟨Nat.le_of_ble_eq_true rfl, Nat.le_of_ble_eq_true rfl⟩) hS (fun _ _ h9 => h9) (fun _ h9 => h9) (fun u t H1 locs1 ht hvm hw hB hz1 hk1 hS => ?_)
                        have hw : z_138 = u := hw.symm
                        subst hw
                        obtain ⟨hP, hD⟩ := qm_bk ht hB
                        refine lv_iload hx hb dX6_showRow_81 (lv_at hl 3 rfl) ?_
                        refine lv_iload_n hx hb dX6_showRow_83 rfl (lv_at hl 0 rfl) ?_
                        refine lv_iadd hx hb dX6_showRow_84 ?_
                        refine lv_istore (lv' := [(6, .int (v6_135 + p2)), (3, .int p2), (4, .int p3), (5, .ref (ad (2 + a_3))), (7, .int v7_135)]) hx hb dX6_showRow_85 hl (by decide) rfl (fun ls hl => ?_)
                        refine lv_iload hx hb dX6_showRow_87 (lv_at hl 0 rfl) ?_
                        refine lv_sipush (v := (9999 : Int32)) hx hb dX6_showRow_89 (by decide) ?_
                        refine lv_icmp_le (tgt := 101) hx hb dX6_showRow_92 (by decide) (fun c_140 => ?_) (fun c_140 => ?_)
                        · rw [if_pos c_140] at h
                          refine lv_iinc (v := v7_135 + (1 : Int32)) (lv' := [(7, .int (v7_135 + (1 : Int32))), (6, .int (v6_135 + p2)), (3, .int p2), (4, .int p3), (5, .ref (ad (2 + a_3)))]) hx hb dX6_showRow_101 hl (k := 4) rfl rfl (by decide) rfl (fun ls hl => ?_)
                          refine lv_goto (tgt := 67) hx hb dX6_showRow_104 (by decide) ?_
                          exact ih (v6_135 + p2) (v7_135 + (1 : Int32)) z_138 z h _ _ _ hP hD hS (lv_sub hl [2, 3, 4, 1, 0] rfl) kex
                        · rw [if_neg c_140] at h
                          refine lv_iincW (v := (v6_135 + p2) + (-20000 : Int32)) (lv' := [(6, .int ((v6_135 + p2) + (-20000 : Int32))), (3, .int p2), (4, .int p3), (5, .ref (ad (2 + a_3))), (7, .int v7_135)]) hx hb dX6_showRow_95 hl (k := 0) rfl (congrArg (fun q9 : Int32 => (v6_135 + p2) + q9) (show Int32.ofInt (-20000) = (-20000 : Int32) by decide)) (by decide) rfl (fun ls hl => ?_)
                          refine lv_iinc (v := v7_135 + (1 : Int32)) (lv' := [(7, .int (v7_135 + (1 : Int32))), (6, .int ((v6_135 + p2) + (-20000 : Int32))), (3, .int p2), (4, .int p3), (5, .ref (ad (2 + a_3)))]) hx hb dX6_showRow_101 hl (k := 4) rfl rfl (by decide) rfl (fun ls hl => ?_)
                          refine lv_goto (tgt := 67) hx hb dX6_showRow_104 (by decide) ?_
                          exact ih ((v6_135 + p2) + (-20000 : Int32)) (v7_135 + (1 : Int32)) z_138 z h _ _ _ hP hD hS (lv_sub hl [2, 3, 4, 1, 0] rfl) kex
                  obtain ⟨z_141, hz_142, h⟩ := qm_bind h
                  refine loop_136 qm_F p1 (0 : Int32) S z_141 hz_142 _ _ _ hP hD hS (lv_sub hl [6, 7, 2, 1, 0] rfl) (fun H locs ls hP hD hS hl => ?_)
                  refine lv_aload hx hb dX6_showRow_107 (lv_at hl 0 rfl) ?_
                  refine va_getN (D := D) (ci := 0) (v := .ref (ad (6 + a_3))) (C := RX0) (T := TX0) (N := 4) hx hb hts (by decide +kernel) hown hK hP (2 + a_3) (qg_C hk_5) rfl 0 (by decide) (va_Nw.use rfl (qz_frow hZ)) (fun _ h9 => h9) rfl dX6_showRow_109 ?_
                  refine va_calli (va_runV (As := []) (rest := []) ⟨hx, hb, hml, hown, hts⟩ (nX3_length l D A ad cI cQ rest z_141 a_3 hk_5) (cwV 0 hts gX6_showRow_X3_length rfl rfl rfl (by decide +kernel) ⟨Nat.le_of_ble_eq_true rfl, Nat.le_of_ble_eq_true rfl⟩) ⟨qm_blind, va_recv hK hP (ci := 3) (q0 := (6 + a_3)) rfl (qg_M hk_5), fun U hU hW => ⟨rfl, qm_go hA hS hP hK hD hU hW⟩⟩ rfl rfl hl.1 rfl (lv_room (Nat.le_of_ble_eq_true rfl)) dX6_showRow_112 ⟨Nat.le_of_ble_eq_true rfl, Nat.le_of_ble_eq_true rfl⟩) hS (fun _ _ h9 => h9) (fun _ h9 => h9) (fun v u t H1 locs1 ht hvm hw hB hz1 hk1 hS => ?_)
                  obtain ⟨hw1, hw2⟩ := hw
                  have hw1 : ((z_141.1 a_3).1) = v := hw1.symm
                  have hw2 : z_141 = u := hw2.symm
                  subst hw1
                  subst hw2
                  obtain ⟨hP, hD⟩ := qm_bk ht hB
                  have h := Option.some.inj h
                  subst h
                  rw [hQX]
                  refine vx_ret ?_
                  refine W.widen (k := 5) (n := 30) (Nat.le_of_ble_eq_true rfl) (Nat.le_of_ble_eq_true rfl) ?_
                  exact W.iret (v := ((z_141.1 a_3).1)) hx hb hr (fun t ht hW => ⟨⟨((z_141.1 a_3).1), z_141, rfl, rfl, qm_en ht hP hD⟩, hS.F ht⟩) hS.2.2 dX6_showRow_115
                · refine vx_callv (vx_runV (As := [.int p3]) (rest := []) ⟨hx, hb, hml, hown, hts⟩ (kX0_demandRoomFor hst l D A ad cI cQ rest S a_3 hk_5 p3 _ hz_132) (cwV 1 hts gX6_showRow_X0_demandRoomFor rfl rfl rfl (by decide +kernel) ⟨Nat.le_of_ble_eq_true rfl, Nat.le_of_ble_eq_true rfl⟩) ⟨qm_blindZ, va_recv hK hP (ci := 0) (q0 := (2 + a_3)) rfl (qg_C hk_5), fun U hU hW => ⟨rfl, qm_go hA hS hP hK hD hU hW, qm_Zgo hZ hS hU hW⟩⟩ rfl rfl hl.1 rfl (lv_room (Nat.le_of_ble_eq_true rfl)) dX6_showRow_58 ⟨Nat.le_of_ble_eq_true rfl, Nat.le_of_ble_eq_true rfl⟩) hS (fun _ _ h9 => h9) (fun _ h9 => h9) (fun _ _ h9 => h9) (fun E ce q9 u9 t H1 locs1 ht hvm hw hB hz1 hk1 hS hce hcv hcl => ?_) (fun u t H1 locs1 ht hvm hw hB hz1 hk1 hS => absurd (hw.1) (fun q => by cases q))
                  obtain ⟨hE1, hE2⟩ := hB
                  have hE1 := Sum.inr.inj hE1
                  subst hE1
                  obtain ⟨hP, hD⟩ := qm_bk ht hE2
                  have h := Option.some.inj h
                  subst h
                  rw [hQX]
                  exact vx_out (fun x9 q9 => (hno x9 q9).elim) hlocks hce hcv hcl (fun t9 ht9 hvm9 => ⟨(), trivial, ⟨rfl, qm_en ht9 hP hD⟩, hS.F ht9⟩) hS.2.2 (Nat.le_of_ble_eq_true rfl) (Nat.le_of_ble_eq_true rfl)
              · refine vx_callv (vx_runS (As := [.int (0 : Int32)]) (rest := []) ⟨hx, hb, hml, hown, hts⟩ (kX6_demandInRange hst l D A ad cI cQ rest S (0 : Int32) _ hz_128) (va_cwS 1 hts gX6_showRow_X6_demandInRange rfl rfl rfl (by decide +kernel) ⟨Nat.le_of_ble_eq_true rfl, Nat.le_of_ble_eq_true rfl⟩) ⟨qm_blindZ, fun U hU hW => ⟨rfl, qm_go hA hS hP hK hD hU hW, qm_Zgo hZ hS hU hW⟩⟩ rfl rfl hl.1 rfl (lv_room (Nat.le_of_ble_eq_true rfl)) dX6_showRow_51 ⟨Nat.le_of_ble_eq_true rfl, Nat.le_of_ble_eq_true rfl⟩) hS (fun _ _ h9 => h9) (fun _ h9 => h9) (fun _ _ h9 => h9) (fun E ce q9 u9 t H1 locs1 ht hvm hw hB hz1 hk1 hS hce hcv hcl => ?_) (fun u t H1 locs1 ht hvm hw hB hz1 hk1 hS => absurd (hw.1) (fun q => by cases q))
                obtain ⟨hE1, hE2⟩ := hB
                have hE1 := Sum.inr.inj hE1
                subst hE1
                obtain ⟨hP, hD⟩ := qm_bk ht hE2
                have h := Option.some.inj h
                subst h
                rw [hQX]
                exact vx_out (fun x9 q9 => (hno x9 q9).elim) hlocks hce hcv hcl (fun t9 ht9 hvm9 => ⟨(), trivial, ⟨rfl, qm_en ht9 hP hD⟩, hS.F ht9⟩) hS.2.2 (Nat.le_of_ble_eq_true rfl) (Nat.le_of_ble_eq_true rfl)
            · rw [if_neg c_126] at h
              refine lv_iload hx hb dX6_showRow_39 (lv_at hl 5 rfl) ?_
              refine lv_bipush (v := (100 : Int32)) hx hb dX6_showRow_41 (by decide) ?_
              refine lv_icmp_gt (tgt := 50) hx hb dX6_showRow_43 (by decide) (fun c_143 => ?_) (fun c_143 => ?_)
              · rw [if_pos c_143] at h
                refine lv_iconst (v := (0 : Int32)) hx hb dX6_showRow_50 (by decide) ?_
                obtain ⟨z_144, hz_145, h⟩ := qm_bind h
                rcases z_144 with a_146 | e_147
                · refine vx_callv (vx_runS (As := [.int (0 : Int32)]) (rest := []) ⟨hx, hb, hml, hown, hts⟩ (kX6_demandInRange hst l D A ad cI cQ rest S (0 : Int32) _ hz_145) (va_cwS 1 hts gX6_showRow_X6_demandInRange rfl rfl rfl (by decide +kernel) ⟨Nat.le_of_ble_eq_true rfl, Nat.le_of_ble_eq_true rfl⟩) ⟨qm_blindZ, fun U hU hW => ⟨rfl, qm_go hA hS hP hK hD hU hW, qm_Zgo hZ hS hU hW⟩⟩ rfl rfl hl.1 rfl (lv_room (Nat.le_of_ble_eq_true rfl)) dX6_showRow_51 ⟨Nat.le_of_ble_eq_true rfl, Nat.le_of_ble_eq_true rfl⟩) hS (fun _ _ h9 => h9) (fun _ h9 => h9) (fun _ _ h9 => h9) (fun E ce q9 u9 t H1 locs1 ht hvm hw hB hz1 hk1 hS hce hcv hcl => absurd hB.1 (fun q => by cases q)) (fun u t H1 locs1 ht hvm hw hB hz1 hk1 hS => ?_)
                  rw [Sum.elim_inl] at h
                  obtain ⟨hw1, hw2⟩ := hw
                  have hw2 : S = u := hw2.symm
                  subst hw2
                  obtain ⟨hP, hD⟩ := qm_bk ht hB
                  refine lv_aload hx hb dX6_showRow_54 (lv_at hl 0 rfl) ?_
                  refine lv_iload hx hb dX6_showRow_56 (lv_at hl 5 rfl) ?_
                  obtain ⟨z_148, hz_149, h⟩ := qm_bind h
                  rcases z_148 with a_150 | e_151
                  · refine vx_callv (vx_runV (As := [.int p3]) (rest := []) ⟨hx, hb, hml, hown, hts⟩ (kX0_demandRoomFor hst l D A ad cI cQ rest S a_3 hk_5 p3 _ hz_149) (cwV 1 hts gX6_showRow_X0_demandRoomFor rfl rfl rfl (by decide +kernel) ⟨Nat.le_of_ble_eq_true rfl, Nat.le_of_ble_eq_true rfl⟩) ⟨qm_blindZ, va_recv hK hP (ci := 0) (q0 := (2 + a_3)) rfl (qg_C hk_5), fun U hU hW => ⟨rfl, qm_go hA hS hP hK hD hU hW, qm_Zgo hZ hS hU hW⟩⟩ rfl rfl hl.1 rfl (lv_room (Nat.le_of_ble_eq_true rfl)) dX6_showRow_58 ⟨Nat.le_of_ble_eq_true rfl, Nat.le_of_ble_eq_true rfl⟩) hS (fun _ _ h9 => h9) (fun _ h9 => h9) (fun _ _ h9 => h9) (fun E ce q9 u9 t H1 locs1 ht hvm hw hB hz1 hk1 hS hce hcv hcl => absurd hB.1 (fun q => by cases q)) (fun u t H1 locs1 ht hvm hw hB hz1 hk1 hS => ?_)
                    rw [Sum.elim_inl] at h
                    obtain ⟨hw1, hw2⟩ := hw
                    have hw2 : S = u := hw2.symm
                    subst hw2
                    obtain ⟨hP, hD⟩ := qm_bk ht hB
                    refine lv_iload_n hx hb dX6_showRow_61 rfl (lv_at hl 3 rfl) ?_
                    refine lv_istore (lv' := [(6, .int p1), (5, .ref (ad (2 + a_3))), (0, .ref (ad 0)), (1, .int p0), (2, .int p1), (3, .int p2), (4, .int p3)]) hx hb dX6_showRow_62 hl (by decide) rfl (fun ls hl => ?_)
                    refine lv_iconst (v := (0 : Int32)) hx hb dX6_showRow_64 (by decide) ?_
                    refine lv_istore (lv' := [(7, .int (0 : Int32)), (6, .int p1), (5, .ref (ad (2 + a_3))), (0, .ref (ad 0)), (1, .int p0), (2, .int p1), (3, .int p2), (4, .int p3)]) hx hb dX6_showRow_65 hl (by decide) rfl (fun ls hl => ?_)
                    have loop_153 : ∀ (fuel : Nat) (v6_152 v7_152 : Int32) (S_152 : qm_S) (z : qm_S), fX6_showRow_L67 p2 p3 a_3 fuel v6_152 v7_152 S_152 = some z → ∀ (H : Heap) (locs : List Loc) (ls : Array Slot), va_P D vwCl (qm_W ad cI cQ rest S_152) H → va_D A (qm_W ad cI cQ rest S_152) → va_S A s.heap H locs → lv_has ls 8 [(3, .int p2), (4, .int p3), (5, .ref (ad (2 + a_3))), (6, .int v6_152), (7, .int v7_152)] → (∀ (H : Heap) (locs : List Loc) (ls : Array Slot), va_P D vwCl (qm_W ad cI cQ rest z) H → va_D A (qm_W ad cI cQ rest z) → va_S A s.heap H locs → lv_has ls 8 [(5, .ref (ad (2 + a_3)))] → W p l e ({ frames := 7, cells := 5, slots := 30, locals := 147 } : Room) s m ([.ref (ad 0), .int p0, .int p1, .int p2, .int p3] : List Value).toArray below meth c H locs 5 30 QX (F0 m 107 ls [])) → W p l e ({ frames := 7, cells := 5, slots := 30, locals := 147 } : Room) s m ([.ref (ad 0), .int p0, .int p1, .int p2, .int p3] : List Value).toArray below meth c H locs 5 30 QX (F0 m 67 ls []) := by
                      intro fuel
                      induction fuel with
                      | zero =>
                        intro v6_152 v7_152 S_152 z h
                        rw [fX6_showRow_L67] at h
                        cases h
                      | succ fuel ih =>
                        intro v6_152 v7_152 S_152 z h H locs ls hP hD hS hl kex
                        rw [fX6_showRow_L67] at h
                        refine lv_iload hx hb dX6_showRow_67 (lv_at hl 4 rfl) ?_
                        refine lv_iload hx hb dX6_showRow_69 (lv_at hl 1 rfl) ?_
                        refine lv_icmp_ge (tgt := 107) hx hb dX6_showRow_71 (by decide) (fun c_154 => ?_) (fun c_154 => ?_)
                        · rw [if_pos c_154] at h
                          have h := Option.some.inj h
                          subst h
                          exact kex _ _ _ hP hD hS (lv_sub hl [2] rfl)
                        · rw [if_neg c_154] at h
                          refine lv_aload hx hb dX6_showRow_74 (lv_at hl 2 rfl) ?_
                          refine lv_iload hx hb dX6_showRow_76 (lv_at hl 3 rfl) ?_
                          obtain ⟨z_155, hz_156, h⟩ := qm_bind h
                          refine va_callv (va_runV (As := [.int v6_152]) (rest := []) ⟨hx, hb, hml, hown, hts⟩ (kX0_take l D A ad cI cQ rest S_152 a_3 hk_5 v6_152 z_155 hz_156) (cwV 1 hts gX6_showRow_X0_take rfl rfl rfl (by decide +kernel) ⟨Nat.le_of_ble_eq_true rfl, Nat.le_of_ble_eq_true rfl⟩) ⟨qm_blind, va_recv hK hP (ci := 0) (q0 := (2 + a_3)) rfl (qg_C hk_5), fun U hU hW => ⟨rfl, qm_go hA hS hP hK hD hU hW⟩⟩ rfl rfl hl.1 rfl (lv_room (Nat.le_of_ble_eq_true rfl)) dX6_showRow_78 ⟨Nat.le_of_ble_eq_true rfl, Nat.le_of_ble_eq_true rfl⟩) hS (fun _ _ h9 => h9) (fun _ h9 => h9) (fun u t H1 locs1 ht hvm hw hB hz1 hk1 hS => ?_)
                          have hw : z_155 = u := hw.symm
                          subst hw
                          obtain ⟨hP, hD⟩ := qm_bk ht hB
                          refine lv_iload hx hb dX6_showRow_81 (lv_at hl 3 rfl) ?_
                          refine lv_iload_n hx hb dX6_showRow_83 rfl (lv_at hl 0 rfl) ?_
                          refine lv_iadd hx hb dX6_showRow_84 ?_
                          refine lv_istore (lv' := [(6, .int (v6_152 + p2)), (3, .int p2), (4, .int p3), (5, .ref (ad (2 + a_3))), (7, .int v7_152)]) hx hb dX6_showRow_85 hl (by decide) rfl (fun ls hl => ?_)
                          refine lv_iload hx hb dX6_showRow_87 (lv_at hl 0 rfl) ?_
                          refine lv_sipush (v := (9999 : Int32)) hx hb dX6_showRow_89 (by decide) ?_
                          refine lv_icmp_le (tgt := 101) hx hb dX6_showRow_92 (by decide) (fun c_157 => ?_) (fun c_157 => ?_)
                          · rw [if_pos c_157] at h
                            refine lv_iinc (v := v7_152 + (1 : Int32)) (lv' := [(7, .int (v7_152 + (1 : Int32))), (6, .int (v6_152 + p2)), (3, .int p2), (4, .int p3), (5, .ref (ad (2 + a_3)))]) hx hb dX6_showRow_101 hl (k := 4) rfl rfl (by decide) rfl (fun ls hl => ?_)
                            refine lv_goto (tgt := 67) hx hb dX6_showRow_104 (by decide) ?_
                            exact ih (v6_152 + p2) (v7_152 + (1 : Int32)) z_155 z h _ _ _ hP hD hS (lv_sub hl [2, 3, 4, 1, 0] rfl) kex
                          · rw [if_neg c_157] at h
                            refine lv_iincW (v := (v6_152 + p2) + (-20000 : Int32)) (lv' := [(6, .int ((v6_152 + p2) + (-20000 : Int32))), (3, .int p2), (4, .int p3), (5, .ref (ad (2 + a_3))), (7, .int v7_152)]) hx hb dX6_showRow_95 hl (k := 0) rfl (congrArg (fun q9 : Int32 => (v6_152 + p2) + q9) (show Int32.ofInt (-20000) = (-20000 : Int32) by decide)) (by decide) rfl (fun ls hl => ?_)
                            refine lv_iinc (v := v7_152 + (1 : Int32)) (lv' := [(7, .int (v7_152 + (1 : Int32))), (6, .int ((v6_152 + p2) + (-20000 : Int32))), (3, .int p2), (4, .int p3), (5, .ref (ad (2 + a_3)))]) hx hb dX6_showRow_101 hl (k := 4) rfl rfl (by decide) rfl (fun ls hl => ?_)
                            refine lv_goto (tgt := 67) hx hb dX6_showRow_104 (by decide) ?_
                            exact ih ((v6_152 + p2) + (-20000 : Int32)) (v7_152 + (1 : Int32)) z_155 z h _ _ _ hP hD hS (lv_sub hl [2, 3, 4, 1, 0] rfl) kex
                    obtain ⟨z_158, hz_159, h⟩ := qm_bind h
                    refine loop_153 qm_F p1 (0 : Int32) S z_158 hz_159 _ _ _ hP hD hS (lv_sub hl [6, 7, 2, 1, 0] rfl) (fun H locs ls hP hD hS hl => ?_)
                    refine lv_aload hx hb dX6_showRow_107 (lv_at hl 0 rfl) ?_
                    refine va_getN (D := D) (ci := 0) (v := .ref (ad (6 + a_3))) (C := RX0) (T := TX0) (N := 4) hx hb hts (by decide +kernel) hown hK hP (2 + a_3) (qg_C hk_5) rfl 0 (by decide) (va_Nw.use rfl (qz_frow hZ)) (fun _ h9 => h9) rfl dX6_showRow_109 ?_
                    refine va_calli (va_runV (As := []) (rest := []) ⟨hx, hb, hml, hown, hts⟩ (nX3_length l D A ad cI cQ rest z_158 a_3 hk_5) (cwV 0 hts gX6_showRow_X3_length rfl rfl rfl (by decide +kernel) ⟨Nat.le_of_ble_eq_true rfl, Nat.le_of_ble_eq_true rfl⟩) ⟨qm_blind, va_recv hK hP (ci := 3) (q0 := (6 + a_3)) rfl (qg_M hk_5), fun U hU hW => ⟨rfl, qm_go hA hS hP hK hD hU hW⟩⟩ rfl rfl hl.1 rfl (lv_room (Nat.le_of_ble_eq_true rfl)) dX6_showRow_112 ⟨Nat.le_of_ble_eq_true rfl, Nat.le_of_ble_eq_true rfl⟩) hS (fun _ _ h9 => h9) (fun _ h9 => h9) (fun v u t H1 locs1 ht hvm hw hB hz1 hk1 hS => ?_)
                    obtain ⟨hw1, hw2⟩ := hw
                    have hw1 : ((z_158.1 a_3).1) = v := hw1.symm
                    have hw2 : z_158 = u := hw2.symm
                    subst hw1
                    subst hw2
                    obtain ⟨hP, hD⟩ := qm_bk ht hB
                    have h := Option.some.inj h
                    subst h
                    rw [hQX]
                    refine vx_ret ?_
                    refine W.widen (k := 5) (n := 30) (Nat.le_of_ble_eq_true rfl) (Nat.le_of_ble_eq_true rfl) ?_
                    exact W.iret (v := ((z_158.1 a_3).1)) hx hb hr (fun t ht hW => ⟨⟨((z_158.1 a_3).1), z_158, rfl, rfl, qm_en ht hP hD⟩, hS.F ht⟩) hS.2.2 dX6_showRow_115
                  · refine vx_callv (vx_runV (As := [.int p3]) (rest := []) ⟨hx, hb, hml, hown, hts⟩ (kX0_demandRoomFor hst l D A ad cI cQ rest S a_3 hk_5 p3 _ hz_149) (cwV 1 hts gX6_showRow_X0_demandRoomFor rfl rfl rfl (by decide +kernel) ⟨Nat.le_of_ble_eq_true rfl, Nat.le_of_ble_eq_true rfl⟩) ⟨qm_blindZ, va_recv hK hP (ci := 0) (q0 := (2 + a_3)) rfl (qg_C hk_5), fun U hU hW => ⟨rfl, qm_go hA hS hP hK hD hU hW, qm_Zgo hZ hS hU hW⟩⟩ rfl rfl hl.1 rfl (lv_room (Nat.le_of_ble_eq_true rfl)) dX6_showRow_58 ⟨Nat.le_of_ble_eq_true rfl, Nat.le_of_ble_eq_true rfl⟩) hS (fun _ _ h9 => h9) (fun _ h9 => h9) (fun _ _ h9 => h9) (fun E ce q9 u9 t H1 locs1 ht hvm hw hB hz1 hk1 hS hce hcv hcl => ?_) (fun u t H1 locs1 ht hvm hw hB hz1 hk1 hS => absurd (hw.1) (fun q => by cases q))
                    obtain ⟨hE1, hE2⟩ := hB
                    have hE1 := Sum.inr.inj hE1
                    subst hE1
                    obtain ⟨hP, hD⟩ := qm_bk ht hE2
                    have h := Option.some.inj h
                    subst h
                    rw [hQX]
                    exact vx_out (fun x9 q9 => (hno x9 q9).elim) hlocks hce hcv hcl (fun t9 ht9 hvm9 => ⟨(), trivial, ⟨rfl, qm_en ht9 hP hD⟩, hS.F ht9⟩) hS.2.2 (Nat.le_of_ble_eq_true rfl) (Nat.le_of_ble_eq_true rfl)
                · refine vx_callv (vx_runS (As := [.int (0 : Int32)]) (rest := []) ⟨hx, hb, hml, hown, hts⟩ (kX6_demandInRange hst l D A ad cI cQ rest S (0 : Int32) _ hz_145) (va_cwS 1 hts gX6_showRow_X6_demandInRange rfl rfl rfl (by decide +kernel) ⟨Nat.le_of_ble_eq_true rfl, Nat.le_of_ble_eq_true rfl⟩) ⟨qm_blindZ, fun U hU hW => ⟨rfl, qm_go hA hS hP hK hD hU hW, qm_Zgo hZ hS hU hW⟩⟩ rfl rfl hl.1 rfl (lv_room (Nat.le_of_ble_eq_true rfl)) dX6_showRow_51 ⟨Nat.le_of_ble_eq_true rfl, Nat.le_of_ble_eq_true rfl⟩) hS (fun _ _ h9 => h9) (fun _ h9 => h9) (fun _ _ h9 => h9) (fun E ce q9 u9 t H1 locs1 ht hvm hw hB hz1 hk1 hS hce hcv hcl => ?_) (fun u t H1 locs1 ht hvm hw hB hz1 hk1 hS => absurd (hw.1) (fun q => by cases q))
                  obtain ⟨hE1, hE2⟩ := hB
                  have hE1 := Sum.inr.inj hE1
                  subst hE1
                  obtain ⟨hP, hD⟩ := qm_bk ht hE2
                  have h := Option.some.inj h
                  subst h
                  rw [hQX]
                  exact vx_out (fun x9 q9 => (hno x9 q9).elim) hlocks hce hcv hcl (fun t9 ht9 hvm9 => ⟨(), trivial, ⟨rfl, qm_en ht9 hP hD⟩, hS.F ht9⟩) hS.2.2 (Nat.le_of_ble_eq_true rfl) (Nat.le_of_ble_eq_true rfl)
              · rw [if_neg c_143] at h
                refine lv_iconst (v := (1 : Int32)) hx hb dX6_showRow_46 (by decide) ?_
                refine lv_goto (tgt := 51) hx hb dX6_showRow_47 (by decide) ?_
                obtain ⟨z_160, hz_161, h⟩ := qm_bind h
                rcases z_160 with a_162 | e_163
                · refine vx_callv (vx_runS (As := [.int (1 : Int32)]) (rest := []) ⟨hx, hb, hml, hown, hts⟩ (kX6_demandInRange hst l D A ad cI cQ rest S (1 : Int32) _ hz_161) (va_cwS 1 hts gX6_showRow_X6_demandInRange rfl rfl rfl (by decide +kernel) ⟨Nat.le_of_ble_eq_true rfl, Nat.le_of_ble_eq_true rfl⟩) ⟨qm_blindZ, fun U hU hW => ⟨rfl, qm_go hA hS hP hK hD hU hW, qm_Zgo hZ hS hU hW⟩⟩ rfl rfl hl.1 rfl (lv_room (Nat.le_of_ble_eq_true rfl)) dX6_showRow_51 ⟨Nat.le_of_ble_eq_true rfl, Nat.le_of_ble_eq_true rfl⟩) hS (fun _ _ h9 => h9) (fun _ h9 => h9) (fun _ _ h9 => h9) (fun E ce q9 u9 t H1 locs1 ht hvm hw hB hz1 hk1 hS hce hcv hcl => absurd hB.1 (fun q => by cases q)) (fun u t H1 locs1 ht hvm hw hB hz1 hk1 hS => ?_)
                  rw [Sum.elim_inl] at h
                  obtain ⟨hw1, hw2⟩ := hw
                  have hw2 : S = u := hw2.symm
                  subst hw2
                  obtain ⟨hP, hD⟩ := qm_bk ht hB
                  refine lv_aload hx hb dX6_showRow_54 (lv_at hl 0 rfl) ?_
                  refine lv_iload hx hb dX6_showRow_56 (lv_at hl 5 rfl) ?_
                  obtain ⟨z_164, hz_165, h⟩ := qm_bind h
                  rcases z_164 with a_166 | e_167
                  · refine vx_callv (vx_runV (As := [.int p3]) (rest := []) ⟨hx, hb, hml, hown, hts⟩ (kX0_demandRoomFor hst l D A ad cI cQ rest S a_3 hk_5 p3 _ hz_165) (cwV 1 hts gX6_showRow_X0_demandRoomFor rfl rfl rfl (by decide +kernel) ⟨Nat.le_of_ble_eq_true rfl, Nat.le_of_ble_eq_true rfl⟩) ⟨qm_blindZ, va_recv hK hP (ci := 0) (q0 := (2 + a_3)) rfl (qg_C hk_5), fun U hU hW => ⟨rfl, qm_go hA hS hP hK hD hU hW, qm_Zgo hZ hS hU hW⟩⟩ rfl rfl hl.1 rfl (lv_room (Nat.le_of_ble_eq_true rfl)) dX6_showRow_58 ⟨Nat.le_of_ble_eq_true rfl, Nat.le_of_ble_eq_true rfl⟩) hS (fun _ _ h9 => h9) (fun _ h9 => h9) (fun _ _ h9 => h9) (fun E ce q9 u9 t H1 locs1 ht hvm hw hB hz1 hk1 hS hce hcv hcl => absurd hB.1 (fun q => by cases q)) (fun u t H1 locs1 ht hvm hw hB hz1 hk1 hS => ?_)
                    rw [Sum.elim_inl] at h
                    obtain ⟨hw1, hw2⟩ := hw
                    have hw2 : S = u := hw2.symm
                    subst hw2
                    obtain ⟨hP, hD⟩ := qm_bk ht hB
                    refine lv_iload_n hx hb dX6_showRow_61 rfl (lv_at hl 3 rfl) ?_
                    refine lv_istore (lv' := [(6, .int p1), (5, .ref (ad (2 + a_3))), (0, .ref (ad 0)), (1, .int p0), (2, .int p1), (3, .int p2), (4, .int p3)]) hx hb dX6_showRow_62 hl (by decide) rfl (fun ls hl => ?_)
                    refine lv_iconst (v := (0 : Int32)) hx hb dX6_showRow_64 (by decide) ?_
                    refine lv_istore (lv' := [(7, .int (0 : Int32)), (6, .int p1), (5, .ref (ad (2 + a_3))), (0, .ref (ad 0)), (1, .int p0), (2, .int p1), (3, .int p2), (4, .int p3)]) hx hb dX6_showRow_65 hl (by decide) rfl (fun ls hl => ?_)
                    have loop_169 : ∀ (fuel : Nat) (v6_168 v7_168 : Int32) (S_168 : qm_S) (z : qm_S), fX6_showRow_L67 p2 p3 a_3 fuel v6_168 v7_168 S_168 = some z → ∀ (H : Heap) (locs : List Loc) (ls : Array Slot), va_P D vwCl (qm_W ad cI cQ rest S_168) H → va_D A (qm_W ad cI cQ rest S_168) → va_S A s.heap H locs → lv_has ls 8 [(3, .int p2), (4, .int p3), (5, .ref (ad (2 + a_3))), (6, .int v6_168), (7, .int v7_168)] → (∀ (H : Heap) (locs : List Loc) (ls : Array Slot), va_P D vwCl (qm_W ad cI cQ rest z) H → va_D A (qm_W ad cI cQ rest z) → va_S A s.heap H locs → lv_has ls 8 [(5, .ref (ad (2 + a_3)))] → W p l e ({ frames := 7, cells := 5, slots := 30, locals := 147 } : Room) s m ([.ref (ad 0), .int p0, .int p1, .int p2, .int p3] : List Value).toArray below meth c H locs 5 30 QX (F0 m 107 ls [])) → W p l e ({ frames := 7, cells := 5, slots := 30, locals := 147 } : Room) s m ([.ref (ad 0), .int p0, .int p1, .int p2, .int p3] : List Value).toArray below meth c H locs 5 30 QX (F0 m 67 ls []) := by
                      intro fuel
                      induction fuel with
                      | zero =>
                        intro v6_168 v7_168 S_168 z h
                        rw [fX6_showRow_L67] at h
                        cases h
                      | succ fuel ih =>
                        intro v6_168 v7_168 S_168 z h H locs ls hP hD hS hl kex
                        rw [fX6_showRow_L67] at h
                        refine lv_iload hx hb dX6_showRow_67 (lv_at hl 4 rfl) ?_
                        refine lv_iload hx hb dX6_showRow_69 (lv_at hl 1 rfl) ?_
                        refine lv_icmp_ge (tgt := 107) hx hb dX6_showRow_71 (by decide) (fun c_170 => ?_) (fun c_170 => ?_)
                        · rw [if_pos c_170] at h
                          have h := Option.some.inj h
                          subst h
                          exact kex _ _ _ hP hD hS (lv_sub hl [2] rfl)
                        · rw [if_neg c_170] at h
                          refine lv_aload hx hb dX6_showRow_74 (lv_at hl 2 rfl) ?_
                          refine lv_iload hx hb dX6_showRow_76 (lv_at hl 3 rfl) ?_
                          obtain ⟨z_171, hz_172, h⟩ := qm_bind h
                          refine va_callv (va_runV (As := [.int v6_168]) (rest := []) ⟨hx, hb, hml, hown, hts⟩ (kX0_take l D A ad cI cQ rest S_168 a_3 hk_5 v6_168 z_171 hz_172) (cwV 1 hts gX6_showRow_X0_take rfl rfl rfl (by decide +kernel) ⟨Nat.le_of_ble_eq_true rfl, Nat.le_of_ble_eq_true rfl⟩) ⟨qm_blind, va_recv hK hP (ci := 0) (q0 := (2 + a_3)) rfl (qg_C hk_5), fun U hU hW => ⟨rfl, qm_go hA hS hP hK hD hU hW⟩⟩ rfl rfl hl.1 rfl (lv_room (Nat.le_of_ble_eq_true rfl)) dX6_showRow_78 ⟨Nat.le_of_ble_eq_true rfl, Nat.le_of_ble_eq_true rfl⟩) hS (fun _ _ h9 => h9) (fun _ h9 => h9) (fun u t H1 locs1 ht hvm hw hB hz1 hk1 hS => ?_)
                          have hw : z_171 = u := hw.symm
                          subst hw
                          obtain ⟨hP, hD⟩ := qm_bk ht hB
                          refine lv_iload hx hb dX6_showRow_81 (lv_at hl 3 rfl) ?_
                          refine lv_iload_n hx hb dX6_showRow_83 rfl (lv_at hl 0 rfl) ?_
                          refine lv_iadd hx hb dX6_showRow_84 ?_
                          refine lv_istore (lv' := [(6, .int (v6_168 + p2)), (3, .int p2), (4, .int p3), (5, .ref (ad (2 + a_3))), (7, .int v7_168)]) hx hb dX6_showRow_85 hl (by decide) rfl (fun ls hl => ?_)
                          refine lv_iload hx hb dX6_showRow_87 (lv_at hl 0 rfl) ?_
                          refine lv_sipush (v := (9999 : Int32)) hx hb dX6_showRow_89 (by decide) ?_
                          refine lv_icmp_le (tgt := 101) hx hb dX6_showRow_92 (by decide) (fun c_173 => ?_) (fun c_173 => ?_)
                          · rw [if_pos c_173] at h
                            refine lv_iinc (v := v7_168 + (1 : Int32)) (lv' := [(7, .int (v7_168 + (1 : Int32))), (6, .int (v6_168 + p2)), (3, .int p2), (4, .int p3), (5, .ref (ad (2 + a_3)))]) hx hb dX6_showRow_101 hl (k := 4) rfl rfl (by decide) rfl (fun ls hl => ?_)
                            refine lv_goto (tgt := 67) hx hb dX6_showRow_104 (by decide) ?_
                            exact ih (v6_168 + p2) (v7_168 + (1 : Int32)) z_171 z h _ _ _ hP hD hS (lv_sub hl [2, 3, 4, 1, 0] rfl) kex
                          · rw [if_neg c_173] at h
                            refine lv_iincW (v := (v6_168 + p2) + (-20000 : Int32)) (lv' := [(6, .int ((v6_168 + p2) + (-20000 : Int32))), (3, .int p2), (4, .int p3), (5, .ref (ad (2 + a_3))), (7, .int v7_168)]) hx hb dX6_showRow_95 hl (k := 0) rfl (congrArg (fun q9 : Int32 => (v6_168 + p2) + q9) (show Int32.ofInt (-20000) = (-20000 : Int32) by decide)) (by decide) rfl (fun ls hl => ?_)
                            refine lv_iinc (v := v7_168 + (1 : Int32)) (lv' := [(7, .int (v7_168 + (1 : Int32))), (6, .int ((v6_168 + p2) + (-20000 : Int32))), (3, .int p2), (4, .int p3), (5, .ref (ad (2 + a_3)))]) hx hb dX6_showRow_101 hl (k := 4) rfl rfl (by decide) rfl (fun ls hl => ?_)
                            refine lv_goto (tgt := 67) hx hb dX6_showRow_104 (by decide) ?_
                            exact ih ((v6_168 + p2) + (-20000 : Int32)) (v7_168 + (1 : Int32)) z_171 z h _ _ _ hP hD hS (lv_sub hl [2, 3, 4, 1, 0] rfl) kex
                    obtain ⟨z_174, hz_175, h⟩ := qm_bind h
                    refine loop_169 qm_F p1 (0 : Int32) S z_174 hz_175 _ _ _ hP hD hS (lv_sub hl [6, 7, 2, 1, 0] rfl) (fun H locs ls hP hD hS hl => ?_)
                    refine lv_aload hx hb dX6_showRow_107 (lv_at hl 0 rfl) ?_
                    refine va_getN (D := D) (ci := 0) (v := .ref (ad (6 + a_3))) (C := RX0) (T := TX0) (N := 4) hx hb hts (by decide +kernel) hown hK hP (2 + a_3) (qg_C hk_5) rfl 0 (by decide) (va_Nw.use rfl (qz_frow hZ)) (fun _ h9 => h9) rfl dX6_showRow_109 ?_
                    refine va_calli (va_runV (As := []) (rest := []) ⟨hx, hb, hml, hown, hts⟩ (nX3_length l D A ad cI cQ rest z_174 a_3 hk_5) (cwV 0 hts gX6_showRow_X3_length rfl rfl rfl (by decide +kernel) ⟨Nat.le_of_ble_eq_true rfl, Nat.le_of_ble_eq_true rfl⟩) ⟨qm_blind, va_recv hK hP (ci := 3) (q0 := (6 + a_3)) rfl (qg_M hk_5), fun U hU hW => ⟨rfl, qm_go hA hS hP hK hD hU hW⟩⟩ rfl rfl hl.1 rfl (lv_room (Nat.le_of_ble_eq_true rfl)) dX6_showRow_112 ⟨Nat.le_of_ble_eq_true rfl, Nat.le_of_ble_eq_true rfl⟩) hS (fun _ _ h9 => h9) (fun _ h9 => h9) (fun v u t H1 locs1 ht hvm hw hB hz1 hk1 hS => ?_)
                    obtain ⟨hw1, hw2⟩ := hw
                    have hw1 : ((z_174.1 a_3).1) = v := hw1.symm
                    have hw2 : z_174 = u := hw2.symm
                    subst hw1
                    subst hw2
                    obtain ⟨hP, hD⟩ := qm_bk ht hB
                    have h := Option.some.inj h
                    subst h
                    rw [hQX]
                    refine vx_ret ?_
                    refine W.widen (k := 5) (n := 30) (Nat.le_of_ble_eq_true rfl) (Nat.le_of_ble_eq_true rfl) ?_
                    exact W.iret (v := ((z_174.1 a_3).1)) hx hb hr (fun t ht hW => ⟨⟨((z_174.1 a_3).1), z_174, rfl, rfl, qm_en ht hP hD⟩, hS.F ht⟩) hS.2.2 dX6_showRow_115
                  · refine vx_callv (vx_runV (As := [.int p3]) (rest := []) ⟨hx, hb, hml, hown, hts⟩ (kX0_demandRoomFor hst l D A ad cI cQ rest S a_3 hk_5 p3 _ hz_165) (cwV 1 hts gX6_showRow_X0_demandRoomFor rfl rfl rfl (by decide +kernel) ⟨Nat.le_of_ble_eq_true rfl, Nat.le_of_ble_eq_true rfl⟩) ⟨qm_blindZ, va_recv hK hP (ci := 0) (q0 := (2 + a_3)) rfl (qg_C hk_5), fun U hU hW => ⟨rfl, qm_go hA hS hP hK hD hU hW, qm_Zgo hZ hS hU hW⟩⟩ rfl rfl hl.1 rfl (lv_room (Nat.le_of_ble_eq_true rfl)) dX6_showRow_58 ⟨Nat.le_of_ble_eq_true rfl, Nat.le_of_ble_eq_true rfl⟩) hS (fun _ _ h9 => h9) (fun _ h9 => h9) (fun _ _ h9 => h9) (fun E ce q9 u9 t H1 locs1 ht hvm hw hB hz1 hk1 hS hce hcv hcl => ?_) (fun u t H1 locs1 ht hvm hw hB hz1 hk1 hS => absurd (hw.1) (fun q => by cases q))
                    obtain ⟨hE1, hE2⟩ := hB
                    have hE1 := Sum.inr.inj hE1
                    subst hE1
                    obtain ⟨hP, hD⟩ := qm_bk ht hE2
                    have h := Option.some.inj h
                    subst h
                    rw [hQX]
                    exact vx_out (fun x9 q9 => (hno x9 q9).elim) hlocks hce hcv hcl (fun t9 ht9 hvm9 => ⟨(), trivial, ⟨rfl, qm_en ht9 hP hD⟩, hS.F ht9⟩) hS.2.2 (Nat.le_of_ble_eq_true rfl) (Nat.le_of_ble_eq_true rfl)
                · refine vx_callv (vx_runS (As := [.int (1 : Int32)]) (rest := []) ⟨hx, hb, hml, hown, hts⟩ (kX6_demandInRange hst l D A ad cI cQ rest S (1 : Int32) _ hz_161) (va_cwS 1 hts gX6_showRow_X6_demandInRange rfl rfl rfl (by decide +kernel) ⟨Nat.le_of_ble_eq_true rfl, Nat.le_of_ble_eq_true rfl⟩) ⟨qm_blindZ, fun U hU hW => ⟨rfl, qm_go hA hS hP hK hD hU hW, qm_Zgo hZ hS hU hW⟩⟩ rfl rfl hl.1 rfl (lv_room (Nat.le_of_ble_eq_true rfl)) dX6_showRow_51 ⟨Nat.le_of_ble_eq_true rfl, Nat.le_of_ble_eq_true rfl⟩) hS (fun _ _ h9 => h9) (fun _ h9 => h9) (fun _ _ h9 => h9) (fun E ce q9 u9 t H1 locs1 ht hvm hw hB hz1 hk1 hS hce hcv hcl => ?_) (fun u t H1 locs1 ht hvm hw hB hz1 hk1 hS => absurd (hw.1) (fun q => by cases q))
                  obtain ⟨hE1, hE2⟩ := hB
                  have hE1 := Sum.inr.inj hE1
                  subst hE1
                  obtain ⟨hP, hD⟩ := qm_bk ht hE2
                  have h := Option.some.inj h
                  subst h
                  rw [hQX]
                  exact vx_out (fun x9 q9 => (hno x9 q9).elim) hlocks hce hcv hcl (fun t9 ht9 hvm9 => ⟨(), trivial, ⟨rfl, qm_en ht9 hP hD⟩, hS.F ht9⟩) hS.2.2 (Nat.le_of_ble_eq_true rfl) (Nat.le_of_ble_eq_true rfl)
          · refine vx_callv (vx_runS (As := [.int (1 : Int32)]) (rest := []) ⟨hx, hb, hml, hown, hts⟩ (kX6_demandInRange hst l D A ad cI cQ rest S (1 : Int32) _ hz_123) (va_cwS 1 hts gX6_showRow_X6_demandInRange rfl rfl rfl (by decide +kernel) ⟨Nat.le_of_ble_eq_true rfl, Nat.le_of_ble_eq_true rfl⟩) ⟨qm_blindZ, fun U hU hW => ⟨rfl, qm_go hA hS hP hK hD hU hW, qm_Zgo hZ hS hU hW⟩⟩ rfl rfl hl.1 rfl (lv_room (Nat.le_of_ble_eq_true rfl)) dX6_showRow_30 ⟨Nat.le_of_ble_eq_true rfl, Nat.le_of_ble_eq_true rfl⟩) hS (fun _ _ h9 => h9) (fun _ h9 => h9) (fun _ _ h9 => h9) (fun E ce q9 u9 t H1 locs1 ht hvm hw hB hz1 hk1 hS hce hcv hcl => ?_) (fun u t H1 locs1 ht hvm hw hB hz1 hk1 hS => absurd (hw.1) (fun q => by cases q))
            obtain ⟨hE1, hE2⟩ := hB
            have hE1 := Sum.inr.inj hE1
            subst hE1
            obtain ⟨hP, hD⟩ := qm_bk ht hE2
            have h := Option.some.inj h
            subst h
            rw [hQX]
            exact vx_out (fun x9 q9 => (hno x9 q9).elim) hlocks hce hcv hcl (fun t9 ht9 hvm9 => ⟨(), trivial, ⟨rfl, qm_en ht9 hP hD⟩, hS.F ht9⟩) hS.2.2 (Nat.le_of_ble_eq_true rfl) (Nat.le_of_ble_eq_true rfl)
    · refine vx_callv (vx_runS (As := [.int z_6]) (rest := []) ⟨hx, hb, hml, hown, hts⟩ (kX6_demandInRange hst l D A ad cI cQ rest S z_6 _ hz_9) (va_cwS 1 hts gX6_showRow_X6_demandInRange rfl rfl rfl (by decide +kernel) ⟨Nat.le_of_ble_eq_true rfl, Nat.le_of_ble_eq_true rfl⟩) ⟨qm_blindZ, fun U hU hW => ⟨rfl, qm_go hA hS hP hK hD hU hW, qm_Zgo hZ hS hU hW⟩⟩ rfl rfl hl.1 rfl (lv_room (Nat.le_of_ble_eq_true rfl)) dX6_showRow_11 ⟨Nat.le_of_ble_eq_true rfl, Nat.le_of_ble_eq_true rfl⟩) hS (fun _ _ h9 => h9) (fun _ h9 => h9) (fun _ _ h9 => h9) (fun E ce q9 u9 t H1 locs1 ht hvm hw hB hz1 hk1 hS hce hcv hcl => ?_) (fun u t H1 locs1 ht hvm hw hB hz1 hk1 hS => absurd (hw.1) (fun q => by cases q))
      obtain ⟨hE1, hE2⟩ := hB
      have hE1 := Sum.inr.inj hE1
      subst hE1
      obtain ⟨hP, hD⟩ := qm_bk ht hE2
      have h := Option.some.inj h
      subst h
      rw [hQX]
      exact vx_out (fun x9 q9 => (hno x9 q9).elim) hlocks hce hcv hcl (fun t9 ht9 hvm9 => ⟨(), trivial, ⟨rfl, qm_en ht9 hP hD⟩, hS.F ht9⟩) hS.2.2 (Nat.le_of_ble_eq_true rfl) (Nat.le_of_ble_eq_true rfl)
  · refine qx_callr (vx_runV (As := [.int p0]) (rest := []) ⟨hx, hb, hml, hown, hts⟩ (kX6_counterAt hst l D A ad cI cQ rest S p0 _ hz_2) (cwV 1 hts gX6_showRow_X6_counterAt rfl rfl rfl (by decide +kernel) ⟨Nat.le_of_ble_eq_true rfl, Nat.le_of_ble_eq_true rfl⟩) ⟨qm_blindZ, va_recv hK hP (ci := 6) (q0 := 0) rfl qg_Q, fun U hU hW => ⟨rfl, qm_go hA hS hP hK hD hU hW, qm_Zgo hZ hS hU hW⟩⟩ rfl rfl hl.1 rfl (lv_room (Nat.le_of_ble_eq_true rfl)) dX6_showRow_2 ⟨Nat.le_of_ble_eq_true rfl, Nat.le_of_ble_eq_true rfl⟩) hS (fun _ _ h9 => h9) (fun _ h9 => h9) (fun _ _ h9 => h9) (fun E ce q9 u9 t H1 locs1 ht hvm hw hB hz1 hk1 hS hce hcv hcl => ?_) (fun u ra t H1 locs1 ht hvm hw hB hz1 hk1 hS => absurd (hB.1.choose_spec.1) (fun q => by cases q))
    obtain ⟨hE1, hE2⟩ := hB
    have hE1 := Sum.inr.inj hE1
    subst hE1
    obtain ⟨hP, hD⟩ := qm_bk ht hE2
    have h := Option.some.inj h
    subst h
    rw [hQX]
    exact vx_out (fun x9 q9 => (hno x9 q9).elim) hlocks hce hcv hcl (fun t9 ht9 hvm9 => ⟨(), trivial, ⟨rfl, qm_en ht9 hP hD⟩, hS.F ht9⟩) hS.2.2 (Nat.le_of_ble_eq_true rfl) (Nat.le_of_ble_eq_true rfl)
