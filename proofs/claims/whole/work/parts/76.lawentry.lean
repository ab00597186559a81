theorem la_stack {l : Launch} (h : l.flags = flags0) : l.stackTraces = false := by
  unfold Launch.stackTraces
  rw [h]
  decide +kernel
set_option maxHeartbeats 4000000 in
set_option maxRecDepth 100000 in
theorem law_entry {p : Program} {e : Env} {s : State} {m : MethodId} {below : List Frame} {meth : Method} {c : Code} (l : Launch) (hst : l.stackTraces = false) {b L : Nat} {xs : Nat → Int32} {Q : State → Prop} (hL : L ≤ 2560) (hx : p.tables.exec = Jvm.exec) (hb : c.code = cL_law) (hml : c.maxLocals = 9) (hown : s.vm.findClass RL = some m.cls) (hts : ∀ w ∈ lw_tbl, w.before #[Value.ref b] s = true) (hX : va_X b L xs s s.heap) (hbl : b < s.heap.size) (hgv : (Jvm.Cond.and given_1 narrow_1).before #[Value.ref b] s = true)
    (hhalt : ∀ (H : Heap) (locs : List Loc) (ls : Array Slot) (cells slots : Nat), va_S (fun q : Nat => s.heap.size ≤ q) s.heap H locs → cells ≤ 601024 → slots ≤ 7293034 → W p l e room_1 s m #[Value.ref b] below meth c H locs cells slots Q (F0 m 1587 ls [])) : W p l e room_1 s m #[Value.ref b] below meth c s.heap [] 0 0 Q (entryFrame m ([Value.ref b] : List Value).toArray 9) := by
  obtain ⟨D, cI, cQ, cL, cD, hK, hN, hZ⟩ := la_start hts hgv
  generalize hAe : (fun q : Nat => s.heap.size ≤ q) = A at hZ hhalt
  have hA : ∀ q : Nat, s.heap.size ≤ q → A q := fun q h => by rw [← hAe]; exact h
  have hbA : ¬ A b := by rw [← hAe]; exact Nat.not_le.mpr hbl
  have hts2 : ∀ w ∈ wsL_law, w.before #[Value.ref b] s = true := fun w h => hts w (wsL_law_in w h)
  have hKq : va_K D vwCl (qm_T cI cQ) s := hK.sub [0, 1] rfl
  have hKm : va_K D vwCl (mm_T cI) s := hK.sub [0] rfl
  have hS : va_S A s.heap s.heap [] := va_S.rf
  have hP : va_P D vwCl [] s.heap := fun k q h => by simp at h
  have hD : va_D A [] := ⟨fun i j p q h => by simp at h, fun k q h => by simp at h⟩
  have hl := lv_entry ([.ref b]) (n := 9) (Nat.le_of_ble_eq_true rfl)
  rw [lg_entry_eq]
  generalize (lg_sl ([.ref b]) ++ List.replicate (9 - (lg_sl ([.ref b])).length) Slot.unset).toArray = ls at hl ⊢
  have hl : lv_has ls 9 [(0, .ref b)] := hl
  refine va_new (ci := 6) (fs := [.null]) (C := RX6) (T := TX6) (N := 1) hx hb hts la_i6 tyX6 tyX6_ok hown (hts (.classLink RL 8 RX6) (by decide +kernel)) (hts (.instantiable RX6 1) (by decide +kernel)) (hts (.initialized RX6) (by decide +kernel)) hKq hP hD hS hA rfl (fun j hj => by rcases (show j = 0 by omega) with rfl; rfl) (Nat.le_of_ble_eq_true rfl) (Nat.le_of_ble_eq_true rfl) dL_law_0 (fun a H hP hD hS => ?_)
  refine lv_dup hx hb dL_law_3 rfl ?_
  refine va_callv (va_runI (As := []) (rest := [.ref a]) ⟨hx, hb, hml, hown, hts2⟩ (kX6_init l D A cI cQ [] a) (cwI 0 hts2 gL_law_X6_init rfl rfl rfl (hts (.initialized RX6) (by decide +kernel)) (hts (.methodLink RL 85 yX6_init) (by decide +kernel)) (hts (.instanceMethod yX6_init) (by decide +kernel)) rfl (by decide +kernel) ⟨Nat.le_of_ble_eq_true rfl, Nat.le_of_ble_eq_true rfl⟩) ⟨qi_blind, fun U hU hW => ⟨rfl, qm_go hA hS hP hKq hD hU hW, qi_go hN hW⟩⟩ rfl rfl hl.1 rfl (lv_room (Nat.le_of_ble_eq_true rfl)) dL_law_4 ⟨Nat.le_of_ble_eq_true rfl, Nat.le_of_ble_eq_true rfl⟩) hS (fun _ _ h9 => h9) (fun _ h9 => h9) (fun V t H1 locs1 ht hvm hw hB hz1 hk1 hS => ?_)
  obtain ⟨hP, hD⟩ := qm_bk ht hB
  clear hB
  have hP := la_wP hP
  have hD := la_wD hD
  refine lv_astore_n (lv' := [(1, .ref a), (0, .ref b)]) hx hb dL_law_7 rfl hl (by decide) rfl (fun ls hl => ?_)
  refine va_new (ci := 7) (fs := [.null, .null, .null, .null, .null, .null, .null, .null, .null, .null, .int 0]) (C := RX7) (T := TX7) (N := 11) hx hb hts la_i7 tyX7 tyX7_ok hown (hts (.classLink RL 86 RX7) (by decide +kernel)) (hts (.instantiable RX7 11) (by decide +kernel)) (hts (.initialized RX7) (by decide +kernel)) hKm hP hD hS hA rfl (fun j hj => by rcases (show j = 0 ∨ j = 1 ∨ j = 2 ∨ j = 3 ∨ j = 4 ∨ j = 5 ∨ j = 6 ∨ j = 7 ∨ j = 8 ∨ j = 9 ∨ j = 10 by omega) with rfl | rfl | rfl | rfl | rfl | rfl | rfl | rfl | rfl | rfl | rfl <;> rfl) (Nat.le_of_ble_eq_true rfl) (Nat.le_of_ble_eq_true rfl) dL_law_8 (fun a2 H hP hD hS => ?_)
  refine lv_dup hx hb dL_law_11 rfl ?_
  refine va_callv (va_runI (As := []) (rest := [.ref a2]) ⟨hx, hb, hml, hown, hts2⟩ (kX7_init l D A cI (qm_w (la_ad a V) cI cQ la_S0) a2) (cwI 0 hts2 gL_law_X7_init rfl rfl rfl (hts (.initialized RX7) (by decide +kernel)) (hts (.methodLink RL 88 yX7_init) (by decide +kernel)) (hts (.instanceMethod yX7_init) (by decide +kernel)) rfl (by decide +kernel) ⟨Nat.le_of_ble_eq_true rfl, Nat.le_of_ble_eq_true rfl⟩) ⟨qi_blind, fun U hU hW => ⟨rfl, qm_go hA hS hP hKm hD hU hW, qi_go hN hW⟩⟩ rfl rfl hl.1 rfl (lv_room (Nat.le_of_ble_eq_true rfl)) dL_law_12 ⟨Nat.le_of_ble_eq_true rfl, Nat.le_of_ble_eq_true rfl⟩) hS (fun _ _ h9 => h9) (fun _ h9 => h9) (fun u t H1 locs1 ht hvm hw hB hz1 hk1 hS => ?_)
  obtain ⟨hP, hD⟩ := qm_bk ht hB
  clear hB
  have hP : va_P D vwCl (qm_w (la_ad a V) cI cQ la_S0 ++ mm_w (la_am a2 u.1) cI (la_M0 u.2)) H1 := hP
  have hD : va_D A (qm_w (la_ad a V) cI cQ la_S0 ++ mm_w (la_am a2 u.1) cI (la_M0 u.2)) := hD
  refine lv_astore_n (lv' := [(2, .ref a2), (1, .ref a), (0, .ref b)]) hx hb dL_law_15 rfl hl (by decide) rfl (fun ls hl => ?_)
  refine lv_iconst (v := (1 : Int32)) hx hb dL_law_16 (by decide) ?_
  refine va_newa (atype := .long) (ty := .long) hx hb (hts (.arrayClass .long) (by decide +kernel)) rfl hK hP hD hS hA (N' := 1) (a0 := (1, .inr (.inl (fun _ => 0)))) (fun cA => rfl) (by decide) rfl (Nat.le_of_ble_eq_true rfl) (Nat.le_of_ble_eq_true rfl) (Nat.le_of_ble_eq_true rfl) dL_law_17 (fun aL c1 H hK1 hP hD hS => ?_)
  have q1 : cL = c1 := Option.some.inj (((hK.2 2 _ rfl).2 : s.vm.findClass ("[" ++ FieldType.long.toString) = some cL).symm.trans ((hK1.2 4 _ rfl).2 : s.vm.findClass ("[" ++ FieldType.long.toString) = some c1))
  subst q1
  refine lv_astore_n (lv' := [(3, .ref aL), (2, .ref a2), (1, .ref a), (0, .ref b)]) hx hb dL_law_19 rfl hl (by decide) rfl (fun ls hl => ?_)
  refine lv_iconst (v := (1 : Int32)) hx hb dL_law_20 (by decide) ?_
  refine va_newa (atype := .double) (ty := .double) hx hb (hts (.arrayClass .double) (by decide +kernel)) rfl hK hP hD hS hA (N' := 1) (a0 := (1, .inr (.inr (.inr (.inl (fun _ => 0)))))) (fun cA => rfl) (by decide) rfl (Nat.le_of_ble_eq_true rfl) (Nat.le_of_ble_eq_true rfl) (Nat.le_of_ble_eq_true rfl) dL_law_21 (fun aD c2 H hK2 hP hD hS => ?_)
  have q2 : cD = c2 := Option.some.inj (((hK.2 3 _ rfl).2 : s.vm.findClass ("[" ++ FieldType.double.toString) = some cD).symm.trans ((hK2.2 4 _ rfl).2 : s.vm.findClass ("[" ++ FieldType.double.toString) = some c2))
  subst q2
  refine lv_astore (lv' := [(4, .ref aD), (3, .ref aL), (2, .ref a2), (1, .ref a), (0, .ref b)]) hx hb dL_law_23 hl (by decide) rfl (fun ls hl => ?_)
  refine lv_iconst (v := (0 : Int32)) hx hb dL_law_25 (by decide) ?_
  refine lv_istore (lv' := [(5, .int (nI (5 * 0))), (4, .ref aD), (3, .ref aL), (2, .ref a2), (1, .ref a), (0, .ref b)]) hx hb dL_law_26 hl (by decide) rfl (fun ls hl => ?_)
  rw [List.append_assoc (qm_w (la_ad a V) cI cQ la_S0 ++ mm_w (la_am a2 u.1) cI (la_M0 u.2))] at hP hD
  have hP := hP.swap
  have hD := hD.swap
  have hP : va_P D vwCl (mm_W (la_pre (la_ad a V) cI cQ cL cD aL aD la_S0 (fun _ => 0) (fun _ => 0)) (la_am a2 u.1) cI (la_M0 u.2)) H := hP
  have hD : va_D A (mm_W (la_pre (la_ad a V) cI cQ cL cD aL aD la_S0 (fun _ => 0) (fun _ => 0)) (la_am a2 u.1) cI (la_M0 u.2)) := hD
  rw [← la_W] at hP hD
  have G : la_H l p s m c b L xs D A cI cQ cL cD := ⟨⟨hx, hb, hml, hown⟩, hts2, ⟨hX, hbl, hbA, hL⟩, ⟨hA, hK, hZ⟩, hst⟩
  have hl : lv_has ls 9 (la_l 0 b (la_ad a V) (la_am a2 u.1) aL aD) := hl
  exact lc_loop hhalt G 512 0 la_S0 (la_M0 u.2) (fun _ => 0) (fun _ => 0) _ _ _ _ _ (by omega) (st_0 hw) hP hD hS hl (Nat.le_of_ble_eq_true rfl) (Nat.le_of_ble_eq_true rfl) (by omega)
