/-! ===== what is known at the law's start ===== -/
theorem la_arr {args : Array Value} {s : State} {ty : FieldType} (h : (Cond.arrayClass ty).before args s = true) : ∃ cA, ArrOfT s cA ty ∧ s.vm.findClass ("[" ++ ty.toString) = some cA := by
  obtain ⟨cA, kA, comp, h1, h2, h3⟩ := Cond.arrayClass_spec h
  exact ⟨cA, fun n z => ⟨fun k h => (by cases h), kA, h2, comp, h3⟩, h1⟩
theorem la_arq {args : Array Value} {s : State} {C : String} (h : (Cond.arrayOver (.object C)).before args s = true) : ∃ cA, ArrOfT s cA (.object C) ∧ va_RA s cA (.object C) := by
  obtain ⟨comp, cA, kA, h1, -, h2, h3, h4⟩ := Cond.arrayOver_spec h
  exact ⟨cA, fun n z => ⟨fun k h => (by cases h), kA, h2, comp, h3⟩, kA, comp, h2, h3, h1, h4⟩
theorem la_i0 : ∀ w ∈ wsX00, w ∈ lw_tbl := by decide +kernel
theorem la_i1 : ∀ w ∈ wsX10, w ∈ lw_tbl := by decide +kernel
theorem la_i2 : ∀ w ∈ wsX20, w ∈ lw_tbl := by decide +kernel
theorem la_i3 : ∀ w ∈ wsX30, w ∈ lw_tbl := by decide +kernel
theorem la_i4 : ∀ w ∈ wsX40, w ∈ lw_tbl := by decide +kernel
theorem la_i5 : ∀ w ∈ wsX50, w ∈ lw_tbl := by decide +kernel
theorem la_i6 : ∀ w ∈ wsX60, w ∈ lw_tbl := by decide +kernel
theorem la_start {s : State} {b : Nat} (hts : ∀ w ∈ lw_tbl, w.before #[Value.ref b] s = true) : ∃ (D : va_G) (cI cQ : ClassId), va_K D vwCl (qm_T cI cQ) s ∧ qi_N s ∧ qn_Z s := by
  obtain ⟨c0, i0, k0⟩ := u_known (C := RX0) (T := TX0) (N := 4) (n := 4) hts la_i0 (hts (.instantiable RX0 4) (by decide +kernel))
  obtain ⟨c1, i1, k1⟩ := u_known (C := RX1) (T := TX1) (N := 2) (n := 2) hts la_i1 (hts (.instantiable RX1 2) (by decide +kernel))
  obtain ⟨c2, i2, k2⟩ := u_known (C := RX2) (T := TX2) (N := 1) (n := 1) hts la_i2 (hts (.instantiable RX2 1) (by decide +kernel))
  obtain ⟨c3, i3, k3⟩ := u_known (C := RX3) (T := TX3) (N := 3) (n := 3) hts la_i3 (hts (.instantiable RX3 3) (by decide +kernel))
  obtain ⟨c4, i4, k4⟩ := u_known (C := RX4) (T := TX4) (N := 2) (n := 2) hts la_i4 (hts (.instantiable RX4 2) (by decide +kernel))
  obtain ⟨c5, i5, k5⟩ := u_known (C := RX5) (T := TX5) (N := 3) (n := 3) hts la_i5 (hts (.instantiable RX5 3) (by decide +kernel))
  obtain ⟨c6, i6, k6⟩ := u_known (C := RX6) (T := TX6) (N := 1) (n := 1) hts la_i6 (hts (.instantiable RX6 1) (by decide +kernel))
  obtain ⟨cI, a1, a2⟩ := la_arr (hts (.arrayClass .int) (by decide +kernel))
  have hao := hts (.arrayOver (.object "QueueMiddles$Counter")) (by decide +kernel)
  obtain ⟨cQ, e1, e2⟩ := la_arq hao
  refine ⟨(fun k => ([c0, c1, c2, c3, c4, c5, c6] : List ClassId).getD k c0, fun k => ([i0, i1, i2, i3, i4, i5, i6] : List (Nat → Nat)).getD k i0), cI, cQ, ⟨fun k q hq => ?_, fun k q hk => ?_⟩, ⟨?_, ?_, ?_, ?_, ?_, ?_, ?_, ?_, va_AO.of hao⟩, ?_⟩
  · match k, hq with
    | 0, hq => cases hq; exact k0
    | 1, hq => cases hq; exact k1
    | 2, hq => cases hq; exact k2
    | 3, hq => cases hq; exact k3
    | 4, hq => cases hq; exact k4
    | 5, hq => cases hq; exact k5
    | 6, hq => cases hq; exact k6
    | k + 7, hq => cases hq
  · match k, hk with
    | 0, hk => cases hk; exact ⟨a1, a2⟩
    | 1, hk => cases hk; exact ⟨e1, e2⟩
    | k + 2, hk => cases hk
  · exact va_Nw.of rfl (hts (.methodLinkNest RX6 15 yX0_init RX6) (by decide +kernel))
  · exact va_Nw.of rfl (hts (.methodLinkNest RX0 11 yX3_init RX6) (by decide +kernel))
  · exact va_Nw.of rfl (hts (.methodLinkNest RX0 20 yX5_init RX6) (by decide +kernel))
  · exact va_Nw.of rfl (hts (.methodLinkNest RX0 27 yX1_init RX6) (by decide +kernel))
  · exact va_Nw.of rfl (hts (.methodLinkNest RX1 9 yX2_init RX6) (by decide +kernel))
  · exact va_Nw.of rfl (hts (.methodLinkNest RX2 9 yX4_init RX6) (by decide +kernel))
  · exact va_Nw.of rfl (hts (.methodLinkNest RX3 9 yX4_init RX6) (by decide +kernel))
  · exact va_Nw.of rfl (hts (.methodLinkNest RX5 9 yX4_init RX6) (by decide +kernel))
  · exact ⟨va_Nw.of rfl (hts (.fieldLinkNest RX6 48 RX0 "row" "LQueueMiddles$MarkRow;" RX6) (by decide +kernel)), va_Nw.of rfl (hts (.fieldLinkNest RX6 24 RX0 "numbers" "LQueueMiddles$Tally;" RX6) (by decide +kernel)), va_Nw.of rfl (hts (.fieldLinkNest RX6 124 RX0 "halves" "LQueueMiddles$Halves;" RX6) (by decide +kernel)), va_Nw.of rfl (hts (.fieldLinkNest RX6 74 RX0 "thousandths" "I" RX6) (by decide +kernel))⟩
def la_S0 : qm_S := (fun _ => (0, fun _ => 0), fun _ => 50, fun _ => 0)
abbrev la_ad (a : Nat) (V : Nat → Nat) : Nat → Nat := fun i => ([a, V 1, V 2, V 22, V 42, V 62, V 3, V 23, V 43, V 63, V 10, V 30, V 50, V 70, V 15, V 35, V 55, V 75, V 16, V 19, V 36, V 39, V 56, V 59, V 76, V 79, V 4, V 24, V 44, V 64, V 6, V 26, V 46, V 66, V 8, V 28, V 48, V 68, V 11, V 31, V 51, V 71, V 13, V 33, V 53, V 73, V 17, V 20, V 37, V 40, V 57, V 60, V 77, V 80, V 5, V 25, V 45, V 65, V 7, V 27, V 47, V 67, V 9, V 29, V 49, V 69, V 12, V 32, V 52, V 72, V 14, V 34, V 54, V 74, V 18, V 21, V 38, V 41, V 58, V 61, V 78, V 81] : List Nat).getD i 0
abbrev la_is : List Nat := [0, 1, 2, 22, 42, 62, 3, 23, 43, 63, 10, 30, 50, 70, 15, 35, 55, 75, 16, 19, 36, 39, 56, 59, 76, 79, 4, 24, 44, 64, 6, 26, 46, 66, 8, 28, 48, 68, 11, 31, 51, 71, 13, 33, 53, 73, 17, 20, 37, 40, 57, 60, 77, 80, 5, 25, 45, 65, 7, 27, 47, 67, 9, 29, 49, 69, 12, 32, 52, 72, 14, 34, 54, 74, 18, 21, 38, 41, 58, 61, 78, 81]
set_option maxHeartbeats 4000000 in
set_option maxRecDepth 100000 in
theorem la_wP {D : va_G} {cI cQ : ClassId} {a : Nat} {V : Nat → Nat} {H : Heap} (hP : va_P D vwCl ([] ++ ic_Q cI cQ a V) H) : va_P D vwCl (qm_w (la_ad a V) cI cQ la_S0) H := by
  have h1 : va_P D vwCl ([(a, .inr (6, [.ref (V 1)]))] ++ ((V 1, .inl (cQ, 4, .inr (.inr (.inr (.inr (fun j => some (V (2 + 20 * j)))))))) :: ((((([] : va_W) ++ ic_C cI (V 2) (fun i => V (3 + i))) ++ ic_C cI (V 22) (fun i => V (23 + i))) ++ ic_C cI (V 42) (fun i => V (43 + i))) ++ ic_C cI (V 62) (fun i => V (63 + i))))) H := hP
  have h2 := ip_fix (f' := fun j => some (la_ad a V (2 + j))) h1 (fun j hj => by rcases (show j = 0 ∨ j = 1 ∨ j = 2 ∨ j = 3 by omega) with rfl | rfl | rfl | rfl <;> rfl)
  exact h2.sub la_is rfl
set_option maxHeartbeats 4000000 in
set_option maxRecDepth 100000 in
theorem la_wD {A : Nat → Prop} {cI cQ : ClassId} {a : Nat} {V : Nat → Nat} (hD : va_D A ([] ++ ic_Q cI cQ a V)) : va_D A (qm_w (la_ad a V) cI cQ la_S0) := by
  have h1 : va_D A ([(a, .inr (6, [.ref (V 1)]))] ++ ((V 1, .inl (cQ, 4, .inr (.inr (.inr (.inr (fun j => some (V (2 + 20 * j)))))))) :: ((((([] : va_W) ++ ic_C cI (V 2) (fun i => V (3 + i))) ++ ic_C cI (V 22) (fun i => V (23 + i))) ++ ic_C cI (V 42) (fun i => V (43 + i))) ++ ic_C cI (V 62) (fun i => V (63 + i))))) := hD
  have h2 : va_D A ([(a, .inr (6, [.ref (V 1)]))] ++ ((V 1, .inl (cQ, 4, .inr (.inr (.inr (.inr (fun j => some (la_ad a V (2 + j)))))))) :: ((((([] : va_W) ++ ic_C cI (V 2) (fun i => V (3 + i))) ++ ic_C cI (V 22) (fun i => V (23 + i))) ++ ic_C cI (V 42) (fun i => V (43 + i))) ++ ic_C cI (V 62) (fun i => V (63 + i))))) := h1.set (p := 1) (e := .inl (cQ, 4, .inr (.inr (.inr (.inr (fun j => some (la_ad a V (2 + j)))))))) rfl
  exact h2.sub la_is (by decide +kernel) rfl
theorem pv_0 : pv_R la_S0 := by
  intro k hk
  refine ⟨0, 0, fun _ => 0, fun _ => 0, fun _ => 0, fun _ => 0, 50, ⟨by omega, by omega, fun i j _ hj => absurd hj (by omega), fun j hj => absurd hj (by omega), rfl, fun i j _ hj => absurd hj (by omega), fun j hj => absurd hj (by omega)⟩, ⟨⟨⟨rfl, rfl, rfl⟩, fun j hj => absurd hj (by omega), fun j hj => absurd hj (by omega), fun j hj => absurd hj (by omega)⟩, ⟨0, fun _ => 0, fun _ => 0, ⟨rfl, rfl, rfl⟩, fun j hj => absurd hj (by omega), fun j hj => absurd hj (by omega), fun i j _ hj => absurd hj (by omega), ⟨fun j hj => absurd hj (by omega), fun j hj => absurd hj (by omega)⟩, rfl, fun y => rfl⟩, ⟨0, 0, fun _ => 0, fun _ => 0, ⟨⟨⟨rfl, fun j hj => absurd hj (by omega), fun j _ hj => absurd hj (by omega)⟩, ⟨rfl, fun j hj => absurd hj (by omega), fun j _ hj => absurd hj (by omega)⟩⟩, ⟨rfl, rfl⟩, fun y => rfl, fun y hy => absurd hy (Nat.lt_irrefl 0)⟩, rfl, by omega, by omega⟩, rfl⟩, pv_J.empty (by omega) (by omega)⟩
set_option maxHeartbeats 4000000 in
set_option maxRecDepth 100000 in
theorem law_entry {p : Program} {e : Env} {s : State} {m : MethodId} {below : List Frame} {meth : Method} {c : Code} (l : Launch) {b L : Nat} {xs : Nat → Int32} {Q : State → Prop} (hL : L ≤ 260) (hx : p.tables.exec = Jvm.exec) (hb : c.code = cL_law) (hml : c.maxLocals = 6) (hown : s.vm.findClass RL = some m.cls) (hts : ∀ w ∈ lw_tbl, w.before #[Value.ref b] s = true) (hX : va_X b L xs s s.heap) (hbl : b < s.heap.size)
    (hhalt : ∀ (H : Heap) (locs : List Loc) (ls : Array Slot), va_S (fun q : Nat => s.heap.size ≤ q) s.heap H locs → W p l e room_1 s m #[Value.ref b] below meth c H locs 2820 16920 Q (F0 m 111 ls [])) : W p l e room_1 s m #[Value.ref b] below meth c s.heap [] 0 0 Q (entryFrame m ([Value.ref b] : List Value).toArray 6) := by
  obtain ⟨D, cI, cQ, hK, hN, hZ⟩ := la_start hts
  generalize hAe : (fun q : Nat => s.heap.size ≤ q) = A at hhalt
  have hA : ∀ q : Nat, s.heap.size ≤ q → A q := fun q h => by rw [← hAe]; exact h
  have hbA : ¬ A b := by rw [← hAe]; exact Nat.not_le.mpr hbl
  have hts2 : ∀ w ∈ wsL_law, w.before #[Value.ref b] s = true := fun w h => hts w (wsL_law_in w h)
  have hS : va_S A s.heap s.heap [] := va_S.rf
  have hP : va_P D vwCl [] s.heap := fun k q h => by simp at h
  have hD : va_D A [] := ⟨fun i j p q h => by simp at h, fun k q h => by simp at h⟩
  have hl := lv_entry ([.ref b]) (n := 6) (Nat.le_of_ble_eq_true rfl)
  rw [lg_entry_eq]
  generalize (lg_sl ([.ref b]) ++ List.replicate (6 - (lg_sl ([.ref b])).length) Slot.unset).toArray = ls at hl ⊢
  have hl : lv_has ls 6 [(0, .ref b)] := hl
  refine va_new (ci := 6) (fs := [.null]) (C := RX6) (T := TX6) (N := 1) hx hb hts la_i6 tyX6 tyX6_ok hown (hts (.classLink RL 15 RX6) (by decide +kernel)) (hts (.instantiable RX6 1) (by decide +kernel)) (hts (.initialized RX6) (by decide +kernel)) hK hP hD hS hA rfl (fun j hj => by rcases (show j = 0 by omega) with rfl; rfl) (Nat.le_of_ble_eq_true rfl) (Nat.le_of_ble_eq_true rfl) dL_law_0 (fun a H hP hD hS => ?_)
  refine lv_dup hx hb dL_law_3 rfl ?_
  refine va_callv (va_runI (As := []) (rest := [.ref a]) ⟨hx, hb, hml, hown, hts2⟩ (kX6_init l D A cI cQ [] a) (cwI 0 hts2 gL_law_X6_init rfl rfl rfl (hts (.initialized RX6) (by decide +kernel)) (hts (.methodLink RL 92 yX6_init) (by decide +kernel)) (hts (.instanceMethod yX6_init) (by decide +kernel)) rfl (by decide +kernel) ⟨Nat.le_of_ble_eq_true rfl, Nat.le_of_ble_eq_true rfl⟩) ⟨qi_blind, fun U hU hW => ⟨rfl, qm_go hA hS hP hK hD hU hW, qi_go hN hW⟩⟩ rfl rfl hl.1 rfl (lv_room (Nat.le_of_ble_eq_true rfl)) dL_law_4 ⟨Nat.le_of_ble_eq_true rfl, Nat.le_of_ble_eq_true rfl⟩) hS (fun _ _ h9 => h9) (fun _ h9 => h9) (fun V t H1 locs1 ht hvm hw hB hz1 hk1 hS => ?_)
  obtain ⟨hP, hD⟩ := qm_bk ht hB
  clear hB
  have hP := la_wP hP
  have hD := la_wD hD
  have e9 : qm_w (la_ad a V) cI cQ la_S0 = qm_W (la_ad a V) cI cQ [] la_S0 := (List.append_nil _).symm
  rw [e9] at hP hD
  refine lv_astore_n (lv' := [(1, .ref a), (0, .ref b)]) hx hb dL_law_7 rfl hl (by decide) rfl (fun ls hl => ?_)
  refine lv_iconst (v := (0 : Int32)) hx hb dL_law_8 (by decide) ?_
  refine lv_istore_n (lv' := [(2, .int (0 : Int32)), (1, .ref a), (0, .ref b)]) hx hb dL_law_9 rfl hl (by decide) rfl (fun ls hl => ?_)
  refine W.widen (k := 2820) (n := 16920) (Nat.le_of_ble_eq_true rfl) (Nat.le_of_ble_eq_true rfl) ?_
  obtain ⟨z, hz⟩ := pl_law hL xs qm_F 0 la_S0 pv_0 (by omega) (by rw [qm_F_big]; omega)
  have hz : fL_law_L10 L xs qm_F (0 : Int32) la_S0 = some z := hz
  have hl : lv_has ls 6 [(2, .int (0 : Int32)), (1, .ref (la_ad a V 0)), (0, .ref b)] := hl
  exact pl_loop hhalt hx hb hml hown hts2 hX hbl hbA hA hK hZ la_S0 z (by rw [hz]; rfl) hP hD hS hl
