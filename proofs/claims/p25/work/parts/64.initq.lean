theorem arrV_cong9 {cI : ClassId} {N : Nat} {f f' : Nat → Value} (h : ∀ j, j < N → f j = f' j) : arrV cI N f = arrV cI N f' := by
  unfold arrV
  rw [show (fun j : Fin N => f j.val) = fun j => f' j.val from funext fun j => h j.val j.isLt]
theorem ip_fix {D : va_G} {cl : List vw_C} {l1 l2 : va_W} {q n : Nat} {cQ : ClassId} {f f' : Nat → Option Nat} {H : Heap} (h : va_P D cl (l1 ++ ((q, .inl (cQ, n, .inr (.inr (.inr (.inr f))))) :: l2)) H) (e : ∀ j, j < n → f j = f' j) : va_P D cl (l1 ++ ((q, .inl (cQ, n, .inr (.inr (.inr (.inr f'))))) :: l2)) H := by
  intro k z hk
  by_cases hl : k = l1.length
  · subst hl
    have h0 := h l1.length (q, .inl (cQ, n, .inr (.inr (.inr (.inr f))))) (by simp)
    rw [List.getElem?_append_right (Nat.le_refl _), Nat.sub_self] at hk
    have hk := Option.some.inj hk
    subst hk
    have e2 : vp_cell cQ (n, .inr (.inr (.inr (.inr f)))) = vp_cell cQ (n, .inr (.inr (.inr (.inr f')))) := by
      rw [vp_cell_q, vp_cell_q]
      exact arrV_cong9 (fun j hj => by rw [e j hj])
    show H[q]? = some (vp_cell cQ (n, .inr (.inr (.inr (.inr f')))))
    rw [← e2]
    exact h0
  · refine h k z ?_
    rcases Nat.lt_or_ge k l1.length with c | c
    · rw [List.getElem?_append_left c] at hk ⊢
      exact hk
    · rw [List.getElem?_append_right c] at hk ⊢
      obtain ⟨i, hi⟩ : ∃ i, k - l1.length = i + 1 := ⟨k - l1.length - 1, by omega⟩
      rw [hi] at hk ⊢
      exact hk
def ic_Q (cI cQ : ClassId) (a : Nat) (V : Nat → Nat) : va_W := [(a, .inr (6, [.ref (V 1)]))] ++ ((V 1, .inl (cQ, 4, .inr (.inr (.inr (.inr (fun j => some (V (2 + 20 * j)))))))) :: (((([] ++ ic_C cI (V 2) (fun i => V (3 + i))) ++ ic_C cI (V 22) (fun i => V (23 + i))) ++ ic_C cI (V 42) (fun i => V (43 + i))) ++ ic_C cI (V 62) (fun i => V (63 + i))))
set_option maxHeartbeats 4000000 in
set_option maxRecDepth 100000 in
theorem kX6_init (l : Launch) (D : va_G) (A : Nat → Prop) (cI cQ : ClassId) (w : va_W) (a : Nat) : Met l yX6_init wsX6_init ({ frames := 6, cells := 81, slots := 16916, locals := 120 }) (va_Pc [.ref a] (qi_B D A (qm_T cI cQ) (w ++ [(a, .inr (6, [.null]))]))) (va_Qv (fun (_ : Nat → Nat) => True) (fun V t => qm_E D A (w ++ ic_Q cI cQ a V) t) A) 81 16916 A := by
  refine Met.ofW (cc := cX6_init) (maxL := 2) (ret := none) (by decide) rfl ?_
  intro p e s m args below meth c s₁ B hml hv
  obtain ⟨rfl, ⟨hA, hP, hK, hD⟩, hN⟩ := hv
  have hx := B.exec
  have hb := B.bytes
  have hr := B.returns
  have hts := atoms_spec (ws := wsX6_init) B.pre
  have hown : s.vm.findClass RX6 = some m.cls := findClass_of_methodNamed B.named
  have hlocks := B.notSynchronized
  have hin : meth.name = "<init>" := (name_of_methodNamed B.named B.method).1
  have hS : va_S A s.heap s.heap [] := va_S.rf
  have hl := lv_entry ([.ref a]) (n := 2) (Nat.le_of_ble_eq_true rfl)
  rw [lg_entry_eq]
  generalize (lg_sl ([.ref a]) ++ List.replicate (2 - (lg_sl ([.ref a])).length) Slot.unset).toArray = ls at hl ⊢
  have hl : lv_has ls 2 [(0, .ref a)] := hl
  refine lv_aload_n hx hb dX6_init_0 rfl (lv_at hl 0 rfl) ?_
  refine W.objInit hx hb hown (hts (.methodLink RX6 1 objectInit) (by decide +kernel)) (hts (.instanceMethod objectInit) (by decide +kernel)) (hts _ (List.mem_cons_of_mem _ (List.mem_append_left _ (List.mem_append_left _ (List.mem_append_left _ (List.mem_append_left _ (List.mem_append_left _ (List.mem_append_left _ (List.mem_append_left _ (List.mem_append_left _ (List.mem_of_getElem? (i := 2) rfl))))))))))) rfl (by rw [hml]; exact hl.1) rfl dX6_init_1 (Nat.le_of_ble_eq_true rfl) (Nat.le_of_ble_eq_true rfl) ?_
  refine W.eq (g2 := F0 m 4 ls []) rfl ?_
  refine lv_aload_n hx hb dX6_init_4 rfl (lv_at hl 0 rfl) ?_
  refine lv_iconst (v := (4 : Int32)) hx hb dX6_init_5 (by decide) ?_
  refine qn_newq hx hb hown (hts (.classLink RX6 9 RX0) (by decide +kernel)) (qi_ao hN) hK rfl hP hD hS hA (N := 4) (by decide) rfl (Nat.le_of_ble_eq_true rfl) (Nat.le_of_ble_eq_true rfl) (Nat.le_of_ble_eq_true rfl) dX6_init_6 (fun q H hP hD hS => ?_)
  refine va_putF (D := D) (ci := 6) (v := .ref q) (ty := (.array (.object "QueueMiddles$Counter"))) (C := RX6) (T := TX6) (N := 1) hx hb hts (by decide +kernel) tyX6 tyX6_ok nmX6 hown hK hP hD hS w.length in_get rfl 0 (by decide) (hts (.fieldLink RX6 11 "QueueMiddles" "counters" "[LQueueMiddles$Counter;") (by decide +kernel)) (fun _ h9 => h9) rfl hin rfl (by decide +kernel) rfl rfl (Nat.le_of_ble_eq_true rfl) dX6_init_9 (fun H locs hP hD hS => ?_)
  rw [in_set] at hP hD
  refine lv_iconst (v := (0 : Int32)) hx hb dX6_init_12 (by decide) ?_
  refine lv_istore_n (lv' := [(1, .int (0 : Int32)), (0, .ref a)]) hx hb dX6_init_13 rfl hl (by decide) rfl (fun ls hl => ?_)
  have hP : va_P D vwCl ((w ++ [(a, .inr (6, [.ref q]))]) ++ ((q, .inl (cQ, 4, .inr (.inr (.inr (.inr (fun _ => none)))))) :: [])) H := hP
  have hD : va_D A ((w ++ [(a, .inr (6, [.ref q]))]) ++ ((q, .inl (cQ, 4, .inr (.inr (.inr (.inr (fun _ => none)))))) :: [])) := hD
  refine lv_iload_n hx hb dX6_init_14 rfl (lv_at hl 0 rfl) ?_
  refine lv_aload_n hx hb dX6_init_15 rfl (lv_at hl 1 rfl) ?_
  refine va_get (D := D) (ci := 6) (v := .ref q) (C := RX6) (T := TX6) (N := 1) hx hb hts (by decide +kernel) hown hK hP w.length in_get rfl 0 (by decide) (hts (.fieldLink RX6 11 "QueueMiddles" "counters" "[LQueueMiddles$Counter;") (by decide +kernel)) (fun _ h9 => h9) rfl dX6_init_16 ?_
  refine va_alen hx hb hK hP (w.length + 1) 1 in_get1 rfl (v := (4 : Int32)) rfl dX6_init_19 ?_
  refine lv_icmp_ge (tgt := 42) hx hb dX6_init_20 (by decide) (fun c => absurd c (by decide)) (fun _ => ?_)
  refine lv_aload_n hx hb dX6_init_23 rfl (lv_at hl 1 rfl) ?_
  refine va_get (D := D) (ci := 6) (v := .ref q) (C := RX6) (T := TX6) (N := 1) hx hb hts (by decide +kernel) hown hK hP w.length in_get rfl 0 (by decide) (hts (.fieldLink RX6 11 "QueueMiddles" "counters" "[LQueueMiddles$Counter;") (by decide +kernel)) (fun _ h9 => h9) rfl dX6_init_24 ?_
  refine lv_iload_n hx hb dX6_init_27 rfl (lv_at hl 0 rfl) ?_
  refine va_new (ci := 0) (fs := [.null, .null, .null, .int 0]) (C := RX0) (T := TX0) (N := 4) hx hb hts (by decide +kernel) tyX0 tyX0_ok hown (hts (.classLink RX6 9 RX0) (by decide +kernel)) (hts (.instantiable RX0 4) (by decide +kernel)) (hts (.initialized RX0) (by decide +kernel)) hK hP hD hS hA rfl (fun j hj => by rcases (show j = 0 ∨ j = 1 ∨ j = 2 ∨ j = 3 by omega) with rfl | rfl | rfl | rfl <;> rfl) (Nat.le_of_ble_eq_true rfl) (Nat.le_of_ble_eq_true rfl) dX6_init_28 (fun c0 H hP hD hS => ?_)
  refine lv_dup hx hb dX6_init_31 rfl ?_
  refine va_callv (va_runIN (As := []) (rest := [.ref c0, .int (0 : Int32), .ref q]) ⟨hx, hb, hml, hown, hts⟩ (kX0_init l D A cI cQ ((w ++ [(a, .inr (6, [.ref q]))]) ++ ((q, .inl (cQ, 4, .inr (.inr (.inr (.inr (fun _ => none)))))) :: [])) c0) ⟨va_cnB 0 hts gX6_init_X0_init_n15 rfl rfl rfl (qi_n0 hN) (hts (.initialized RX0) (by decide +kernel)) (by decide +kernel) ⟨Nat.le_of_ble_eq_true rfl, Nat.le_of_ble_eq_true rfl⟩, rfl, hts (.instanceMethod yX0_init) (by decide +kernel)⟩ ⟨qi_blind, fun U hU hW => ⟨rfl, qm_go hA hS hP hK hD hU hW, qi_go hN hW⟩⟩ rfl rfl hl.1 rfl (lv_room (Nat.le_of_ble_eq_true rfl)) dX6_init_32 ⟨Nat.le_of_ble_eq_true rfl, Nat.le_of_ble_eq_true rfl⟩) hS (fun _ _ h9 => h9) (fun _ h9 => h9) (fun u0 t H locs1 ht hvm hw hB hz1 hk1 hS => ?_)
  obtain ⟨hP, hD⟩ := qm_bk ht hB
  have e8 : ((w ++ [(a, .inr (6, [.ref q]))]) ++ ((q, .inl (cQ, 4, .inr (.inr (.inr (.inr (fun _ => none)))))) :: [])) ++ ic_C cI c0 u0 = (w ++ [(a, .inr (6, [.ref q]))]) ++ ((q, .inl (cQ, 4, .inr (.inr (.inr (.inr (fun _ => none)))))) :: ([] ++ ic_C cI c0 u0)) := List.append_assoc _ _ _
  rw [e8] at hP hD
  refine va_astq hx hb hK hP hD hS (w.length + 1) 1 (w.length + 2 + ([] : va_W).length) 0 in_get1 rfl (in_getk (t := []) (z := (c0, .inr (0, [.ref (u0 0), .ref (u0 7), .ref (u0 12), .int 50]))) (r := ((ic_M cI (u0 0) (fun i => u0 (1 + i)) ++ ic_T cI (u0 7) (fun i => u0 (8 + i))) ++ ic_H cI (u0 12) (fun i => u0 (13 + i))))) rfl (show vp_in (nI 0) 4 from vp_in_nI (by omega) (by omega)) dX6_init_35 (fun H locs hP hD hS => ?_)
  rw [in_set1] at hP hD
  have hP : va_P D vwCl ((w ++ [(a, .inr (6, [.ref q]))]) ++ ((q, .inl (cQ, 4, .inr (.inr (.inr (.inr (va_up (fun _ => none) (0 : Int32).toNatClampNeg (some c0))))))) :: ([] ++ ic_C cI c0 u0))) H := hP
  have hD : va_D A ((w ++ [(a, .inr (6, [.ref q]))]) ++ ((q, .inl (cQ, 4, .inr (.inr (.inr (.inr (va_up (fun _ => none) (0 : Int32).toNatClampNeg (some c0))))))) :: ([] ++ ic_C cI c0 u0))) := hD
  refine lv_iinc (v := (1 : Int32)) (lv' := [(1, .int (1 : Int32)), (0, .ref a)]) hx hb dX6_init_36 hl (k := 0) rfl rfl (by decide) rfl (fun ls hl => ?_)
  refine lv_goto (tgt := 14) hx hb dX6_init_39 (by decide) ?_
  refine lv_iload_n hx hb dX6_init_14 rfl (lv_at hl 0 rfl) ?_
  refine lv_aload_n hx hb dX6_init_15 rfl (lv_at hl 1 rfl) ?_
  refine va_get (D := D) (ci := 6) (v := .ref q) (C := RX6) (T := TX6) (N := 1) hx hb hts (by decide +kernel) hown hK hP w.length in_get rfl 0 (by decide) (hts (.fieldLink RX6 11 "QueueMiddles" "counters" "[LQueueMiddles$Counter;") (by decide +kernel)) (fun _ h9 => h9) rfl dX6_init_16 ?_
  refine va_alen hx hb hK hP (w.length + 1) 1 in_get1 rfl (v := (4 : Int32)) rfl dX6_init_19 ?_
  refine lv_icmp_ge (tgt := 42) hx hb dX6_init_20 (by decide) (fun c => absurd c (by decide)) (fun _ => ?_)
  refine lv_aload_n hx hb dX6_init_23 rfl (lv_at hl 1 rfl) ?_
  refine va_get (D := D) (ci := 6) (v := .ref q) (C := RX6) (T := TX6) (N := 1) hx hb hts (by decide +kernel) hown hK hP w.length in_get rfl 0 (by decide) (hts (.fieldLink RX6 11 "QueueMiddles" "counters" "[LQueueMiddles$Counter;") (by decide +kernel)) (fun _ h9 => h9) rfl dX6_init_24 ?_
  refine lv_iload_n hx hb dX6_init_27 rfl (lv_at hl 0 rfl) ?_
  refine va_new (ci := 0) (fs := [.null, .null, .null, .int 0]) (C := RX0) (T := TX0) (N := 4) hx hb hts (by decide +kernel) tyX0 tyX0_ok hown (hts (.classLink RX6 9 RX0) (by decide +kernel)) (hts (.instantiable RX0 4) (by decide +kernel)) (hts (.initialized RX0) (by decide +kernel)) hK hP hD hS hA rfl (fun j hj => by rcases (show j = 0 ∨ j = 1 ∨ j = 2 ∨ j = 3 by omega) with rfl | rfl | rfl | rfl <;> rfl) (Nat.le_of_ble_eq_true rfl) (Nat.le_of_ble_eq_true rfl) dX6_init_28 (fun c1 H hP hD hS => ?_)
  refine lv_dup hx hb dX6_init_31 rfl ?_
  refine va_callv (va_runIN (As := []) (rest := [.ref c1, .int (1 : Int32), .ref q]) ⟨hx, hb, hml, hown, hts⟩ (kX0_init l D A cI cQ ((w ++ [(a, .inr (6, [.ref q]))]) ++ ((q, .inl (cQ, 4, .inr (.inr (.inr (.inr (va_up (fun _ => none) (0 : Int32).toNatClampNeg (some c0))))))) :: ([] ++ ic_C cI c0 u0))) c1) ⟨va_cnB 0 hts gX6_init_X0_init_n15 rfl rfl rfl (qi_n0 hN) (hts (.initialized RX0) (by decide +kernel)) (by decide +kernel) ⟨Nat.le_of_ble_eq_true rfl, Nat.le_of_ble_eq_true rfl⟩, rfl, hts (.instanceMethod yX0_init) (by decide +kernel)⟩ ⟨qi_blind, fun U hU hW => ⟨rfl, qm_go hA hS hP hK hD hU hW, qi_go hN hW⟩⟩ rfl rfl hl.1 rfl (lv_room (Nat.le_of_ble_eq_true rfl)) dX6_init_32 ⟨Nat.le_of_ble_eq_true rfl, Nat.le_of_ble_eq_true rfl⟩) hS (fun _ _ h9 => h9) (fun _ h9 => h9) (fun u1 t H locs1 ht hvm hw hB hz1 hk1 hS => ?_)
  obtain ⟨hP, hD⟩ := qm_bk ht hB
  have e8 : ((w ++ [(a, .inr (6, [.ref q]))]) ++ ((q, .inl (cQ, 4, .inr (.inr (.inr (.inr (va_up (fun _ => none) (0 : Int32).toNatClampNeg (some c0))))))) :: ([] ++ ic_C cI c0 u0))) ++ ic_C cI c1 u1 = (w ++ [(a, .inr (6, [.ref q]))]) ++ ((q, .inl (cQ, 4, .inr (.inr (.inr (.inr (va_up (fun _ => none) (0 : Int32).toNatClampNeg (some c0))))))) :: (([] ++ ic_C cI c0 u0) ++ ic_C cI c1 u1)) := List.append_assoc _ _ _
  rw [e8] at hP hD
  refine va_astq hx hb hK hP hD hS (w.length + 1) 1 (w.length + 2 + (([] ++ ic_C cI c0 u0) : va_W).length) 0 in_get1 rfl (in_getk (t := ([] ++ ic_C cI c0 u0)) (z := (c1, .inr (0, [.ref (u1 0), .ref (u1 7), .ref (u1 12), .int 50]))) (r := ((ic_M cI (u1 0) (fun i => u1 (1 + i)) ++ ic_T cI (u1 7) (fun i => u1 (8 + i))) ++ ic_H cI (u1 12) (fun i => u1 (13 + i))))) rfl (show vp_in (nI 1) 4 from vp_in_nI (by omega) (by omega)) dX6_init_35 (fun H locs hP hD hS => ?_)
  rw [in_set1] at hP hD
  have hP : va_P D vwCl ((w ++ [(a, .inr (6, [.ref q]))]) ++ ((q, .inl (cQ, 4, .inr (.inr (.inr (.inr (va_up (va_up (fun _ => none) (0 : Int32).toNatClampNeg (some c0)) (1 : Int32).toNatClampNeg (some c1))))))) :: (([] ++ ic_C cI c0 u0) ++ ic_C cI c1 u1))) H := hP
  have hD : va_D A ((w ++ [(a, .inr (6, [.ref q]))]) ++ ((q, .inl (cQ, 4, .inr (.inr (.inr (.inr (va_up (va_up (fun _ => none) (0 : Int32).toNatClampNeg (some c0)) (1 : Int32).toNatClampNeg (some c1))))))) :: (([] ++ ic_C cI c0 u0) ++ ic_C cI c1 u1))) := hD
  refine lv_iinc (v := (2 : Int32)) (lv' := [(1, .int (2 : Int32)), (0, .ref a)]) hx hb dX6_init_36 hl (k := 0) rfl rfl (by decide) rfl (fun ls hl => ?_)
  refine lv_goto (tgt := 14) hx hb dX6_init_39 (by decide) ?_
  refine lv_iload_n hx hb dX6_init_14 rfl (lv_at hl 0 rfl) ?_
  refine lv_aload_n hx hb dX6_init_15 rfl (lv_at hl 1 rfl) ?_
  refine va_get (D := D) (ci := 6) (v := .ref q) (C := RX6) (T := TX6) (N := 1) hx hb hts (by decide +kernel) hown hK hP w.length in_get rfl 0 (by decide) (hts (.fieldLink RX6 11 "QueueMiddles" "counters" "[LQueueMiddles$Counter;") (by decide +kernel)) (fun _ h9 => h9) rfl dX6_init_16 ?_
  refine va_alen hx hb hK hP (w.length + 1) 1 in_get1 rfl (v := (4 : Int32)) rfl dX6_init_19 ?_
  refine lv_icmp_ge (tgt := 42) hx hb dX6_init_20 (by decide) (fun c => absurd c (by decide)) (fun _ => ?_)
  refine lv_aload_n hx hb dX6_init_23 rfl (lv_at hl 1 rfl) ?_
  refine va_get (D := D) (ci := 6) (v := .ref q) (C := RX6) (T := TX6) (N := 1) hx hb hts (by decide +kernel) hown hK hP w.length in_get rfl 0 (by decide) (hts (.fieldLink RX6 11 "QueueMiddles" "counters" "[LQueueMiddles$Counter;") (by decide +kernel)) (fun _ h9 => h9) rfl dX6_init_24 ?_
  refine lv_iload_n hx hb dX6_init_27 rfl (lv_at hl 0 rfl) ?_
  refine va_new (ci := 0) (fs := [.null, .null, .null, .int 0]) (C := RX0) (T := TX0) (N := 4) hx hb hts (by decide +kernel) tyX0 tyX0_ok hown (hts (.classLink RX6 9 RX0) (by decide +kernel)) (hts (.instantiable RX0 4) (by decide +kernel)) (hts (.initialized RX0) (by decide +kernel)) hK hP hD hS hA rfl (fun j hj => by rcases (show j = 0 ∨ j = 1 ∨ j = 2 ∨ j = 3 by omega) with rfl | rfl | rfl | rfl <;> rfl) (Nat.le_of_ble_eq_true rfl) (Nat.le_of_ble_eq_true rfl) dX6_init_28 (fun c2 H hP hD hS => ?_)
  refine lv_dup hx hb dX6_init_31 rfl ?_
  refine va_callv (va_runIN (As := []) (rest := [.ref c2, .int (2 : Int32), .ref q]) ⟨hx, hb, hml, hown, hts⟩ (kX0_init l D A cI cQ ((w ++ [(a, .inr (6, [.ref q]))]) ++ ((q, .inl (cQ, 4, .inr (.inr (.inr (.inr (va_up (va_up (fun _ => none) (0 : Int32).toNatClampNeg (some c0)) (1 : Int32).toNatClampNeg (some c1))))))) :: (([] ++ ic_C cI c0 u0) ++ ic_C cI c1 u1))) c2) ⟨va_cnB 0 hts gX6_init_X0_init_n15 rfl rfl rfl (qi_n0 hN) (hts (.initialized RX0) (by decide +kernel)) (by decide +kernel) ⟨Nat.le_of_ble_eq_true rfl, Nat.le_of_ble_eq_true rfl⟩, rfl, hts (.instanceMethod yX0_init) (by decide +kernel)⟩ ⟨qi_blind, fun U hU hW => ⟨rfl, qm_go hA hS hP hK hD hU hW, qi_go hN hW⟩⟩ rfl rfl hl.1 rfl (lv_room (Nat.le_of_ble_eq_true rfl)) dX6_init_32 ⟨Nat.le_of_ble_eq_true rfl, Nat.le_of_ble_eq_true rfl⟩) hS (fun _ _ h9 => h9) (fun _ h9 => h9) (fun u2 t H locs1 ht hvm hw hB hz1 hk1 hS => ?_)
  obtain ⟨hP, hD⟩ := qm_bk ht hB
  have e8 : ((w ++ [(a, .inr (6, [.ref q]))]) ++ ((q, .inl (cQ, 4, .inr (.inr (.inr (.inr (va_up (va_up (fun _ => none) (0 : Int32).toNatClampNeg (some c0)) (1 : Int32).toNatClampNeg (some c1))))))) :: (([] ++ ic_C cI c0 u0) ++ ic_C cI c1 u1))) ++ ic_C cI c2 u2 = (w ++ [(a, .inr (6, [.ref q]))]) ++ ((q, .inl (cQ, 4, .inr (.inr (.inr (.inr (va_up (va_up (fun _ => none) (0 : Int32).toNatClampNeg (some c0)) (1 : Int32).toNatClampNeg (some c1))))))) :: ((([] ++ ic_C cI c0 u0) ++ ic_C cI c1 u1) ++ ic_C cI c2 u2)) := List.append_assoc _ _ _
  rw [e8] at hP hD
  refine va_astq hx hb hK hP hD hS (w.length + 1) 1 (w.length + 2 + ((([] ++ ic_C cI c0 u0) ++ ic_C cI c1 u1) : va_W).length) 0 in_get1 rfl (in_getk (t := (([] ++ ic_C cI c0 u0) ++ ic_C cI c1 u1)) (z := (c2, .inr (0, [.ref (u2 0), .ref (u2 7), .ref (u2 12), .int 50]))) (r := ((ic_M cI (u2 0) (fun i => u2 (1 + i)) ++ ic_T cI (u2 7) (fun i => u2 (8 + i))) ++ ic_H cI (u2 12) (fun i => u2 (13 + i))))) rfl (show vp_in (nI 2) 4 from vp_in_nI (by omega) (by omega)) dX6_init_35 (fun H locs hP hD hS => ?_)
  rw [in_set1] at hP hD
  have hP : va_P D vwCl ((w ++ [(a, .inr (6, [.ref q]))]) ++ ((q, .inl (cQ, 4, .inr (.inr (.inr (.inr (va_up (va_up (va_up (fun _ => none) (0 : Int32).toNatClampNeg (some c0)) (1 : Int32).toNatClampNeg (some c1)) (2 : Int32).toNatClampNeg (some c2))))))) :: ((([] ++ ic_C cI c0 u0) ++ ic_C cI c1 u1) ++ ic_C cI c2 u2))) H := hP
  have hD : va_D A ((w ++ [(a, .inr (6, [.ref q]))]) ++ ((q, .inl (cQ, 4, .inr (.inr (.inr (.inr (va_up (va_up (va_up (fun _ => none) (0 : Int32).toNatClampNeg (some c0)) (1 : Int32).toNatClampNeg (some c1)) (2 : Int32).toNatClampNeg (some c2))))))) :: ((([] ++ ic_C cI c0 u0) ++ ic_C cI c1 u1) ++ ic_C cI c2 u2))) := hD
  refine lv_iinc (v := (3 : Int32)) (lv' := [(1, .int (3 : Int32)), (0, .ref a)]) hx hb dX6_init_36 hl (k := 0) rfl rfl (by decide) rfl (fun ls hl => ?_)
  refine lv_goto (tgt := 14) hx hb dX6_init_39 (by decide) ?_
  refine lv_iload_n hx hb dX6_init_14 rfl (lv_at hl 0 rfl) ?_
  refine lv_aload_n hx hb dX6_init_15 rfl (lv_at hl 1 rfl) ?_
  refine va_get (D := D) (ci := 6) (v := .ref q) (C := RX6) (T := TX6) (N := 1) hx hb hts (by decide +kernel) hown hK hP w.length in_get rfl 0 (by decide) (hts (.fieldLink RX6 11 "QueueMiddles" "counters" "[LQueueMiddles$Counter;") (by decide +kernel)) (fun _ h9 => h9) rfl dX6_init_16 ?_
  refine va_alen hx hb hK hP (w.length + 1) 1 in_get1 rfl (v := (4 : Int32)) rfl dX6_init_19 ?_
  refine lv_icmp_ge (tgt := 42) hx hb dX6_init_20 (by decide) (fun c => absurd c (by decide)) (fun _ => ?_)
  refine lv_aload_n hx hb dX6_init_23 rfl (lv_at hl 1 rfl) ?_
  refine va_get (D := D) (ci := 6) (v := .ref q) (C := RX6) (T := TX6) (N := 1) hx hb hts (by decide +kernel) hown hK hP w.length in_get rfl 0 (by decide) (hts (.fieldLink RX6 11 "QueueMiddles" "counters" "[LQueueMiddles$Counter;") (by decide +kernel)) (fun _ h9 => h9) rfl dX6_init_24 ?_
  refine lv_iload_n hx hb dX6_init_27 rfl (lv_at hl 0 rfl) ?_
  refine va_new (ci := 0) (fs := [.null, .null, .null, .int 0]) (C := RX0) (T := TX0) (N := 4) hx hb hts (by decide +kernel) tyX0 tyX0_ok hown (hts (.classLink RX6 9 RX0) (by decide +kernel)) (hts (.instantiable RX0 4) (by decide +kernel)) (hts (.initialized RX0) (by decide +kernel)) hK hP hD hS hA rfl (fun j hj => by rcases (show j = 0 ∨ j = 1 ∨ j = 2 ∨ j = 3 by omega) with rfl | rfl | rfl | rfl <;> rfl) (Nat.le_of_ble_eq_true rfl) (Nat.le_of_ble_eq_true rfl) dX6_init_28 (fun c3 H hP hD hS => ?_)
  refine lv_dup hx hb dX6_init_31 rfl ?_
  refine va_callv (va_runIN (As := []) (rest := [.ref c3, .int (3 : Int32), .ref q]) ⟨hx, hb, hml, hown, hts⟩ (kX0_init l D A cI cQ ((w ++ [(a, .inr (6, [.ref q]))]) ++ ((q, .inl (cQ, 4, .inr (.inr (.inr (.inr (va_up (va_up (va_up (fun _ => none) (0 : Int32).toNatClampNeg (some c0)) (1 : Int32).toNatClampNeg (some c1)) (2 : Int32).toNatClampNeg (some c2))))))) :: ((([] ++ ic_C cI c0 u0) ++ ic_C cI c1 u1) ++ ic_C cI c2 u2))) c3) ⟨va_cnB 0 hts gX6_init_X0_init_n15 rfl rfl rfl (qi_n0 hN) (hts (.initialized RX0) (by decide +kernel)) (by decide +kernel) ⟨Nat.le_of_ble_eq_true rfl, Nat.le_of_ble_eq_true rfl⟩, rfl, hts (.instanceMethod yX0_init) (by decide +kernel)⟩ ⟨qi_blind, fun U hU hW => ⟨rfl, qm_go hA hS hP hK hD hU hW, qi_go hN hW⟩⟩ rfl rfl hl.1 rfl (lv_room (Nat.le_of_ble_eq_true rfl)) dX6_init_32 ⟨Nat.le_of_ble_eq_true rfl, Nat.le_of_ble_eq_true rfl⟩) hS (fun _ _ h9 => h9) (fun _ h9 => h9) (fun u3 t H locs1 ht hvm hw hB hz1 hk1 hS => ?_)
  obtain ⟨hP, hD⟩ := qm_bk ht hB
  have e8 : ((w ++ [(a, .inr (6, [.ref q]))]) ++ ((q, .inl (cQ, 4, .inr (.inr (.inr (.inr (va_up (va_up (va_up (fun _ => none) (0 : Int32).toNatClampNeg (some c0)) (1 : Int32).toNatClampNeg (some c1)) (2 : Int32).toNatClampNeg (some c2))))))) :: ((([] ++ ic_C cI c0 u0) ++ ic_C cI c1 u1) ++ ic_C cI c2 u2))) ++ ic_C cI c3 u3 = (w ++ [(a, .inr (6, [.ref q]))]) ++ ((q, .inl (cQ, 4, .inr (.inr (.inr (.inr (va_up (va_up (va_up (fun _ => none) (0 : Int32).toNatClampNeg (some c0)) (1 : Int32).toNatClampNeg (some c1)) (2 : Int32).toNatClampNeg (some c2))))))) :: (((([] ++ ic_C cI c0 u0) ++ ic_C cI c1 u1) ++ ic_C cI c2 u2) ++ ic_C cI c3 u3)) := List.append_assoc _ _ _
  rw [e8] at hP hD
  refine va_astq hx hb hK hP hD hS (w.length + 1) 1 (w.length + 2 + (((([] ++ ic_C cI c0 u0) ++ ic_C cI c1 u1) ++ ic_C cI c2 u2) : va_W).length) 0 in_get1 rfl (in_getk (t := ((([] ++ ic_C cI c0 u0) ++ ic_C cI c1 u1) ++ ic_C cI c2 u2)) (z := (c3, .inr (0, [.ref (u3 0), .ref (u3 7), .ref (u3 12), .int 50]))) (r := ((ic_M cI (u3 0) (fun i => u3 (1 + i)) ++ ic_T cI (u3 7) (fun i => u3 (8 + i))) ++ ic_H cI (u3 12) (fun i => u3 (13 + i))))) rfl (show vp_in (nI 3) 4 from vp_in_nI (by omega) (by omega)) dX6_init_35 (fun H locs hP hD hS => ?_)
  rw [in_set1] at hP hD
  have hP : va_P D vwCl ((w ++ [(a, .inr (6, [.ref q]))]) ++ ((q, .inl (cQ, 4, .inr (.inr (.inr (.inr (va_up (va_up (va_up (va_up (fun _ => none) (0 : Int32).toNatClampNeg (some c0)) (1 : Int32).toNatClampNeg (some c1)) (2 : Int32).toNatClampNeg (some c2)) (3 : Int32).toNatClampNeg (some c3))))))) :: (((([] ++ ic_C cI c0 u0) ++ ic_C cI c1 u1) ++ ic_C cI c2 u2) ++ ic_C cI c3 u3))) H := hP
  have hD : va_D A ((w ++ [(a, .inr (6, [.ref q]))]) ++ ((q, .inl (cQ, 4, .inr (.inr (.inr (.inr (va_up (va_up (va_up (va_up (fun _ => none) (0 : Int32).toNatClampNeg (some c0)) (1 : Int32).toNatClampNeg (some c1)) (2 : Int32).toNatClampNeg (some c2)) (3 : Int32).toNatClampNeg (some c3))))))) :: (((([] ++ ic_C cI c0 u0) ++ ic_C cI c1 u1) ++ ic_C cI c2 u2) ++ ic_C cI c3 u3))) := hD
  refine lv_iinc (v := (4 : Int32)) (lv' := [(1, .int (4 : Int32)), (0, .ref a)]) hx hb dX6_init_36 hl (k := 0) rfl rfl (by decide) rfl (fun ls hl => ?_)
  refine lv_goto (tgt := 14) hx hb dX6_init_39 (by decide) ?_
  refine lv_iload_n hx hb dX6_init_14 rfl (lv_at hl 0 rfl) ?_
  refine lv_aload_n hx hb dX6_init_15 rfl (lv_at hl 1 rfl) ?_
  refine va_get (D := D) (ci := 6) (v := .ref q) (C := RX6) (T := TX6) (N := 1) hx hb hts (by decide +kernel) hown hK hP w.length in_get rfl 0 (by decide) (hts (.fieldLink RX6 11 "QueueMiddles" "counters" "[LQueueMiddles$Counter;") (by decide +kernel)) (fun _ h9 => h9) rfl dX6_init_16 ?_
  refine va_alen hx hb hK hP (w.length + 1) 1 in_get1 rfl (v := (4 : Int32)) rfl dX6_init_19 ?_
  refine lv_icmp_ge (tgt := 42) hx hb dX6_init_20 (by decide) (fun _ => ?_) (fun c => absurd (by decide) c)
  obtain ⟨V, hV⟩ : ∃ V : Nat → Nat, V = (fun i => ([a, q, c0, u0 0, u0 1, u0 2, u0 3, u0 4, u0 5, u0 6, u0 7, u0 8, u0 9, u0 10, u0 11, u0 12, u0 13, u0 14, u0 15, u0 16, u0 17, u0 18, c1, u1 0, u1 1, u1 2, u1 3, u1 4, u1 5, u1 6, u1 7, u1 8, u1 9, u1 10, u1 11, u1 12, u1 13, u1 14, u1 15, u1 16, u1 17, u1 18, c2, u2 0, u2 1, u2 2, u2 3, u2 4, u2 5, u2 6, u2 7, u2 8, u2 9, u2 10, u2 11, u2 12, u2 13, u2 14, u2 15, u2 16, u2 17, u2 18, c3, u3 0, u3 1, u3 2, u3 3, u3 4, u3 5, u3 6, u3 7, u3 8, u3 9, u3 10, u3 11, u3 12, u3 13, u3 14, u3 15, u3 16, u3 17, u3 18] : List Nat).getD i 0) := ⟨_, rfl⟩
  have hP := ip_fix (f' := fun j => some (V (2 + 20 * j))) hP (fun j hj => by rw [hV]; rcases (show j = 0 ∨ j = 1 ∨ j = 2 ∨ j = 3 by omega) with rfl | rfl | rfl | rfl <;> rfl)
  have hD := hD.set (e := .inl (cQ, 4, .inr (.inr (.inr (.inr (fun j => some (V (2 + 20 * j)))))))) (in_get1 (w := w) (x := (a, .inr (6, [.ref q]))) (y := (q, .inl (cQ, 4, .inr (.inr (.inr (.inr (va_up (va_up (va_up (va_up (fun _ => none) (0 : Int32).toNatClampNeg (some c0)) (1 : Int32).toNatClampNeg (some c1)) (2 : Int32).toNatClampNeg (some c2)) (3 : Int32).toNatClampNeg (some c3)))))))) (t := (((([] ++ ic_C cI c0 u0) ++ ic_C cI c1 u1) ++ ic_C cI c2 u2) ++ ic_C cI c3 u3)))
  rw [in_set1] at hD
  have e9 : (w ++ [(a, .inr (6, [.ref q]))]) ++ ((q, .inl (cQ, 4, .inr (.inr (.inr (.inr (fun j => some (V (2 + 20 * j)))))))) :: (((([] ++ ic_C cI c0 u0) ++ ic_C cI c1 u1) ++ ic_C cI c2 u2) ++ ic_C cI c3 u3)) = w ++ ic_Q cI cQ a V := by rw [hV]; exact List.append_assoc _ _ _
  have hP : va_P D vwCl (w ++ ic_Q cI cQ a V) H := e9 ▸ hP
  have hD : va_D A (w ++ ic_Q cI cQ a V) := e9 ▸ hD
  refine W.widen (k := 81) (n := 16916) (Nat.le_of_ble_eq_true rfl) (Nat.le_of_ble_eq_true rfl) ?_
  exact W.vret hx hb hr (fun t ht hW => ⟨⟨V, rfl, trivial, qm_en ht hP hD⟩, hS.F ht⟩) hS.2.2 dX6_init_42
