/-! ===== the constructors ===== -/
def qi_N (U : State) : Prop :=
  va_Nw (.methodLinkNest RX6 15 yX0_init RX6) U ∧
  va_Nw (.methodLinkNest RX0 11 yX3_init RX6) U ∧
  va_Nw (.methodLinkNest RX0 20 yX5_init RX6) U ∧
  va_Nw (.methodLinkNest RX0 27 yX1_init RX6) U ∧
  va_Nw (.methodLinkNest RX1 9 yX2_init RX6) U ∧
  va_Nw (.methodLinkNest RX2 9 yX4_init RX6) U ∧
  va_Nw (.methodLinkNest RX3 9 yX4_init RX6) U ∧
  va_Nw (.methodLinkNest RX5 9 yX4_init RX6) U ∧
  va_AO "QueueMiddles$Counter" U
theorem qi_n0 {s : State} (h : qi_N s) : va_Nw (.methodLinkNest RX6 15 yX0_init RX6) s := h.1
theorem qi_n1 {s : State} (h : qi_N s) : va_Nw (.methodLinkNest RX0 11 yX3_init RX6) s := h.2.1
theorem qi_n2 {s : State} (h : qi_N s) : va_Nw (.methodLinkNest RX0 20 yX5_init RX6) s := h.2.2.1
theorem qi_n3 {s : State} (h : qi_N s) : va_Nw (.methodLinkNest RX0 27 yX1_init RX6) s := h.2.2.2.1
theorem qi_n4 {s : State} (h : qi_N s) : va_Nw (.methodLinkNest RX1 9 yX2_init RX6) s := h.2.2.2.2.1
theorem qi_n5 {s : State} (h : qi_N s) : va_Nw (.methodLinkNest RX2 9 yX4_init RX6) s := h.2.2.2.2.2.1
theorem qi_n6 {s : State} (h : qi_N s) : va_Nw (.methodLinkNest RX3 9 yX4_init RX6) s := h.2.2.2.2.2.2.1
theorem qi_n7 {s : State} (h : qi_N s) : va_Nw (.methodLinkNest RX5 9 yX4_init RX6) s := h.2.2.2.2.2.2.2.1
theorem qi_ao {s : State} (h : qi_N s) : va_AO "QueueMiddles$Counter" s := h.2.2.2.2.2.2.2.2
theorem qi_go {s U : State} (h : qi_N s) (hW : s.WarmedH U.vm) : qi_N U := ⟨va_Nw.warmM hW h.1, va_Nw.warmM hW h.2.1, va_Nw.warmM hW h.2.2.1, va_Nw.warmM hW h.2.2.2.1, va_Nw.warmM hW h.2.2.2.2.1, va_Nw.warmM hW h.2.2.2.2.2.1, va_Nw.warmM hW h.2.2.2.2.2.2.1, va_Nw.warmM hW h.2.2.2.2.2.2.2.1, va_AO.moved hW.alike h.2.2.2.2.2.2.2.2⟩
theorem qi_calling {U : State} {g : JFrame} {mk : MethodId} {a : Array Value} (h : qi_N U) : qi_N (U.calling g mk a) := ⟨va_Nw.same rfl rfl h.1, va_Nw.same rfl rfl h.2.1, va_Nw.same rfl rfl h.2.2.1, va_Nw.same rfl rfl h.2.2.2.1, va_Nw.same rfl rfl h.2.2.2.2.1, va_Nw.same rfl rfl h.2.2.2.2.2.1, va_Nw.same rfl rfl h.2.2.2.2.2.2.1, va_Nw.same rfl rfl h.2.2.2.2.2.2.2.1, va_AO.moved (u := U) (U := U.calling g mk a) (Vm.Alike.refl U.vm) h.2.2.2.2.2.2.2.2⟩
def qi_B (D : va_G) (A : Nat → Prop) (tys : List (ClassId × FieldType)) (w : va_W) (U : State) : Prop := qm_B D A tys w U ∧ qi_N U
theorem qi_blind {D : va_G} {A : Nat → Prop} {tys : List (ClassId × FieldType)} {w : va_W} {av : List Value} : FrameBlind (va_Pc av (qi_B D A tys w)) := by
  intro a U g mk q
  obtain ⟨q0, q1, q2⟩ := q
  exact ⟨q0, (qm_blind (av := av) a U g mk ⟨q0, q1⟩).2, qi_calling q2⟩
section InGet
variable {α : Type} {w t r : List α} {x y z : α}
theorem in_get0 : (w ++ [x])[w.length]? = some x := by simp
theorem in_set0 : (w ++ [x]).set w.length z = w ++ [z] := by rw [List.set_append_right _ _ (Nat.le_refl _), Nat.sub_self]; rfl
theorem in_get : ((w ++ [x]) ++ t)[w.length]? = some x := by simp
theorem in_set : ((w ++ [x]) ++ t).set w.length z = (w ++ [z]) ++ t := by
  rw [List.append_assoc, List.set_append_right _ _ (Nat.le_refl _), Nat.sub_self, List.append_assoc]; rfl
theorem in_get1 : ((w ++ [x]) ++ (y :: t))[w.length + 1]? = some y := by simp
theorem in_set1 : ((w ++ [x]) ++ (y :: t)).set (w.length + 1) z = (w ++ [x]) ++ (z :: t) := by
  rw [List.set_append_right _ _ (by simp), show w.length + 1 - (w ++ [x]).length = 0 by simp]; rfl
theorem in_getk : ((w ++ [x]) ++ (y :: (t ++ (z :: r))))[w.length + 2 + t.length]? = some z := by
  rw [List.getElem?_append_right (by simp; omega), show w.length + 2 + t.length - (w ++ [x]).length = t.length + 1 by simp; omega, List.getElem?_cons_succ, List.getElem?_append_right (Nat.le_refl _), Nat.sub_self]; rfl
end InGet
section QnNew
variable {p : Program} {l : Launch} {e : Env} {R : Room} {s : State} {m : MethodId} {args : Array Value} {below : List Frame} {meth : Method} {c : Code} {H : Heap} {locs : List Loc} {cells slots : Nat} {Q : State → Prop}
variable {cc : ByteArray} {pc : Nat} {ls : Array Slot} {rest : List Value} {D : va_G} {A : Nat → Prop} {H0 : Heap} {ws : va_W} {tys : List (ClassId × FieldType)} {cI : ClassId}
theorem qn_newa (hexec : p.tables.exec = Jvm.exec) (hb : c.code = cc) (harr : (Cond.arrayClass .int).before args s = true) (hK : va_K D vwCl tys s) (h0 : tys[0]? = some (cI, .int)) (hP : va_P D vwCl ws H) (hD : va_D A ws) (hS : va_S A H0 H locs) (hA : ∀ q, H0.size ≤ q → A q)
    {n : Int32} {N : Nat} (hn : ¬ n < 0) (hN : n.toNatClampNeg = N) (hbytes : N * 4 ≤ 536870912) (hcells : cells + 1 ≤ R.cells) (hslots : slots + N ≤ R.slots) (hdg : decode cc pc = .ok (.newarray .int, 2))
    (kk : ∀ (q : Nat) (H1 : Heap), va_P D vwCl (ws ++ [(q, .inl (cI, N, .inl (fun _ => 0)))]) H1 → va_D A (ws ++ [(q, .inl (cI, N, .inl (fun _ => 0)))]) → va_S A H0 H1 locs → W p l e R s m args below meth c H1 locs (cells + 1) (slots + N) Q (F0 m (pc + 2) ls (.ref q :: rest))) : W p l e R s m args below meth c H locs cells slots Q (F0 m pc ls (.int n :: rest)) := by
  refine va_newa (atype := .int) (ty := .int) hexec hb harr rfl hK hP hD hS hA (N' := N) (a0 := (N, .inl (fun _ => 0))) (fun cA => rfl) hn hN hbytes hcells hslots hdg (fun q cA H1 hK1 hP1 hD1 hS1 => ?_)
  have a : s.vm.findClass ("[" ++ FieldType.int.toString) = some cA := (hK1.2 tys.length (cA, .int) (by simp)).2
  have b : s.vm.findClass ("[" ++ FieldType.int.toString) = some cI := (hK.2 0 _ h0).2
  have e : cI = cA := Option.some.inj (b.symm.trans a)
  subst e
  exact kk q H1 hP1 hD1 hS1
theorem qn_newq (hexec : p.tables.exec = Jvm.exec) (hb : c.code = cc) {cQ : ClassId} {own : String} {index : Nat} (hown : s.vm.findClass own = some m.cls) (hclink : (Cond.classLink own index "QueueMiddles$Counter").before args s = true) (hover : va_AO "QueueMiddles$Counter" s) (hK : va_K D vwCl tys s) (h1 : tys[1]? = some (cQ, .object "QueueMiddles$Counter")) (hP : va_P D vwCl ws H) (hD : va_D A ws) (hS : va_S A H0 H locs) (hA : ∀ q, H0.size ≤ q → A q)
    {n : Int32} {N : Nat} (hn : ¬ n < 0) (hN : n.toNatClampNeg = N) (hbytes : N * 4 ≤ 536870912) (hcells : cells + 1 ≤ R.cells) (hslots : slots + N ≤ R.slots) (hdg : decode cc pc = .ok (.anewarray index, 3))
    (kk : ∀ (q : Nat) (H1 : Heap), va_P D vwCl (ws ++ [(q, .inl (cQ, N, .inr (.inr (.inr (.inr (fun _ => none))))))]) H1 → va_D A (ws ++ [(q, .inl (cQ, N, .inr (.inr (.inr (.inr (fun _ => none))))))]) → va_S A H0 H1 locs → W p l e R s m args below meth c H1 locs (cells + 1) (slots + N) Q (F0 m (pc + 3) ls (.ref q :: rest))) : W p l e R s m args below meth c H locs cells slots Q (F0 m pc ls (.int n :: rest)) := by
  refine va_newq hexec hb hown hclink hover hK hP hD hS hA (N' := N) hn hN hbytes hcells hslots hdg (fun q cA H1 hK1 hP1 hD1 hS1 => ?_)
  have a := (hK1.2 tys.length (cA, .object "QueueMiddles$Counter") (by simp)).2
  have b := (hK.2 1 _ h1).2
  obtain ⟨-, -, -, -, -, a⟩ := a
  obtain ⟨-, -, -, -, -, b⟩ := b
  have e : cQ = cA := Option.some.inj (b.symm.trans a)
  subst e
  exact kk q H1 hP1 hD1 hS1
end QnNew
def ic_R (cI : ClassId) (a u : Nat) : va_W := [(a, .inr (4, [.ref u, .int 0])), (u, .inl (cI, 600, .inl (fun _ => 0)))]
def ic_M (cI : ClassId) (a : Nat) (u : Nat → Nat) : va_W := [(a, .inr (3, [.ref (u 0), .ref (u 2), .ref (u 4)]))] ++ ((ic_R cI (u 0) (u 1) ++ ic_R cI (u 2) (u 3)) ++ ic_R cI (u 4) (u 5))
def ic_T (cI : ClassId) (a : Nat) (u : Nat → Nat) : va_W := [(a, .inr (5, [.ref (u 0), .ref (u 2), .int 0]))] ++ (ic_R cI (u 0) (u 1) ++ ic_R cI (u 2) (u 3))
def ic_P (cI : ClassId) (a : Nat) (u : Nat → Nat) : va_W := [(a, .inr (2, [.ref (u 0)]))] ++ ic_R cI (u 0) (u 1)
def ic_H (cI : ClassId) (a : Nat) (u : Nat → Nat) : va_W := [(a, .inr (1, [.ref (u 0), .ref (u 3)]))] ++ (ic_P cI (u 0) (fun i => u (1 + i)) ++ ic_P cI (u 3) (fun i => u (4 + i)))
def ic_C (cI : ClassId) (a : Nat) (u : Nat → Nat) : va_W := [(a, .inr (0, [.ref (u 0), .ref (u 7), .ref (u 12), .int 50]))] ++ ((ic_M cI (u 0) (fun i => u (1 + i)) ++ ic_T cI (u 7) (fun i => u (8 + i))) ++ ic_H cI (u 12) (fun i => u (13 + i)))
set_option maxHeartbeats 4000000 in
set_option maxRecDepth 100000 in
theorem kX4_init (l : Launch) (D : va_G) (A : Nat → Prop) (cI cQ : ClassId) (w : va_W) (a : Nat) : Met l yX4_init wsX4_init ({ frames := 2, cells := 1, slots := 600, locals := 40 }) (va_Pc [.ref a] (qi_B D A (qm_T cI cQ) (w ++ [(a, .inr (4, [.null, .int 0]))]))) (va_Qv (fun (_ : Nat) => True) (fun u t => qm_E D A (w ++ ic_R cI a u) t) A) 1 600 A := by
  refine Met.ofW (cc := cX4_init) (maxL := 1) (ret := none) (by decide) rfl ?_
  intro p e s m args below meth c s₁ B hml hv
  obtain ⟨rfl, ⟨hA, hP, hK, hD⟩, hN⟩ := hv
  have hx := B.exec
  have hb := B.bytes
  have hr := B.returns
  have hts := atoms_spec (ws := wsX4_init) B.pre
  have hown : s.vm.findClass RX4 = some m.cls := findClass_of_methodNamed B.named
  have hlocks := B.notSynchronized
  have hin : meth.name = "<init>" := (name_of_methodNamed B.named B.method).1
  have hS : va_S A s.heap s.heap [] := va_S.rf
  have hl := lv_entry ([.ref a]) (n := 1) (Nat.le_of_ble_eq_true rfl)
  rw [lg_entry_eq]
  generalize (lg_sl ([.ref a]) ++ List.replicate (1 - (lg_sl ([.ref a])).length) Slot.unset).toArray = ls at hl ⊢
  have hl : lv_has ls 1 [(0, .ref a)] := hl
  refine lv_aload_n hx hb dX4_init_0 rfl (lv_at hl 0 rfl) ?_
  refine W.objInit hx hb hown (hts (.methodLink RX4 3 objectInit) (by decide +kernel)) (hts (.instanceMethod objectInit) (by decide +kernel)) (hts _ (List.mem_cons_of_mem _ (List.mem_append_left _ (List.mem_of_getElem? (i := 2) rfl)))) rfl (by rw [hml]; exact hl.1) rfl dX4_init_1 (Nat.le_of_ble_eq_true rfl) (Nat.le_of_ble_eq_true rfl) ?_
  refine W.eq (g2 := F0 m 4 ls []) rfl ?_
  refine lv_aload_n hx hb dX4_init_4 rfl (lv_at hl 0 rfl) ?_
  refine lv_sipush (v := (600 : Int32)) hx hb dX4_init_5 (by decide) ?_
  refine qn_newa hx hb (hts (.arrayClass .int) (by decide +kernel)) hK rfl hP hD hS hA (N := 600) (by decide) rfl (Nat.le_of_ble_eq_true rfl) (Nat.le_of_ble_eq_true rfl) (Nat.le_of_ble_eq_true rfl) dX4_init_8 (fun q H hP hD hS => ?_)
  refine va_putF (D := D) (ci := 4) (v := .ref q) (ty := (.array .int)) (C := RX4) (T := TX4) (N := 2) hx hb hts (by decide +kernel) tyX4 tyX4_ok nmX4 hown hK hP hD hS w.length in_get rfl 0 (by decide) (hts (.fieldLink RX4 9 "QueueMiddles$Row" "cells" "[I") (by decide +kernel)) (fun _ h9 => h9) rfl hin rfl (by decide +kernel) rfl rfl (Nat.le_of_ble_eq_true rfl) dX4_init_10 (fun H locs hP hD hS => ?_)
  rw [in_set] at hP hD
  have e9 : (w ++ [(a, .inr (4, [.ref q, .int 0]))]) ++ [(q, .inl (cI, 600, .inl (fun _ => 0)))] = w ++ ic_R cI a q := List.append_assoc _ _ _
  have hP : va_P D vwCl (w ++ ic_R cI a q) H := e9 ▸ hP
  have hD : va_D A (w ++ ic_R cI a q) := e9 ▸ hD
  exact W.vret hx hb hr (fun t ht hW => ⟨⟨q, rfl, trivial, qm_en ht hP hD⟩, hS.F ht⟩) hS.2.2 dX4_init_13
set_option maxHeartbeats 4000000 in
set_option maxRecDepth 100000 in
theorem kX2_init (l : Launch) (D : va_G) (A : Nat → Prop) (cI cQ : ClassId) (w : va_W) (a : Nat) : Met l yX2_init wsX2_init ({ frames := 3, cells := 2, slots := 602, locals := 60 }) (va_Pc [.ref a] (qi_B D A (qm_T cI cQ) (w ++ [(a, .inr (2, [.null]))]))) (va_Qv (fun (_ : Nat → Nat) => True) (fun u t => qm_E D A (w ++ ic_P cI a u) t) A) 2 602 A := by
  refine Met.ofW (cc := cX2_init) (maxL := 1) (ret := none) (by decide) rfl ?_
  intro p e s m args below meth c s₁ B hml hv
  obtain ⟨rfl, ⟨hA, hP, hK, hD⟩, hN⟩ := hv
  have hx := B.exec
  have hb := B.bytes
  have hr := B.returns
  have hts := atoms_spec (ws := wsX2_init) B.pre
  have hown : s.vm.findClass RX2 = some m.cls := findClass_of_methodNamed B.named
  have hlocks := B.notSynchronized
  have hin : meth.name = "<init>" := (name_of_methodNamed B.named B.method).1
  have hS : va_S A s.heap s.heap [] := va_S.rf
  have hl := lv_entry ([.ref a]) (n := 1) (Nat.le_of_ble_eq_true rfl)
  rw [lg_entry_eq]
  generalize (lg_sl ([.ref a]) ++ List.replicate (1 - (lg_sl ([.ref a])).length) Slot.unset).toArray = ls at hl ⊢
  have hl : lv_has ls 1 [(0, .ref a)] := hl
  refine lv_aload_n hx hb dX2_init_0 rfl (lv_at hl 0 rfl) ?_
  refine W.objInit hx hb hown (hts (.methodLink RX2 1 objectInit) (by decide +kernel)) (hts (.instanceMethod objectInit) (by decide +kernel)) (hts _ (List.mem_cons_of_mem _ (List.mem_append_left _ (List.mem_append_left _ (List.mem_of_getElem? (i := 2) rfl))))) rfl (by rw [hml]; exact hl.1) rfl dX2_init_1 (Nat.le_of_ble_eq_true rfl) (Nat.le_of_ble_eq_true rfl) ?_
  refine W.eq (g2 := F0 m 4 ls []) rfl ?_
  refine lv_aload_n hx hb dX2_init_4 rfl (lv_at hl 0 rfl) ?_
  refine va_new (ci := 4) (fs := [.null, .int 0]) (C := RX4) (T := TX4) (N := 2) hx hb hts (by decide +kernel) tyX4 tyX4_ok hown (hts (.classLink RX2 7 RX4) (by decide +kernel)) (hts (.instantiable RX4 2) (by decide +kernel)) (hts (.initialized RX4) (by decide +kernel)) hK hP hD hS hA rfl (fun j hj => by rcases (show j = 0 ∨ j = 1 by omega) with rfl | rfl <;> rfl) (Nat.le_of_ble_eq_true rfl) (Nat.le_of_ble_eq_true rfl) dX2_init_5 (fun q5 H hP hD hS => ?_)
  refine lv_dup hx hb dX2_init_8 rfl ?_
  refine va_callv (va_runIN (As := []) (rest := [.ref q5, .ref a]) ⟨hx, hb, hml, hown, hts⟩ (kX4_init l D A cI cQ (w ++ [(a, .inr (2, [.null]))]) q5) ⟨va_cnB 0 hts gX2_init_X4_init_n9 rfl rfl rfl (qi_n5 hN) (hts (.initialized RX4) (by decide +kernel)) (by decide +kernel) ⟨Nat.le_of_ble_eq_true rfl, Nat.le_of_ble_eq_true rfl⟩, rfl, hts (.instanceMethod yX4_init) (by decide +kernel)⟩ ⟨qi_blind, fun U hU hW => ⟨rfl, qm_go hA hS hP hK hD hU hW, qi_go hN hW⟩⟩ rfl rfl hl.1 rfl (lv_room (Nat.le_of_ble_eq_true rfl)) dX2_init_9 ⟨Nat.le_of_ble_eq_true rfl, Nat.le_of_ble_eq_true rfl⟩) hS (fun _ _ h9 => h9) (fun _ h9 => h9) (fun u9 t H1 locs1 ht hvm hw hB hz1 hk1 hS => ?_)
  obtain ⟨hP, hD⟩ := qm_bk ht hB
  refine va_putF (D := D) (ci := 2) (v := .ref q5) (ty := (.object "QueueMiddles$Row")) (C := RX2) (T := TX2) (N := 1) hx hb hts (by decide +kernel) tyX2 tyX2_ok nmX2 hown hK hP hD hS w.length in_get rfl 0 (by decide) (hts (.fieldLink RX2 10 "QueueMiddles$Heap" "row" "LQueueMiddles$Row;") (by decide +kernel)) (fun _ h9 => h9) rfl hin rfl (by decide +kernel) rfl rfl (Nat.le_of_ble_eq_true rfl) dX2_init_12 (fun H locs hP hD hS => ?_)
  rw [in_set] at hP hD
  have hP : va_P D vwCl ((w ++ [(a, .inr (2, [.ref q5]))]) ++ ic_R cI q5 u9) H := hP
  have hD : va_D A ((w ++ [(a, .inr (2, [.ref q5]))]) ++ ic_R cI q5 u9) := hD
  have e9 : (w ++ [(a, .inr (2, [.ref q5]))]) ++ ic_R cI q5 u9 = w ++ ic_P cI a (fun i => ([q5, u9] : List Nat).getD i 0) := List.append_assoc _ _ _
  have hP : va_P D vwCl (w ++ ic_P cI a (fun i => ([q5, u9] : List Nat).getD i 0)) H := e9 ▸ hP
  have hD : va_D A (w ++ ic_P cI a (fun i => ([q5, u9] : List Nat).getD i 0)) := e9 ▸ hD
  exact W.vret hx hb hr (fun t ht hW => ⟨⟨(fun i => ([q5, u9] : List Nat).getD i 0), rfl, trivial, qm_en ht hP hD⟩, hS.F ht⟩) hS.2.2 dX2_init_15
set_option maxHeartbeats 4000000 in
set_option maxRecDepth 100000 in
theorem kX3_init (l : Launch) (D : va_G) (A : Nat → Prop) (cI cQ : ClassId) (w : va_W) (a : Nat) : Met l yX3_init wsX3_init ({ frames := 3, cells := 6, slots := 1806, locals := 60 }) (va_Pc [.ref a] (qi_B D A (qm_T cI cQ) (w ++ [(a, .inr (3, [.null, .null, .null]))]))) (va_Qv (fun (_ : Nat → Nat) => True) (fun u t => qm_E D A (w ++ ic_M cI a u) t) A) 6 1806 A := by
  refine Met.ofW (cc := cX3_init) (maxL := 1) (ret := none) (by decide) rfl ?_
  intro p e s m args below meth c s₁ B hml hv
  obtain ⟨rfl, ⟨hA, hP, hK, hD⟩, hN⟩ := hv
  have hx := B.exec
  have hb := B.bytes
  have hr := B.returns
  have hts := atoms_spec (ws := wsX3_init) B.pre
  have hown : s.vm.findClass RX3 = some m.cls := findClass_of_methodNamed B.named
  have hlocks := B.notSynchronized
  have hin : meth.name = "<init>" := (name_of_methodNamed B.named B.method).1
  have hS : va_S A s.heap s.heap [] := va_S.rf
  have hl := lv_entry ([.ref a]) (n := 1) (Nat.le_of_ble_eq_true rfl)
  rw [lg_entry_eq]
  generalize (lg_sl ([.ref a]) ++ List.replicate (1 - (lg_sl ([.ref a])).length) Slot.unset).toArray = ls at hl ⊢
  have hl : lv_has ls 1 [(0, .ref a)] := hl
  refine lv_aload_n hx hb dX3_init_0 rfl (lv_at hl 0 rfl) ?_
  refine W.objInit hx hb hown (hts (.methodLink RX3 1 objectInit) (by decide +kernel)) (hts (.instanceMethod objectInit) (by decide +kernel)) (hts _ (List.mem_cons_of_mem _ (List.mem_append_left _ (List.mem_append_left _ (List.mem_of_getElem? (i := 2) rfl))))) rfl (by rw [hml]; exact hl.1) rfl dX3_init_1 (Nat.le_of_ble_eq_true rfl) (Nat.le_of_ble_eq_true rfl) ?_
  refine W.eq (g2 := F0 m 4 ls []) rfl ?_
  refine lv_aload_n hx hb dX3_init_4 rfl (lv_at hl 0 rfl) ?_
  refine va_new (ci := 4) (fs := [.null, .int 0]) (C := RX4) (T := TX4) (N := 2) hx hb hts (by decide +kernel) tyX4 tyX4_ok hown (hts (.classLink RX3 7 RX4) (by decide +kernel)) (hts (.instantiable RX4 2) (by decide +kernel)) (hts (.initialized RX4) (by decide +kernel)) hK hP hD hS hA rfl (fun j hj => by rcases (show j = 0 ∨ j = 1 by omega) with rfl | rfl <;> rfl) (Nat.le_of_ble_eq_true rfl) (Nat.le_of_ble_eq_true rfl) dX3_init_5 (fun q5 H hP hD hS => ?_)
  refine lv_dup hx hb dX3_init_8 rfl ?_
  refine va_callv (va_runIN (As := []) (rest := [.ref q5, .ref a]) ⟨hx, hb, hml, hown, hts⟩ (kX4_init l D A cI cQ (w ++ [(a, .inr (3, [.null, .null, .null]))]) q5) ⟨va_cnB 0 hts gX3_init_X4_init_n9 rfl rfl rfl (qi_n6 hN) (hts (.initialized RX4) (by decide +kernel)) (by decide +kernel) ⟨Nat.le_of_ble_eq_true rfl, Nat.le_of_ble_eq_true rfl⟩, rfl, hts (.instanceMethod yX4_init) (by decide +kernel)⟩ ⟨qi_blind, fun U hU hW => ⟨rfl, qm_go hA hS hP hK hD hU hW, qi_go hN hW⟩⟩ rfl rfl hl.1 rfl (lv_room (Nat.le_of_ble_eq_true rfl)) dX3_init_9 ⟨Nat.le_of_ble_eq_true rfl, Nat.le_of_ble_eq_true rfl⟩) hS (fun _ _ h9 => h9) (fun _ h9 => h9) (fun u9 t H1 locs1 ht hvm hw hB hz1 hk1 hS => ?_)
  obtain ⟨hP, hD⟩ := qm_bk ht hB
  refine va_putF (D := D) (ci := 3) (v := .ref q5) (ty := (.object "QueueMiddles$Row")) (C := RX3) (T := TX3) (N := 3) hx hb hts (by decide +kernel) tyX3 tyX3_ok nmX3 hown hK hP hD hS w.length in_get rfl 0 (by decide) (hts (.fieldLink RX3 10 "QueueMiddles$MarkRow" "values" "LQueueMiddles$Row;") (by decide +kernel)) (fun _ h9 => h9) rfl hin rfl (by decide +kernel) rfl rfl (Nat.le_of_ble_eq_true rfl) dX3_init_12 (fun H locs hP hD hS => ?_)
  rw [in_set] at hP hD
  have hP : va_P D vwCl ((w ++ [(a, .inr (3, [.ref q5, .null, .null]))]) ++ ic_R cI q5 u9) H := hP
  have hD : va_D A ((w ++ [(a, .inr (3, [.ref q5, .null, .null]))]) ++ ic_R cI q5 u9) := hD
  refine lv_aload_n hx hb dX3_init_15 rfl (lv_at hl 0 rfl) ?_
  refine va_new (ci := 4) (fs := [.null, .int 0]) (C := RX4) (T := TX4) (N := 2) hx hb hts (by decide +kernel) tyX4 tyX4_ok hown (hts (.classLink RX3 7 RX4) (by decide +kernel)) (hts (.instantiable RX4 2) (by decide +kernel)) (hts (.initialized RX4) (by decide +kernel)) hK hP hD hS hA rfl (fun j hj => by rcases (show j = 0 ∨ j = 1 by omega) with rfl | rfl <;> rfl) (Nat.le_of_ble_eq_true rfl) (Nat.le_of_ble_eq_true rfl) dX3_init_16 (fun q16 H hP hD hS => ?_)
  refine lv_dup hx hb dX3_init_19 rfl ?_
  refine va_callv (va_runIN (As := []) (rest := [.ref q16, .ref a]) ⟨hx, hb, hml, hown, hts⟩ (kX4_init l D A cI cQ ((w ++ [(a, .inr (3, [.ref q5, .null, .null]))]) ++ ic_R cI q5 u9) q16) ⟨va_cnB 0 hts gX3_init_X4_init_n9 rfl rfl rfl (qi_n6 hN) (hts (.initialized RX4) (by decide +kernel)) (by decide +kernel) ⟨Nat.le_of_ble_eq_true rfl, Nat.le_of_ble_eq_true rfl⟩, rfl, hts (.instanceMethod yX4_init) (by decide +kernel)⟩ ⟨qi_blind, fun U hU hW => ⟨rfl, qm_go hA hS hP hK hD hU hW, qi_go hN hW⟩⟩ rfl rfl hl.1 rfl (lv_room (Nat.le_of_ble_eq_true rfl)) dX3_init_20 ⟨Nat.le_of_ble_eq_true rfl, Nat.le_of_ble_eq_true rfl⟩) hS (fun _ _ h9 => h9) (fun _ h9 => h9) (fun u20 t H1 locs1 ht hvm hw hB hz1 hk1 hS => ?_)
  obtain ⟨hP, hD⟩ := qm_bk ht hB
  have e8 : ((w ++ [(a, .inr (3, [.ref q5, .null, .null]))]) ++ ic_R cI q5 u9) ++ ic_R cI q16 u20 = (w ++ [(a, .inr (3, [.ref q5, .null, .null]))]) ++ (ic_R cI q5 u9 ++ ic_R cI q16 u20) := List.append_assoc _ _ _
  rw [e8] at hP hD
  refine va_putF (D := D) (ci := 3) (v := .ref q16) (ty := (.object "QueueMiddles$Row")) (C := RX3) (T := TX3) (N := 3) hx hb hts (by decide +kernel) tyX3 tyX3_ok nmX3 hown hK hP hD hS w.length in_get rfl 1 (by decide) (hts (.fieldLink RX3 16 "QueueMiddles$MarkRow" "gaps" "LQueueMiddles$Row;") (by decide +kernel)) (fun _ h9 => h9) rfl hin rfl (by decide +kernel) rfl rfl (Nat.le_of_ble_eq_true rfl) dX3_init_23 (fun H locs hP hD hS => ?_)
  rw [in_set] at hP hD
  have hP : va_P D vwCl ((w ++ [(a, .inr (3, [.ref q5, .ref q16, .null]))]) ++ (ic_R cI q5 u9 ++ ic_R cI q16 u20)) H := hP
  have hD : va_D A ((w ++ [(a, .inr (3, [.ref q5, .ref q16, .null]))]) ++ (ic_R cI q5 u9 ++ ic_R cI q16 u20)) := hD
  refine lv_aload_n hx hb dX3_init_26 rfl (lv_at hl 0 rfl) ?_
  refine va_new (ci := 4) (fs := [.null, .int 0]) (C := RX4) (T := TX4) (N := 2) hx hb hts (by decide +kernel) tyX4 tyX4_ok hown (hts (.classLink RX3 7 RX4) (by decide +kernel)) (hts (.instantiable RX4 2) (by decide +kernel)) (hts (.initialized RX4) (by decide +kernel)) hK hP hD hS hA rfl (fun j hj => by rcases (show j = 0 ∨ j = 1 by omega) with rfl | rfl <;> rfl) (Nat.le_of_ble_eq_true rfl) (Nat.le_of_ble_eq_true rfl) dX3_init_27 (fun q27 H hP hD hS => ?_)
  refine lv_dup hx hb dX3_init_30 rfl ?_
  refine va_callv (va_runIN (As := []) (rest := [.ref q27, .ref a]) ⟨hx, hb, hml, hown, hts⟩ (kX4_init l D A cI cQ ((w ++ [(a, .inr (3, [.ref q5, .ref q16, .null]))]) ++ (ic_R cI q5 u9 ++ ic_R cI q16 u20)) q27) ⟨va_cnB 0 hts gX3_init_X4_init_n9 rfl rfl rfl (qi_n6 hN) (hts (.initialized RX4) (by decide +kernel)) (by decide +kernel) ⟨Nat.le_of_ble_eq_true rfl, Nat.le_of_ble_eq_true rfl⟩, rfl, hts (.instanceMethod yX4_init) (by decide +kernel)⟩ ⟨qi_blind, fun U hU hW => ⟨rfl, qm_go hA hS hP hK hD hU hW, qi_go hN hW⟩⟩ rfl rfl hl.1 rfl (lv_room (Nat.le_of_ble_eq_true rfl)) dX3_init_31 ⟨Nat.le_of_ble_eq_true rfl, Nat.le_of_ble_eq_true rfl⟩) hS (fun _ _ h9 => h9) (fun _ h9 => h9) (fun u31 t H1 locs1 ht hvm hw hB hz1 hk1 hS => ?_)
  obtain ⟨hP, hD⟩ := qm_bk ht hB
  have e8 : ((w ++ [(a, .inr (3, [.ref q5, .ref q16, .null]))]) ++ (ic_R cI q5 u9 ++ ic_R cI q16 u20)) ++ ic_R cI q27 u31 = (w ++ [(a, .inr (3, [.ref q5, .ref q16, .null]))]) ++ ((ic_R cI q5 u9 ++ ic_R cI q16 u20) ++ ic_R cI q27 u31) := List.append_assoc _ _ _
  rw [e8] at hP hD
  refine va_putF (D := D) (ci := 3) (v := .ref q27) (ty := (.object "QueueMiddles$Row")) (C := RX3) (T := TX3) (N := 3) hx hb hts (by decide +kernel) tyX3 tyX3_ok nmX3 hown hK hP hD hS w.length in_get rfl 2 (by decide) (hts (.fieldLink RX3 19 "QueueMiddles$MarkRow" "spreads" "LQueueMiddles$Row;") (by decide +kernel)) (fun _ h9 => h9) rfl hin rfl (by decide +kernel) rfl rfl (Nat.le_of_ble_eq_true rfl) dX3_init_34 (fun H locs hP hD hS => ?_)
  rw [in_set] at hP hD
  have hP : va_P D vwCl ((w ++ [(a, .inr (3, [.ref q5, .ref q16, .ref q27]))]) ++ ((ic_R cI q5 u9 ++ ic_R cI q16 u20) ++ ic_R cI q27 u31)) H := hP
  have hD : va_D A ((w ++ [(a, .inr (3, [.ref q5, .ref q16, .ref q27]))]) ++ ((ic_R cI q5 u9 ++ ic_R cI q16 u20) ++ ic_R cI q27 u31)) := hD
  have e9 : (w ++ [(a, .inr (3, [.ref q5, .ref q16, .ref q27]))]) ++ ((ic_R cI q5 u9 ++ ic_R cI q16 u20) ++ ic_R cI q27 u31) = w ++ ic_M cI a (fun i => ([q5, u9, q16, u20, q27, u31] : List Nat).getD i 0) := List.append_assoc _ _ _
  have hP : va_P D vwCl (w ++ ic_M cI a (fun i => ([q5, u9, q16, u20, q27, u31] : List Nat).getD i 0)) H := e9 ▸ hP
  have hD : va_D A (w ++ ic_M cI a (fun i => ([q5, u9, q16, u20, q27, u31] : List Nat).getD i 0)) := e9 ▸ hD
  exact W.vret hx hb hr (fun t ht hW => ⟨⟨(fun i => ([q5, u9, q16, u20, q27, u31] : List Nat).getD i 0), rfl, trivial, qm_en ht hP hD⟩, hS.F ht⟩) hS.2.2 dX3_init_37
set_option maxHeartbeats 4000000 in
set_option maxRecDepth 100000 in
theorem kX5_init (l : Launch) (D : va_G) (A : Nat → Prop) (cI cQ : ClassId) (w : va_W) (a : Nat) : Met l yX5_init wsX5_init ({ frames := 3, cells := 4, slots := 1204, locals := 60 }) (va_Pc [.ref a] (qi_B D A (qm_T cI cQ) (w ++ [(a, .inr (5, [.null, .null, .int 0]))]))) (va_Qv (fun (_ : Nat → Nat) => True) (fun u t => qm_E D A (w ++ ic_T cI a u) t) A) 4 1204 A := by
  refine Met.ofW (cc := cX5_init) (maxL := 1) (ret := none) (by decide) rfl ?_
  intro p e s m args below meth c s₁ B hml hv
  obtain ⟨rfl, ⟨hA, hP, hK, hD⟩, hN⟩ := hv
  have hx := B.exec
  have hb := B.bytes
  have hr := B.returns
  have hts := atoms_spec (ws := wsX5_init) B.pre
  have hown : s.vm.findClass RX5 = some m.cls := findClass_of_methodNamed B.named
  have hlocks := B.notSynchronized
  have hin : meth.name = "<init>" := (name_of_methodNamed B.named B.method).1
  have hS : va_S A s.heap s.heap [] := va_S.rf
  have hl := lv_entry ([.ref a]) (n := 1) (Nat.le_of_ble_eq_true rfl)
  rw [lg_entry_eq]
  generalize (lg_sl ([.ref a]) ++ List.replicate (1 - (lg_sl ([.ref a])).length) Slot.unset).toArray = ls at hl ⊢
  have hl : lv_has ls 1 [(0, .ref a)] := hl
  refine lv_aload_n hx hb dX5_init_0 rfl (lv_at hl 0 rfl) ?_
  refine W.objInit hx hb hown (hts (.methodLink RX5 1 objectInit) (by decide +kernel)) (hts (.instanceMethod objectInit) (by decide +kernel)) (hts _ (List.mem_cons_of_mem _ (List.mem_append_left _ (List.mem_append_left _ (List.mem_of_getElem? (i := 2) rfl))))) rfl (by rw [hml]; exact hl.1) rfl dX5_init_1 (Nat.le_of_ble_eq_true rfl) (Nat.le_of_ble_eq_true rfl) ?_
  refine W.eq (g2 := F0 m 4 ls []) rfl ?_
  refine lv_aload_n hx hb dX5_init_4 rfl (lv_at hl 0 rfl) ?_
  refine va_new (ci := 4) (fs := [.null, .int 0]) (C := RX4) (T := TX4) (N := 2) hx hb hts (by decide +kernel) tyX4 tyX4_ok hown (hts (.classLink RX5 7 RX4) (by decide +kernel)) (hts (.instantiable RX4 2) (by decide +kernel)) (hts (.initialized RX4) (by decide +kernel)) hK hP hD hS hA rfl (fun j hj => by rcases (show j = 0 ∨ j = 1 by omega) with rfl | rfl <;> rfl) (Nat.le_of_ble_eq_true rfl) (Nat.le_of_ble_eq_true rfl) dX5_init_5 (fun q5 H hP hD hS => ?_)
  refine lv_dup hx hb dX5_init_8 rfl ?_
  refine va_callv (va_runIN (As := []) (rest := [.ref q5, .ref a]) ⟨hx, hb, hml, hown, hts⟩ (kX4_init l D A cI cQ (w ++ [(a, .inr (5, [.null, .null, .int 0]))]) q5) ⟨va_cnB 0 hts gX5_init_X4_init_n9 rfl rfl rfl (qi_n7 hN) (hts (.initialized RX4) (by decide +kernel)) (by decide +kernel) ⟨Nat.le_of_ble_eq_true rfl, Nat.le_of_ble_eq_true rfl⟩, rfl, hts (.instanceMethod yX4_init) (by decide +kernel)⟩ ⟨qi_blind, fun U hU hW => ⟨rfl, qm_go hA hS hP hK hD hU hW, qi_go hN hW⟩⟩ rfl rfl hl.1 rfl (lv_room (Nat.le_of_ble_eq_true rfl)) dX5_init_9 ⟨Nat.le_of_ble_eq_true rfl, Nat.le_of_ble_eq_true rfl⟩) hS (fun _ _ h9 => h9) (fun _ h9 => h9) (fun u9 t H1 locs1 ht hvm hw hB hz1 hk1 hS => ?_)
  obtain ⟨hP, hD⟩ := qm_bk ht hB
  refine va_putF (D := D) (ci := 5) (v := .ref q5) (ty := (.object "QueueMiddles$Row")) (C := RX5) (T := TX5) (N := 3) hx hb hts (by decide +kernel) tyX5 tyX5_ok nmX5 hown hK hP hD hS w.length in_get rfl 0 (by decide) (hts (.fieldLink RX5 10 "QueueMiddles$Tally" "kinds" "LQueueMiddles$Row;") (by decide +kernel)) (fun _ h9 => h9) rfl hin rfl (by decide +kernel) rfl rfl (Nat.le_of_ble_eq_true rfl) dX5_init_12 (fun H locs hP hD hS => ?_)
  rw [in_set] at hP hD
  have hP : va_P D vwCl ((w ++ [(a, .inr (5, [.ref q5, .null, .int 0]))]) ++ ic_R cI q5 u9) H := hP
  have hD : va_D A ((w ++ [(a, .inr (5, [.ref q5, .null, .int 0]))]) ++ ic_R cI q5 u9) := hD
  refine lv_aload_n hx hb dX5_init_15 rfl (lv_at hl 0 rfl) ?_
  refine va_new (ci := 4) (fs := [.null, .int 0]) (C := RX4) (T := TX4) (N := 2) hx hb hts (by decide +kernel) tyX4 tyX4_ok hown (hts (.classLink RX5 7 RX4) (by decide +kernel)) (hts (.instantiable RX4 2) (by decide +kernel)) (hts (.initialized RX4) (by decide +kernel)) hK hP hD hS hA rfl (fun j hj => by rcases (show j = 0 ∨ j = 1 by omega) with rfl | rfl <;> rfl) (Nat.le_of_ble_eq_true rfl) (Nat.le_of_ble_eq_true rfl) dX5_init_16 (fun q16 H hP hD hS => ?_)
  refine lv_dup hx hb dX5_init_19 rfl ?_
  refine va_callv (va_runIN (As := []) (rest := [.ref q16, .ref a]) ⟨hx, hb, hml, hown, hts⟩ (kX4_init l D A cI cQ ((w ++ [(a, .inr (5, [.ref q5, .null, .int 0]))]) ++ ic_R cI q5 u9) q16) ⟨va_cnB 0 hts gX5_init_X4_init_n9 rfl rfl rfl (qi_n7 hN) (hts (.initialized RX4) (by decide +kernel)) (by decide +kernel) ⟨Nat.le_of_ble_eq_true rfl, Nat.le_of_ble_eq_true rfl⟩, rfl, hts (.instanceMethod yX4_init) (by decide +kernel)⟩ ⟨qi_blind, fun U hU hW => ⟨rfl, qm_go hA hS hP hK hD hU hW, qi_go hN hW⟩⟩ rfl rfl hl.1 rfl (lv_room (Nat.le_of_ble_eq_true rfl)) dX5_init_20 ⟨Nat.le_of_ble_eq_true rfl, Nat.le_of_ble_eq_true rfl⟩) hS (fun _ _ h9 => h9) (fun _ h9 => h9) (fun u20 t H1 locs1 ht hvm hw hB hz1 hk1 hS => ?_)
  obtain ⟨hP, hD⟩ := qm_bk ht hB
  have e8 : ((w ++ [(a, .inr (5, [.ref q5, .null, .int 0]))]) ++ ic_R cI q5 u9) ++ ic_R cI q16 u20 = (w ++ [(a, .inr (5, [.ref q5, .null, .int 0]))]) ++ (ic_R cI q5 u9 ++ ic_R cI q16 u20) := List.append_assoc _ _ _
  rw [e8] at hP hD
  refine va_putF (D := D) (ci := 5) (v := .ref q16) (ty := (.object "QueueMiddles$Row")) (C := RX5) (T := TX5) (N := 3) hx hb hts (by decide +kernel) tyX5 tyX5_ok nmX5 hown hK hP hD hS w.length in_get rfl 1 (by decide) (hts (.fieldLink RX5 16 "QueueMiddles$Tally" "times" "LQueueMiddles$Row;") (by decide +kernel)) (fun _ h9 => h9) rfl hin rfl (by decide +kernel) rfl rfl (Nat.le_of_ble_eq_true rfl) dX5_init_23 (fun H locs hP hD hS => ?_)
  rw [in_set] at hP hD
  have hP : va_P D vwCl ((w ++ [(a, .inr (5, [.ref q5, .ref q16, .int 0]))]) ++ (ic_R cI q5 u9 ++ ic_R cI q16 u20)) H := hP
  have hD : va_D A ((w ++ [(a, .inr (5, [.ref q5, .ref q16, .int 0]))]) ++ (ic_R cI q5 u9 ++ ic_R cI q16 u20)) := hD
  have e9 : (w ++ [(a, .inr (5, [.ref q5, .ref q16, .int 0]))]) ++ (ic_R cI q5 u9 ++ ic_R cI q16 u20) = w ++ ic_T cI a (fun i => ([q5, u9, q16, u20] : List Nat).getD i 0) := List.append_assoc _ _ _
  have hP : va_P D vwCl (w ++ ic_T cI a (fun i => ([q5, u9, q16, u20] : List Nat).getD i 0)) H := e9 ▸ hP
  have hD : va_D A (w ++ ic_T cI a (fun i => ([q5, u9, q16, u20] : List Nat).getD i 0)) := e9 ▸ hD
  exact W.vret hx hb hr (fun t ht hW => ⟨⟨(fun i => ([q5, u9, q16, u20] : List Nat).getD i 0), rfl, trivial, qm_en ht hP hD⟩, hS.F ht⟩) hS.2.2 dX5_init_26
set_option maxHeartbeats 4000000 in
set_option maxRecDepth 100000 in
theorem kX1_init (l : Launch) (D : va_G) (A : Nat → Prop) (cI cQ : ClassId) (w : va_W) (a : Nat) : Met l yX1_init wsX1_init ({ frames := 4, cells := 6, slots := 1206, locals := 80 }) (va_Pc [.ref a] (qi_B D A (qm_T cI cQ) (w ++ [(a, .inr (1, [.null, .null]))]))) (va_Qv (fun (_ : Nat → Nat) => True) (fun u t => qm_E D A (w ++ ic_H cI a u) t) A) 6 1206 A := by
  refine Met.ofW (cc := cX1_init) (maxL := 1) (ret := none) (by decide) rfl ?_
  intro p e s m args below meth c s₁ B hml hv
  obtain ⟨rfl, ⟨hA, hP, hK, hD⟩, hN⟩ := hv
  have hx := B.exec
  have hb := B.bytes
  have hr := B.returns
  have hts := atoms_spec (ws := wsX1_init) B.pre
  have hown : s.vm.findClass RX1 = some m.cls := findClass_of_methodNamed B.named
  have hlocks := B.notSynchronized
  have hin : meth.name = "<init>" := (name_of_methodNamed B.named B.method).1
  have hS : va_S A s.heap s.heap [] := va_S.rf
  have hl := lv_entry ([.ref a]) (n := 1) (Nat.le_of_ble_eq_true rfl)
  rw [lg_entry_eq]
  generalize (lg_sl ([.ref a]) ++ List.replicate (1 - (lg_sl ([.ref a])).length) Slot.unset).toArray = ls at hl ⊢
  have hl : lv_has ls 1 [(0, .ref a)] := hl
  refine lv_aload_n hx hb dX1_init_0 rfl (lv_at hl 0 rfl) ?_
  refine W.objInit hx hb hown (hts (.methodLink RX1 1 objectInit) (by decide +kernel)) (hts (.instanceMethod objectInit) (by decide +kernel)) (hts _ (List.mem_cons_of_mem _ (List.mem_append_left _ (List.mem_append_left _ (List.mem_append_left _ (List.mem_of_getElem? (i := 2) rfl)))))) rfl (by rw [hml]; exact hl.1) rfl dX1_init_1 (Nat.le_of_ble_eq_true rfl) (Nat.le_of_ble_eq_true rfl) ?_
  refine W.eq (g2 := F0 m 4 ls []) rfl ?_
  refine lv_aload_n hx hb dX1_init_4 rfl (lv_at hl 0 rfl) ?_
  refine va_new (ci := 2) (fs := [.null]) (C := RX2) (T := TX2) (N := 1) hx hb hts (by decide +kernel) tyX2 tyX2_ok hown (hts (.classLink RX1 7 RX2) (by decide +kernel)) (hts (.instantiable RX2 1) (by decide +kernel)) (hts (.initialized RX2) (by decide +kernel)) hK hP hD hS hA rfl (fun j hj => by rcases (show j = 0 by omega) with rfl <;> rfl) (Nat.le_of_ble_eq_true rfl) (Nat.le_of_ble_eq_true rfl) dX1_init_5 (fun q5 H hP hD hS => ?_)
  refine lv_dup hx hb dX1_init_8 rfl ?_
  refine va_callv (va_runIN (As := []) (rest := [.ref q5, .ref a]) ⟨hx, hb, hml, hown, hts⟩ (kX2_init l D A cI cQ (w ++ [(a, .inr (1, [.null, .null]))]) q5) ⟨va_cnB 0 hts gX1_init_X2_init_n9 rfl rfl rfl (qi_n4 hN) (hts (.initialized RX2) (by decide +kernel)) (by decide +kernel) ⟨Nat.le_of_ble_eq_true rfl, Nat.le_of_ble_eq_true rfl⟩, rfl, hts (.instanceMethod yX2_init) (by decide +kernel)⟩ ⟨qi_blind, fun U hU hW => ⟨rfl, qm_go hA hS hP hK hD hU hW, qi_go hN hW⟩⟩ rfl rfl hl.1 rfl (lv_room (Nat.le_of_ble_eq_true rfl)) dX1_init_9 ⟨Nat.le_of_ble_eq_true rfl, Nat.le_of_ble_eq_true rfl⟩) hS (fun _ _ h9 => h9) (fun _ h9 => h9) (fun u9 t H1 locs1 ht hvm hw hB hz1 hk1 hS => ?_)
  obtain ⟨hP, hD⟩ := qm_bk ht hB
  refine va_putF (D := D) (ci := 1) (v := .ref q5) (ty := (.object "QueueMiddles$Heap")) (C := RX1) (T := TX1) (N := 2) hx hb hts (by decide +kernel) tyX1 tyX1_ok nmX1 hown hK hP hD hS w.length in_get rfl 0 (by decide) (hts (.fieldLink RX1 10 "QueueMiddles$Halves" "lesser" "LQueueMiddles$Heap;") (by decide +kernel)) (fun _ h9 => h9) rfl hin rfl (by decide +kernel) rfl rfl (Nat.le_of_ble_eq_true rfl) dX1_init_12 (fun H locs hP hD hS => ?_)
  rw [in_set] at hP hD
  have hP : va_P D vwCl ((w ++ [(a, .inr (1, [.ref q5, .null]))]) ++ ic_P cI q5 u9) H := hP
  have hD : va_D A ((w ++ [(a, .inr (1, [.ref q5, .null]))]) ++ ic_P cI q5 u9) := hD
  refine lv_aload_n hx hb dX1_init_15 rfl (lv_at hl 0 rfl) ?_
  refine va_new (ci := 2) (fs := [.null]) (C := RX2) (T := TX2) (N := 1) hx hb hts (by decide +kernel) tyX2 tyX2_ok hown (hts (.classLink RX1 7 RX2) (by decide +kernel)) (hts (.instantiable RX2 1) (by decide +kernel)) (hts (.initialized RX2) (by decide +kernel)) hK hP hD hS hA rfl (fun j hj => by rcases (show j = 0 by omega) with rfl <;> rfl) (Nat.le_of_ble_eq_true rfl) (Nat.le_of_ble_eq_true rfl) dX1_init_16 (fun q16 H hP hD hS => ?_)
  refine lv_dup hx hb dX1_init_19 rfl ?_
  refine va_callv (va_runIN (As := []) (rest := [.ref q16, .ref a]) ⟨hx, hb, hml, hown, hts⟩ (kX2_init l D A cI cQ ((w ++ [(a, .inr (1, [.ref q5, .null]))]) ++ ic_P cI q5 u9) q16) ⟨va_cnB 0 hts gX1_init_X2_init_n9 rfl rfl rfl (qi_n4 hN) (hts (.initialized RX2) (by decide +kernel)) (by decide +kernel) ⟨Nat.le_of_ble_eq_true rfl, Nat.le_of_ble_eq_true rfl⟩, rfl, hts (.instanceMethod yX2_init) (by decide +kernel)⟩ ⟨qi_blind, fun U hU hW => ⟨rfl, qm_go hA hS hP hK hD hU hW, qi_go hN hW⟩⟩ rfl rfl hl.1 rfl (lv_room (Nat.le_of_ble_eq_true rfl)) dX1_init_20 ⟨Nat.le_of_ble_eq_true rfl, Nat.le_of_ble_eq_true rfl⟩) hS (fun _ _ h9 => h9) (fun _ h9 => h9) (fun u20 t H1 locs1 ht hvm hw hB hz1 hk1 hS => ?_)
  obtain ⟨hP, hD⟩ := qm_bk ht hB
  have e8 : ((w ++ [(a, .inr (1, [.ref q5, .null]))]) ++ ic_P cI q5 u9) ++ ic_P cI q16 u20 = (w ++ [(a, .inr (1, [.ref q5, .null]))]) ++ (ic_P cI q5 u9 ++ ic_P cI q16 u20) := List.append_assoc _ _ _
  rw [e8] at hP hD
  refine va_putF (D := D) (ci := 1) (v := .ref q16) (ty := (.object "QueueMiddles$Heap")) (C := RX1) (T := TX1) (N := 2) hx hb hts (by decide +kernel) tyX1 tyX1_ok nmX1 hown hK hP hD hS w.length in_get rfl 1 (by decide) (hts (.fieldLink RX1 16 "QueueMiddles$Halves" "greater" "LQueueMiddles$Heap;") (by decide +kernel)) (fun _ h9 => h9) rfl hin rfl (by decide +kernel) rfl rfl (Nat.le_of_ble_eq_true rfl) dX1_init_23 (fun H locs hP hD hS => ?_)
  rw [in_set] at hP hD
  have hP : va_P D vwCl ((w ++ [(a, .inr (1, [.ref q5, .ref q16]))]) ++ (ic_P cI q5 u9 ++ ic_P cI q16 u20)) H := hP
  have hD : va_D A ((w ++ [(a, .inr (1, [.ref q5, .ref q16]))]) ++ (ic_P cI q5 u9 ++ ic_P cI q16 u20)) := hD
  have e9 : (w ++ [(a, .inr (1, [.ref q5, .ref q16]))]) ++ (ic_P cI q5 u9 ++ ic_P cI q16 u20) = w ++ ic_H cI a (fun i => ([q5, u9 0, u9 1, q16, u20 0, u20 1] : List Nat).getD i 0) := List.append_assoc _ _ _
  have hP : va_P D vwCl (w ++ ic_H cI a (fun i => ([q5, u9 0, u9 1, q16, u20 0, u20 1] : List Nat).getD i 0)) H := e9 ▸ hP
  have hD : va_D A (w ++ ic_H cI a (fun i => ([q5, u9 0, u9 1, q16, u20 0, u20 1] : List Nat).getD i 0)) := e9 ▸ hD
  exact W.vret hx hb hr (fun t ht hW => ⟨⟨(fun i => ([q5, u9 0, u9 1, q16, u20 0, u20 1] : List Nat).getD i 0), rfl, trivial, qm_en ht hP hD⟩, hS.F ht⟩) hS.2.2 dX1_init_26
set_option maxHeartbeats 4000000 in
set_option maxRecDepth 100000 in
theorem kX0_init (l : Launch) (D : va_G) (A : Nat → Prop) (cI cQ : ClassId) (w : va_W) (a : Nat) : Met l yX0_init wsX0_init ({ frames := 5, cells := 19, slots := 4224, locals := 100 }) (va_Pc [.ref a] (qi_B D A (qm_T cI cQ) (w ++ [(a, .inr (0, [.null, .null, .null, .int 0]))]))) (va_Qv (fun (_ : Nat → Nat) => True) (fun u t => qm_E D A (w ++ ic_C cI a u) t) A) 19 4224 A := by
  refine Met.ofW (cc := cX0_init) (maxL := 1) (ret := none) (by decide) rfl ?_
  intro p e s m args below meth c s₁ B hml hv
  obtain ⟨rfl, ⟨hA, hP, hK, hD⟩, hN⟩ := hv
  have hx := B.exec
  have hb := B.bytes
  have hr := B.returns
  have hts := atoms_spec (ws := wsX0_init) B.pre
  have hown : s.vm.findClass RX0 = some m.cls := findClass_of_methodNamed B.named
  have hlocks := B.notSynchronized
  have hin : meth.name = "<init>" := (name_of_methodNamed B.named B.method).1
  have hS : va_S A s.heap s.heap [] := va_S.rf
  have hl := lv_entry ([.ref a]) (n := 1) (Nat.le_of_ble_eq_true rfl)
  rw [lg_entry_eq]
  generalize (lg_sl ([.ref a]) ++ List.replicate (1 - (lg_sl ([.ref a])).length) Slot.unset).toArray = ls at hl ⊢
  have hl : lv_has ls 1 [(0, .ref a)] := hl
  refine lv_aload_n hx hb dX0_init_0 rfl (lv_at hl 0 rfl) ?_
  refine W.objInit hx hb hown (hts (.methodLink RX0 3 objectInit) (by decide +kernel)) (hts (.instanceMethod objectInit) (by decide +kernel)) (hts _ (List.mem_cons_of_mem _ (List.mem_append_left _ (List.mem_append_left _ (List.mem_append_left _ (List.mem_append_left _ (List.mem_append_left _ (List.mem_append_left _ (List.mem_append_left _ (List.mem_of_getElem? (i := 2) rfl)))))))))) rfl (by rw [hml]; exact hl.1) rfl dX0_init_1 (Nat.le_of_ble_eq_true rfl) (Nat.le_of_ble_eq_true rfl) ?_
  refine W.eq (g2 := F0 m 4 ls []) rfl ?_
  refine lv_aload_n hx hb dX0_init_4 rfl (lv_at hl 0 rfl) ?_
  refine va_new (ci := 3) (fs := [.null, .null, .null]) (C := RX3) (T := TX3) (N := 3) hx hb hts (by decide +kernel) tyX3 tyX3_ok hown (hts (.classLink RX0 9 RX3) (by decide +kernel)) (hts (.instantiable RX3 3) (by decide +kernel)) (hts (.initialized RX3) (by decide +kernel)) hK hP hD hS hA rfl (fun j hj => by rcases (show j = 0 ∨ j = 1 ∨ j = 2 by omega) with rfl | rfl | rfl <;> rfl) (Nat.le_of_ble_eq_true rfl) (Nat.le_of_ble_eq_true rfl) dX0_init_5 (fun q5 H hP hD hS => ?_)
  refine lv_dup hx hb dX0_init_8 rfl ?_
  refine va_callv (va_runIN (As := []) (rest := [.ref q5, .ref a]) ⟨hx, hb, hml, hown, hts⟩ (kX3_init l D A cI cQ (w ++ [(a, .inr (0, [.null, .null, .null, .int 0]))]) q5) ⟨va_cnB 0 hts gX0_init_X3_init_n11 rfl rfl rfl (qi_n1 hN) (hts (.initialized RX3) (by decide +kernel)) (by decide +kernel) ⟨Nat.le_of_ble_eq_true rfl, Nat.le_of_ble_eq_true rfl⟩, rfl, hts (.instanceMethod yX3_init) (by decide +kernel)⟩ ⟨qi_blind, fun U hU hW => ⟨rfl, qm_go hA hS hP hK hD hU hW, qi_go hN hW⟩⟩ rfl rfl hl.1 rfl (lv_room (Nat.le_of_ble_eq_true rfl)) dX0_init_9 ⟨Nat.le_of_ble_eq_true rfl, Nat.le_of_ble_eq_true rfl⟩) hS (fun _ _ h9 => h9) (fun _ h9 => h9) (fun u9 t H1 locs1 ht hvm hw hB hz1 hk1 hS => ?_)
  obtain ⟨hP, hD⟩ := qm_bk ht hB
  refine va_putF (D := D) (ci := 0) (v := .ref q5) (ty := (.object "QueueMiddles$MarkRow")) (C := RX0) (T := TX0) (N := 4) hx hb hts (by decide +kernel) tyX0 tyX0_ok nmX0 hown hK hP hD hS w.length in_get rfl 0 (by decide) (hts (.fieldLink RX0 12 "QueueMiddles$Counter" "row" "LQueueMiddles$MarkRow;") (by decide +kernel)) (fun _ h9 => h9) rfl hin rfl (by decide +kernel) rfl rfl (Nat.le_of_ble_eq_true rfl) dX0_init_12 (fun H locs hP hD hS => ?_)
  rw [in_set] at hP hD
  have hP : va_P D vwCl ((w ++ [(a, .inr (0, [.ref q5, .null, .null, .int 0]))]) ++ ic_M cI q5 u9) H := hP
  have hD : va_D A ((w ++ [(a, .inr (0, [.ref q5, .null, .null, .int 0]))]) ++ ic_M cI q5 u9) := hD
  refine lv_aload_n hx hb dX0_init_15 rfl (lv_at hl 0 rfl) ?_
  refine va_new (ci := 5) (fs := [.null, .null, .int 0]) (C := RX5) (T := TX5) (N := 3) hx hb hts (by decide +kernel) tyX5 tyX5_ok hown (hts (.classLink RX0 18 RX5) (by decide +kernel)) (hts (.instantiable RX5 3) (by decide +kernel)) (hts (.initialized RX5) (by decide +kernel)) hK hP hD hS hA rfl (fun j hj => by rcases (show j = 0 ∨ j = 1 ∨ j = 2 by omega) with rfl | rfl | rfl <;> rfl) (Nat.le_of_ble_eq_true rfl) (Nat.le_of_ble_eq_true rfl) dX0_init_16 (fun q16 H hP hD hS => ?_)
  refine lv_dup hx hb dX0_init_19 rfl ?_
  refine va_callv (va_runIN (As := []) (rest := [.ref q16, .ref a]) ⟨hx, hb, hml, hown, hts⟩ (kX5_init l D A cI cQ ((w ++ [(a, .inr (0, [.ref q5, .null, .null, .int 0]))]) ++ ic_M cI q5 u9) q16) ⟨va_cnB 0 hts gX0_init_X5_init_n20 rfl rfl rfl (qi_n2 hN) (hts (.initialized RX5) (by decide +kernel)) (by decide +kernel) ⟨Nat.le_of_ble_eq_true rfl, Nat.le_of_ble_eq_true rfl⟩, rfl, hts (.instanceMethod yX5_init) (by decide +kernel)⟩ ⟨qi_blind, fun U hU hW => ⟨rfl, qm_go hA hS hP hK hD hU hW, qi_go hN hW⟩⟩ rfl rfl hl.1 rfl (lv_room (Nat.le_of_ble_eq_true rfl)) dX0_init_20 ⟨Nat.le_of_ble_eq_true rfl, Nat.le_of_ble_eq_true rfl⟩) hS (fun _ _ h9 => h9) (fun _ h9 => h9) (fun u20 t H1 locs1 ht hvm hw hB hz1 hk1 hS => ?_)
  obtain ⟨hP, hD⟩ := qm_bk ht hB
  have e8 : ((w ++ [(a, .inr (0, [.ref q5, .null, .null, .int 0]))]) ++ ic_M cI q5 u9) ++ ic_T cI q16 u20 = (w ++ [(a, .inr (0, [.ref q5, .null, .null, .int 0]))]) ++ (ic_M cI q5 u9 ++ ic_T cI q16 u20) := List.append_assoc _ _ _
  rw [e8] at hP hD
  refine va_putF (D := D) (ci := 0) (v := .ref q16) (ty := (.object "QueueMiddles$Tally")) (C := RX0) (T := TX0) (N := 4) hx hb hts (by decide +kernel) tyX0 tyX0_ok nmX0 hown hK hP hD hS w.length in_get rfl 1 (by decide) (hts (.fieldLink RX0 21 "QueueMiddles$Counter" "numbers" "LQueueMiddles$Tally;") (by decide +kernel)) (fun _ h9 => h9) rfl hin rfl (by decide +kernel) rfl rfl (Nat.le_of_ble_eq_true rfl) dX0_init_23 (fun H locs hP hD hS => ?_)
  rw [in_set] at hP hD
  have hP : va_P D vwCl ((w ++ [(a, .inr (0, [.ref q5, .ref q16, .null, .int 0]))]) ++ (ic_M cI q5 u9 ++ ic_T cI q16 u20)) H := hP
  have hD : va_D A ((w ++ [(a, .inr (0, [.ref q5, .ref q16, .null, .int 0]))]) ++ (ic_M cI q5 u9 ++ ic_T cI q16 u20)) := hD
  refine lv_aload_n hx hb dX0_init_26 rfl (lv_at hl 0 rfl) ?_
  refine va_new (ci := 1) (fs := [.null, .null]) (C := RX1) (T := TX1) (N := 2) hx hb hts (by decide +kernel) tyX1 tyX1_ok hown (hts (.classLink RX0 25 RX1) (by decide +kernel)) (hts (.instantiable RX1 2) (by decide +kernel)) (hts (.initialized RX1) (by decide +kernel)) hK hP hD hS hA rfl (fun j hj => by rcases (show j = 0 ∨ j = 1 by omega) with rfl | rfl <;> rfl) (Nat.le_of_ble_eq_true rfl) (Nat.le_of_ble_eq_true rfl) dX0_init_27 (fun q27 H hP hD hS => ?_)
  refine lv_dup hx hb dX0_init_30 rfl ?_
  refine va_callv (va_runIN (As := []) (rest := [.ref q27, .ref a]) ⟨hx, hb, hml, hown, hts⟩ (kX1_init l D A cI cQ ((w ++ [(a, .inr (0, [.ref q5, .ref q16, .null, .int 0]))]) ++ (ic_M cI q5 u9 ++ ic_T cI q16 u20)) q27) ⟨va_cnB 0 hts gX0_init_X1_init_n27 rfl rfl rfl (qi_n3 hN) (hts (.initialized RX1) (by decide +kernel)) (by decide +kernel) ⟨Nat.le_of_ble_eq_true rfl, Nat.le_of_ble_eq_true rfl⟩, rfl, hts (.instanceMethod yX1_init) (by decide +kernel)⟩ ⟨qi_blind, fun U hU hW => ⟨rfl, qm_go hA hS hP hK hD hU hW, qi_go hN hW⟩⟩ rfl rfl hl.1 rfl (lv_room (Nat.le_of_ble_eq_true rfl)) dX0_init_31 ⟨Nat.le_of_ble_eq_true rfl, Nat.le_of_ble_eq_true rfl⟩) hS (fun _ _ h9 => h9) (fun _ h9 => h9) (fun u31 t H1 locs1 ht hvm hw hB hz1 hk1 hS => ?_)
  obtain ⟨hP, hD⟩ := qm_bk ht hB
  have e8 : ((w ++ [(a, .inr (0, [.ref q5, .ref q16, .null, .int 0]))]) ++ (ic_M cI q5 u9 ++ ic_T cI q16 u20)) ++ ic_H cI q27 u31 = (w ++ [(a, .inr (0, [.ref q5, .ref q16, .null, .int 0]))]) ++ ((ic_M cI q5 u9 ++ ic_T cI q16 u20) ++ ic_H cI q27 u31) := List.append_assoc _ _ _
  rw [e8] at hP hD
  refine va_putF (D := D) (ci := 0) (v := .ref q27) (ty := (.object "QueueMiddles$Halves")) (C := RX0) (T := TX0) (N := 4) hx hb hts (by decide +kernel) tyX0 tyX0_ok nmX0 hown hK hP hD hS w.length in_get rfl 2 (by decide) (hts (.fieldLink RX0 28 "QueueMiddles$Counter" "halves" "LQueueMiddles$Halves;") (by decide +kernel)) (fun _ h9 => h9) rfl hin rfl (by decide +kernel) rfl rfl (Nat.le_of_ble_eq_true rfl) dX0_init_34 (fun H locs hP hD hS => ?_)
  rw [in_set] at hP hD
  have hP : va_P D vwCl ((w ++ [(a, .inr (0, [.ref q5, .ref q16, .ref q27, .int 0]))]) ++ ((ic_M cI q5 u9 ++ ic_T cI q16 u20) ++ ic_H cI q27 u31)) H := hP
  have hD : va_D A ((w ++ [(a, .inr (0, [.ref q5, .ref q16, .ref q27, .int 0]))]) ++ ((ic_M cI q5 u9 ++ ic_T cI q16 u20) ++ ic_H cI q27 u31)) := hD
  refine lv_aload_n hx hb dX0_init_37 rfl (lv_at hl 0 rfl) ?_
  refine lv_bipush (v := (50 : Int32)) hx hb dX0_init_38 (by decide) ?_
  refine va_put (D := D) (ci := 0) (v := .int 50) (ty := .int) (C := RX0) (T := TX0) (N := 4) hx hb hts (by decide +kernel) tyX0 tyX0_ok nmX0 hown hK hP hD hS w.length in_get rfl 3 (by decide) (hts (.fieldLink RX0 32 "QueueMiddles$Counter" "thousandths" "I") (by decide +kernel)) (fun _ h9 => h9) rfl (by decide +kernel) rfl rfl (Nat.le_of_ble_eq_true rfl) dX0_init_40 (fun H locs hP hD hS => ?_)
  rw [in_set] at hP hD
  have e9 : (w ++ [(a, .inr (0, [.ref q5, .ref q16, .ref q27, .int 50]))]) ++ ((ic_M cI q5 u9 ++ ic_T cI q16 u20) ++ ic_H cI q27 u31) = w ++ ic_C cI a (fun i => ([q5, u9 0, u9 1, u9 2, u9 3, u9 4, u9 5, q16, u20 0, u20 1, u20 2, u20 3, q27, u31 0, u31 1, u31 2, u31 3, u31 4, u31 5] : List Nat).getD i 0) := List.append_assoc _ _ _
  have hP : va_P D vwCl (w ++ ic_C cI a (fun i => ([q5, u9 0, u9 1, u9 2, u9 3, u9 4, u9 5, q16, u20 0, u20 1, u20 2, u20 3, q27, u31 0, u31 1, u31 2, u31 3, u31 4, u31 5] : List Nat).getD i 0)) H := e9 ▸ hP
  have hD : va_D A (w ++ ic_C cI a (fun i => ([q5, u9 0, u9 1, u9 2, u9 3, u9 4, u9 5, q16, u20 0, u20 1, u20 2, u20 3, q27, u31 0, u31 1, u31 2, u31 3, u31 4, u31 5] : List Nat).getD i 0)) := e9 ▸ hD
  exact W.vret hx hb hr (fun t ht hW => ⟨⟨(fun i => ([q5, u9 0, u9 1, u9 2, u9 3, u9 4, u9 5, q16, u20 0, u20 1, u20 2, u20 3, q27, u31 0, u31 1, u31 2, u31 3, u31 4, u31 5] : List Nat).getD i 0), rfl, trivial, qm_en ht hP hD⟩, hS.F ht⟩) hS.2.2 dX0_init_43
