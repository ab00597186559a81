/-! ===== the reference's world: its object and ten rows ===== -/
abbrev mm_M : Type := (Nat → Nat → Int32) × Int32
def mm_up (M : mm_M) (j : Nat) (f : Nat → Int32) : mm_M := (va_up M.1 j f, M.2)
def mm_th (M : mm_M) (v : Int32) : mm_M := (M.1, v)
def mm_w (am : Nat → Nat) (cI : ClassId) (M : mm_M) : va_W := [(am 0, .inr (7, [.ref (am 1), .ref (am 2), .ref (am 3), .ref (am 4), .ref (am 5), .ref (am 6), .ref (am 7), .ref (am 8), .ref (am 9), .ref (am 10), .int M.2])), (am 1, .inl (cI, 4, .inl (M.1 0))), (am 2, .inl (cI, 4, .inl (M.1 1))), (am 3, .inl (cI, 4, .inl (M.1 2))), (am 4, .inl (cI, 2400, .inl (M.1 3))), (am 5, .inl (cI, 2400, .inl (M.1 4))), (am 6, .inl (cI, 2400, .inl (M.1 5))), (am 7, .inl (cI, 2400, .inl (M.1 6))), (am 8, .inl (cI, 600, .inl (M.1 7))), (am 9, .inl (cI, 600, .inl (M.1 8))), (am 10, .inl (cI, 600, .inl (M.1 9)))]
def mm_W (pre : va_W) (am : Nat → Nat) (cI : ClassId) (M : mm_M) : va_W := pre ++ mm_w am cI M
abbrev mm_T (cI : ClassId) : List (ClassId × FieldType) := [(cI, .int)]
section MmWorld
variable {pre : va_W} {am : Nat → Nat} {cI : ClassId} {S : mm_M}
theorem mm_at {i : Nat} {q : Nat × va_E} (h : (mm_w am cI S)[i]? = some q) : (mm_W pre am cI S)[pre.length + i]? = some q := by
  unfold mm_W
  rw [List.getElem?_append_right (Nat.le_add_right _ _), Nat.add_sub_cancel_left]
  exact h
theorem mm_set {i : Nat} {q : Nat × va_E} {S2 : mm_M} (h : (mm_w am cI S).set i q = mm_w am cI S2) : (mm_W pre am cI S).set (pre.length + i) q = mm_W pre am cI S2 := by
  unfold mm_W
  rw [List.set_append_right _ _ (Nat.le_add_right _ _), Nat.add_sub_cancel_left, h]
theorem mg_0 : (mm_W pre am cI S)[pre.length + 0]? = some (am 0, .inr (7, [.ref (am 1), .ref (am 2), .ref (am 3), .ref (am 4), .ref (am 5), .ref (am 6), .ref (am 7), .ref (am 8), .ref (am 9), .ref (am 10), .int S.2])) := mm_at rfl
theorem mg_1 : (mm_W pre am cI S)[pre.length + 1]? = some (am 1, .inl (cI, 4, .inl (S.1 0))) := mm_at rfl
theorem mg_2 : (mm_W pre am cI S)[pre.length + 2]? = some (am 2, .inl (cI, 4, .inl (S.1 1))) := mm_at rfl
theorem mg_3 : (mm_W pre am cI S)[pre.length + 3]? = some (am 3, .inl (cI, 4, .inl (S.1 2))) := mm_at rfl
theorem mg_4 : (mm_W pre am cI S)[pre.length + 4]? = some (am 4, .inl (cI, 2400, .inl (S.1 3))) := mm_at rfl
theorem mg_5 : (mm_W pre am cI S)[pre.length + 5]? = some (am 5, .inl (cI, 2400, .inl (S.1 4))) := mm_at rfl
theorem mg_6 : (mm_W pre am cI S)[pre.length + 6]? = some (am 6, .inl (cI, 2400, .inl (S.1 5))) := mm_at rfl
theorem mg_7 : (mm_W pre am cI S)[pre.length + 7]? = some (am 7, .inl (cI, 2400, .inl (S.1 6))) := mm_at rfl
theorem mg_8 : (mm_W pre am cI S)[pre.length + 8]? = some (am 8, .inl (cI, 600, .inl (S.1 7))) := mm_at rfl
theorem mg_9 : (mm_W pre am cI S)[pre.length + 9]? = some (am 9, .inl (cI, 600, .inl (S.1 8))) := mm_at rfl
theorem mg_10 : (mm_W pre am cI S)[pre.length + 10]? = some (am 10, .inl (cI, 600, .inl (S.1 9))) := mm_at rfl
theorem ms_t (v : Int32) : (mm_W pre am cI S).set (pre.length + 0) (am 0, .inr (7, [Value.ref (am 1), Value.ref (am 2), Value.ref (am 3), Value.ref (am 4), Value.ref (am 5), Value.ref (am 6), Value.ref (am 7), Value.ref (am 8), Value.ref (am 9), Value.ref (am 10), Value.int S.2].set 10 (.int v))) = mm_W pre am cI (mm_th S v) := mm_set rfl
theorem ms_1 (f : Nat → Int32) : (mm_W pre am cI S).set (pre.length + 1) (am 1, .inl (cI, 4, .inl f)) = mm_W pre am cI (mm_up S 0 f) := mm_set (by simp [mm_w, mm_up, va_up])
theorem ms_2 (f : Nat → Int32) : (mm_W pre am cI S).set (pre.length + 2) (am 2, .inl (cI, 4, .inl f)) = mm_W pre am cI (mm_up S 1 f) := mm_set (by simp [mm_w, mm_up, va_up])
theorem ms_3 (f : Nat → Int32) : (mm_W pre am cI S).set (pre.length + 3) (am 3, .inl (cI, 4, .inl f)) = mm_W pre am cI (mm_up S 2 f) := mm_set (by simp [mm_w, mm_up, va_up])
theorem ms_4 (f : Nat → Int32) : (mm_W pre am cI S).set (pre.length + 4) (am 4, .inl (cI, 2400, .inl f)) = mm_W pre am cI (mm_up S 3 f) := mm_set (by simp [mm_w, mm_up, va_up])
theorem ms_5 (f : Nat → Int32) : (mm_W pre am cI S).set (pre.length + 5) (am 5, .inl (cI, 2400, .inl f)) = mm_W pre am cI (mm_up S 4 f) := mm_set (by simp [mm_w, mm_up, va_up])
theorem ms_6 (f : Nat → Int32) : (mm_W pre am cI S).set (pre.length + 6) (am 6, .inl (cI, 2400, .inl f)) = mm_W pre am cI (mm_up S 5 f) := mm_set (by simp [mm_w, mm_up, va_up])
theorem ms_7 (f : Nat → Int32) : (mm_W pre am cI S).set (pre.length + 7) (am 7, .inl (cI, 2400, .inl f)) = mm_W pre am cI (mm_up S 6 f) := mm_set (by simp [mm_w, mm_up, va_up])
theorem ms_8 (f : Nat → Int32) : (mm_W pre am cI S).set (pre.length + 8) (am 8, .inl (cI, 600, .inl f)) = mm_W pre am cI (mm_up S 7 f) := mm_set (by simp [mm_w, mm_up, va_up])
theorem ms_9 (f : Nat → Int32) : (mm_W pre am cI S).set (pre.length + 9) (am 9, .inl (cI, 600, .inl f)) = mm_W pre am cI (mm_up S 8 f) := mm_set (by simp [mm_w, mm_up, va_up])
theorem ms_10 (f : Nat → Int32) : (mm_W pre am cI S).set (pre.length + 10) (am 10, .inl (cI, 600, .inl f)) = mm_W pre am cI (mm_up S 9 f) := mm_set (by simp [mm_w, mm_up, va_up])
end MmWorld
abbrev mo_in (v lo hi : Int32) : Prop := ¬ v < lo ∧ ¬ hi < v
noncomputable def fX7_thrown (S : mm_M)  : Option (Int32) :=
  some S.2
set_option maxHeartbeats 4000000 in
set_option maxRecDepth 100000 in
theorem kX7_thrown (l : Launch) (D : va_G) (A : Nat → Prop) (pre : va_W) (am : Nat → Nat) (cI : ClassId) (S : mm_M)  (z : Int32) (h : fX7_thrown S  = some z) : Met l yX7_thrown wsX7_thrown ({ frames := 0, cells := 0, slots := 0, locals := 0 }) (va_Pc [.ref (am 0)] (qm_B D A (mm_T cI) (mm_W pre am cI S))) (qm_Qi D A (mm_W pre am cI) (z, S)) 0 0 A := by
  refine Met.ofW (cc := cX7_thrown) (maxL := 1) (ret := (some .int)) (by decide) rfl ?_
  intro p e s m args below meth c s₁ B hml hv
  obtain ⟨rfl, hA, hP, hK, hD⟩ := hv
  have hx := B.exec
  have hb := B.bytes
  have hr := B.returns
  have hts := atoms_spec (ws := wsX7_thrown) B.pre
  have hown : s.vm.findClass RX7 = some m.cls := findClass_of_methodNamed B.named
  have hlocks := B.notSynchronized
  have hS : va_S A s.heap s.heap [] := va_S.rf
  have hl := lv_entry ([.ref (am 0)]) (n := 1) (Nat.le_of_ble_eq_true rfl)
  rw [lg_entry_eq]
  generalize (lg_sl ([.ref (am 0)]) ++ List.replicate (1 - (lg_sl ([.ref (am 0)])).length) Slot.unset).toArray = ls at hl ⊢
  have hl : lv_has ls 1 [(0, .ref (am 0))] := hl
  rw [fX7_thrown] at h
  refine lv_aload_n hx hb dX7_thrown_0 rfl (lv_at hl 0 rfl) ?_
  refine va_get (D := D) (ci := 7) (v := .int S.2) (C := RX7) (T := TX7) (N := 11) hx hb hts (by decide +kernel) hown hK hP (pre.length + 0) mg_0 rfl 10 (by decide) (hts (.fieldLink RX7 40 "QueueMiddlesModel" "thrown" "I") (by decide +kernel)) (fun _ h9 => h9) rfl dX7_thrown_1 ?_
  have h := Option.some.inj h
  subst h
  exact W.iret (v := S.2) hx hb hr (fun t ht hW => ⟨⟨S.2, S, rfl, ⟨rfl, rfl⟩, qm_en ht hP hD⟩, hS.F ht⟩) hS.2.2 dX7_thrown_4
theorem eX7_thrown (S : mm_M)  : fX7_thrown S  = some S.2 := by
  rfl
theorem nX7_thrown (l : Launch) (D : va_G) (A : Nat → Prop) (pre : va_W) (am : Nat → Nat) (cI : ClassId) (S : mm_M)  : Met l yX7_thrown wsX7_thrown ({ frames := 0, cells := 0, slots := 0, locals := 0 }) (va_Pc [.ref (am 0)] (qm_B D A (mm_T cI) (mm_W pre am cI S))) (qm_Qi D A (mm_W pre am cI) (S.2, S)) 0 0 A :=
  kX7_thrown l D A pre am cI S  _ (eX7_thrown S )
noncomputable def fX7_in (S : mm_M) (p0 : Int32) (p1 : Int32) (p2 : Int32) : Option (Int32) :=
  (if p0 < p1 then some (0 : Int32) else (if p2 < p0 then some (0 : Int32) else some (1 : Int32)))
set_option maxHeartbeats 4000000 in
set_option maxRecDepth 100000 in
theorem kX7_in (l : Launch) (D : va_G) (A : Nat → Prop) (pre : va_W) (am : Nat → Nat) (cI : ClassId) (S : mm_M) (p0 : Int32) (p1 : Int32) (p2 : Int32) (z : Int32) (h : fX7_in S p0 p1 p2 = some z) : Met l yX7_in wsX7_in ({ frames := 0, cells := 0, slots := 0, locals := 0 }) (va_Pc [.int p0, .int p1, .int p2] (qm_B D A (mm_T cI) (mm_W pre am cI S))) (qm_Qi D A (mm_W pre am cI) (z, S)) 0 0 A := by
  refine Met.ofW (cc := cX7_in) (maxL := 3) (ret := (some .boolean)) (by decide) rfl ?_
  intro p e s m args below meth c s₁ B hml hv
  obtain ⟨rfl, hA, hP, hK, hD⟩ := hv
  have hx := B.exec
  have hb := B.bytes
  have hr := B.returns
  have hts := atoms_spec (ws := wsX7_in) B.pre
  have hown : s.vm.findClass RX7 = some m.cls := findClass_of_methodNamed B.named
  have hlocks := B.notSynchronized
  have hS : va_S A s.heap s.heap [] := va_S.rf
  have hl := lv_entry ([.int p0, .int p1, .int p2]) (n := 3) (Nat.le_of_ble_eq_true rfl)
  rw [lg_entry_eq]
  generalize (lg_sl ([.int p0, .int p1, .int p2]) ++ List.replicate (3 - (lg_sl ([.int p0, .int p1, .int p2])).length) Slot.unset).toArray = ls at hl ⊢
  have hl : lv_has ls 3 [(0, .int p0), (1, .int p1), (2, .int p2)] := hl
  rw [fX7_in] at h
  refine lv_iload_n hx hb dX7_in_0 rfl (lv_at hl 0 rfl) ?_
  refine lv_iload_n hx hb dX7_in_1 rfl (lv_at hl 1 rfl) ?_
  refine lv_icmp_lt (tgt := 14) hx hb dX7_in_2 (by decide) (fun c_1 => ?_) (fun c_1 => ?_)
  · rw [if_pos c_1] at h
    refine lv_iconst (v := (0 : Int32)) hx hb dX7_in_14 (by decide) ?_
    have h := Option.some.inj h
    subst h
    exact W.zret (v := (0 : Int32)) hx hb hr rfl (fun t ht hW => ⟨⟨(0 : Int32), S, rfl, ⟨rfl, rfl⟩, qm_en ht hP hD⟩, hS.F ht⟩) hS.2.2 dX7_in_15
  · rw [if_neg c_1] at h
    refine lv_iload_n hx hb dX7_in_5 rfl (lv_at hl 0 rfl) ?_
    refine lv_iload_n hx hb dX7_in_6 rfl (lv_at hl 2 rfl) ?_
    refine lv_icmp_gt (tgt := 14) hx hb dX7_in_7 (by decide) (fun c_2 => ?_) (fun c_2 => ?_)
    · rw [if_pos c_2] at h
      refine lv_iconst (v := (0 : Int32)) hx hb dX7_in_14 (by decide) ?_
      have h := Option.some.inj h
      subst h
      exact W.zret (v := (0 : Int32)) hx hb hr rfl (fun t ht hW => ⟨⟨(0 : Int32), S, rfl, ⟨rfl, rfl⟩, qm_en ht hP hD⟩, hS.F ht⟩) hS.2.2 dX7_in_15
    · rw [if_neg c_2] at h
      refine lv_iconst (v := (1 : Int32)) hx hb dX7_in_10 (by decide) ?_
      refine lv_goto (tgt := 15) hx hb dX7_in_11 (by decide) ?_
      have h := Option.some.inj h
      subst h
      exact W.zret (v := (1 : Int32)) hx hb hr rfl (fun t ht hW => ⟨⟨(1 : Int32), S, rfl, ⟨rfl, rfl⟩, qm_en ht hP hD⟩, hS.F ht⟩) hS.2.2 dX7_in_15
theorem eX7_in (S : mm_M) (p0 : Int32) (p1 : Int32) (p2 : Int32) : fX7_in S p0 p1 p2 = some (if mo_in p0 p1 p2 then 1 else 0) := by
  unfold fX7_in mo_in
  by_cases h1 : p0 < p1 <;> by_cases h2 : p2 < p0 <;> simp [h1, h2]
theorem nX7_in (l : Launch) (D : va_G) (A : Nat → Prop) (pre : va_W) (am : Nat → Nat) (cI : ClassId) (S : mm_M) (p0 : Int32) (p1 : Int32) (p2 : Int32) : Met l yX7_in wsX7_in ({ frames := 0, cells := 0, slots := 0, locals := 0 }) (va_Pc [.int p0, .int p1, .int p2] (qm_B D A (mm_T cI) (mm_W pre am cI S))) (qm_Qi D A (mm_W pre am cI) ((if mo_in p0 p1 p2 then 1 else 0), S)) 0 0 A :=
  kX7_in l D A pre am cI S p0 p1 p2 _ (eX7_in S p0 p1 p2)
noncomputable def fX7_isFine (S : mm_M) (p0 : Int32) : Option (Int32 × mm_M) :=
  (if p0 = 0 then some ((1 : Int32), mm_th S p0) else some ((0 : Int32), mm_th S p0))
set_option maxHeartbeats 4000000 in
set_option maxRecDepth 100000 in
theorem kX7_isFine (l : Launch) (D : va_G) (A : Nat → Prop) (pre : va_W) (am : Nat → Nat) (cI : ClassId) (S : mm_M) (p0 : Int32) (z : Int32 × mm_M) (h : fX7_isFine S p0 = some z) : Met l yX7_isFine wsX7_isFine ({ frames := 0, cells := 0, slots := 0, locals := 0 }) (va_Pc [.ref (am 0), .int p0] (qm_B D A (mm_T cI) (mm_W pre am cI S))) (qm_Qi D A (mm_W pre am cI) z) 0 0 A := by
  refine Met.ofW (cc := cX7_isFine) (maxL := 2) (ret := (some .boolean)) (by decide) rfl ?_
  intro p e s m args below meth c s₁ B hml hv
  obtain ⟨rfl, hA, hP, hK, hD⟩ := hv
  have hx := B.exec
  have hb := B.bytes
  have hr := B.returns
  have hts := atoms_spec (ws := wsX7_isFine) B.pre
  have hown : s.vm.findClass RX7 = some m.cls := findClass_of_methodNamed B.named
  have hlocks := B.notSynchronized
  have hS : va_S A s.heap s.heap [] := va_S.rf
  have hl := lv_entry ([.ref (am 0), .int p0]) (n := 2) (Nat.le_of_ble_eq_true rfl)
  rw [lg_entry_eq]
  generalize (lg_sl ([.ref (am 0), .int p0]) ++ List.replicate (2 - (lg_sl ([.ref (am 0), .int p0])).length) Slot.unset).toArray = ls at hl ⊢
  have hl : lv_has ls 2 [(0, .ref (am 0)), (1, .int p0)] := hl
  rw [fX7_isFine] at h
  refine lv_aload_n hx hb dX7_isFine_0 rfl (lv_at hl 0 rfl) ?_
  refine lv_iload_n hx hb dX7_isFine_1 rfl (lv_at hl 1 rfl) ?_
  refine va_put (D := D) (ci := 7) (v := .int p0) (ty := .int) (C := RX7) (T := TX7) (N := 11) hx hb hts (by decide +kernel) tyX7 tyX7_ok nmX7 hown hK hP hD hS (pre.length + 0) mg_0 rfl 10 (by decide) (hts (.fieldLink RX7 40 "QueueMiddlesModel" "thrown" "I") (by decide +kernel)) (fun _ h9 => h9) rfl (by decide +kernel) rfl rfl (Nat.le_of_ble_eq_true rfl) dX7_isFine_2 (fun H locs hP hD hS => ?_)
  rw [ms_t p0] at hP hD
  refine lv_iload_n hx hb dX7_isFine_5 rfl (lv_at hl 1 rfl) ?_
  refine lv_if_ne (tgt := 13) hx hb dX7_isFine_6 (by decide) (fun c_1 => ?_) (fun c_1 => ?_)
  · rw [if_neg c_1] at h
    refine lv_iconst (v := (0 : Int32)) hx hb dX7_isFine_13 (by decide) ?_
    have h := Option.some.inj h
    subst h
    exact W.zret (v := (0 : Int32)) hx hb hr rfl (fun t ht hW => ⟨⟨(0 : Int32), mm_th S p0, rfl, ⟨rfl, rfl⟩, qm_en ht hP hD⟩, hS.F ht⟩) hS.2.2 dX7_isFine_14
  · rw [if_pos c_1] at h
    refine lv_iconst (v := (1 : Int32)) hx hb dX7_isFine_9 (by decide) ?_
    refine lv_goto (tgt := 14) hx hb dX7_isFine_10 (by decide) ?_
    have h := Option.some.inj h
    subst h
    exact W.zret (v := (1 : Int32)) hx hb hr rfl (fun t ht hW => ⟨⟨(1 : Int32), mm_th S p0, rfl, ⟨rfl, rfl⟩, qm_en ht hP hD⟩, hS.F ht⟩) hS.2.2 dX7_isFine_14
theorem eX7_isFine (S : mm_M) (p0 : Int32) : fX7_isFine S p0 = some ((if p0 = 0 then 1 else 0), mm_th S p0) := by
  unfold fX7_isFine
  by_cases h : p0 = 0
  · rw [if_pos h, if_pos h]
  · rw [if_neg h, if_neg h]
theorem nX7_isFine (l : Launch) (D : va_G) (A : Nat → Prop) (pre : va_W) (am : Nat → Nat) (cI : ClassId) (S : mm_M) (p0 : Int32) : Met l yX7_isFine wsX7_isFine ({ frames := 0, cells := 0, slots := 0, locals := 0 }) (va_Pc [.ref (am 0), .int p0] (qm_B D A (mm_T cI) (mm_W pre am cI S))) (qm_Qi D A (mm_W pre am cI) ((if p0 = 0 then 1 else 0), mm_th S p0)) 0 0 A :=
  kX7_isFine l D A pre am cI S p0 _ (eX7_isFine S p0)
noncomputable def fX7_isCounter (S : mm_M) (p0 : Int32) : Option (Int32) :=
  (if mo_in p0 (0 : Int32) (3 : Int32) then some (1 : Int32) else some (0 : Int32))
set_option maxHeartbeats 4000000 in
set_option maxRecDepth 100000 in
theorem kX7_isCounter (l : Launch) (D : va_G) (A : Nat → Prop) (pre : va_W) (am : Nat → Nat) (cI : ClassId) (S : mm_M) (p0 : Int32) (z : Int32) (h : fX7_isCounter S p0 = some z) : Met l yX7_isCounter wsX7_isCounter ({ frames := 1, cells := 0, slots := 0, locals := 22 }) (va_Pc [.int p0] (qm_B D A (mm_T cI) (mm_W pre am cI S))) (qm_Qi D A (mm_W pre am cI) (z, S)) 0 0 A := by
  refine Met.ofW (cc := cX7_isCounter) (maxL := 1) (ret := (some .boolean)) (by decide) rfl ?_
  intro p e s m args below meth c s₁ B hml hv
  obtain ⟨rfl, hA, hP, hK, hD⟩ := hv
  have hx := B.exec
  have hb := B.bytes
  have hr := B.returns
  have hts := atoms_spec (ws := wsX7_isCounter) B.pre
  have hown : s.vm.findClass RX7 = some m.cls := findClass_of_methodNamed B.named
  have hlocks := B.notSynchronized
  have hS : va_S A s.heap s.heap [] := va_S.rf
  have hl := lv_entry ([.int p0]) (n := 1) (Nat.le_of_ble_eq_true rfl)
  rw [lg_entry_eq]
  generalize (lg_sl ([.int p0]) ++ List.replicate (1 - (lg_sl ([.int p0])).length) Slot.unset).toArray = ls at hl ⊢
  have hl : lv_has ls 1 [(0, .int p0)] := hl
  rw [fX7_isCounter] at h
  refine lv_iload_n hx hb dX7_isCounter_0 rfl (lv_at hl 0 rfl) ?_
  refine lv_iconst (v := (0 : Int32)) hx hb dX7_isCounter_1 (by decide) ?_
  refine lv_iconst (v := (3 : Int32)) hx hb dX7_isCounter_2 (by decide) ?_
  refine va_calli (va_runS (As := [.int p0, .int (0 : Int32), .int (3 : Int32)]) (rest := []) ⟨hx, hb, hml, hown, hts⟩ (nX7_in l D A pre am cI S p0 (0 : Int32) (3 : Int32)) (va_cwS 3 hts gX7_isCounter_X7_in rfl rfl rfl (by decide +kernel) ⟨Nat.le_of_ble_eq_true rfl, Nat.le_of_ble_eq_true rfl⟩) ⟨qm_blind, fun U hU hW => ⟨rfl, qm_go hA hS hP hK hD hU hW⟩⟩ rfl rfl hl.1 rfl (lv_room (Nat.le_of_ble_eq_true rfl)) dX7_isCounter_3 ⟨Nat.le_of_ble_eq_true rfl, Nat.le_of_ble_eq_true rfl⟩) hS (fun _ _ h9 => h9) (fun _ h9 => h9) (fun v u t H1 locs1 ht hvm hw hB hz1 hk1 hS => ?_)
  obtain ⟨hw1, hw2⟩ := hw
  have hw1 : (if mo_in p0 (0 : Int32) (3 : Int32) then 1 else 0) = v := hw1.symm
  have hw2 : S = u := hw2.symm
  subst hw1
  subst hw2
  obtain ⟨hP, hD⟩ := qm_bk ht hB
  by_cases c_1 : mo_in p0 (0 : Int32) (3 : Int32)
  · rw [if_pos c_1] at h ⊢
    have h := Option.some.inj h
    subst h
    exact W.zret (v := (1 : Int32)) hx hb hr rfl (fun t ht hW => ⟨⟨(1 : Int32), S, rfl, ⟨rfl, rfl⟩, qm_en ht hP hD⟩, hS.F ht⟩) hS.2.2 dX7_isCounter_6
  · rw [if_neg c_1] at h ⊢
    have h := Option.some.inj h
    subst h
    exact W.zret (v := (0 : Int32)) hx hb hr rfl (fun t ht hW => ⟨⟨(0 : Int32), S, rfl, ⟨rfl, rfl⟩, qm_en ht hP hD⟩, hS.F ht⟩) hS.2.2 dX7_isCounter_6
theorem eX7_isCounter (S : mm_M) (p0 : Int32) : fX7_isCounter S p0 = some (if mo_in p0 0 3 then 1 else 0) := by
  unfold fX7_isCounter
  by_cases h : mo_in p0 0 3
  · rw [if_pos h, if_pos h]
  · rw [if_neg h, if_neg h]
theorem nX7_isCounter (l : Launch) (D : va_G) (A : Nat → Prop) (pre : va_W) (am : Nat → Nat) (cI : ClassId) (S : mm_M) (p0 : Int32) : Met l yX7_isCounter wsX7_isCounter ({ frames := 1, cells := 0, slots := 0, locals := 22 }) (va_Pc [.int p0] (qm_B D A (mm_T cI) (mm_W pre am cI S))) (qm_Qi D A (mm_W pre am cI) ((if mo_in p0 0 3 then 1 else 0), S)) 0 0 A :=
  kX7_isCounter l D A pre am cI S p0 _ (eX7_isCounter S p0)
