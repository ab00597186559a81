/-! ===== Row: what its methods compute ===== -/
abbrev rw_hd (R : qm_R) (p : Int32) : Prop := ¬ p < 0 ∧ ¬ R.1 ≤ p ∧ ¬ 600 ≤ p
def rw_at (R : qm_R) (p : Int32) : Int32 := if rw_hd R p then R.2 p.toNatClampNeg else 0
def rw_put (R : qm_R) (p v : Int32) : qm_R := if rw_hd R p then (R.1, upd R.2 p.toNatClampNeg v) else R
def rw_ins (R : qm_R) (p v : Int32) : qm_R := if p < 0 then R else if R.1 < p then R else if R.1 < 600 then (R.1 + 1, upd (va_cpy R.2 R.2 p.toNatClampNeg (p + 1).toNatClampNeg (R.1 - p).toNatClampNeg) p.toNatClampNeg v) else R
def rw_cut (R : qm_R) (p : Int32) : qm_R := if p < 0 then R else if R.1 ≤ p then R else (p, R.2)
def rw_gro (R : qm_R) (p : Int32) : qm_R := if p ≤ R.1 then R else if 600 < p then R else (p, R.2)
theorem qm_row_self (S : qm_S) (r : Nat) : qm_row S r (S.1 r) = S := by
  obtain ⟨a, b⟩ := S
  unfold qm_row
  congr 1
  funext j
  unfold va_up
  split
  · next q => rw [q]
  · rfl
theorem qm_row_row (S : qm_S) (r : Nat) (R R' : qm_R) : qm_row (qm_row S r R) r R' = qm_row S r R' := by
  unfold qm_row
  congr 1
  funext j
  simp only [va_up]
  split
  · rfl
  · rfl
theorem qm_row_at (S : qm_S) (r : Nat) (R : qm_R) : (qm_row S r R).1 r = R := by simp [qm_row, va_up]
theorem qm_row_ne (S : qm_S) {r q : Nat} (R : qm_R) (h : q ≠ r) : (qm_row S r R).1 q = S.1 q := by simp [qm_row, va_up, h]
theorem rw_hd_in {R : qm_R} {p : Int32} (h : rw_hd R p) : vp_in p 600 := by
  obtain ⟨h1, -, h3⟩ := h
  rw [vp_in_iff]
  have a : ¬ p.toInt < (0 : Int32).toInt := fun q => h1 (Int32.lt_iff_toInt_lt.mpr q)
  have b : ¬ (600 : Int32).toInt ≤ p.toInt := fun q => h3 (Int32.le_iff_toInt_le.mpr q)
  have z : (0 : Int32).toInt = 0 := rfl
  have y : (600 : Int32).toInt = 600 := rfl
  rw [z] at a
  rw [y] at b
  omega
theorem rw_ins_ok {p z : Int32} (h1 : ¬ p < 0) (h2 : ¬ z < p) (h3 : z < 600) : (¬ p < 0 ∧ ¬ (p + 1) < 0 ∧ ¬ (z - p) < 0 ∧ p.toNatClampNeg + (z - p).toNatClampNeg ≤ 600 ∧ (p + 1).toNatClampNeg + (z - p).toNatClampNeg ≤ 600) ∧ vp_in p 600 := by
  obtain ⟨j, hj, rfl⟩ := nI_of h1
  have hz : ¬ z < 0 := fun q => by
    have a : ¬ z.toInt < (nI j).toInt := fun q => h2 (Int32.lt_iff_toInt_lt.mpr q)
    have b := Int32.lt_iff_toInt_lt.mp q
    rw [nI_toInt hj] at a
    have y : (0 : Int32).toInt = 0 := rfl
    rw [y] at b
    omega
  obtain ⟨n, hn, rfl⟩ := nI_of hz
  have hjn : j ≤ n := by
    rcases Nat.lt_or_ge n j with q | q
    · exact absurd (nI_lt q hj) h2
    · exact q
  have hn6 : n < 600 := by
    rcases Nat.lt_or_ge n 600 with q | q
    · exact q
    · exact absurd h3 (nI_nlt (a := n) (b := 600) q hn)
  rw [nI_1, pk_sub hjn, nI_clamp hj, nI_clamp (show n - j < 2 ^ 31 by omega), nI_clamp (show j + 1 < 2 ^ 31 by omega)]
  exact ⟨⟨nI_pos hj, nI_pos (by omega), nI_pos (by omega), by omega, by omega⟩, vp_in_nI (by omega) (by omega)⟩
noncomputable def fX4_size (S : qm_S) (r : Nat) : Option (Int32) :=
  some ((S.1 r).1)
set_option maxHeartbeats 4000000 in
set_option maxRecDepth 100000 in
theorem kX4_size (l : Launch) (D : va_G) (A : Nat → Prop) (ad : Nat → Nat) (cI cQ : ClassId) (rest : va_W) (S : qm_S) (r : Nat) (hix : r < 28) (z : Int32) (h : fX4_size S r = some z) : Met l yX4_size wsX4_size ({ frames := 0, cells := 0, slots := 0, locals := 0 }) (va_Pc [.ref (ad (26 + r))] (qm_B D A (qm_T cI cQ) (qm_W ad cI cQ rest S))) (qm_Qi D A (qm_W ad cI cQ rest) (z, S)) 0 0 A := by
  refine Met.ofW (cc := cX4_size) (maxL := 1) (ret := (some .int)) (by decide) rfl ?_
  intro p e s m args below meth c s₁ B hml hv
  obtain ⟨rfl, hA, hP, hK, hD⟩ := hv
  have hx := B.exec
  have hb := B.bytes
  have hr := B.returns
  have hts := atoms_spec (ws := wsX4_size) B.pre
  have hown : s.vm.findClass RX4 = some m.cls := findClass_of_methodNamed B.named
  have hlocks := B.notSynchronized
  have hS : va_S A s.heap s.heap [] := va_S.rf
  have hl := lv_entry ([.ref (ad (26 + r))]) (n := 1) (Nat.le_of_ble_eq_true rfl)
  rw [lg_entry_eq]
  generalize (lg_sl ([.ref (ad (26 + r))]) ++ List.replicate (1 - (lg_sl ([.ref (ad (26 + r))])).length) Slot.unset).toArray = ls at hl ⊢
  have hl : lv_has ls 1 [(0, .ref (ad (26 + r)))] := hl
  rw [fX4_size] at h
  refine lv_aload_n hx hb dX4_size_0 rfl (lv_at hl 0 rfl) ?_
  refine va_get (D := D) (ci := 4) (v := .int ((S.1 r).1)) (C := RX4) (T := TX4) (N := 2) hx hb hts (by decide +kernel) hown hK hP (26 + r) (qg_R hix) rfl 1 (by decide) (hts (.fieldLink RX4 15 "QueueMiddles$Row" "size" "I") (by decide +kernel)) (fun _ h9 => h9) rfl dX4_size_1 ?_
  have h := Option.some.inj h
  subst h
  exact W.iret (v := (S.1 r).1) hx hb hr (fun t ht hW => ⟨⟨(S.1 r).1, S, rfl, ⟨rfl, rfl⟩, qm_en ht hP hD⟩, hS.F ht⟩) hS.2.2 dX4_size_4
theorem eX4_size (S : qm_S) (r : Nat) : fX4_size S r = some ((S.1 r).1) := by
  rfl
theorem nX4_size (l : Launch) (D : va_G) (A : Nat → Prop) (ad : Nat → Nat) (cI cQ : ClassId) (rest : va_W) (S : qm_S) (r : Nat) (hix : r < 28) : Met l yX4_size wsX4_size ({ frames := 0, cells := 0, slots := 0, locals := 0 }) (va_Pc [.ref (ad (26 + r))] (qm_B D A (qm_T cI cQ) (qm_W ad cI cQ rest S))) (qm_Qi D A (qm_W ad cI cQ rest) ((S.1 r).1, S)) 0 0 A :=
  kX4_size l D A ad cI cQ rest S r hix _ (eX4_size S r)
noncomputable def fX4_holds (S : qm_S) (r : Nat) (p0 : Int32) : Option (Int32) :=
  (if p0 < 0 then some (0 : Int32) else (if ((S.1 r).1) ≤ p0 then some (0 : Int32) else (if (600 : Int32) ≤ p0 then some (0 : Int32) else some (1 : Int32))))
set_option maxHeartbeats 4000000 in
set_option maxRecDepth 100000 in
theorem kX4_holds (l : Launch) (D : va_G) (A : Nat → Prop) (ad : Nat → Nat) (cI cQ : ClassId) (rest : va_W) (S : qm_S) (r : Nat) (hix : r < 28) (p0 : Int32) (z : Int32) (h : fX4_holds S r p0 = some z) : Met l yX4_holds wsX4_holds ({ frames := 0, cells := 0, slots := 0, locals := 0 }) (va_Pc [.ref (ad (26 + r)), .int p0] (qm_B D A (qm_T cI cQ) (qm_W ad cI cQ rest S))) (qm_Qi D A (qm_W ad cI cQ rest) (z, S)) 0 0 A := by
  refine Met.ofW (cc := cX4_holds) (maxL := 2) (ret := (some .boolean)) (by decide) rfl ?_
  intro p e s m args below meth c s₁ B hml hv
  obtain ⟨rfl, hA, hP, hK, hD⟩ := hv
  have hx := B.exec
  have hb := B.bytes
  have hr := B.returns
  have hts := atoms_spec (ws := wsX4_holds) B.pre
  have hown : s.vm.findClass RX4 = some m.cls := findClass_of_methodNamed B.named
  have hlocks := B.notSynchronized
  have hS : va_S A s.heap s.heap [] := va_S.rf
  have hl := lv_entry ([.ref (ad (26 + r)), .int p0]) (n := 2) (Nat.le_of_ble_eq_true rfl)
  rw [lg_entry_eq]
  generalize (lg_sl ([.ref (ad (26 + r)), .int p0]) ++ List.replicate (2 - (lg_sl ([.ref (ad (26 + r)), .int p0])).length) Slot.unset).toArray = ls at hl ⊢
  have hl : lv_has ls 2 [(0, .ref (ad (26 + r))), (1, .int p0)] := hl
  rw [fX4_holds] at h
  refine lv_iload_n hx hb dX4_holds_0 rfl (lv_at hl 1 rfl) ?_
  refine lv_if_lt (tgt := 25) hx hb dX4_holds_1 (by decide) (fun c_1 => ?_) (fun c_1 => ?_)
  · rw [if_pos c_1] at h
    refine lv_iconst (v := (0 : Int32)) hx hb dX4_holds_25 (by decide) ?_
    have h := Option.some.inj h
    subst h
    exact W.zret (v := (0 : Int32)) hx hb hr rfl (fun t ht hW => ⟨⟨(0 : Int32), S, rfl, ⟨rfl, rfl⟩, qm_en ht hP hD⟩, hS.F ht⟩) hS.2.2 dX4_holds_26
  · rw [if_neg c_1] at h
    refine lv_iload_n hx hb dX4_holds_4 rfl (lv_at hl 1 rfl) ?_
    refine lv_aload_n hx hb dX4_holds_5 rfl (lv_at hl 0 rfl) ?_
    refine va_get (D := D) (ci := 4) (v := .int ((S.1 r).1)) (C := RX4) (T := TX4) (N := 2) hx hb hts (by decide +kernel) hown hK hP (26 + r) (qg_R hix) rfl 1 (by decide) (hts (.fieldLink RX4 15 "QueueMiddles$Row" "size" "I") (by decide +kernel)) (fun _ h9 => h9) rfl dX4_holds_6 ?_
    refine lv_icmp_ge (tgt := 25) hx hb dX4_holds_9 (by decide) (fun c_2 => ?_) (fun c_2 => ?_)
    · rw [if_pos c_2] at h
      refine lv_iconst (v := (0 : Int32)) hx hb dX4_holds_25 (by decide) ?_
      have h := Option.some.inj h
      subst h
      exact W.zret (v := (0 : Int32)) hx hb hr rfl (fun t ht hW => ⟨⟨(0 : Int32), S, rfl, ⟨rfl, rfl⟩, qm_en ht hP hD⟩, hS.F ht⟩) hS.2.2 dX4_holds_26
    · rw [if_neg c_2] at h
      refine lv_iload_n hx hb dX4_holds_12 rfl (lv_at hl 1 rfl) ?_
      refine lv_aload_n hx hb dX4_holds_13 rfl (lv_at hl 0 rfl) ?_
      refine va_get (D := D) (ci := 4) (v := .ref (ad (54 + r))) (C := RX4) (T := TX4) (N := 2) hx hb hts (by decide +kernel) hown hK hP (26 + r) (qg_R hix) rfl 0 (by decide) (hts (.fieldLink RX4 9 "QueueMiddles$Row" "cells" "[I") (by decide +kernel)) (fun _ h9 => h9) rfl dX4_holds_14 ?_
      refine va_alen hx hb hK hP (54 + r) 0 (qg_A hix) rfl (v := (600 : Int32)) rfl dX4_holds_17 ?_
      refine lv_icmp_ge (tgt := 25) hx hb dX4_holds_18 (by decide) (fun c_3 => ?_) (fun c_3 => ?_)
      · rw [if_pos c_3] at h
        refine lv_iconst (v := (0 : Int32)) hx hb dX4_holds_25 (by decide) ?_
        have h := Option.some.inj h
        subst h
        exact W.zret (v := (0 : Int32)) hx hb hr rfl (fun t ht hW => ⟨⟨(0 : Int32), S, rfl, ⟨rfl, rfl⟩, qm_en ht hP hD⟩, hS.F ht⟩) hS.2.2 dX4_holds_26
      · rw [if_neg c_3] at h
        refine lv_iconst (v := (1 : Int32)) hx hb dX4_holds_21 (by decide) ?_
        refine lv_goto (tgt := 26) hx hb dX4_holds_22 (by decide) ?_
        have h := Option.some.inj h
        subst h
        exact W.zret (v := (1 : Int32)) hx hb hr rfl (fun t ht hW => ⟨⟨(1 : Int32), S, rfl, ⟨rfl, rfl⟩, qm_en ht hP hD⟩, hS.F ht⟩) hS.2.2 dX4_holds_26
theorem eX4_holds (S : qm_S) (r : Nat) (p0 : Int32) : fX4_holds S r p0 = some (if rw_hd (S.1 r) p0 then 1 else 0) := by
  unfold fX4_holds rw_hd
  by_cases h1 : p0 < 0 <;> by_cases h2 : (S.1 r).1 ≤ p0 <;> by_cases h3 : (600 : Int32) ≤ p0 <;> simp [h1, h2, h3]
theorem nX4_holds (l : Launch) (D : va_G) (A : Nat → Prop) (ad : Nat → Nat) (cI cQ : ClassId) (rest : va_W) (S : qm_S) (r : Nat) (hix : r < 28) (p0 : Int32) : Met l yX4_holds wsX4_holds ({ frames := 0, cells := 0, slots := 0, locals := 0 }) (va_Pc [.ref (ad (26 + r)), .int p0] (qm_B D A (qm_T cI cQ) (qm_W ad cI cQ rest S))) (qm_Qi D A (qm_W ad cI cQ rest) ((if rw_hd (S.1 r) p0 then 1 else 0), S)) 0 0 A :=
  kX4_holds l D A ad cI cQ rest S r hix p0 _ (eX4_holds S r p0)
noncomputable def fX4_at (S : qm_S) (r : Nat) (p0 : Int32) : Option (Int32) :=
  (if rw_hd (S.1 r) p0 then qm_gd (vp_in p0 600) (some ((S.1 r).2 p0.toNatClampNeg)) else some (0 : Int32))
set_option maxHeartbeats 4000000 in
set_option maxRecDepth 100000 in
theorem kX4_at (l : Launch) (D : va_G) (A : Nat → Prop) (ad : Nat → Nat) (cI cQ : ClassId) (rest : va_W) (S : qm_S) (r : Nat) (hix : r < 28) (p0 : Int32) (z : Int32) (h : fX4_at S r p0 = some z) : Met l yX4_at wsX4_at ({ frames := 1, cells := 0, slots := 0, locals := 21 }) (va_Pc [.ref (ad (26 + r)), .int p0] (qm_B D A (qm_T cI cQ) (qm_W ad cI cQ rest S))) (qm_Qi D A (qm_W ad cI cQ rest) (z, S)) 0 0 A := by
  refine Met.ofW (cc := cX4_at) (maxL := 2) (ret := (some .int)) (by decide) rfl ?_
  intro p e s m args below meth c s₁ B hml hv
  obtain ⟨rfl, hA, hP, hK, hD⟩ := hv
  have hx := B.exec
  have hb := B.bytes
  have hr := B.returns
  have hts := atoms_spec (ws := wsX4_at) B.pre
  have hown : s.vm.findClass RX4 = some m.cls := findClass_of_methodNamed B.named
  have hlocks := B.notSynchronized
  have hS : va_S A s.heap s.heap [] := va_S.rf
  have hl := lv_entry ([.ref (ad (26 + r)), .int p0]) (n := 2) (Nat.le_of_ble_eq_true rfl)
  rw [lg_entry_eq]
  generalize (lg_sl ([.ref (ad (26 + r)), .int p0]) ++ List.replicate (2 - (lg_sl ([.ref (ad (26 + r)), .int p0])).length) Slot.unset).toArray = ls at hl ⊢
  have hl : lv_has ls 2 [(0, .ref (ad (26 + r))), (1, .int p0)] := hl
  rw [fX4_at] at h
  refine lv_aload_n hx hb dX4_at_0 rfl (lv_at hl 0 rfl) ?_
  refine lv_iload_n hx hb dX4_at_1 rfl (lv_at hl 1 rfl) ?_
  refine va_calli (va_runV (As := [.int p0]) (rest := []) ⟨hx, hb, hml, hown, hts⟩ (nX4_holds l D A ad cI cQ rest S r hix p0) (cwV 1 hts gX4_at_X4_holds rfl rfl rfl (by decide +kernel) ⟨Nat.le_of_ble_eq_true rfl, Nat.le_of_ble_eq_true rfl⟩) ⟨qm_blind, va_recv hK hP (ci := 4) (q0 := (26 + r)) rfl (qg_R hix), fun U hU hW => ⟨rfl, qm_go hA hS hP hK hD hU hW⟩⟩ rfl rfl hl.1 rfl (lv_room (Nat.le_of_ble_eq_true rfl)) dX4_at_2 ⟨Nat.le_of_ble_eq_true rfl, Nat.le_of_ble_eq_true rfl⟩) hS (fun _ _ h9 => h9) (fun _ h9 => h9) (fun v u t H1 locs1 ht hvm hw hB hz1 hk1 hS => ?_)
  obtain ⟨hw1, hw2⟩ := hw
  have hw1 : (if rw_hd (S.1 r) p0 then 1 else 0) = v := hw1.symm
  have hw2 : S = u := hw2.symm
  subst hw1
  subst hw2
  obtain ⟨hP, hD⟩ := qm_bk ht hB
  by_cases c_1 : rw_hd (S.1 r) p0
  · rw [if_pos c_1] at h ⊢
    refine lv_if_eq (tgt := 17) hx hb dX4_at_5 (by decide) (fun c => absurd c (by decide)) (fun _ => ?_)
    refine lv_aload_n hx hb dX4_at_8 rfl (lv_at hl 0 rfl) ?_
    refine va_get (D := D) (ci := 4) (v := .ref (ad (54 + r))) (C := RX4) (T := TX4) (N := 2) hx hb hts (by decide +kernel) hown hK hP (26 + r) (qg_R hix) rfl 0 (by decide) (hts (.fieldLink RX4 9 "QueueMiddles$Row" "cells" "[I") (by decide +kernel)) (fun _ h9 => h9) rfl dX4_at_9 ?_
    refine lv_iload_n hx hb dX4_at_12 rfl (lv_at hl 1 rfl) ?_
    obtain ⟨g_2, h⟩ := qm_gd_some h
    refine va_iald hx hb hK hP (54 + r) 0 (qg_A hix) rfl g_2 dX4_at_13 ?_
    refine lv_goto (tgt := 18) hx hb dX4_at_14 (by decide) ?_
    have h := Option.some.inj h
    subst h
    exact W.iret (v := (S.1 r).2 p0.toNatClampNeg) hx hb hr (fun t ht hW => ⟨⟨(S.1 r).2 p0.toNatClampNeg, S, rfl, ⟨rfl, rfl⟩, qm_en ht hP hD⟩, hS.F ht⟩) hS.2.2 dX4_at_18
  · rw [if_neg c_1] at h ⊢
    refine lv_if_eq (tgt := 17) hx hb dX4_at_5 (by decide) (fun _ => ?_) (fun c => absurd (by decide) c)
    refine lv_iconst (v := (0 : Int32)) hx hb dX4_at_17 (by decide) ?_
    have h := Option.some.inj h
    subst h
    exact W.iret (v := (0 : Int32)) hx hb hr (fun t ht hW => ⟨⟨(0 : Int32), S, rfl, ⟨rfl, rfl⟩, qm_en ht hP hD⟩, hS.F ht⟩) hS.2.2 dX4_at_18
theorem eX4_at (S : qm_S) (r : Nat) (p0 : Int32) : fX4_at S r p0 = some (rw_at (S.1 r) p0) := by
  unfold fX4_at rw_at
  by_cases h : rw_hd (S.1 r) p0
  · rw [if_pos h, if_pos h, qm_gd_of (rw_hd_in h)]
  · rw [if_neg h, if_neg h]
theorem nX4_at (l : Launch) (D : va_G) (A : Nat → Prop) (ad : Nat → Nat) (cI cQ : ClassId) (rest : va_W) (S : qm_S) (r : Nat) (hix : r < 28) (p0 : Int32) : Met l yX4_at wsX4_at ({ frames := 1, cells := 0, slots := 0, locals := 21 }) (va_Pc [.ref (ad (26 + r)), .int p0] (qm_B D A (qm_T cI cQ) (qm_W ad cI cQ rest S))) (qm_Qi D A (qm_W ad cI cQ rest) (rw_at (S.1 r) p0, S)) 0 0 A :=
  kX4_at l D A ad cI cQ rest S r hix p0 _ (eX4_at S r p0)
noncomputable def fX4_put (S : qm_S) (r : Nat) (p0 : Int32) (p1 : Int32) : Option (qm_S) :=
  (if rw_hd (S.1 r) p0 then qm_gd (vp_in p0 600) (some (qm_row S r ((S.1 r).1, upd (S.1 r).2 p0.toNatClampNeg p1))) else some S)
set_option maxHeartbeats 4000000 in
set_option maxRecDepth 100000 in
theorem kX4_put (l : Launch) (D : va_G) (A : Nat → Prop) (ad : Nat → Nat) (cI cQ : ClassId) (rest : va_W) (S : qm_S) (r : Nat) (hix : r < 28) (p0 : Int32) (p1 : Int32) (z : qm_S) (h : fX4_put S r p0 p1 = some z) : Met l yX4_put wsX4_put ({ frames := 1, cells := 0, slots := 0, locals := 21 }) (va_Pc [.ref (ad (26 + r)), .int p0, .int p1] (qm_B D A (qm_T cI cQ) (qm_W ad cI cQ rest S))) (qm_Qv D A (qm_W ad cI cQ rest) z) 0 0 A := by
  refine Met.ofW (cc := cX4_put) (maxL := 3) (ret := none) (by decide) rfl ?_
  intro p e s m args below meth c s₁ B hml hv
  obtain ⟨rfl, hA, hP, hK, hD⟩ := hv
  have hx := B.exec
  have hb := B.bytes
  have hr := B.returns
  have hts := atoms_spec (ws := wsX4_put) B.pre
  have hown : s.vm.findClass RX4 = some m.cls := findClass_of_methodNamed B.named
  have hlocks := B.notSynchronized
  have hS : va_S A s.heap s.heap [] := va_S.rf
  have hl := lv_entry ([.ref (ad (26 + r)), .int p0, .int p1]) (n := 3) (Nat.le_of_ble_eq_true rfl)
  rw [lg_entry_eq]
  generalize (lg_sl ([.ref (ad (26 + r)), .int p0, .int p1]) ++ List.replicate (3 - (lg_sl ([.ref (ad (26 + r)), .int p0, .int p1])).length) Slot.unset).toArray = ls at hl ⊢
  have hl : lv_has ls 3 [(0, .ref (ad (26 + r))), (1, .int p0), (2, .int p1)] := hl
  rw [fX4_put] at h
  refine lv_aload_n hx hb dX4_put_0 rfl (lv_at hl 0 rfl) ?_
  refine lv_iload_n hx hb dX4_put_1 rfl (lv_at hl 1 rfl) ?_
  refine va_calli (va_runV (As := [.int p0]) (rest := []) ⟨hx, hb, hml, hown, hts⟩ (nX4_holds l D A ad cI cQ rest S r hix p0) (cwV 1 hts gX4_put_X4_holds rfl rfl rfl (by decide +kernel) ⟨Nat.le_of_ble_eq_true rfl, Nat.le_of_ble_eq_true rfl⟩) ⟨qm_blind, va_recv hK hP (ci := 4) (q0 := (26 + r)) rfl (qg_R hix), fun U hU hW => ⟨rfl, qm_go hA hS hP hK hD hU hW⟩⟩ rfl rfl hl.1 rfl (lv_room (Nat.le_of_ble_eq_true rfl)) dX4_put_2 ⟨Nat.le_of_ble_eq_true rfl, Nat.le_of_ble_eq_true rfl⟩) hS (fun _ _ h9 => h9) (fun _ h9 => h9) (fun v u t H1 locs1 ht hvm hw hB hz1 hk1 hS => ?_)
  obtain ⟨hw1, hw2⟩ := hw
  have hw1 : (if rw_hd (S.1 r) p0 then 1 else 0) = v := hw1.symm
  have hw2 : S = u := hw2.symm
  subst hw1
  subst hw2
  obtain ⟨hP, hD⟩ := qm_bk ht hB
  by_cases c_1 : rw_hd (S.1 r) p0
  · rw [if_pos c_1] at h ⊢
    refine lv_if_eq (tgt := 15) hx hb dX4_put_5 (by decide) (fun c => absurd c (by decide)) (fun _ => ?_)
    refine lv_aload_n hx hb dX4_put_8 rfl (lv_at hl 0 rfl) ?_
    refine va_get (D := D) (ci := 4) (v := .ref (ad (54 + r))) (C := RX4) (T := TX4) (N := 2) hx hb hts (by decide +kernel) hown hK hP (26 + r) (qg_R hix) rfl 0 (by decide) (hts (.fieldLink RX4 9 "QueueMiddles$Row" "cells" "[I") (by decide +kernel)) (fun _ h9 => h9) rfl dX4_put_9 ?_
    refine lv_iload_n hx hb dX4_put_12 rfl (lv_at hl 1 rfl) ?_
    refine lv_iload_n hx hb dX4_put_13 rfl (lv_at hl 2 rfl) ?_
    obtain ⟨g_2, h⟩ := qm_gd_some h
    refine va_iast hx hb hK hP hD hS (54 + r) 0 (qg_A hix) rfl g_2 dX4_put_14 (fun H locs hP hD hS => ?_)
    rw [qs_arr hix (upd (S.1 r).2 p0.toNatClampNeg p1)] at hP hD
    have h := Option.some.inj h
    subst h
    exact W.vret hx hb hr (fun t ht hW => ⟨⟨qm_row S r ((S.1 r).1, upd (S.1 r).2 p0.toNatClampNeg p1), rfl, rfl, qm_en ht hP hD⟩, hS.F ht⟩) hS.2.2 dX4_put_15
  · rw [if_neg c_1] at h ⊢
    refine lv_if_eq (tgt := 15) hx hb dX4_put_5 (by decide) (fun _ => ?_) (fun c => absurd (by decide) c)
    have h := Option.some.inj h
    subst h
    exact W.vret hx hb hr (fun t ht hW => ⟨⟨S, rfl, rfl, qm_en ht hP hD⟩, hS.F ht⟩) hS.2.2 dX4_put_15
theorem eX4_put (S : qm_S) (r : Nat) (p0 : Int32) (p1 : Int32) : fX4_put S r p0 p1 = some (qm_row S r (rw_put (S.1 r) p0 p1)) := by
  unfold fX4_put rw_put
  by_cases h : rw_hd (S.1 r) p0
  · rw [if_pos h, if_pos h, qm_gd_of (rw_hd_in h)]
  · rw [if_neg h, if_neg h, qm_row_self]
theorem nX4_put (l : Launch) (D : va_G) (A : Nat → Prop) (ad : Nat → Nat) (cI cQ : ClassId) (rest : va_W) (S : qm_S) (r : Nat) (hix : r < 28) (p0 : Int32) (p1 : Int32) : Met l yX4_put wsX4_put ({ frames := 1, cells := 0, slots := 0, locals := 21 }) (va_Pc [.ref (ad (26 + r)), .int p0, .int p1] (qm_B D A (qm_T cI cQ) (qm_W ad cI cQ rest S))) (qm_Qv D A (qm_W ad cI cQ rest) (qm_row S r (rw_put (S.1 r) p0 p1))) 0 0 A :=
  kX4_put l D A ad cI cQ rest S r hix p0 p1 _ (eX4_put S r p0 p1)
noncomputable def fX4_insert (S : qm_S) (r : Nat) (p0 : Int32) (p1 : Int32) : Option (qm_S) :=
  (if p0 < 0 then some S else (if ((S.1 r).1) < p0 then some S else (if ((S.1 r).1) < (600 : Int32) then qm_gd (¬ p0 < 0 ∧ ¬ (p0 + (1 : Int32)) < 0 ∧ ¬ (((S.1 r).1) - p0) < 0 ∧ p0.toNatClampNeg + (((S.1 r).1) - p0).toNatClampNeg ≤ 600 ∧ (p0 + (1 : Int32)).toNatClampNeg + (((S.1 r).1) - p0).toNatClampNeg ≤ 600) (qm_gd (vp_in p0 600) (some (qm_row (qm_row (qm_row S r ((S.1 r).1, va_cpy (S.1 r).2 (S.1 r).2 p0.toNatClampNeg (p0 + (1 : Int32)).toNatClampNeg (((S.1 r).1) - p0).toNatClampNeg)) r (((qm_row S r ((S.1 r).1, va_cpy (S.1 r).2 (S.1 r).2 p0.toNatClampNeg (p0 + (1 : Int32)).toNatClampNeg (((S.1 r).1) - p0).toNatClampNeg)).1 r).1, upd ((qm_row S r ((S.1 r).1, va_cpy (S.1 r).2 (S.1 r).2 p0.toNatClampNeg (p0 + (1 : Int32)).toNatClampNeg (((S.1 r).1) - p0).toNatClampNeg)).1 r).2 p0.toNatClampNeg p1)) r ((((qm_row (qm_row S r ((S.1 r).1, va_cpy (S.1 r).2 (S.1 r).2 p0.toNatClampNeg (p0 + (1 : Int32)).toNatClampNeg (((S.1 r).1) - p0).toNatClampNeg)) r (((qm_row S r ((S.1 r).1, va_cpy (S.1 r).2 (S.1 r).2 p0.toNatClampNeg (p0 + (1 : Int32)).toNatClampNeg (((S.1 r).1) - p0).toNatClampNeg)).1 r).1, upd ((qm_row S r ((S.1 r).1, va_cpy (S.1 r).2 (S.1 r).2 p0.toNatClampNeg (p0 + (1 : Int32)).toNatClampNeg (((S.1 r).1) - p0).toNatClampNeg)).1 r).2 p0.toNatClampNeg p1)).1 r).1) + (1 : Int32), ((qm_row (qm_row S r ((S.1 r).1, va_cpy (S.1 r).2 (S.1 r).2 p0.toNatClampNeg (p0 + (1 : Int32)).toNatClampNeg (((S.1 r).1) - p0).toNatClampNeg)) r (((qm_row S r ((S.1 r).1, va_cpy (S.1 r).2 (S.1 r).2 p0.toNatClampNeg (p0 + (1 : Int32)).toNatClampNeg (((S.1 r).1) - p0).toNatClampNeg)).1 r).1, upd ((qm_row S r ((S.1 r).1, va_cpy (S.1 r).2 (S.1 r).2 p0.toNatClampNeg (p0 + (1 : Int32)).toNatClampNeg (((S.1 r).1) - p0).toNatClampNeg)).1 r).2 p0.toNatClampNeg p1)).1 r).2)))) else some S)))
set_option maxHeartbeats 4000000 in
set_option maxRecDepth 100000 in
theorem kX4_insert (l : Launch) (D : va_G) (A : Nat → Prop) (ad : Nat → Nat) (cI cQ : ClassId) (rest : va_W) (S : qm_S) (r : Nat) (hix : r < 28) (p0 : Int32) (p1 : Int32) (z : qm_S) (h : fX4_insert S r p0 p1 = some z) : Met l yX4_insert wsX4_insert ({ frames := 1, cells := 0, slots := 0, locals := 60 }) (va_Pc [.ref (ad (26 + r)), .int p0, .int p1] (qm_B D A (qm_T cI cQ) (qm_W ad cI cQ rest S))) (qm_Qv D A (qm_W ad cI cQ rest) z) 0 0 A := by
  refine Met.ofW (cc := cX4_insert) (maxL := 3) (ret := none) (by decide) rfl ?_
  intro p e s m args below meth c s₁ B hml hv
  obtain ⟨rfl, hA, hP, hK, hD⟩ := hv
  have hx := B.exec
  have hb := B.bytes
  have hr := B.returns
  have hts := atoms_spec (ws := wsX4_insert) B.pre
  have hown : s.vm.findClass RX4 = some m.cls := findClass_of_methodNamed B.named
  have hlocks := B.notSynchronized
  have hS : va_S A s.heap s.heap [] := va_S.rf
  have hl := lv_entry ([.ref (ad (26 + r)), .int p0, .int p1]) (n := 3) (Nat.le_of_ble_eq_true rfl)
  rw [lg_entry_eq]
  generalize (lg_sl ([.ref (ad (26 + r)), .int p0, .int p1]) ++ List.replicate (3 - (lg_sl ([.ref (ad (26 + r)), .int p0, .int p1])).length) Slot.unset).toArray = ls at hl ⊢
  have hl : lv_has ls 3 [(0, .ref (ad (26 + r))), (1, .int p0), (2, .int p1)] := hl
  rw [fX4_insert] at h
  refine lv_iload_n hx hb dX4_insert_0 rfl (lv_at hl 1 rfl) ?_
  refine lv_if_lt (tgt := 24) hx hb dX4_insert_1 (by decide) (fun c_1 => ?_) (fun c_1 => ?_)
  · rw [if_pos c_1] at h
    have h := Option.some.inj h
    subst h
    exact W.vret hx hb hr (fun t ht hW => ⟨⟨S, rfl, rfl, qm_en ht hP hD⟩, hS.F ht⟩) hS.2.2 dX4_insert_24
  · rw [if_neg c_1] at h
    refine lv_iload_n hx hb dX4_insert_4 rfl (lv_at hl 1 rfl) ?_
    refine lv_aload_n hx hb dX4_insert_5 rfl (lv_at hl 0 rfl) ?_
    refine va_get (D := D) (ci := 4) (v := .int ((S.1 r).1)) (C := RX4) (T := TX4) (N := 2) hx hb hts (by decide +kernel) hown hK hP (26 + r) (qg_R hix) rfl 1 (by decide) (hts (.fieldLink RX4 15 "QueueMiddles$Row" "size" "I") (by decide +kernel)) (fun _ h9 => h9) rfl dX4_insert_6 ?_
    refine lv_icmp_gt (tgt := 24) hx hb dX4_insert_9 (by decide) (fun c_2 => ?_) (fun c_2 => ?_)
    · rw [if_pos c_2] at h
      have h := Option.some.inj h
      subst h
      exact W.vret hx hb hr (fun t ht hW => ⟨⟨S, rfl, rfl, qm_en ht hP hD⟩, hS.F ht⟩) hS.2.2 dX4_insert_24
    · rw [if_neg c_2] at h
      refine lv_aload_n hx hb dX4_insert_12 rfl (lv_at hl 0 rfl) ?_
      refine va_get (D := D) (ci := 4) (v := .int ((S.1 r).1)) (C := RX4) (T := TX4) (N := 2) hx hb hts (by decide +kernel) hown hK hP (26 + r) (qg_R hix) rfl 1 (by decide) (hts (.fieldLink RX4 15 "QueueMiddles$Row" "size" "I") (by decide +kernel)) (fun _ h9 => h9) rfl dX4_insert_13 ?_
      refine lv_aload_n hx hb dX4_insert_16 rfl (lv_at hl 0 rfl) ?_
      refine va_get (D := D) (ci := 4) (v := .ref (ad (54 + r))) (C := RX4) (T := TX4) (N := 2) hx hb hts (by decide +kernel) hown hK hP (26 + r) (qg_R hix) rfl 0 (by decide) (hts (.fieldLink RX4 9 "QueueMiddles$Row" "cells" "[I") (by decide +kernel)) (fun _ h9 => h9) rfl dX4_insert_17 ?_
      refine va_alen hx hb hK hP (54 + r) 0 (qg_A hix) rfl (v := (600 : Int32)) rfl dX4_insert_20 ?_
      refine lv_icmp_lt (tgt := 25) hx hb dX4_insert_21 (by decide) (fun c_3 => ?_) (fun c_3 => ?_)
      · rw [if_pos c_3] at h
        refine lv_aload_n hx hb dX4_insert_25 rfl (lv_at hl 0 rfl) ?_
        refine va_get (D := D) (ci := 4) (v := .ref (ad (54 + r))) (C := RX4) (T := TX4) (N := 2) hx hb hts (by decide +kernel) hown hK hP (26 + r) (qg_R hix) rfl 0 (by decide) (hts (.fieldLink RX4 9 "QueueMiddles$Row" "cells" "[I") (by decide +kernel)) (fun _ h9 => h9) rfl dX4_insert_26 ?_
        refine lv_iload_n hx hb dX4_insert_29 rfl (lv_at hl 1 rfl) ?_
        refine lv_aload_n hx hb dX4_insert_30 rfl (lv_at hl 0 rfl) ?_
        refine va_get (D := D) (ci := 4) (v := .ref (ad (54 + r))) (C := RX4) (T := TX4) (N := 2) hx hb hts (by decide +kernel) hown hK hP (26 + r) (qg_R hix) rfl 0 (by decide) (hts (.fieldLink RX4 9 "QueueMiddles$Row" "cells" "[I") (by decide +kernel)) (fun _ h9 => h9) rfl dX4_insert_31 ?_
        refine lv_iload_n hx hb dX4_insert_34 rfl (lv_at hl 1 rfl) ?_
        refine lv_iconst (v := (1 : Int32)) hx hb dX4_insert_35 (by decide) ?_
        refine lv_iadd hx hb dX4_insert_36 ?_
        refine lv_aload_n hx hb dX4_insert_37 rfl (lv_at hl 0 rfl) ?_
        refine va_get (D := D) (ci := 4) (v := .int ((S.1 r).1)) (C := RX4) (T := TX4) (N := 2) hx hb hts (by decide +kernel) hown hK hP (26 + r) (qg_R hix) rfl 1 (by decide) (hts (.fieldLink RX4 15 "QueueMiddles$Row" "size" "I") (by decide +kernel)) (fun _ h9 => h9) rfl dX4_insert_38 ?_
        refine lv_iload_n hx hb dX4_insert_41 rfl (lv_at hl 1 rfl) ?_
        refine lv_isub hx hb dX4_insert_42 ?_
        obtain ⟨g_4, h⟩ := qm_gd_some h
        refine va_copyi hx hb (hml.trans hl.1.symm) hown (hts (.methodLink RX4 23 arraycopyName) (by decide +kernel)) (hts (.native arraycopyName) (by decide +kernel)) (hts (.static arraycopyName) (by decide +kernel)) (hts (.initialized "java/lang/System") (by decide +kernel)) hK hP hD hS (54 + r) (54 + r) 0 0 (qg_A hix) (qg_A hix) rfl rfl rfl g_4.1 g_4.2.1 g_4.2.2.1 g_4.2.2.2.1 g_4.2.2.2.2 (fun _ _ => rfl) (Nat.le_of_ble_eq_true rfl) (Nat.le_of_ble_eq_true rfl) dX4_insert_43 (fun H locs hP hD hS => ?_)
        rw [qs_arr hix (va_cpy (S.1 r).2 (S.1 r).2 p0.toNatClampNeg (p0 + (1 : Int32)).toNatClampNeg (((S.1 r).1) - p0).toNatClampNeg)] at hP hD
        refine lv_aload_n hx hb dX4_insert_46 rfl (lv_at hl 0 rfl) ?_
        refine va_get (D := D) (ci := 4) (v := .ref (ad (54 + r))) (C := RX4) (T := TX4) (N := 2) hx hb hts (by decide +kernel) hown hK hP (26 + r) (qg_R hix) rfl 0 (by decide) (hts (.fieldLink RX4 9 "QueueMiddles$Row" "cells" "[I") (by decide +kernel)) (fun _ h9 => h9) rfl dX4_insert_47 ?_
        refine lv_iload_n hx hb dX4_insert_50 rfl (lv_at hl 1 rfl) ?_
        refine lv_iload_n hx hb dX4_insert_51 rfl (lv_at hl 2 rfl) ?_
        obtain ⟨g_5, h⟩ := qm_gd_some h
        refine va_iast hx hb hK hP hD hS (54 + r) 0 (qg_A hix) rfl g_5 dX4_insert_52 (fun H locs hP hD hS => ?_)
        rw [qs_arr hix (upd ((qm_row S r ((S.1 r).1, va_cpy (S.1 r).2 (S.1 r).2 p0.toNatClampNeg (p0 + (1 : Int32)).toNatClampNeg (((S.1 r).1) - p0).toNatClampNeg)).1 r).2 p0.toNatClampNeg p1)] at hP hD
        refine lv_aload_n hx hb dX4_insert_53 rfl (lv_at hl 0 rfl) ?_
        refine lv_dup hx hb dX4_insert_54 rfl ?_
        refine va_get (D := D) (ci := 4) (v := .int (((qm_row (qm_row S r ((S.1 r).1, va_cpy (S.1 r).2 (S.1 r).2 p0.toNatClampNeg (p0 + (1 : Int32)).toNatClampNeg (((S.1 r).1) - p0).toNatClampNeg)) r (((qm_row S r ((S.1 r).1, va_cpy (S.1 r).2 (S.1 r).2 p0.toNatClampNeg (p0 + (1 : Int32)).toNatClampNeg (((S.1 r).1) - p0).toNatClampNeg)).1 r).1, upd ((qm_row S r ((S.1 r).1, va_cpy (S.1 r).2 (S.1 r).2 p0.toNatClampNeg (p0 + (1 : Int32)).toNatClampNeg (((S.1 r).1) - p0).toNatClampNeg)).1 r).2 p0.toNatClampNeg p1)).1 r).1)) (C := RX4) (T := TX4) (N := 2) hx hb hts (by decide +kernel) hown hK hP (26 + r) (qg_R hix) rfl 1 (by decide) (hts (.fieldLink RX4 15 "QueueMiddles$Row" "size" "I") (by decide +kernel)) (fun _ h9 => h9) rfl dX4_insert_55 ?_
        refine lv_iconst (v := (1 : Int32)) hx hb dX4_insert_58 (by decide) ?_
        refine lv_iadd hx hb dX4_insert_59 ?_
        refine va_put (D := D) (ci := 4) (v := .int ((((qm_row (qm_row S r ((S.1 r).1, va_cpy (S.1 r).2 (S.1 r).2 p0.toNatClampNeg (p0 + (1 : Int32)).toNatClampNeg (((S.1 r).1) - p0).toNatClampNeg)) r (((qm_row S r ((S.1 r).1, va_cpy (S.1 r).2 (S.1 r).2 p0.toNatClampNeg (p0 + (1 : Int32)).toNatClampNeg (((S.1 r).1) - p0).toNatClampNeg)).1 r).1, upd ((qm_row S r ((S.1 r).1, va_cpy (S.1 r).2 (S.1 r).2 p0.toNatClampNeg (p0 + (1 : Int32)).toNatClampNeg (((S.1 r).1) - p0).toNatClampNeg)).1 r).2 p0.toNatClampNeg p1)).1 r).1) + (1 : Int32))) (ty := .int) (C := RX4) (T := TX4) (N := 2) hx hb hts (by decide +kernel) tyX4 tyX4_ok nmX4 hown hK hP hD hS (26 + r) (qg_R hix) rfl 1 (by decide) (hts (.fieldLink RX4 15 "QueueMiddles$Row" "size" "I") (by decide +kernel)) (fun _ h9 => h9) rfl (by decide +kernel) rfl rfl (Nat.le_of_ble_eq_true rfl) dX4_insert_60 (fun H locs hP hD hS => ?_)
        rw [qs_size hix ((((qm_row (qm_row S r ((S.1 r).1, va_cpy (S.1 r).2 (S.1 r).2 p0.toNatClampNeg (p0 + (1 : Int32)).toNatClampNeg (((S.1 r).1) - p0).toNatClampNeg)) r (((qm_row S r ((S.1 r).1, va_cpy (S.1 r).2 (S.1 r).2 p0.toNatClampNeg (p0 + (1 : Int32)).toNatClampNeg (((S.1 r).1) - p0).toNatClampNeg)).1 r).1, upd ((qm_row S r ((S.1 r).1, va_cpy (S.1 r).2 (S.1 r).2 p0.toNatClampNeg (p0 + (1 : Int32)).toNatClampNeg (((S.1 r).1) - p0).toNatClampNeg)).1 r).2 p0.toNatClampNeg p1)).1 r).1) + (1 : Int32))] at hP hD
        have h := Option.some.inj h
        subst h
        exact W.vret hx hb hr (fun t ht hW => ⟨⟨qm_row (qm_row (qm_row S r ((S.1 r).1, va_cpy (S.1 r).2 (S.1 r).2 p0.toNatClampNeg (p0 + (1 : Int32)).toNatClampNeg (((S.1 r).1) - p0).toNatClampNeg)) r (((qm_row S r ((S.1 r).1, va_cpy (S.1 r).2 (S.1 r).2 p0.toNatClampNeg (p0 + (1 : Int32)).toNatClampNeg (((S.1 r).1) - p0).toNatClampNeg)).1 r).1, upd ((qm_row S r ((S.1 r).1, va_cpy (S.1 r).2 (S.1 r).2 p0.toNatClampNeg (p0 + (1 : Int32)).toNatClampNeg (((S.1 r).1) - p0).toNatClampNeg)).1 r).2 p0.toNatClampNeg p1)) r ((((qm_row (qm_row S r ((S.1 r).1, va_cpy (S.1 r).2 (S.1 r).2 p0.toNatClampNeg (p0 + (1 : Int32)).toNatClampNeg (((S.1 r).1) - p0).toNatClampNeg)) r (((qm_row S r ((S.1 r).1, va_cpy (S.1 r).2 (S.1 r).2 p0.toNatClampNeg (p0 + (1 : Int32)).toNatClampNeg (((S.1 r).1) - p0).toNatClampNeg)).1 r).1, upd ((qm_row S r ((S.1 r).1, va_cpy (S.1 r).2 (S.1 r).2 p0.toNatClampNeg (p0 + (1 : Int32)).toNatClampNeg (((S.1 r).1) - p0).toNatClampNeg)).1 r).2 p0.toNatClampNeg p1)).1 r).1) + (1 : Int32), ((qm_row (qm_row S r ((S.1 r).1, va_cpy (S.1 r).2 (S.1 r).2 p0.toNatClampNeg (p0 + (1 : Int32)).toNatClampNeg (((S.1 r).1) - p0).toNatClampNeg)) r (((qm_row S r ((S.1 r).1, va_cpy (S.1 r).2 (S.1 r).2 p0.toNatClampNeg (p0 + (1 : Int32)).toNatClampNeg (((S.1 r).1) - p0).toNatClampNeg)).1 r).1, upd ((qm_row S r ((S.1 r).1, va_cpy (S.1 r).2 (S.1 r).2 p0.toNatClampNeg (p0 + (1 : Int32)).toNatClampNeg (((S.1 r).1) - p0).toNatClampNeg)).1 r).2 p0.toNatClampNeg p1)).1 r).2), rfl, rfl, qm_en ht hP hD⟩, hS.F ht⟩) hS.2.2 dX4_insert_63
      · rw [if_neg c_3] at h
        have h := Option.some.inj h
        subst h
        exact W.vret hx hb hr (fun t ht hW => ⟨⟨S, rfl, rfl, qm_en ht hP hD⟩, hS.F ht⟩) hS.2.2 dX4_insert_24
theorem eX4_insert (S : qm_S) (r : Nat) (p0 : Int32) (p1 : Int32) : fX4_insert S r p0 p1 = some (qm_row S r (rw_ins (S.1 r) p0 p1)) := by
  unfold fX4_insert rw_ins
  by_cases h1 : p0 < 0
  · rw [if_pos h1, if_pos h1, qm_row_self]
  rw [if_neg h1, if_neg h1]
  by_cases h2 : (S.1 r).1 < p0
  · rw [if_pos h2, if_pos h2, qm_row_self]
  rw [if_neg h2, if_neg h2]
  by_cases h3 : (S.1 r).1 < 600
  · obtain ⟨a, b⟩ := rw_ins_ok h1 h2 h3
    rw [if_pos h3, if_pos h3, qm_gd_of a, qm_gd_of b]
    simp only [qm_row_row, qm_row_at]
  · rw [if_neg h3, if_neg h3, qm_row_self]
theorem nX4_insert (l : Launch) (D : va_G) (A : Nat → Prop) (ad : Nat → Nat) (cI cQ : ClassId) (rest : va_W) (S : qm_S) (r : Nat) (hix : r < 28) (p0 : Int32) (p1 : Int32) : Met l yX4_insert wsX4_insert ({ frames := 1, cells := 0, slots := 0, locals := 60 }) (va_Pc [.ref (ad (26 + r)), .int p0, .int p1] (qm_B D A (qm_T cI cQ) (qm_W ad cI cQ rest S))) (qm_Qv D A (qm_W ad cI cQ rest) (qm_row S r (rw_ins (S.1 r) p0 p1))) 0 0 A :=
  kX4_insert l D A ad cI cQ rest S r hix p0 p1 _ (eX4_insert S r p0 p1)
noncomputable def fX4_cutTo (S : qm_S) (r : Nat) (p0 : Int32) : Option (qm_S) :=
  (if p0 < 0 then some S else (if ((S.1 r).1) ≤ p0 then some S else some (qm_row S r (p0, (S.1 r).2))))
set_option maxHeartbeats 4000000 in
set_option maxRecDepth 100000 in
theorem kX4_cutTo (l : Launch) (D : va_G) (A : Nat → Prop) (ad : Nat → Nat) (cI cQ : ClassId) (rest : va_W) (S : qm_S) (r : Nat) (hix : r < 28) (p0 : Int32) (z : qm_S) (h : fX4_cutTo S r p0 = some z) : Met l yX4_cutTo wsX4_cutTo ({ frames := 0, cells := 0, slots := 0, locals := 0 }) (va_Pc [.ref (ad (26 + r)), .int p0] (qm_B D A (qm_T cI cQ) (qm_W ad cI cQ rest S))) (qm_Qv D A (qm_W ad cI cQ rest) z) 0 0 A := by
  refine Met.ofW (cc := cX4_cutTo) (maxL := 2) (ret := none) (by decide) rfl ?_
  intro p e s m args below meth c s₁ B hml hv
  obtain ⟨rfl, hA, hP, hK, hD⟩ := hv
  have hx := B.exec
  have hb := B.bytes
  have hr := B.returns
  have hts := atoms_spec (ws := wsX4_cutTo) B.pre
  have hown : s.vm.findClass RX4 = some m.cls := findClass_of_methodNamed B.named
  have hlocks := B.notSynchronized
  have hS : va_S A s.heap s.heap [] := va_S.rf
  have hl := lv_entry ([.ref (ad (26 + r)), .int p0]) (n := 2) (Nat.le_of_ble_eq_true rfl)
  rw [lg_entry_eq]
  generalize (lg_sl ([.ref (ad (26 + r)), .int p0]) ++ List.replicate (2 - (lg_sl ([.ref (ad (26 + r)), .int p0])).length) Slot.unset).toArray = ls at hl ⊢
  have hl : lv_has ls 2 [(0, .ref (ad (26 + r))), (1, .int p0)] := hl
  rw [fX4_cutTo] at h
  refine lv_iload_n hx hb dX4_cutTo_0 rfl (lv_at hl 1 rfl) ?_
  refine lv_if_lt (tgt := 17) hx hb dX4_cutTo_1 (by decide) (fun c_1 => ?_) (fun c_1 => ?_)
  · rw [if_pos c_1] at h
    have h := Option.some.inj h
    subst h
    exact W.vret hx hb hr (fun t ht hW => ⟨⟨S, rfl, rfl, qm_en ht hP hD⟩, hS.F ht⟩) hS.2.2 dX4_cutTo_17
  · rw [if_neg c_1] at h
    refine lv_iload_n hx hb dX4_cutTo_4 rfl (lv_at hl 1 rfl) ?_
    refine lv_aload_n hx hb dX4_cutTo_5 rfl (lv_at hl 0 rfl) ?_
    refine va_get (D := D) (ci := 4) (v := .int ((S.1 r).1)) (C := RX4) (T := TX4) (N := 2) hx hb hts (by decide +kernel) hown hK hP (26 + r) (qg_R hix) rfl 1 (by decide) (hts (.fieldLink RX4 15 "QueueMiddles$Row" "size" "I") (by decide +kernel)) (fun _ h9 => h9) rfl dX4_cutTo_6 ?_
    refine lv_icmp_ge (tgt := 17) hx hb dX4_cutTo_9 (by decide) (fun c_2 => ?_) (fun c_2 => ?_)
    · rw [if_pos c_2] at h
      have h := Option.some.inj h
      subst h
      exact W.vret hx hb hr (fun t ht hW => ⟨⟨S, rfl, rfl, qm_en ht hP hD⟩, hS.F ht⟩) hS.2.2 dX4_cutTo_17
    · rw [if_neg c_2] at h
      refine lv_aload_n hx hb dX4_cutTo_12 rfl (lv_at hl 0 rfl) ?_
      refine lv_iload_n hx hb dX4_cutTo_13 rfl (lv_at hl 1 rfl) ?_
      refine va_put (D := D) (ci := 4) (v := .int p0) (ty := .int) (C := RX4) (T := TX4) (N := 2) hx hb hts (by decide +kernel) tyX4 tyX4_ok nmX4 hown hK hP hD hS (26 + r) (qg_R hix) rfl 1 (by decide) (hts (.fieldLink RX4 15 "QueueMiddles$Row" "size" "I") (by decide +kernel)) (fun _ h9 => h9) rfl (by decide +kernel) rfl rfl (Nat.le_of_ble_eq_true rfl) dX4_cutTo_14 (fun H locs hP hD hS => ?_)
      rw [qs_size hix p0] at hP hD
      have h := Option.some.inj h
      subst h
      exact W.vret hx hb hr (fun t ht hW => ⟨⟨qm_row S r (p0, (S.1 r).2), rfl, rfl, qm_en ht hP hD⟩, hS.F ht⟩) hS.2.2 dX4_cutTo_17
theorem eX4_cutTo (S : qm_S) (r : Nat) (p0 : Int32) : fX4_cutTo S r p0 = some (qm_row S r (rw_cut (S.1 r) p0)) := by
  unfold fX4_cutTo rw_cut
  by_cases h1 : p0 < 0
  · rw [if_pos h1, if_pos h1, qm_row_self]
  rw [if_neg h1, if_neg h1]
  by_cases h2 : (S.1 r).1 ≤ p0
  · rw [if_pos h2, if_pos h2, qm_row_self]
  rw [if_neg h2, if_neg h2]
theorem nX4_cutTo (l : Launch) (D : va_G) (A : Nat → Prop) (ad : Nat → Nat) (cI cQ : ClassId) (rest : va_W) (S : qm_S) (r : Nat) (hix : r < 28) (p0 : Int32) : Met l yX4_cutTo wsX4_cutTo ({ frames := 0, cells := 0, slots := 0, locals := 0 }) (va_Pc [.ref (ad (26 + r)), .int p0] (qm_B D A (qm_T cI cQ) (qm_W ad cI cQ rest S))) (qm_Qv D A (qm_W ad cI cQ rest) (qm_row S r (rw_cut (S.1 r) p0))) 0 0 A :=
  kX4_cutTo l D A ad cI cQ rest S r hix p0 _ (eX4_cutTo S r p0)
noncomputable def fX4_growTo (S : qm_S) (r : Nat) (p0 : Int32) : Option (qm_S) :=
  (if p0 ≤ ((S.1 r).1) then some S else (if (600 : Int32) < p0 then some S else some (qm_row S r (p0, (S.1 r).2))))
set_option maxHeartbeats 4000000 in
set_option maxRecDepth 100000 in
theorem kX4_growTo (l : Launch) (D : va_G) (A : Nat → Prop) (ad : Nat → Nat) (cI cQ : ClassId) (rest : va_W) (S : qm_S) (r : Nat) (hix : r < 28) (p0 : Int32) (z : qm_S) (h : fX4_growTo S r p0 = some z) : Met l yX4_growTo wsX4_growTo ({ frames := 0, cells := 0, slots := 0, locals := 0 }) (va_Pc [.ref (ad (26 + r)), .int p0] (qm_B D A (qm_T cI cQ) (qm_W ad cI cQ rest S))) (qm_Qv D A (qm_W ad cI cQ rest) z) 0 0 A := by
  refine Met.ofW (cc := cX4_growTo) (maxL := 2) (ret := none) (by decide) rfl ?_
  intro p e s m args below meth c s₁ B hml hv
  obtain ⟨rfl, hA, hP, hK, hD⟩ := hv
  have hx := B.exec
  have hb := B.bytes
  have hr := B.returns
  have hts := atoms_spec (ws := wsX4_growTo) B.pre
  have hown : s.vm.findClass RX4 = some m.cls := findClass_of_methodNamed B.named
  have hlocks := B.notSynchronized
  have hS : va_S A s.heap s.heap [] := va_S.rf
  have hl := lv_entry ([.ref (ad (26 + r)), .int p0]) (n := 2) (Nat.le_of_ble_eq_true rfl)
  rw [lg_entry_eq]
  generalize (lg_sl ([.ref (ad (26 + r)), .int p0]) ++ List.replicate (2 - (lg_sl ([.ref (ad (26 + r)), .int p0])).length) Slot.unset).toArray = ls at hl ⊢
  have hl : lv_has ls 2 [(0, .ref (ad (26 + r))), (1, .int p0)] := hl
  rw [fX4_growTo] at h
  refine lv_iload_n hx hb dX4_growTo_0 rfl (lv_at hl 1 rfl) ?_
  refine lv_aload_n hx hb dX4_growTo_1 rfl (lv_at hl 0 rfl) ?_
  refine va_get (D := D) (ci := 4) (v := .int ((S.1 r).1)) (C := RX4) (T := TX4) (N := 2) hx hb hts (by decide +kernel) hown hK hP (26 + r) (qg_R hix) rfl 1 (by decide) (hts (.fieldLink RX4 15 "QueueMiddles$Row" "size" "I") (by decide +kernel)) (fun _ h9 => h9) rfl dX4_growTo_2 ?_
  refine lv_icmp_le (tgt := 22) hx hb dX4_growTo_5 (by decide) (fun c_1 => ?_) (fun c_1 => ?_)
  · rw [if_pos c_1] at h
    have h := Option.some.inj h
    subst h
    exact W.vret hx hb hr (fun t ht hW => ⟨⟨S, rfl, rfl, qm_en ht hP hD⟩, hS.F ht⟩) hS.2.2 dX4_growTo_22
  · rw [if_neg c_1] at h
    refine lv_iload_n hx hb dX4_growTo_8 rfl (lv_at hl 1 rfl) ?_
    refine lv_aload_n hx hb dX4_growTo_9 rfl (lv_at hl 0 rfl) ?_
    refine va_get (D := D) (ci := 4) (v := .ref (ad (54 + r))) (C := RX4) (T := TX4) (N := 2) hx hb hts (by decide +kernel) hown hK hP (26 + r) (qg_R hix) rfl 0 (by decide) (hts (.fieldLink RX4 9 "QueueMiddles$Row" "cells" "[I") (by decide +kernel)) (fun _ h9 => h9) rfl dX4_growTo_10 ?_
    refine va_alen hx hb hK hP (54 + r) 0 (qg_A hix) rfl (v := (600 : Int32)) rfl dX4_growTo_13 ?_
    refine lv_icmp_gt (tgt := 22) hx hb dX4_growTo_14 (by decide) (fun c_2 => ?_) (fun c_2 => ?_)
    · rw [if_pos c_2] at h
      have h := Option.some.inj h
      subst h
      exact W.vret hx hb hr (fun t ht hW => ⟨⟨S, rfl, rfl, qm_en ht hP hD⟩, hS.F ht⟩) hS.2.2 dX4_growTo_22
    · rw [if_neg c_2] at h
      refine lv_aload_n hx hb dX4_growTo_17 rfl (lv_at hl 0 rfl) ?_
      refine lv_iload_n hx hb dX4_growTo_18 rfl (lv_at hl 1 rfl) ?_
      refine va_put (D := D) (ci := 4) (v := .int p0) (ty := .int) (C := RX4) (T := TX4) (N := 2) hx hb hts (by decide +kernel) tyX4 tyX4_ok nmX4 hown hK hP hD hS (26 + r) (qg_R hix) rfl 1 (by decide) (hts (.fieldLink RX4 15 "QueueMiddles$Row" "size" "I") (by decide +kernel)) (fun _ h9 => h9) rfl (by decide +kernel) rfl rfl (Nat.le_of_ble_eq_true rfl) dX4_growTo_19 (fun H locs hP hD hS => ?_)
      rw [qs_size hix p0] at hP hD
      have h := Option.some.inj h
      subst h
      exact W.vret hx hb hr (fun t ht hW => ⟨⟨qm_row S r (p0, (S.1 r).2), rfl, rfl, qm_en ht hP hD⟩, hS.F ht⟩) hS.2.2 dX4_growTo_22
theorem eX4_growTo (S : qm_S) (r : Nat) (p0 : Int32) : fX4_growTo S r p0 = some (qm_row S r (rw_gro (S.1 r) p0)) := by
  unfold fX4_growTo rw_gro
  by_cases h1 : p0 ≤ (S.1 r).1
  · rw [if_pos h1, if_pos h1, qm_row_self]
  rw [if_neg h1, if_neg h1]
  by_cases h2 : (600 : Int32) < p0
  · rw [if_pos h2, if_pos h2, qm_row_self]
  rw [if_neg h2, if_neg h2]
theorem nX4_growTo (l : Launch) (D : va_G) (A : Nat → Prop) (ad : Nat → Nat) (cI cQ : ClassId) (rest : va_W) (S : qm_S) (r : Nat) (hix : r < 28) (p0 : Int32) : Met l yX4_growTo wsX4_growTo ({ frames := 0, cells := 0, slots := 0, locals := 0 }) (va_Pc [.ref (ad (26 + r)), .int p0] (qm_B D A (qm_T cI cQ) (qm_W ad cI cQ rest S))) (qm_Qv D A (qm_W ad cI cQ rest) (qm_row S r (rw_gro (S.1 r) p0))) 0 0 A :=
  kX4_growTo l D A ad cI cQ rest S r hix p0 _ (eX4_growTo S r p0)
noncomputable def fX4_sumOfFirst_L4 (n0 : Nat) (x1 : Int32) : Nat → Int32 → Int32 → qm_S → Option (Int32)
  | 0, _, _, _ => none
  | fuel + 1, v2, v3, S =>
    (if x1 ≤ v3 then some v2 else (if ((S.1 n0).1) ≤ v3 then some v2 else fX4_sumOfFirst_L4 n0 x1 fuel (v2 + (rw_at (S.1 n0) v3)) (v3 + (1 : Int32)) S))
noncomputable def fX4_sumOfFirst (S : qm_S) (r : Nat) (p0 : Int32) : Option (Int32) :=
  Option.bind (fX4_sumOfFirst_L4 r p0 qm_F (0 : Int32) (0 : Int32) S) (fun z_5 => some z_5)
set_option maxHeartbeats 4000000 in
set_option maxRecDepth 100000 in
theorem kX4_sumOfFirst (l : Launch) (D : va_G) (A : Nat → Prop) (ad : Nat → Nat) (cI cQ : ClassId) (rest : va_W) (S : qm_S) (r : Nat) (hix : r < 28) (p0 : Int32) (z : Int32) (h : fX4_sumOfFirst S r p0 = some z) : Met l yX4_sumOfFirst wsX4_sumOfFirst ({ frames := 2, cells := 0, slots := 0, locals := 42 }) (va_Pc [.ref (ad (26 + r)), .int p0] (qm_B D A (qm_T cI cQ) (qm_W ad cI cQ rest S))) (qm_Qi D A (qm_W ad cI cQ rest) (z, S)) 0 0 A := by
  refine Met.ofW (cc := cX4_sumOfFirst) (maxL := 4) (ret := (some .int)) (by decide) rfl ?_
  intro p e s m args below meth c s₁ B hml hv
  obtain ⟨rfl, hA, hP, hK, hD⟩ := hv
  have hx := B.exec
  have hb := B.bytes
  have hr := B.returns
  have hts := atoms_spec (ws := wsX4_sumOfFirst) B.pre
  have hown : s.vm.findClass RX4 = some m.cls := findClass_of_methodNamed B.named
  have hlocks := B.notSynchronized
  have hS : va_S A s.heap s.heap [] := va_S.rf
  have hl := lv_entry ([.ref (ad (26 + r)), .int p0]) (n := 4) (Nat.le_of_ble_eq_true rfl)
  rw [lg_entry_eq]
  generalize (lg_sl ([.ref (ad (26 + r)), .int p0]) ++ List.replicate (4 - (lg_sl ([.ref (ad (26 + r)), .int p0])).length) Slot.unset).toArray = ls at hl ⊢
  have hl : lv_has ls 4 [(0, .ref (ad (26 + r))), (1, .int p0)] := hl
  obtain ⟨QX, hQX⟩ : ∃ q, q = MQ below (qm_Qi D A (qm_W ad cI cQ rest) (z, S)) ([.ref (ad (26 + r)), .int p0] : List Value).toArray s 0 0 A := ⟨_, rfl⟩
  rw [← hQX]
  rw [fX4_sumOfFirst] at h
  refine lv_iconst (v := (0 : Int32)) hx hb dX4_sumOfFirst_0 (by decide) ?_
  refine lv_istore_n (lv' := [(2, .int (0 : Int32)), (0, .ref (ad (26 + r))), (1, .int p0)]) hx hb dX4_sumOfFirst_1 rfl hl (by decide) rfl (fun ls hl => ?_)
  refine lv_iconst (v := (0 : Int32)) hx hb dX4_sumOfFirst_2 (by decide) ?_
  refine lv_istore_n (lv' := [(3, .int (0 : Int32)), (2, .int (0 : Int32)), (0, .ref (ad (26 + r))), (1, .int p0)]) hx hb dX4_sumOfFirst_3 rfl hl (by decide) rfl (fun ls hl => ?_)
  have loop_2 : ∀ (fuel : Nat) (v2_1 v3_1 : Int32) (z : Int32), fX4_sumOfFirst_L4 r p0 fuel v2_1 v3_1 S = some z → ∀ (H : Heap) (locs : List Loc) (ls : Array Slot), va_P D vwCl (qm_W ad cI cQ rest S) H → va_D A (qm_W ad cI cQ rest S) → va_S A s.heap H locs → lv_has ls 4 [(0, .ref (ad (26 + r))), (1, .int p0), (2, .int v2_1), (3, .int v3_1)] → (∀ (H : Heap) (locs : List Loc) (ls : Array Slot), va_P D vwCl (qm_W ad cI cQ rest S) H → va_D A (qm_W ad cI cQ rest S) → va_S A s.heap H locs → lv_has ls 4 [(2, .int z)] → W p l e ({ frames := 2, cells := 0, slots := 0, locals := 42 } : Room) s m ([.ref (ad (26 + r)), .int p0] : List Value).toArray below meth c H locs 0 0 QX (F0 m 31 ls [])) → W p l e ({ frames := 2, cells := 0, slots := 0, locals := 42 } : Room) s m ([.ref (ad (26 + r)), .int p0] : List Value).toArray below meth c H locs 0 0 QX (F0 m 4 ls []) := by
    intro fuel
    induction fuel with
    | zero =>
      intro v2_1 v3_1 z h
      rw [fX4_sumOfFirst_L4] at h
      cases h
    | succ fuel ih =>
      intro v2_1 v3_1 z h H locs ls hP hD hS hl kex
      rw [fX4_sumOfFirst_L4] at h
      refine lv_iload_n hx hb dX4_sumOfFirst_4 rfl (lv_at hl 3 rfl) ?_
      refine lv_iload_n hx hb dX4_sumOfFirst_5 rfl (lv_at hl 1 rfl) ?_
      refine lv_icmp_ge (tgt := 31) hx hb dX4_sumOfFirst_6 (by decide) (fun c_3 => ?_) (fun c_3 => ?_)
      · rw [if_pos c_3] at h
        have h := Option.some.inj h
        subst h
        exact kex _ _ _ hP hD hS (lv_sub hl [2] rfl)
      · rw [if_neg c_3] at h
        refine lv_iload_n hx hb dX4_sumOfFirst_9 rfl (lv_at hl 3 rfl) ?_
        refine lv_aload_n hx hb dX4_sumOfFirst_10 rfl (lv_at hl 0 rfl) ?_
        refine va_get (D := D) (ci := 4) (v := .int ((S.1 r).1)) (C := RX4) (T := TX4) (N := 2) hx hb hts (by decide +kernel) hown hK hP (26 + r) (qg_R hix) rfl 1 (by decide) (hts (.fieldLink RX4 15 "QueueMiddles$Row" "size" "I") (by decide +kernel)) (fun _ h9 => h9) rfl dX4_sumOfFirst_11 ?_
        refine lv_icmp_ge (tgt := 31) hx hb dX4_sumOfFirst_14 (by decide) (fun c_4 => ?_) (fun c_4 => ?_)
        · rw [if_pos c_4] at h
          have h := Option.some.inj h
          subst h
          exact kex _ _ _ hP hD hS (lv_sub hl [2] rfl)
        · rw [if_neg c_4] at h
          refine lv_iload_n hx hb dX4_sumOfFirst_17 rfl (lv_at hl 2 rfl) ?_
          refine lv_aload_n hx hb dX4_sumOfFirst_18 rfl (lv_at hl 0 rfl) ?_
          refine lv_iload_n hx hb dX4_sumOfFirst_19 rfl (lv_at hl 3 rfl) ?_
          refine va_calli (va_runV (As := [.int v3_1]) (rest := [.int v2_1]) ⟨hx, hb, hml, hown, hts⟩ (nX4_at l D A ad cI cQ rest S r hix v3_1) (cwV 1 hts gX4_sumOfFirst_X4_at rfl rfl rfl (by decide +kernel) ⟨Nat.le_of_ble_eq_true rfl, Nat.le_of_ble_eq_true rfl⟩) ⟨qm_blind, va_recv hK hP (ci := 4) (q0 := (26 + r)) rfl (qg_R hix), fun U hU hW => ⟨rfl, qm_go hA hS hP hK hD hU hW⟩⟩ rfl rfl hl.1 rfl (lv_room (Nat.le_of_ble_eq_true rfl)) dX4_sumOfFirst_20 ⟨Nat.le_of_ble_eq_true rfl, Nat.le_of_ble_eq_true rfl⟩) hS (fun _ _ h9 => h9) (fun _ h9 => h9) (fun v u t H1 locs1 ht hvm hw hB hz1 hk1 hS => ?_)
          obtain ⟨hw1, hw2⟩ := hw
          have hw1 : rw_at (S.1 r) v3_1 = v := hw1.symm
          have hw2 : S = u := hw2.symm
          subst hw1
          subst hw2
          obtain ⟨hP, hD⟩ := qm_bk ht hB
          refine lv_iadd hx hb dX4_sumOfFirst_23 ?_
          refine lv_istore_n (lv' := [(2, .int (v2_1 + (rw_at (S.1 r) v3_1))), (0, .ref (ad (26 + r))), (1, .int p0), (3, .int v3_1)]) hx hb dX4_sumOfFirst_24 rfl hl (by decide) rfl (fun ls hl => ?_)
          refine lv_iinc (v := v3_1 + (1 : Int32)) (lv' := [(3, .int (v3_1 + (1 : Int32))), (2, .int (v2_1 + (rw_at (S.1 r) v3_1))), (0, .ref (ad (26 + r))), (1, .int p0)]) hx hb dX4_sumOfFirst_25 hl (k := 3) rfl rfl (by decide) rfl (fun ls hl => ?_)
          refine lv_goto (tgt := 4) hx hb dX4_sumOfFirst_28 (by decide) ?_
          exact ih (v2_1 + (rw_at (S.1 r) v3_1)) (v3_1 + (1 : Int32))  z h _ _ _ hP hD hS (lv_sub hl [2, 3, 1, 0] rfl) kex
  obtain ⟨z_5, hz_6, h⟩ := qm_bind h
  refine loop_2 qm_F (0 : Int32) (0 : Int32) z_5 hz_6 _ _ _ hP hD hS (lv_sub hl [2, 3, 1, 0] rfl) (fun H locs ls hP hD hS hl => ?_)
  refine lv_iload_n hx hb dX4_sumOfFirst_31 rfl (lv_at hl 0 rfl) ?_
  have h := Option.some.inj h
  subst h
  rw [hQX]
  exact W.iret (v := z_5) hx hb hr (fun t ht hW => ⟨⟨z_5, S, rfl, ⟨rfl, rfl⟩, qm_en ht hP hD⟩, hS.F ht⟩) hS.2.2 dX4_sumOfFirst_32
noncomputable def fX4_notAbove_L7 (n0 : Nat) (x1 : Int32) : Nat → Int32 → Int32 → qm_S → Option (Int32)
  | 0, _, _, _ => none
  | fuel + 1, v2, v3, S =>
    (if v3 ≤ v2 then some v2 else (if x1 < (rw_at (S.1 n0) ((v2 + v3) / (2 : Int32))) then fX4_notAbove_L7 n0 x1 fuel v2 ((v2 + v3) / (2 : Int32)) S else fX4_notAbove_L7 n0 x1 fuel (((v2 + v3) / (2 : Int32)) + (1 : Int32)) v3 S))
noncomputable def fX4_notAbove (S : qm_S) (r : Nat) (p0 : Int32) : Option (Int32) :=
  Option.bind (fX4_notAbove_L7 r p0 qm_F (0 : Int32) ((S.1 r).1) S) (fun z_5 => some z_5)
set_option maxHeartbeats 4000000 in
set_option maxRecDepth 100000 in
theorem kX4_notAbove (l : Launch) (D : va_G) (A : Nat → Prop) (ad : Nat → Nat) (cI cQ : ClassId) (rest : va_W) (S : qm_S) (r : Nat) (hix : r < 28) (p0 : Int32) (z : Int32) (h : fX4_notAbove S r p0 = some z) : Met l yX4_notAbove wsX4_notAbove ({ frames := 2, cells := 0, slots := 0, locals := 42 }) (va_Pc [.ref (ad (26 + r)), .int p0] (qm_B D A (qm_T cI cQ) (qm_W ad cI cQ rest S))) (qm_Qi D A (qm_W ad cI cQ rest) (z, S)) 0 0 A := by
  refine Met.ofW (cc := cX4_notAbove) (maxL := 5) (ret := (some .int)) (by decide) rfl ?_
  intro p e s m args below meth c s₁ B hml hv
  obtain ⟨rfl, hA, hP, hK, hD⟩ := hv
  have hx := B.exec
  have hb := B.bytes
  have hr := B.returns
  have hts := atoms_spec (ws := wsX4_notAbove) B.pre
  have hown : s.vm.findClass RX4 = some m.cls := findClass_of_methodNamed B.named
  have hlocks := B.notSynchronized
  have hS : va_S A s.heap s.heap [] := va_S.rf
  have hl := lv_entry ([.ref (ad (26 + r)), .int p0]) (n := 5) (Nat.le_of_ble_eq_true rfl)
  rw [lg_entry_eq]
  generalize (lg_sl ([.ref (ad (26 + r)), .int p0]) ++ List.replicate (5 - (lg_sl ([.ref (ad (26 + r)), .int p0])).length) Slot.unset).toArray = ls at hl ⊢
  have hl : lv_has ls 5 [(0, .ref (ad (26 + r))), (1, .int p0)] := hl
  obtain ⟨QX, hQX⟩ : ∃ q, q = MQ below (qm_Qi D A (qm_W ad cI cQ rest) (z, S)) ([.ref (ad (26 + r)), .int p0] : List Value).toArray s 0 0 A := ⟨_, rfl⟩
  rw [← hQX]
  rw [fX4_notAbove] at h
  refine lv_iconst (v := (0 : Int32)) hx hb dX4_notAbove_0 (by decide) ?_
  refine lv_istore_n (lv' := [(2, .int (0 : Int32)), (0, .ref (ad (26 + r))), (1, .int p0)]) hx hb dX4_notAbove_1 rfl hl (by decide) rfl (fun ls hl => ?_)
  refine lv_aload_n hx hb dX4_notAbove_2 rfl (lv_at hl 1 rfl) ?_
  refine va_get (D := D) (ci := 4) (v := .int ((S.1 r).1)) (C := RX4) (T := TX4) (N := 2) hx hb hts (by decide +kernel) hown hK hP (26 + r) (qg_R hix) rfl 1 (by decide) (hts (.fieldLink RX4 15 "QueueMiddles$Row" "size" "I") (by decide +kernel)) (fun _ h9 => h9) rfl dX4_notAbove_3 ?_
  refine lv_istore_n (lv' := [(3, .int ((S.1 r).1)), (2, .int (0 : Int32)), (0, .ref (ad (26 + r))), (1, .int p0)]) hx hb dX4_notAbove_6 rfl hl (by decide) rfl (fun ls hl => ?_)
  have loop_2 : ∀ (fuel : Nat) (v2_1 v3_1 : Int32) (z : Int32), fX4_notAbove_L7 r p0 fuel v2_1 v3_1 S = some z → ∀ (H : Heap) (locs : List Loc) (ls : Array Slot), va_P D vwCl (qm_W ad cI cQ rest S) H → va_D A (qm_W ad cI cQ rest S) → va_S A s.heap H locs → lv_has ls 5 [(0, .ref (ad (26 + r))), (1, .int p0), (2, .int v2_1), (3, .int v3_1)] → (∀ (H : Heap) (locs : List Loc) (ls : Array Slot), va_P D vwCl (qm_W ad cI cQ rest S) H → va_D A (qm_W ad cI cQ rest S) → va_S A s.heap H locs → lv_has ls 5 [(2, .int z)] → W p l e ({ frames := 2, cells := 0, slots := 0, locals := 42 } : Room) s m ([.ref (ad (26 + r)), .int p0] : List Value).toArray below meth c H locs 0 0 QX (F0 m 43 ls [])) → W p l e ({ frames := 2, cells := 0, slots := 0, locals := 42 } : Room) s m ([.ref (ad (26 + r)), .int p0] : List Value).toArray below meth c H locs 0 0 QX (F0 m 7 ls []) := by
    intro fuel
    induction fuel with
    | zero =>
      intro v2_1 v3_1 z h
      rw [fX4_notAbove_L7] at h
      cases h
    | succ fuel ih =>
      intro v2_1 v3_1 z h H locs ls hP hD hS hl kex
      rw [fX4_notAbove_L7] at h
      refine lv_iload_n hx hb dX4_notAbove_7 rfl (lv_at hl 2 rfl) ?_
      refine lv_iload_n hx hb dX4_notAbove_8 rfl (lv_at hl 3 rfl) ?_
      refine lv_icmp_ge (tgt := 43) hx hb dX4_notAbove_9 (by decide) (fun c_3 => ?_) (fun c_3 => ?_)
      · rw [if_pos c_3] at h
        have h := Option.some.inj h
        subst h
        exact kex _ _ _ hP hD hS (lv_sub hl [2] rfl)
      · rw [if_neg c_3] at h
        refine lv_iload_n hx hb dX4_notAbove_12 rfl (lv_at hl 2 rfl) ?_
        refine lv_iload_n hx hb dX4_notAbove_13 rfl (lv_at hl 3 rfl) ?_
        refine lv_iadd hx hb dX4_notAbove_14 ?_
        refine lv_iconst (v := (2 : Int32)) hx hb dX4_notAbove_15 (by decide) ?_
        refine lv_idiv hx hb dX4_notAbove_16 (by decide) ?_
        refine lv_istore (lv' := [(4, .int ((v2_1 + v3_1) / (2 : Int32))), (0, .ref (ad (26 + r))), (1, .int p0), (2, .int v2_1), (3, .int v3_1)]) hx hb dX4_notAbove_17 hl (by decide) rfl (fun ls hl => ?_)
        refine lv_aload_n hx hb dX4_notAbove_19 rfl (lv_at hl 1 rfl) ?_
        refine lv_iload hx hb dX4_notAbove_20 (lv_at hl 0 rfl) ?_
        refine va_calli (va_runV (As := [.int ((v2_1 + v3_1) / (2 : Int32))]) (rest := []) ⟨hx, hb, hml, hown, hts⟩ (nX4_at l D A ad cI cQ rest S r hix ((v2_1 + v3_1) / (2 : Int32))) (cwV 1 hts gX4_notAbove_X4_at rfl rfl rfl (by decide +kernel) ⟨Nat.le_of_ble_eq_true rfl, Nat.le_of_ble_eq_true rfl⟩) ⟨qm_blind, va_recv hK hP (ci := 4) (q0 := (26 + r)) rfl (qg_R hix), fun U hU hW => ⟨rfl, qm_go hA hS hP hK hD hU hW⟩⟩ rfl rfl hl.1 rfl (lv_room (Nat.le_of_ble_eq_true rfl)) dX4_notAbove_22 ⟨Nat.le_of_ble_eq_true rfl, Nat.le_of_ble_eq_true rfl⟩) hS (fun _ _ h9 => h9) (fun _ h9 => h9) (fun v u t H1 locs1 ht hvm hw hB hz1 hk1 hS => ?_)
        obtain ⟨hw1, hw2⟩ := hw
        have hw1 : rw_at (S.1 r) ((v2_1 + v3_1) / (2 : Int32)) = v := hw1.symm
        have hw2 : S = u := hw2.symm
        subst hw1
        subst hw2
        obtain ⟨hP, hD⟩ := qm_bk ht hB
        refine lv_iload_n hx hb dX4_notAbove_25 rfl (lv_at hl 2 rfl) ?_
        refine lv_icmp_gt (tgt := 37) hx hb dX4_notAbove_26 (by decide) (fun c_4 => ?_) (fun c_4 => ?_)
        · rw [if_pos c_4] at h
          refine lv_iload hx hb dX4_notAbove_37 (lv_at hl 0 rfl) ?_
          refine lv_istore_n (lv' := [(3, .int ((v2_1 + v3_1) / (2 : Int32))), (4, .int ((v2_1 + v3_1) / (2 : Int32))), (0, .ref (ad (26 + r))), (1, .int p0), (2, .int v2_1)]) hx hb dX4_notAbove_39 rfl hl (by decide) rfl (fun ls hl => ?_)
          refine lv_goto (tgt := 7) hx hb dX4_notAbove_40 (by decide) ?_
          exact ih v2_1 ((v2_1 + v3_1) / (2 : Int32))  z h _ _ _ hP hD hS (lv_sub hl [2, 3, 4, 0] rfl) kex
        · rw [if_neg c_4] at h
          refine lv_iload hx hb dX4_notAbove_29 (lv_at hl 0 rfl) ?_
          refine lv_iconst (v := (1 : Int32)) hx hb dX4_notAbove_31 (by decide) ?_
          refine lv_iadd hx hb dX4_notAbove_32 ?_
          refine lv_istore_n (lv' := [(2, .int (((v2_1 + v3_1) / (2 : Int32)) + (1 : Int32))), (4, .int ((v2_1 + v3_1) / (2 : Int32))), (0, .ref (ad (26 + r))), (1, .int p0), (3, .int v3_1)]) hx hb dX4_notAbove_33 rfl hl (by decide) rfl (fun ls hl => ?_)
          refine lv_goto (tgt := 40) hx hb dX4_notAbove_34 (by decide) ?_
          refine lv_goto (tgt := 7) hx hb dX4_notAbove_40 (by decide) ?_
          exact ih (((v2_1 + v3_1) / (2 : Int32)) + (1 : Int32)) v3_1  z h _ _ _ hP hD hS (lv_sub hl [2, 3, 0, 4] rfl) kex
  obtain ⟨z_5, hz_6, h⟩ := qm_bind h
  refine loop_2 qm_F (0 : Int32) ((S.1 r).1) z_5 hz_6 _ _ _ hP hD hS (lv_sub hl [2, 3, 1, 0] rfl) (fun H locs ls hP hD hS hl => ?_)
  refine lv_iload_n hx hb dX4_notAbove_43 rfl (lv_at hl 0 rfl) ?_
  have h := Option.some.inj h
  subst h
  rw [hQX]
  exact W.iret (v := z_5) hx hb hr (fun t ht hW => ⟨⟨z_5, S, rfl, ⟨rfl, rfl⟩, qm_en ht hP hD⟩, hS.F ht⟩) hS.2.2 dX4_notAbove_44
