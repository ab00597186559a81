/-! ===== the class's world: 82 cells at fixed addresses; what they hold is read off one value ===== -/
abbrev qm_R : Type := Int32 × (Nat → Int32)
abbrev qm_S : Type := (Nat → qm_R) × (Nat → Int32) × (Nat → Int32)
/-- cell i of the class: 0 the object, 1 its array, 2.. the counters, 6.. MarkRow, 10.. Tally, 14.. Halves, 18.. Heap, 26.. Row, 54.. the rows' arrays -/
def qm_cell (ad : Nat → Nat) (cI cQ : ClassId) (S : qm_S) (i : Nat) : va_E :=
  if i = 0 then .inr (6, [.ref (ad 1)])
  else if i = 1 then .inl (cQ, 4, .inr (.inr (.inr (.inr (fun j => some (ad (2 + j)))))))
  else if i < 6 then .inr (0, [.ref (ad (6 + (i - 2))), .ref (ad (10 + (i - 2))), .ref (ad (14 + (i - 2))), .int (S.2.1 (i - 2))])
  else if i < 10 then .inr (3, [.ref (ad (26 + (i - 6))), .ref (ad (26 + (4 + (i - 6)))), .ref (ad (26 + (8 + (i - 6))))])
  else if i < 14 then .inr (5, [.ref (ad (26 + (12 + (i - 10)))), .ref (ad (26 + (16 + (i - 10)))), .int (S.2.2 (i - 10))])
  else if i < 18 then .inr (1, [.ref (ad (18 + (2 * (i - 14)))), .ref (ad (18 + (2 * (i - 14) + 1)))])
  else if i < 26 then .inr (2, [.ref (ad (26 + (20 + (i - 18))))])
  else if i < 54 then .inr (4, [.ref (ad (54 + (i - 26))), .int (S.1 (i - 26)).1])
  else .inl (cI, 600, .inl (S.1 (i - 54)).2)
def qm_w (ad : Nat → Nat) (cI cQ : ClassId) (S : qm_S) : va_W := (List.range 82).map (fun i => (ad i, qm_cell ad cI cQ S i))
/-- the class's cells, and any others behind them -/
def qm_W (ad : Nat → Nat) (cI cQ : ClassId) (rest : va_W) (S : qm_S) : va_W := qm_w ad cI cQ S ++ rest
section QmWorld
variable {ad : Nat → Nat} {cI cQ : ClassId} {S S' : qm_S} {rest : va_W} {i r k h : Nat} {e : va_E}
theorem qm_w_len : (qm_w ad cI cQ S).length = 82 := by simp [qm_w]
theorem qm_w_get (h : i < 82) : (qm_w ad cI cQ S)[i]? = some (ad i, qm_cell ad cI cQ S i) := by
  simp [qm_w, List.getElem?_range h]
theorem qm_at (h : i < 82) (he : qm_cell ad cI cQ S i = e) : (qm_W ad cI cQ rest S)[i]? = some (ad i, e) := by
  subst he
  unfold qm_W
  rw [List.getElem?_append_left (by rw [qm_w_len]; exact h)]
  exact qm_w_get h
theorem qm_set (h : i < 82) (he : qm_cell ad cI cQ S' i = e) (ho : ∀ j, j < 82 → j ≠ i → qm_cell ad cI cQ S' j = qm_cell ad cI cQ S j) :
    (qm_W ad cI cQ rest S).set i (ad i, e) = qm_W ad cI cQ rest S' := by
  subst he
  unfold qm_W
  rw [List.set_append_left _ _ (by rw [qm_w_len]; exact h)]
  congr 1
  apply List.ext_getElem?
  intro j
  by_cases hj : j < 82
  · rw [qm_w_get hj]
    by_cases hji : j = i
    · subst hji
      rw [List.getElem?_set_self (by rw [qm_w_len]; exact h)]
    · rw [List.getElem?_set_ne (Ne.symm hji), qm_w_get hj, ho j hj hji]
  · rw [List.getElem?_eq_none (by rw [List.length_set, qm_w_len]; omega), List.getElem?_eq_none (by rw [qm_w_len]; omega)]
theorem qm_cong {j : Nat} (a : 2 ≤ j → j < 6 → S'.2.1 (j - 2) = S.2.1 (j - 2)) (b : 10 ≤ j → j < 14 → S'.2.2 (j - 10) = S.2.2 (j - 10)) (c : 26 ≤ j → j < 54 → (S'.1 (j - 26)).1 = (S.1 (j - 26)).1) (d : 54 ≤ j → (S'.1 (j - 54)).2 = (S.1 (j - 54)).2) : qm_cell ad cI cQ S' j = qm_cell ad cI cQ S j := by
  unfold qm_cell
  by_cases h0 : j = 0
  · rw [if_pos h0, if_pos h0]
  rw [if_neg h0, if_neg h0]
  by_cases h1 : j = 1
  · rw [if_pos h1, if_pos h1]
  rw [if_neg h1, if_neg h1]
  by_cases h2 : j < 6
  · rw [if_pos h2, if_pos h2, a (by omega) h2]
  rw [if_neg h2, if_neg h2]
  by_cases h3 : j < 10
  · rw [if_pos h3, if_pos h3]
  rw [if_neg h3, if_neg h3]
  by_cases h4 : j < 14
  · rw [if_pos h4, if_pos h4, b (by omega) h4]
  rw [if_neg h4, if_neg h4]
  by_cases h5 : j < 18
  · rw [if_pos h5, if_pos h5]
  rw [if_neg h5, if_neg h5]
  by_cases h6 : j < 26
  · rw [if_pos h6, if_pos h6]
  rw [if_neg h6, if_neg h6]
  by_cases h7 : j < 54
  · rw [if_pos h7, if_pos h7, c (by omega) h7]
  rw [if_neg h7, if_neg h7, d (by omega)]
theorem qc_C (h : k < 4) : qm_cell ad cI cQ S (2 + k) = .inr (0, [.ref (ad (6 + k)), .ref (ad (10 + k)), .ref (ad (14 + k)), .int (S.2.1 k)]) := by
  unfold qm_cell
  rw [if_neg (by omega), if_neg (by omega), if_pos (by omega), Nat.add_sub_cancel_left]
theorem qc_M (h : k < 4) : qm_cell ad cI cQ S (6 + k) = .inr (3, [.ref (ad (26 + k)), .ref (ad (26 + (4 + k))), .ref (ad (26 + (8 + k)))]) := by
  unfold qm_cell
  rw [if_neg (by omega), if_neg (by omega), if_neg (by omega), if_pos (by omega), Nat.add_sub_cancel_left]
theorem qc_T (h : k < 4) : qm_cell ad cI cQ S (10 + k) = .inr (5, [.ref (ad (26 + (12 + k))), .ref (ad (26 + (16 + k))), .int (S.2.2 k)]) := by
  unfold qm_cell
  rw [if_neg (by omega), if_neg (by omega), if_neg (by omega), if_neg (by omega), if_pos (by omega), Nat.add_sub_cancel_left]
theorem qc_H (h : k < 4) : qm_cell ad cI cQ S (14 + k) = .inr (1, [.ref (ad (18 + 2 * k)), .ref (ad (18 + (2 * k + 1)))]) := by
  unfold qm_cell
  rw [if_neg (by omega), if_neg (by omega), if_neg (by omega), if_neg (by omega), if_neg (by omega), if_pos (by omega), Nat.add_sub_cancel_left]
theorem qc_P (hh : h < 8) : qm_cell ad cI cQ S (18 + h) = .inr (2, [.ref (ad (26 + (20 + h)))]) := by
  unfold qm_cell
  rw [if_neg (by omega), if_neg (by omega), if_neg (by omega), if_neg (by omega), if_neg (by omega), if_neg (by omega), if_pos (by omega), Nat.add_sub_cancel_left]
theorem qc_R (h : r < 28) : qm_cell ad cI cQ S (26 + r) = .inr (4, [.ref (ad (54 + r)), .int (S.1 r).1]) := by
  unfold qm_cell
  rw [if_neg (by omega), if_neg (by omega), if_neg (by omega), if_neg (by omega), if_neg (by omega), if_neg (by omega), if_neg (by omega), if_pos (by omega), Nat.add_sub_cancel_left]
theorem qc_A : qm_cell ad cI cQ S (54 + r) = .inl (cI, 600, .inl (S.1 r).2) := by
  unfold qm_cell
  rw [if_neg (by omega), if_neg (by omega), if_neg (by omega), if_neg (by omega), if_neg (by omega), if_neg (by omega), if_neg (by omega), if_neg (by omega), Nat.add_sub_cancel_left]
theorem qg_Q : (qm_W ad cI cQ rest S)[0]? = some (ad 0, .inr (6, [.ref (ad 1)])) := qm_at (by decide) (by simp [qm_cell])
theorem qg_CA : (qm_W ad cI cQ rest S)[1]? = some (ad 1, .inl (cQ, 4, .inr (.inr (.inr (.inr (fun j => some (ad (2 + j)))))))) := qm_at (by decide) (by simp [qm_cell])
theorem qg_C (h : k < 4) : (qm_W ad cI cQ rest S)[2 + k]? = some (ad (2 + k), .inr (0, [.ref (ad (6 + k)), .ref (ad (10 + k)), .ref (ad (14 + k)), .int (S.2.1 k)])) := qm_at (by omega) (qc_C h)
theorem qg_M (h : k < 4) : (qm_W ad cI cQ rest S)[6 + k]? = some (ad (6 + k), .inr (3, [.ref (ad (26 + k)), .ref (ad (26 + (4 + k))), .ref (ad (26 + (8 + k)))])) := qm_at (by omega) (qc_M h)
theorem qg_T (h : k < 4) : (qm_W ad cI cQ rest S)[10 + k]? = some (ad (10 + k), .inr (5, [.ref (ad (26 + (12 + k))), .ref (ad (26 + (16 + k))), .int (S.2.2 k)])) := qm_at (by omega) (qc_T h)
theorem qg_H (h : k < 4) : (qm_W ad cI cQ rest S)[14 + k]? = some (ad (14 + k), .inr (1, [.ref (ad (18 + 2 * k)), .ref (ad (18 + (2 * k + 1)))])) := qm_at (by omega) (qc_H h)
theorem qg_P (hh : h < 8) : (qm_W ad cI cQ rest S)[18 + h]? = some (ad (18 + h), .inr (2, [.ref (ad (26 + (20 + h)))])) := qm_at (by omega) (qc_P hh)
theorem qg_R (h : r < 28) : (qm_W ad cI cQ rest S)[26 + r]? = some (ad (26 + r), .inr (4, [.ref (ad (54 + r)), .int (S.1 r).1])) := qm_at (by omega) (qc_R h)
theorem qg_A (h : r < 28) : (qm_W ad cI cQ rest S)[54 + r]? = some (ad (54 + r), .inl (cI, 600, .inl (S.1 r).2)) := qm_at (by omega) qc_A
end QmWorld
/-- a row anew, a bound anew, a total anew -/
def qm_row (S : qm_S) (r : Nat) (R : qm_R) : qm_S := (va_up S.1 r R, S.2)
def qm_th (S : qm_S) (k : Nat) (v : Int32) : qm_S := (S.1, va_up S.2.1 k v, S.2.2)
def qm_to (S : qm_S) (k : Nat) (v : Int32) : qm_S := (S.1, S.2.1, va_up S.2.2 k v)
section QmSets
variable {ad : Nat → Nat} {cI cQ : ClassId} {S S' : qm_S} {rest : va_W} {i r k h : Nat} {e : va_E}
theorem qs_size (h : r < 28) (v : Int32) : (qm_W ad cI cQ rest S).set (26 + r) (ad (26 + r), .inr (4, [Value.ref (ad (54 + r)), Value.int (S.1 r).1].set 1 (.int v))) = qm_W ad cI cQ rest (qm_row S r (v, (S.1 r).2)) := by
  refine qm_set (by omega) (by rw [qc_R h]; simp [qm_row, va_up]) (fun j hj hne => qm_cong (fun _ _ => rfl) (fun _ _ => rfl) (fun h1 h2 => ?_) (fun h1 => ?_))
  · simp only [qm_row, va_up]
    rw [if_neg (by omega)]
  · simp only [qm_row, va_up]
    split
    · next q => rw [q]
    · rfl
theorem qs_arr (h : r < 28) (f : Nat → Int32) : (qm_W ad cI cQ rest S).set (54 + r) (ad (54 + r), .inl (cI, 600, .inl f)) = qm_W ad cI cQ rest (qm_row S r ((S.1 r).1, f)) := by
  refine qm_set (by omega) (by rw [qc_A]; simp [qm_row, va_up]) (fun j hj hne => qm_cong (fun _ _ => rfl) (fun _ _ => rfl) (fun h1 h2 => ?_) (fun h1 => ?_))
  · simp only [qm_row, va_up]
    split
    · next q => rw [q]
    · rfl
  · simp only [qm_row, va_up]
    rw [if_neg (by omega)]
theorem qs_th (h : k < 4) (v : Int32) : (qm_W ad cI cQ rest S).set (2 + k) (ad (2 + k), .inr (0, [Value.ref (ad (6 + k)), Value.ref (ad (10 + k)), Value.ref (ad (14 + k)), Value.int (S.2.1 k)].set 3 (.int v))) = qm_W ad cI cQ rest (qm_th S k v) := by
  refine qm_set (by omega) (by rw [qc_C h]; simp [qm_th, va_up]) (fun j hj hne => qm_cong (fun h1 h2 => ?_) (fun _ _ => rfl) (fun h1 h2 => rfl) (fun h1 => rfl))
  simp only [qm_th, va_up]
  rw [if_neg (by omega)]
theorem qs_to (h : k < 4) (v : Int32) : (qm_W ad cI cQ rest S).set (10 + k) (ad (10 + k), .inr (5, [Value.ref (ad (26 + (12 + k))), Value.ref (ad (26 + (16 + k))), Value.int (S.2.2 k)].set 2 (.int v))) = qm_W ad cI cQ rest (qm_to S k v) := by
  refine qm_set (by omega) (by rw [qc_T h]; simp [qm_to, va_up]) (fun j hj hne => qm_cong (fun h1 h2 => rfl) (fun h1 h2 => ?_) (fun h1 h2 => rfl) (fun h1 => rfl))
  simp only [qm_to, va_up]
  rw [if_neg (by omega)]
end QmSets
theorem qb_0 {k : Nat} (h : k < 4) : k < 28 := by omega
theorem qb_4 {k : Nat} (h : k < 4) : 4 + k < 28 := by omega
theorem qb_8 {k : Nat} (h : k < 4) : 8 + k < 28 := by omega
theorem qb_12 {k : Nat} (h : k < 4) : 12 + k < 28 := by omega
theorem qb_16 {k : Nat} (h : k < 4) : 16 + k < 28 := by omega
theorem qb_20 {h : Nat} (hh : h < 8) : 20 + h < 28 := by omega
theorem qb_l {k : Nat} (h : k < 4) : 2 * k < 8 := by omega
theorem qb_g {k : Nat} (h : k < 4) : 2 * k + 1 < 8 := by omega
/-! ===== a method's start and end, over any world ===== -/
/-- what a method of these classes is given: the free cells may be changed, the world lies in the heap, apart -/
def qm_B (D : va_G) (A : Nat → Prop) (tys : List (ClassId × FieldType)) (w : va_W) (U : State) : Prop := (∀ q : Nat, U.heap.size ≤ q → A q) ∧ va_P D vwCl w U.heap ∧ va_K D vwCl tys U ∧ va_D A w
/-- what it leaves -/
def qm_E (D : va_G) (A : Nat → Prop) (w : va_W) (t : State) : Prop := va_P D vwCl w t.heap ∧ va_D A w
theorem qm_en {D : va_G} {A : Nat → Prop} {w : va_W} {t : State} {H : Heap} (ht : t.heap = H) (hP : va_P D vwCl w H) (hD : va_D A w) : qm_E D A w t := by
  subst ht
  exact ⟨hP, hD⟩
theorem qm_bk {D : va_G} {A : Nat → Prop} {w : va_W} {t : State} {H : Heap} (ht : t.heap = H) (h : qm_E D A w t) : va_P D vwCl w H ∧ va_D A w := by
  subst ht
  exact h
theorem qm_blind {D : va_G} {A : Nat → Prop} {tys : List (ClassId × FieldType)} {w : va_W} {av : List Value} : FrameBlind (va_Pc av (qm_B D A tys w)) := by
  intro a U g mk q
  obtain ⟨q0, q1, q2, q3, q4⟩ := q
  exact ⟨q0, q1, q2, va_K.moved (u := U) (U := U.calling g mk a) (Vm.Alike.refl U.vm) q3, q4⟩
theorem qm_go {D : va_G} {A : Nat → Prop} {tys : List (ClassId × FieldType)} {w : va_W} {s U : State} {H : Heap} {locs : List Loc} (hA : ∀ q : Nat, s.heap.size ≤ q → A q) (hS : va_S A s.heap H locs) (hP : va_P D vwCl w H) (hK : va_K D vwCl tys s) (hD : va_D A w) (hU : U.heap = H) (hW : s.WarmedH U.vm) : qm_B D A tys w U := by
  subst hU
  exact ⟨fun q h => hA q (Nat.le_trans hS.1 h), hP, va_K.moved hW.alike hK, hD⟩
abbrev qm_T (cI cQ : ClassId) : List (ClassId × FieldType) := [(cI, .int), (cQ, .object "QueueMiddles$Counter")]
/-- ends: an int and a state; a state -/
def qm_Qi {X : Type} (D : va_G) (A : Nat → Prop) (w : X → va_W) (z : Int32 × X) : Array Value → State → Outcome → State → Prop := va_Qi (fun (v : Int32) (u : X) => v = z.1 ∧ u = z.2) (fun u t => qm_E D A (w u) t) A
def qm_Qv {X : Type} (D : va_G) (A : Nat → Prop) (w : X → va_W) (z : X) : Array Value → State → Outcome → State → Prop := va_Qv (fun (u : X) => u = z) (fun u t => qm_E D A (w u) t) A
/-- a guard: what must hold lest the run be stuck -/
noncomputable def qm_gd {α : Type} (P : Prop) (x : Option α) : Option α := @ite _ P (Classical.propDecidable P) x none
theorem qm_gd_some {α : Type} {P : Prop} {x : Option α} {y : α} (h : qm_gd P x = some y) : P ∧ x = some y := by
  unfold qm_gd at h
  by_cases hP : P
  · rw [if_pos hP] at h
    exact ⟨hP, h⟩
  · rw [if_neg hP] at h
    cases h
theorem qm_gd_of {α : Type} {P : Prop} {x : Option α} (hP : P) : qm_gd P x = x := by
  unfold qm_gd
  rw [if_pos hP]
theorem qm_bind {α β : Type} {x : Option α} {f : α → Option β} {b : β} (h : x.bind f = some b) : ∃ a, x = some a ∧ f a = some b := by
  cases x with
  | none => cases h
  | some a => exact ⟨a, rfl, h⟩
def qm_F : Nat := 4294967296
