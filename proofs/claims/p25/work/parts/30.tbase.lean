/-! ===== what a method of the face is given beside its world ===== -/
def qn_Z (U : State) : Prop :=
  va_Nw (.fieldLinkNest RX6 48 RX0 "row" "LQueueMiddles$MarkRow;" RX6) U ∧
  va_Nw (.fieldLinkNest RX6 24 RX0 "numbers" "LQueueMiddles$Tally;" RX6) U ∧
  va_Nw (.fieldLinkNest RX6 124 RX0 "halves" "LQueueMiddles$Halves;" RX6) U ∧
  va_Nw (.fieldLinkNest RX6 74 RX0 "thousandths" "I" RX6) U
theorem qz_frow {s : State} (h : qn_Z s) : va_Nw (.fieldLinkNest RX6 48 RX0 "row" "LQueueMiddles$MarkRow;" RX6) s := h.1
theorem qz_fnumbers {s : State} (h : qn_Z s) : va_Nw (.fieldLinkNest RX6 24 RX0 "numbers" "LQueueMiddles$Tally;" RX6) s := h.2.1
theorem qz_fhalves {s : State} (h : qn_Z s) : va_Nw (.fieldLinkNest RX6 124 RX0 "halves" "LQueueMiddles$Halves;" RX6) s := h.2.2.1
theorem qz_fthousandths {s : State} (h : qn_Z s) : va_Nw (.fieldLinkNest RX6 74 RX0 "thousandths" "I" RX6) s := h.2.2.2
theorem qn_go {s U : State} (h : qn_Z s) (hW : s.WarmedH U.vm) : qn_Z U := ⟨va_Nw.warmF hW h.1, va_Nw.warmF hW h.2.1, va_Nw.warmF hW h.2.2.1, va_Nw.warmF hW h.2.2.2⟩
theorem qn_calling {U : State} {g : JFrame} {mk : MethodId} {a : Array Value} (h : qn_Z U) : qn_Z (U.calling g mk a) := ⟨va_Nw.same rfl rfl h.1, va_Nw.same rfl rfl h.2.1, va_Nw.same rfl rfl h.2.2.1, va_Nw.same rfl rfl h.2.2.2⟩
def qn_B (D : va_G) (A : Nat → Prop) (tys : List (ClassId × FieldType)) (w : va_W) (U : State) : Prop := qm_B D A tys w U ∧ qn_Z U
theorem qn_blind {D : va_G} {A : Nat → Prop} {tys : List (ClassId × FieldType)} {w : va_W} {av : List Value} : FrameBlind (va_Pc av (qn_B D A tys w)) := by
  intro a U g mk q
  obtain ⟨q0, q1, q2⟩ := q
  exact ⟨q0, (qm_blind (av := av) a U g mk ⟨q0, q1⟩).2, qn_calling q2⟩
def qn_Qr {X : Type} (D : va_G) (A : Nat → Prop) (w : X → va_W) (S : X) (f : Nat → Nat) (z : Nat) : Array Value → State → Outcome → State → Prop := va_Qr (fun (u : X) => u = S) (fun u a t => a = f z ∧ qm_E D A (w u) t) A
def qm_Qd {X : Type} (D : va_G) (A : Nat → Prop) (w : X → va_W) (z : UInt64 × X) : Array Value → State → Outcome → State → Prop := va_Qd (fun (v : UInt64) (u : X) => v = z.1 ∧ u = z.2) (fun u t => qm_E D A (w u) t) A
/-- what the reading of the script is given beside its world -/
def qs_X (b L : Nat) (xs : Nat → Int32) (A : Nat → Prop) (U : State) : Prop := va_X b L xs U U.heap ∧ b < U.heap.size ∧ ¬ A b
def qs_B (b L : Nat) (xs : Nat → Int32) (D : va_G) (A : Nat → Prop) (tys : List (ClassId × FieldType)) (w : va_W) (U : State) : Prop := qm_B D A tys w U ∧ qs_X b L xs A U
theorem qs_blind {b L : Nat} {xs : Nat → Int32} {D : va_G} {A : Nat → Prop} {tys : List (ClassId × FieldType)} {w : va_W} {av : List Value} : FrameBlind (va_Pc av (qs_B b L xs D A tys w)) := by
  intro a U g mk q
  obtain ⟨q0, q1, q2, q3, q4⟩ := q
  exact ⟨q0, (qm_blind (av := av) a U g mk ⟨q0, q1⟩).2, va_X.moved (u := U) (U := U.calling g mk a) (Vm.Alike.refl U.vm) q2, q3, q4⟩
theorem qs_go {b L : Nat} {xs : Nat → Int32} {A : Nat → Prop} {s U : State} {H : Heap} {locs : List Loc} (hX : va_X b L xs s s.heap) (hbl : b < s.heap.size) (hbA : ¬ A b) (hS : va_S A s.heap H locs) (hU : U.heap = H) (hW : s.WarmedH U.vm) : qs_X b L xs A U := by
  subst hU
  exact ⟨va_X.moved hW.alike (hX.kept (hS.2.1 b hbl hbA)), Nat.lt_of_lt_of_le hbl hS.1, hbA⟩
theorem pl_out {x : Int32} (a : ¬ x = 0) (b : ¬ (x = 1 ∨ x = 2 ∨ x = 3 ∨ x = 4)) (c : ¬ (x = 5 ∨ x = 6 ∨ x = 7)) (d : ¬ x = 8) : x.toInt < 0 ∨ 8 < x.toInt := by
  have f : ∀ y : Int32, ¬ x = y → x.toInt ≠ y.toInt := fun y h e => h (Int32.toInt_inj.mp e)
  have h0 := f 0 a
  have h1 := f 1 (fun e => b (Or.inl e))
  have h2 := f 2 (fun e => b (Or.inr (Or.inl e)))
  have h3 := f 3 (fun e => b (Or.inr (Or.inr (Or.inl e))))
  have h4 := f 4 (fun e => b (Or.inr (Or.inr (Or.inr e))))
  have h5 := f 5 (fun e => c (Or.inl e))
  have h6 := f 6 (fun e => c (Or.inr (Or.inl e)))
  have h7 := f 7 (fun e => c (Or.inr (Or.inr e)))
  have h8 := f 8 d
  rw [show (0 : Int32).toInt = 0 from rfl] at h0
  rw [show (1 : Int32).toInt = 1 from rfl] at h1
  rw [show (2 : Int32).toInt = 2 from rfl] at h2
  rw [show (3 : Int32).toInt = 3 from rfl] at h3
  rw [show (4 : Int32).toInt = 4 from rfl] at h4
  rw [show (5 : Int32).toInt = 5 from rfl] at h5
  rw [show (6 : Int32).toInt = 6 from rfl] at h6
  rw [show (7 : Int32).toInt = 7 from rfl] at h7
  rw [show (8 : Int32).toInt = 8 from rfl] at h8
  omega
