/-! ===== the law's cases ===== -/
abbrev la_v (ad am : Nat → Nat) (cI cQ cL cD : ClassId) (aL aD : Nat) (S : qm_S) (o : Nat → Int64) (d : Nat → UInt64) (M : mm_M) : va_W := qm_W ad cI cQ (la_r aL aD cL cD o d (mm_w am cI M)) S
abbrev la_pre (ad : Nat → Nat) (cI cQ cL cD : ClassId) (aL aD : Nat) (S : qm_S) (o : Nat → Int64) (d : Nat → UInt64) : va_W := qm_w ad cI cQ S ++ la_r aL aD cL cD o d []
theorem la_W {ad am : Nat → Nat} {cI cQ cL cD : ClassId} {aL aD : Nat} {S : qm_S} {o : Nat → Int64} {d : Nat → UInt64} {M : mm_M} : la_v ad am cI cQ cL cD aL aD S o d M = mm_W (la_pre ad cI cQ cL cD aL aD S o d) am cI M :=
  (List.append_assoc (qm_w ad cI cQ S) (la_r aL aD cL cD o d []) (mm_w am cI M)).symm
def la_H (l : Launch) (p : Program) (s : State) (m : MethodId) (c : Code) (b L : Nat) (xs : Nat → Int32) (D : va_G) (A : Nat → Prop) (cI cQ cL cD : ClassId) : Prop :=
  (p.tables.exec = Jvm.exec ∧ c.code = cL_law ∧ c.maxLocals = 9 ∧ s.vm.findClass RL = some m.cls) ∧ (∀ w ∈ wsL_law, w.before #[Value.ref b] s = true) ∧ (va_X b L xs s s.heap ∧ b < s.heap.size ∧ ¬ A b ∧ L ≤ 2560) ∧ ((∀ q : Nat, s.heap.size ≤ q → A q) ∧ va_K D vwCl (la_T cI cQ cL cD) s ∧ qm_Z A s) ∧ l.stackTraces = false
abbrev la_l (i b : Nat) (ad am : Nat → Nat) (aL aD : Nat) : List (Nat × Value) := [(5, .int (nI (5 * i))), (4, .ref aD), (3, .ref aL), (2, .ref (am 0)), (1, .ref (ad 0)), (0, .ref b)]
theorem la_ix {i L : Nat} (j : Nat) (hj : 5 * i + j < L) (hL : L ≤ 2560) : vp_in (nI (5 * i) + nI j) L := by
  rw [nI_add]
  exact vp_in_nI hj (by omega)
theorem la_cmp {x y : Int64} (h : x = y) : lg_cmp x y = 0 := by
  subst h
  unfold lg_cmp
  simp
theorem la_of_w {ts : List String} {S : qm_S} {x : Option ((Int32 × qm_S) ⊕ String)} {y : Option (Int32 × mm_M)} (o : Nat → Int64) (h : st_w ts S x y) (hn : ts.length ≤ 3) : ∃ (z : (Int32 × qm_S) ⊕ String) (v : Int32) (M' : mm_M) (k : Int32) (S' : qm_S) (o' : Nat → Int64), x = some z ∧ y = some (v, M') ∧ la_w ts z S o k S' o' ∧ M'.2 = k ∧ st_R S' M' ∧ (k = 0 → o' (0 : Int32).toNatClampNeg = v.toInt64) := by
  obtain ⟨z, b, M', e1, e2, h | h⟩ := h
  · obtain ⟨v, S', f1, f2, f3, f4⟩ := h
    exact ⟨z, b, M', 0, S', la_uo o v, e1, e2, Or.inl ⟨v, f1, rfl, rfl⟩, f2, f4, fun _ => by rw [f3]; exact if_pos rfl⟩
  · obtain ⟨i, E, f1, f2, f3, f4⟩ := h
    have hi : i < ts.length := (List.getElem?_eq_some_iff.mp f1).1
    exact ⟨z, b, M', nI (i + 1), S, o, e1, e2, Or.inr ⟨i, E, f1, f2, rfl, rfl, rfl⟩, f3, f4, fun q => absurd q (nI_ne0 (by omega) (by omega))⟩
theorem la_of_q {ts : List String} {S : qm_S} {M : mm_M} {x : Option (Int32 ⊕ String)} {y : Option (Int32 × mm_M)} (o : Nat → Int64) (hR : st_R S M) (h : st_q ts M x y) (hn : ts.length ≤ 3) : ∃ (z : Int32 ⊕ String) (v : Int32) (M' : mm_M) (k : Int32) (o' : Nat → Int64), x = some z ∧ y = some (v, M') ∧ la_p ts z o k o' ∧ M'.2 = k ∧ st_R S M' ∧ (k = 0 → o' (0 : Int32).toNatClampNeg = v.toInt64) := by
  obtain ⟨z, b, c, e1, e2, h | h⟩ := h
  · obtain ⟨v, f1, f2, f3⟩ := h
    exact ⟨z, b, mm_th M c, 0, la_uo o v, e1, e2, Or.inl ⟨v, f1, rfl, rfl⟩, f2, hR.th, fun _ => by rw [f3]; exact if_pos rfl⟩
  · obtain ⟨i, E, f1, f2, f3⟩ := h
    have hi : i < ts.length := (List.getElem?_eq_some_iff.mp f1).1
    exact ⟨z, b, mm_th M c, nI (i + 1), o, e1, e2, Or.inr ⟨i, E, f1, f2, rfl, rfl⟩, f3, hR.th, fun q => absurd q (nI_ne0 (by omega) (by omega))⟩
theorem la_of_d {ts : List String} {S : qm_S} {M : mm_M} {x : Option (UInt64 ⊕ String)} {y : Option (UInt64 × mm_M)} (d : Nat → UInt64) (hR : st_R S M) (h : st_d ts M x y) (hn : ts.length ≤ 3) : ∃ (z : UInt64 ⊕ String) (v : UInt64) (M' : mm_M) (k : Int32) (d' : Nat → UInt64), x = some z ∧ y = some (v, M') ∧ la_d ts z d k d' ∧ M'.2 = k ∧ st_R S M' ∧ (k = 0 → d' (0 : Int32).toNatClampNeg = v) := by
  obtain ⟨z, b, c, e1, e2, h | h⟩ := h
  · obtain ⟨v, f1, f2, f3⟩ := h
    exact ⟨z, b, mm_th M c, 0, la_ud d v, e1, e2, Or.inl ⟨v, f1, rfl, rfl⟩, f2, hR.th, fun _ => by rw [f3]; exact if_pos rfl⟩
  · obtain ⟨i, E, f1, f2, f3⟩ := h
    have hi : i < ts.length := (List.getElem?_eq_some_iff.mp f1).1
    exact ⟨z, b, mm_th M c, nI (i + 1), d, e1, e2, Or.inr ⟨i, E, f1, f2, rfl, rfl⟩, f3, hR.th, fun q => absurd q (nI_ne0 (by omega) (by omega))⟩
