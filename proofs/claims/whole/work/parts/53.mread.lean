/-! ===== the reference: counter k, by numbers ===== -/
def pm_R (M : mm_M) (k n m : Nat) (V : Nat → Int32) (g : Nat → Nat) (p : Nat → Int32) (N : Nat → Int32) (th : Int32) : Prop :=
  (M.1 0 k = th ∧ M.1 1 k = nI n ∧ M.1 2 k = nI m) ∧ (∀ j, j < n → M.1 3 (600 * k + j) = N j) ∧ (∀ j, j < m → M.1 4 (600 * k + j) = V j) ∧ (∀ j, j < m → M.1 5 (600 * k + j) = nI (pu_ns g (j + 1))) ∧ ∀ j, j < m → M.1 6 (600 * k + j) = nI (pu_ns g (j + 1)) + p j
theorem pm_R.th {M : mm_M} {k n m : Nat} {V : Nat → Int32} {g : Nat → Nat} {p N : Nat → Int32} {th v : Int32} (h : pm_R M k n m V g p N th) : pm_R (mm_th M v) k n m V g p N th := h
/-- an argument names a counter, or it doesn't -/
theorem pu_arg (p : Int32) : (∃ k, k < 4 ∧ p = nI k) ∨ ((p < 0 ∨ 4 ≤ p) ∧ ¬ mo_in p 0 3) := by
  by_cases h0 : p < 0
  · exact Or.inr ⟨Or.inl h0, fun q => q.1 h0⟩
  · obtain ⟨j, hj, rfl⟩ := nI_of h0
    by_cases h4 : j < 4
    · exact Or.inl ⟨j, h4, rfl⟩
    · exact Or.inr ⟨Or.inr (nI_le (a := 4) (by omega) hj), fun q => q.2 (nI_lt (a := 3) (by omega) hj)⟩
theorem pu_in3 {k : Nat} (hk : k < 4) : mo_in (nI k) 0 3 := ⟨nI_pos (by omega), nI_nlt (b := k) (a := 3) (by omega) (by omega)⟩
theorem pu_v4 {k : Nat} (hk : k < 4) : vp_in (nI k) 4 := vp_in_nI hk (by omega)
theorem pu_cl {a : Nat} (h : a < 2 ^ 31) : (nI a).toNatClampNeg = a := nI_clamp h
theorem pu_6k (k : Nat) : (600 : Int32) * nI k = nI (600 * k) := by rw [pu_600, pk_mul]
theorem pm_b1 {α : Type} {A B : Option α} : (if (1 : Int32) = 0 then A else B) = B := if_neg (by decide)
theorem pm_there {M : mm_M} {p : Int32} : (mo_in p 0 3 → fX7_isThere M p = some (1, mm_th M 0)) ∧ (¬ mo_in p 0 3 → fX7_isThere M p = some (0, mm_th M 1)) :=
  ⟨fun h => by unfold fX7_isThere; rw [if_pos h], fun h => by unfold fX7_isThere; rw [if_neg h]⟩
section PmRead
variable {M : mm_M} {k n m : Nat} {V : Nat → Int32} {g : Nat → Nat} {p N : Nat → Int32} {th : Int32}
theorem pm_count (hk : k < 4) (h : pm_R M k n m V g p N th) : fX7_count M (nI k) = some (nI n, mm_th M 0) := by
  unfold fX7_count
  rw [pm_there.1 (pu_in3 hk)]
  simp only [Option.bind_some]
  (try rw [pm_b1])
  rw [qm_gd_of (pu_v4 hk), pu_cl (by omega)]
  show some (M.1 1 k, _) = _
  rw [h.1.2.1]
theorem pm_bound (hk : k < 4) (h : pm_R M k n m V g p N th) : fX7_bound M (nI k) = some (th, mm_th M 0) := by
  unfold fX7_bound
  rw [pm_there.1 (pu_in3 hk)]
  simp only [Option.bind_some]
  (try rw [pm_b1])
  rw [qm_gd_of (pu_v4 hk), pu_cl (by omega)]
  show some (M.1 0 k, _) = _
  rw [h.1.1]
theorem pm_marks (hk : k < 4) (h : pm_R M k n m V g p N th) : fX7_marks M (nI k) = some (nI m, mm_th M 0) := by
  unfold fX7_marks
  rw [pm_there.1 (pu_in3 hk)]
  simp only [Option.bind_some]
  (try rw [pm_b1])
  rw [qm_gd_of (pu_v4 hk), pu_cl (by omega)]
  show some (M.1 2 k, _) = _
  rw [h.1.2.2]
theorem pm_allowed (hk : k < 4) (h : pm_R M k n m V g p N th) : fX7_allowed M (nI k) = some (((2 * th) * nI n) / 1000) := by
  unfold fX7_allowed
  rw [qm_gd_of (pu_v4 hk), qm_gd_of (pu_v4 hk), pu_cl (by omega), h.1.1, h.1.2.1]
theorem pm_allowance (hk : k < 4) (h : pm_R M k n m V g p N th) : fX7_allowance M (nI k) = some (((2 * th) * nI n) / 1000, mm_th M 0) := by
  unfold fX7_allowance
  rw [pm_there.1 (pu_in3 hk)]
  simp only [Option.bind_some]
  (try rw [pm_b1])
  rw [pm_allowed hk h.th]
  rfl
/-- a mark's place, in range or not -/
theorem pu_mk (hm : m ≤ 600) (q : Int32) : (∃ j, j < m ∧ q = nI j ∧ mo_in q 0 (nI m - 1)) ∨ ((q < 0 ∨ nI m ≤ q) ∧ ¬ mo_in q 0 (nI m - 1)) := by
  by_cases h0 : q < 0
  · exact Or.inr ⟨Or.inl h0, fun z => z.1 h0⟩
  · obtain ⟨j, hj, rfl⟩ := nI_of h0
    by_cases hm0 : m = 0
    · subst hm0
      refine Or.inr ⟨Or.inr (nI_le (Nat.zero_le _) hj), fun z => z.2 ?_⟩
      exact pu_lt_le (pu_m1neg rfl) (nI_pos' hj)
    · rw [pu_m1is (by omega)]
      by_cases h : j < m
      · exact Or.inl ⟨j, h, rfl, h0, nI_nlt (by omega) (by omega)⟩
      · exact Or.inr ⟨Or.inr (nI_le (by omega) hj), fun z => z.2 (nI_lt (by omega) hj)⟩
theorem pm_isMark (hk : k < 4) (h : pm_R M k n m V g p N th) (q : Int32) : (mo_in q 0 (nI m - 1) → fX7_isMark M (nI k) q = some (1, mm_th M 0)) ∧ (¬ mo_in q 0 (nI m - 1) → fX7_isMark M (nI k) q = some (0, mm_th M 1)) := by
  unfold fX7_isMark
  rw [if_pos (pu_in3 hk), qm_gd_of (pu_v4 hk), pu_cl (by omega), h.1.2.2]
  exact ⟨fun c => if_pos c, fun c => if_neg c⟩
theorem pm_value (hk : k < 4) (h : pm_R M k n m V g p N th) (hm : m ≤ 600) {j : Nat} (hj : j < m) (hin : mo_in (nI j) 0 (nI m - 1)) : fX7_value M (nI k) (nI j) = some (V j, mm_th M 0) ∧ fX7_lowestRank M (nI k) (nI j) = some (nI (pu_ns g (j + 1)), mm_th M 0) ∧ fX7_highestRank M (nI k) (nI j) = some (nI (pu_ns g (j + 1)) + p j, mm_th M 0) := by
  unfold fX7_value fX7_lowestRank fX7_highestRank
  rw [(pm_isMark hk h _).1 hin]
  refine ⟨?_, ?_, ?_⟩
  · simp only [Option.bind_some]
    (try rw [pm_b1])
    rw [pu_6k, nI_add, qm_gd_of (vp_in_nI (by omega) (by omega)), pu_cl (by omega)]
    show some (M.1 4 _, _) = _
    rw [h.2.2.1 j hj]
  · simp only [Option.bind_some]
    (try rw [pm_b1])
    rw [pu_6k, nI_add, qm_gd_of (vp_in_nI (by omega) (by omega)), pu_cl (by omega)]
    show some (M.1 5 _, _) = _
    rw [h.2.2.2.1 j hj]
  · simp only [Option.bind_some]
    (try rw [pm_b1])
    rw [pu_6k, nI_add, qm_gd_of (vp_in_nI (by omega) (by omega)), pu_cl (by omega)]
    show some (M.1 6 _, _) = _
    rw [h.2.2.2.2 j hj]
/-- Int32 sums, as they are met here -/
theorem pu_w0 (x : Int32) : x - 0 = x := by rw [Int32.sub_zero]
theorem pu_wj (a b : Nat) (x : Int32) : nI (a + b) + x - nI a = nI b + x := by
  rw [← nI_add, Int32.add_assoc, i3_1]
theorem pm_wid_L (hk : k < 4) (h : pm_R M k n m V g p N th) (hm : m ≤ 600) : ∀ (fuel a : Nat), a ≤ m → m < a + fuel → fX7_widest_L18 (nI k) fuel (pu_wid g p a) (nI (600 * k + a)) M = some (pu_wid g p m) := by
  intro fuel
  induction fuel with
  | zero => intro a h1 h2; omega
  | succ fuel ih =>
    intro a h1 h2
    rw [fX7_widest_L18, qm_gd_of (pu_v4 hk), pu_cl (by omega), h.1.2.2, pu_6k, nI_add]
    by_cases c : m ≤ a
    · rw [if_pos (nI_le (by omega) (by omega)), show a = m by omega]
    · rw [if_neg (nI_ge (by omega) (by omega)), qm_gd_of (vp_in_nI (by omega) (by omega)), pu_cl (by omega), h.2.2.2.2 a (by omega), nI_1]
      have fin : ∀ w : Int32, w = nI (g a) + p a → (if w ≤ pu_wid g p a then fX7_widest_L18 (nI k) fuel (pu_wid g p a) (nI (600 * k + a + 1)) M else fX7_widest_L18 (nI k) fuel w (nI (600 * k + a + 1)) M) = some (pu_wid g p m) := by
        intro w hw
        have e : pu_wid g p (a + 1) = if pu_wid g p a < nI (g a) + p a then nI (g a) + p a else pu_wid g p a := rfl
        have := ih (a + 1) (by omega) (by omega)
        rw [e] at this
        subst hw
        by_cases c2 : nI (g a) + p a ≤ pu_wid g p a
        · rw [if_pos c2]
          rw [if_neg (pu_not_lt.mpr c2)] at this
          exact this
        · rw [if_neg c2]
          rw [if_pos (pu_not_le.mp c2)] at this
          exact this
      by_cases a0 : a = 0
      · subst a0
        rw [if_pos (show nI (600 * k + 0) = nI (600 * k) from rfl)]
        exact fin _ (by rw [pu_w0]; show nI (0 + g 0) + p 0 = _; rw [Nat.zero_add])
      · rw [if_neg (fun q => by rw [nI_eq (by omega) (by omega)] at q; omega), pu_1, pk_sub (by omega), show 600 * k + a - 1 = 600 * k + (a - 1) by omega, qm_gd_of (vp_in_nI (by omega) (by omega)), pu_cl (by omega), h.2.2.2.1 (a - 1) (by omega), show a - 1 + 1 = a by omega]
        exact fin _ (by show nI (pu_ns g a + g a) + p a - nI (pu_ns g a) = _; rw [pu_wj])
theorem pm_widest (hk : k < 4) (h : pm_R M k n m V g p N th) (hm : m ≤ 600) : fX7_widest M (nI k) = some (pu_wid g p m, mm_th M 0) := by
  unfold fX7_widest
  rw [pm_there.1 (pu_in3 hk)]
  simp only [Option.bind_some]
  (try rw [pm_b1])
  rw [pu_6k, show (0 : Int32) = pu_wid g p 0 from rfl, show 600 * k = 600 * k + 0 from rfl, pm_wid_L hk h.th hm qm_F 0 (by omega) (by rw [qm_F_big]; omega)]
  rfl
theorem pm_offAt (hk : k < 4) (h : pm_R M k n m V g p N th) (hm : m ≤ 600) (r : Int32) {j : Nat} (hj : j < m) : fX7_offAt M (nI (600 * k + j)) r = some (pu_off r g p j) := by
  unfold fX7_offAt pu_off
  rw [qm_gd_of (vp_in_nI (by omega) (by omega)), qm_gd_of (vp_in_nI (by omega) (by omega)), pu_cl (by omega), h.2.2.2.1 j hj, h.2.2.2.2 j hj]
  by_cases c : r - nI (pu_ns g (j + 1)) < nI (pu_ns g (j + 1)) + p j - r
  · rw [if_pos (pu_lt_le' c), if_pos c]
  · rw [if_neg c]
    by_cases c2 : r - nI (pu_ns g (j + 1)) ≤ nI (pu_ns g (j + 1)) + p j - r
    · rw [if_pos c2, pu_antisymm c2 (pu_not_lt.mp c)]
    · rw [if_neg c2]
theorem pm_ans_L (hk : k < 4) (h : pm_R M k n m V g p N th) (hm : m ≤ 600) (r : Int32) : ∀ (fuel a : Nat), 1 ≤ a → a ≤ m → m < a + fuel → fX7_answer_L11 (nI k) r fuel (nI (600 * k + pu_best r g p a)) (nI (600 * k + a)) M = some (nI (600 * k + pu_best r g p m)) := by
  intro fuel
  induction fuel with
  | zero => intro a h0 h1 h2; omega
  | succ fuel ih =>
    intro a h0 h1 h2
    rw [fX7_answer_L11, qm_gd_of (pu_v4 hk), pu_cl (by omega), h.1.2.2, pu_6k, nI_add]
    by_cases c : m ≤ a
    · rw [if_pos (nI_le (by omega) (by omega)), show a = m by omega]
    · have hb := pu_best_lt r g p a (by omega)
      rw [if_neg (nI_ge (by omega) (by omega)), pm_offAt hk h hm r (by omega), pm_offAt hk h hm r (by omega)]
      simp only [Option.bind_some]
      rw [nI_1]
      have e : pu_best r g p (a + 1) = if pu_off r g p a < pu_off r g p (pu_best r g p a) then a else pu_best r g p a := rfl
      have := ih (a + 1) (by omega) (by omega) (by omega)
      rw [e] at this
      by_cases c2 : pu_off r g p (pu_best r g p a) ≤ pu_off r g p a
      · rw [if_pos c2]
        rw [if_neg (pu_not_lt.mpr c2)] at this
        exact this
      · rw [if_neg c2]
        rw [if_pos (pu_not_le.mp c2)] at this
        exact this
theorem pm_answer (hk : k < 4) (h : pm_R M k n m V g p N th) (hm : m ≤ 600) (h0 : 0 < m) (r : Int32) : fX7_answer M (nI k) r = some (nI (600 * k + pu_best r g p m)) := by
  unfold fX7_answer
  rw [pu_6k, nI_1]
  have hb : pu_best r g p 1 = 0 := by
    have := pu_best_lt r g p 1 (by omega)
    omega
  have := pm_ans_L hk h hm r qm_F 1 (by omega) (by omega) (by rw [qm_F_big]; omega)
  rw [hb] at this
  rw [show 600 * k = 600 * k + 0 from rfl, this]
  rfl
theorem pm_upTo_L (hk : k < 4) (h : pm_R M k n m V g p N th) (hn : n ≤ 600) (x : Int32) : ∀ (fuel a : Nat), a ≤ n → n < a + fuel → fX7_upTo_L5 (nI k) x fuel (nI (pu_cnt N x a)) (nI a) M = some (nI (pu_cnt N x n)) := by
  intro fuel
  induction fuel with
  | zero => intro a h1 h2; omega
  | succ fuel ih =>
    intro a h1 h2
    rw [fX7_upTo_L5, qm_gd_of (pu_v4 hk), pu_cl (by omega), h.1.2.1]
    by_cases c : n ≤ a
    · rw [if_pos (nI_le c (by omega)), show a = n by omega]
    · rw [if_neg (nI_ge (by omega) (by omega)), pu_6k, nI_add, qm_gd_of (vp_in_nI (by omega) (by omega)), pu_cl (by omega), h.2.1 a (by omega), nI_1, nI_1]
      have := ih (a + 1) (by omega) (by omega)
      rw [pu_cnt] at this
      by_cases c2 : x < N a
      · rw [if_pos c2, Int32.add_zero]
        rw [if_neg (pu_not_le.mpr c2)] at this
        exact this
      · rw [if_neg c2]
        rw [if_pos (pu_not_lt.mp c2)] at this
        exact this
theorem pm_upTo (hk : k < 4) (h : pm_R M k n m V g p N th) (hn : n ≤ 600) (x : Int32) : fX7_upTo M (nI k) x = some (nI (pu_cnt N x n)) := by
  unfold fX7_upTo
  rw [show (0 : Int32) = nI (pu_cnt N x 0) from rfl]
  rw [show fX7_upTo_L5 (nI k) x qm_F (nI (pu_cnt N x 0)) (nI (pu_cnt N x 0)) M = _ from pm_upTo_L hk h hn x qm_F 0 (by omega) (by rw [qm_F_big]; omega)]
  rfl
/-- the last lowest rank of those not above x -/
theorem pm_least_L (hk : k < 4) (h : pm_R M k n m V g p N th) (hm : m ≤ 600) (hu : pu_up V m) (x : Int32) : ∀ (fuel a : Nat), a ≤ m → m < a + fuel → fX7_atLeastUpTo_L19 (nI k) x fuel (nI (pu_ns g (pu_cnt V x a))) (nI (600 * k + a)) M = some (nI (pu_ns g (pu_cnt V x m))) := by
  intro fuel
  induction fuel with
  | zero => intro a h1 h2; omega
  | succ fuel ih =>
    intro a h1 h2
    rw [fX7_atLeastUpTo_L19, qm_gd_of (pu_v4 hk), pu_cl (by omega), h.1.2.2, pu_6k, nI_add]
    by_cases c : m ≤ a
    · rw [if_pos (nI_le (by omega) (by omega)), show a = m by omega]
    · rw [if_neg (nI_ge (by omega) (by omega)), qm_gd_of (vp_in_nI (by omega) (by omega)), qm_gd_of (vp_in_nI (by omega) (by omega)), pu_cl (by omega), h.2.2.1 a (by omega), h.2.2.2.1 a (by omega), nI_1]
      have := ih (a + 1) (by omega) (by omega)
      rw [pu_cnt] at this
      by_cases c2 : x < V a
      · rw [if_pos c2]
        rw [if_neg (pu_not_le.mpr c2)] at this
        exact this
      · rw [if_neg c2]
        rw [if_pos (pu_not_lt.mp c2), pu_cnt_all (fun j hj => pu_le_trans (hu j a (by omega) (by omega)) (pu_not_lt.mp c2))] at this
        exact this
theorem pm_atLeast (hk : k < 4) (h : pm_R M k n m V g p N th) (hm : m ≤ 600) (hu : pu_up V m) (x : Int32) : fX7_atLeastUpTo M (nI k) x = some (nI (pu_ns g (pu_cnt V x m)), mm_th M 0) := by
  unfold fX7_atLeastUpTo
  rw [pm_there.1 (pu_in3 hk)]
  simp only [Option.bind_some]
  (try rw [pm_b1])
  rw [pu_6k, show (0 : Int32) = nI (pu_ns g (pu_cnt V x 0)) from rfl, show 600 * k = 600 * k + 0 from rfl, pm_least_L hk h.th hm hu x qm_F 0 (by omega) (by rw [qm_F_big]; omega)]
  rfl
/-- from the back: the first highest rank, less 1, of those above x -/
theorem pm_most_L (hk : k < 4) (h : pm_R M k n m V g p N th) (hm : m ≤ 600) (hu : pu_up V m) (x : Int32) : ∀ (a fuel : Nat) (v : Int32), a ≤ m → a < fuel → v = (if pu_cnt V x m < m ∧ a ≤ pu_cnt V x m then v else v) →
    (∀ j, a ≤ j → j < m → pu_cnt V x m < a ∨ (v = nI (pu_ns g (pu_cnt V x m + 1)) + p (pu_cnt V x m) - 1 ∨ True)) →
    fX7_atMostUpTo_L33 (nI k) x fuel v (nI (600 * k + a) - 1) M = some (if pu_cnt V x m < a then nI (pu_ns g (pu_cnt V x m + 1)) + p (pu_cnt V x m) - 1 else v) := by
  obtain ⟨cl, cg⟩ := pu_cnt_up (x := x) hu
  intro a
  induction a with
  | zero =>
    intro fuel v h1 h2 _ _
    obtain ⟨fu, rfl⟩ : ∃ q, fuel = q + 1 := ⟨fuel - 1, by omega⟩
    rw [fX7_atMostUpTo_L33, pu_6k, if_neg (show ¬ pu_cnt V x m < 0 by omega), if_pos]
    show nI (600 * k + 0) - 1 < nI (600 * k)
    by_cases k0 : k = 0
    · subst k0; decide
    · rw [pu_m1is (by omega)]; exact nI_lt (by omega) (by omega)
  | succ a ih =>
    intro fuel v h1 h2 _ _
    obtain ⟨fu, rfl⟩ : ∃ q, fuel = q + 1 := ⟨fuel - 1, by omega⟩
    rw [fX7_atMostUpTo_L33, pu_6k, pu_m1is (by omega), show 600 * k + (a + 1) - 1 = 600 * k + a by omega, if_neg (nI_nlt (by omega) (by omega)), qm_gd_of (vp_in_nI (by omega) (by omega)), qm_gd_of (vp_in_nI (by omega) (by omega)), pu_cl (by omega), h.2.2.1 a (by omega), h.2.2.2.2 a (by omega), pu_sub1]
    by_cases c : V a ≤ x
    · rw [if_pos c, ih fu v (by omega) (by omega) (by simp) (fun _ _ _ => Or.inr (Or.inr trivial))]
      have : ¬ pu_cnt V x m < a + 1 := fun q => by
        have := cg a (by omega) (by omega)
        exact pu_not_le.mpr this c
      rw [if_neg this, if_neg (by omega)]
    · rw [if_neg c, ih fu _ (by omega) (by omega) (by simp) (fun _ _ _ => Or.inr (Or.inr trivial))]
      have : pu_cnt V x m ≤ a := by
        rcases Nat.lt_or_ge a (pu_cnt V x m) with q | q
        · exact absurd (cl a q) c
        · exact q
      rw [if_pos (show pu_cnt V x m < a + 1 by omega)]
      by_cases e : pu_cnt V x m < a
      · rw [if_pos e]
      · rw [if_neg e, show pu_cnt V x m = a by omega]
theorem pm_atMost (hk : k < 4) (h : pm_R M k n m V g p N th) (hm : m ≤ 600) (hu : pu_up V m) (x : Int32) : fX7_atMostUpTo M (nI k) x = some (if pu_cnt V x m < m then nI (pu_ns g (pu_cnt V x m + 1)) + p (pu_cnt V x m) - 1 else nI n, mm_th M 0) := by
  unfold fX7_atMostUpTo
  rw [pm_there.1 (pu_in3 hk)]
  simp only [Option.bind_some]
  (try rw [pm_b1])
  rw [qm_gd_of (pu_v4 hk), qm_gd_of (pu_v4 hk), pu_cl (by omega)]
  show Option.bind (fX7_atMostUpTo_L33 (nI k) x qm_F (M.1 1 k) (600 * nI k + M.1 2 k - 1) (mm_th M 0)) _ = _
  rw [h.1.2.1, h.1.2.2, pu_6k, nI_add, pm_most_L hk h.th hm hu x m qm_F (nI n) (Nat.le_refl _) (by rw [qm_F_big]; omega) (by simp) (fun _ _ _ => Or.inr (Or.inr trivial))]
  rfl
theorem pm_reallyUpTo (hk : k < 4) (h : pm_R M k n m V g p N th) (hn : n ≤ 600) (x : Int32) : fX7_reallyUpTo M (nI k) x = some (nI (pu_cnt N x n), mm_th M 0) := by
  unfold fX7_reallyUpTo
  rw [pm_there.1 (pu_in3 hk)]
  simp only [Option.bind_some]
  (try rw [pm_b1])
  rw [pm_upTo hk h.th hn]
  rfl
/-- what a question about a share needs -/
theorem pm_canAsk (hk : k < 4) (h : pm_R M k n m V g p N th) (hn : n ≤ 600) (q : Int32) : (¬ mo_in q 0 1000 → fX7_canAsk M (nI k) q = some (0, mm_th M 2)) ∧ (mo_in q 0 1000 → n = 0 → fX7_canAsk M (nI k) q = some (0, mm_th M 3)) ∧ (mo_in q 0 1000 → 0 < n → fX7_canAsk M (nI k) q = some (1, mm_th M 0)) := by
  unfold fX7_canAsk
  rw [if_pos (pu_in3 hk), qm_gd_of (pu_v4 hk), pu_cl (by omega), h.1.2.1]
  refine ⟨fun c => if_neg c, fun c c0 => ?_, fun c c0 => ?_⟩
  · rw [if_pos c, c0, if_pos (show nI 0 = 0 from rfl)]
  · rw [if_pos c, if_neg (nI_ne0 c0 (by omega))]
/-- the rank that is asked for -/
def pu_rank (n : Nat) (q : Int32) : Int32 := if (1 : Int32) ≤ (q * nI n + 999) / 1000 then (q * nI n + 999) / 1000 else 1
theorem pm_rankOf (hk : k < 4) (h : pm_R M k n m V g p N th) (q : Int32) : fX7_rankOf M (nI k) q = some (pu_rank n q) := by
  unfold fX7_rankOf pu_rank
  rw [qm_gd_of (pu_v4 hk), pu_cl (by omega), h.1.2.1]
  split <;> rfl
theorem pm_ask (hk : k < 4) (h : pm_R M k n m V g p N th) (hn : n ≤ 600) (hm : m ≤ 600) (h0 : 0 < n) (hm0 : 0 < m) {q : Int32} (hq : mo_in q 0 1000) : fX7_ask M (nI k) q = some (V (pu_best (pu_rank n q) g p m), mm_th M 0) ∧ fX7_off M (nI k) q = some (pu_off (pu_rank n q) g p (pu_best (pu_rank n q) g p m), mm_th M 0) := by
  have hb := pu_best_lt (pu_rank n q) g p m hm0
  unfold fX7_ask fX7_off
  rw [(pm_canAsk hk h hn q).2.2 hq h0]
  refine ⟨?_, ?_⟩
  · simp only [Option.bind_some]
    (try rw [pm_b1])
    rw [pm_rankOf hk h.th]
    simp only [Option.bind_some]
    rw [pm_answer hk h.th hm hm0]
    simp only [Option.bind_some]
    rw [qm_gd_of (vp_in_nI (by omega) (by omega)), pu_cl (by omega)]
    show some (M.1 4 _, _) = _
    rw [h.2.2.1 _ hb]
  · simp only [Option.bind_some]
    (try rw [pm_b1])
    rw [pm_rankOf hk h.th]
    simp only [Option.bind_some]
    rw [pm_answer hk h.th hm hm0]
    simp only [Option.bind_some]
    rw [pm_offAt hk h.th hm _ hb]
    rfl
/-- by how much the answer really is off -/
def pu_rof (N : Nat → Int32) (n : Nat) (r v : Int32) : Int32 := if nI (pu_cnt N (v - 1) n) + 1 ≤ r then (if r ≤ nI (pu_cnt N v n) then 0 else r - nI (pu_cnt N v n)) else nI (pu_cnt N (v - 1) n) + 1 - r
theorem pm_reallyOff (hk : k < 4) (h : pm_R M k n m V g p N th) (hn : n ≤ 600) (hm : m ≤ 600) (h0 : 0 < n) (hm0 : 0 < m) {q : Int32} (hq : mo_in q 0 1000) : fX7_reallyOff M (nI k) q = some (pu_rof N n (pu_rank n q) (V (pu_best (pu_rank n q) g p m)), mm_th M 0) := by
  have hb := pu_best_lt (pu_rank n q) g p m hm0
  unfold fX7_reallyOff
  rw [(pm_canAsk hk h hn q).2.2 hq h0]
  simp only [Option.bind_some]
  (try rw [pm_b1])
  rw [pm_rankOf hk h.th]
  simp only [Option.bind_some]
  rw [pm_answer hk h.th hm hm0]
  simp only [Option.bind_some]
  rw [qm_gd_of (vp_in_nI (by omega) (by omega)), pu_cl (by omega)]
  show Option.bind (fX7_upTo (mm_th M 0) (nI k) (M.1 4 _)) (fun z_9 => Option.bind (fX7_upTo (mm_th M 0) (nI k) (M.1 4 _ - 1)) _) = _
  rw [h.2.2.1 _ hb, pm_upTo hk h.th hn]
  simp only [Option.bind_some]
  rw [pm_upTo hk h.th hn]
  simp only [Option.bind_some]
  unfold pu_rof
  by_cases c : nI (pu_cnt N (V (pu_best (pu_rank n q) g p m) - 1) n) + 1 ≤ pu_rank n q
  · rw [if_pos c, if_pos c]
    split <;> rfl
  · rw [if_neg c, if_neg c]
theorem pm_half (hk : k < 4) (h : pm_R M k n m V g p N th) (hn : n ≤ 600) : (n = 0 → fX7_half M (nI k) = some (0, mm_th M 2)) ∧ (0 < n → fX7_half M (nI k) = some (N ((n + 1) / 2 - 1), mm_th M 0)) := by
  unfold fX7_half
  rw [if_pos (pu_in3 hk), qm_gd_of (pu_v4 hk), qm_gd_of (pu_v4 hk), pu_cl (by omega), h.1.2.1]
  refine ⟨fun c => ?_, fun c => ?_⟩
  · rw [c, if_pos (show nI 0 = 0 from rfl)]
  · rw [if_neg (nI_ne0 c (by omega))]
    show qm_gd (vp_in (600 * nI k + (M.1 1 k + 1) / 2 - 1) 2400) (some (M.1 3 (600 * nI k + (M.1 1 k + 1) / 2 - 1).toNatClampNeg, _)) = _
    rw [h.1.2.1, nI_1, pu_2, pk_div (by omega) (by omega) (by omega), pu_6k, nI_add, pu_m1is (by omega), qm_gd_of (vp_in_nI (by omega) (by omega)), pu_cl (by omega), show 600 * k + (n + 1) / 2 - 1 = 600 * k + ((n + 1) / 2 - 1) by omega, h.2.1 _ (by omega)]
end PmRead
