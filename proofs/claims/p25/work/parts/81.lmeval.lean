/-! ===== areMarksSo, over a counter whose marks are so ===== -/
section PlMarks
variable {S : qm_S} {k n m : Nat} {V : Nat → Int32} {g P : Nat → Nat} {N : Nat → Int32} {b : Nat}
theorem pl_x0 (x : Int32) : x - 0 = x := by grind
theorem pl_marks_L (hk : k < 4) (h : pv_K S k n m V g P N b) : ∀ (fuel a : Nat), a ≤ m → m < a + fuel → fL_areMarksSo_L67 (nI k) (nI m) (nI n) fuel (nI (pv_w g P a)) (nI a) S = some (nI (pv_w g P m)) := by
  have hI := h.1
  have hJ := h.2.2
  have hn6 := hI.1
  have hmn := hI.2.1
  intro fuel
  induction fuel with
  | zero => intro a h1 h2; omega
  | succ fuel ih =>
    intro a h1 h2
    rw [fL_areMarksSo_L67]
    by_cases c : m ≤ a
    · rw [if_pos (nI_le c (by omega)), show a = m by omega]
    · have ha : a < m := by omega
      have r := hJ.2.2.1 a ha
      have r1 := pu_cnt_le N (V a) n
      have gp := hI.2.2.2.1 a ha
      have ens : pu_ns g (a + 1) = pu_ns g a + g a := rfl
      have ew : pv_w g P (a + 1) = if pv_w g P a < g a + P a then g a + P a else pv_w g P a := rfl
      have bw : pv_w g P a ≤ n := (pv_w_is (g := g) (P := P) (w := n) (a := a) (fun j hj => pv_wle hJ (show j < m by omega)) (by omega)).2
      have em : nI m - 1 = nI (m - 1) := by rw [pu_1, pk_sub (by omega)]
      have tail : (if nI (pu_ns g (a + 1) + P a) - nI (pu_ns g a) ≤ nI (pv_w g P a) then fL_areMarksSo_L67 (nI k) (nI m) (nI n) fuel (nI (pv_w g P a)) (nI a + (1 : Int32)) S else fL_areMarksSo_L67 (nI k) (nI m) (nI n) fuel (nI (pu_ns g (a + 1) + P a) - nI (pu_ns g a)) (nI a + (1 : Int32)) S) = some (nI (pv_w g P m)) := by
        rw [pk_sub (by omega), show pu_ns g (a + 1) + P a - pu_ns g a = g a + P a by omega, nI_1]
        have := ih (a + 1) (by omega) (by omega)
        rw [ew] at this
        by_cases d : pv_w g P a < g a + P a
        · rw [if_neg (nI_ge d (by omega))]
          rw [if_pos d] at this
          exact this
        · rw [if_pos (nI_le (by omega) (by omega))]
          rw [if_neg d] at this
          exact this
      have last : ¬ a < m - 1 → pu_ns g (a + 1) = n ∧ P a = 0 ∧ pu_cnt N (V a) n = n := fun q => by
        have e : a = m - 1 := by omega
        have f := hJ.2.2.2.1 (by omega)
        have e2 : a + 1 = m := by omega
        refine ⟨by rw [e2]; exact hI.2.2.2.2.1, by rw [e]; exact f.1.2.2, pu_cnt_all (fun j hj => by rw [e]; exact (f.2 j hj).2)⟩
      rw [if_neg (nI_ge ha (by omega)), eq_value hk h ha]
      simp only [Option.bind_some]
      rw [eq_low hk h ha]
      simp only [Option.bind_some]
      rw [eq_high hk h ha]
      simp only [Option.bind_some]
      by_cases a0 : a = 0
      · subst a0
        have f := hJ.2.2.2.1 ha
        have e1 : pu_ns g (0 + 1) = 1 := by rw [ens, f.1.1]; rfl
        have e2 : P 0 = 0 := f.1.2.1
        have e3 : pu_cnt N (V 0 - 1) n = 0 := by omega
        rw [if_pos nI_0, if_neg (show ¬ nI (pu_ns g (0 + 1)) ≤ (0 : Int32) from nI_ge (a := 0) (by omega) (by omega)), if_neg (nI_nlt (Nat.le_add_right _ _) (by omega)), eq_really hk h]
        simp only [Option.bind_some]
        rw [if_neg (nI_nlt r.1 (by omega)), eq_really hk h]
        simp only [Option.bind_some]
        rw [if_neg (nI_ge r.2.1 (by omega)), if_neg (show ¬ (0 : Int32) < nI 0 from nI_nlt (a := 0) (b := 0) (by omega) (by omega)), if_pos (show nI (pu_ns g (0 + 1)) = (1 : Int32) by rw [e1]; rfl), if_pos (show nI (pu_ns g (0 + 1) + P 0) = (1 : Int32) by rw [e1, e2]; rfl), if_pos (show nI (pu_cnt N (V 0 - 1) n) = (0 : Int32) by rw [e3]; exact nI_0), em]
        by_cases d : 0 < m - 1
        · rw [if_pos (nI_lt d (by omega))]
          exact tail
        · obtain ⟨l1, l2, l3⟩ := last d
          rw [if_neg (nI_nlt (by omega) (by omega)), if_pos (show nI (pu_ns g (0 + 1)) = nI n by rw [l1]), if_pos (show nI (pu_ns g (0 + 1) + P 0) = nI n by rw [l1, l2]; rfl), if_pos (show nI (pu_cnt N (V 0) n) = nI n by rw [l3])]
          exact tail
      · have ea : nI a - 1 = nI (a - 1) := by rw [pu_1, pk_sub (by omega)]
        have en : pu_ns g (a - 1 + 1) = pu_ns g a := by rw [show a - 1 + 1 = a by omega]
        have hu := hI.2.2.1 (a - 1) a (by omega) ha
        rw [if_neg (nI_ne0 (by omega) (by omega)), ea, eq_low hk h (show a - 1 < m by omega)]
        simp only [Option.bind_some]
        rw [en, if_neg (nI_ge (show pu_ns g a < pu_ns g (a + 1) by omega) (by omega)), if_neg (nI_nlt (Nat.le_add_right _ _) (by omega)), eq_value hk h (show a - 1 < m by omega)]
        simp only [Option.bind_some]
        rw [if_neg (pu_not_lt.mpr hu), eq_really hk h]
        simp only [Option.bind_some]
        rw [if_neg (nI_nlt r.1 (by omega)), eq_really hk h]
        simp only [Option.bind_some]
        rw [if_neg (nI_ge r.2.1 (by omega)), if_pos (show (0 : Int32) < nI a from nI_lt (a := 0) (by omega) (by omega)), em]
        by_cases d : a < m - 1
        · rw [if_pos (nI_lt d (by omega))]
          exact tail
        · obtain ⟨l1, l2, l3⟩ := last d
          rw [if_neg (nI_nlt (by omega) (by omega)), if_pos (show nI (pu_ns g (a + 1)) = nI n by rw [l1]), if_pos (show nI (pu_ns g (a + 1) + P a) = nI n by rw [l1, l2]; rfl), if_pos (show nI (pu_cnt N (V a) n) = nI n by rw [l3])]
          exact tail
theorem pv_wmax {w : Nat} : ∀ {a : Nat}, (∀ j, j < a → g j + P j ≤ 1 ∨ g j + P j ≤ w) → pv_w g P a ≤ 1 ∨ pv_w g P a ≤ w
  | 0, _ => Or.inl (Nat.zero_le _)
  | a + 1, h => by
    have e := pv_wmax (a := a) (w := w) (fun j q => h j (by omega))
    have := h a (by omega)
    rw [pv_w]
    split
    · exact this
    · exact e
theorem pl_marks (hk : k < 4) (h : pv_K S k n m V g P N b) : fL_areMarksSo S (nI k) = some 1 := by
  have hI := h.1
  have hJ := h.2.2
  have hn6 := hI.1
  have hmn := hI.2.1
  have hm0 := pv_m0 hI
  have loop : fL_areMarksSo_L67 (nI k) (nI m) (nI n) qm_F (0 : Int32) (0 : Int32) S = some (nI (pv_w g P m)) := pl_marks_L hk h qm_F 0 (Nat.zero_le _) (by rw [qm_F_big]; omega)
  have hal := pv_al_small hJ.1.2 hn6
  have bw : pv_w g P m ≤ n := (pv_w_is (g := g) (P := P) (w := n) (a := m) (fun j hj => pv_wle hJ hj) (by omega)).2
  have wm := pv_wmax (a := m) (w := pv_al b n) hJ.2.2.2.2
  have al := pv_al_is hJ.1.2 hn6
  unfold fL_areMarksSo
  rw [eq_marks hk h]
  simp only [Option.bind_some]
  rw [eq_count hk h]
  simp only [Option.bind_some]
  rw [eq_allowance hk h]
  simp only [Option.bind_some]
  rw [eq_bound hk h]
  simp only [Option.bind_some]
  rw [al]
  rw [loop]
  simp only [Option.bind_some]
  rw [eq_widest hk h]
  simp only [Option.bind_some]
  rw [eq_part hk h]
  simp only [Option.bind_some]
  by_cases c : 0 < n
  · have c2 := hm0.mp c
    have k1 : FP.dcmp (FP.ddiv (FP.i2d (nI m)) (FP.i2d (nI n))) FP.dconst0 = some .gt := pf_gt c2 hmn hn6
    have k2 : ¬ (0 : Int32) < Op.cmpValue (FP.dcmp (FP.ddiv (FP.i2d (nI m)) (FP.i2d (nI n))) FP.dconst1) .g := by
      rcases pf_le c2 hmn hn6 with e | e <;> rw [e] <;> decide
    rw [if_neg (nI_ne0 c2 (by omega)), if_neg (nI_ne0 c (by omega))]
    first | rw [if_pos trivial] | rw [if_pos rfl]
    rw [if_pos c, k1]
    rw [show Op.cmpValue (some Ordering.gt) .l = (1 : Int32) from rfl]
    rw [if_neg (show ¬ (1 : Int32) ≤ 0 by decide), if_neg k2]
    by_cases d : pv_al b n ≤ 1
    · rw [if_pos (show nI (pv_al b n) ≤ (1 : Int32) from nI_le (b := 1) d (by omega))]
      first | rw [if_pos trivial] | rw [if_pos rfl]
      rw [if_pos (show nI (pv_w g P m) ≤ (1 : Int32) from nI_le (b := 1) (by omega) (by omega))]
    · rw [if_neg (show ¬ nI (pv_al b n) ≤ (1 : Int32) from nI_ge (b := pv_al b n) (a := 1) (by omega) (by omega))]
      first | rw [if_pos trivial] | rw [if_pos rfl]
      rw [if_pos (nI_le (show pv_w g P m ≤ pv_al b n by omega) (by omega))]
  · have n0 : n = 0 := by omega
    have m0 : m = 0 := by omega
    subst n0
    subst m0
    rw [if_pos nI_0, if_pos nI_0]
    first | rw [if_pos trivial] | rw [if_pos rfl]
    rw [if_neg c, pf_00]
    rw [if_pos (show nI (pv_al b 0) ≤ (1 : Int32) from nI_le (b := 1) (by unfold pv_al; omega) (by omega))]
    first | rw [if_pos trivial] | rw [if_pos rfl]
    rw [if_pos (show nI (pv_w g P 0) ≤ (1 : Int32) from nI_le (b := 1) (Nat.zero_le _) (by omega))]
    first | rw [if_pos trivial] | rw [if_pos rfl]
end PlMarks
