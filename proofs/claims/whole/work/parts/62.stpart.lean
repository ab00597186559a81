def st_d (ts : List String) (M : mm_M) (x : Option (UInt64 ⊕ String)) (y : Option (UInt64 × mm_M)) : Prop :=
  ∃ z b c, x = some z ∧ y = some (b, mm_th M c) ∧ ((∃ v, z = .inl v ∧ c = 0 ∧ b = v) ∨ ∃ (i : Nat) (E : String), ts[i]? = some E ∧ z = .inr E ∧ c = nI (i + 1))
theorem st_part {S : qm_S} {M : mm_M} (h : st_R S M) (p : Int32) : st_d st_1 M (fX6_part S p) (fX7_part M p) := by
  rcases pu_arg p with ⟨k, hk, rfl⟩ | ⟨ho, hn⟩
  · obtain ⟨n, m, V, g, P, N, th, hI, hC, hR⟩ := h k hk
    have hn6 := hI.1
    have hm6 : m ≤ 600 := by have := hI.2.1; omega
    have one : ∀ v, fX7_part M (nI k) = some (v, mm_th M 0) → fX6_part S (nI k) = some (.inl v) → st_d st_1 M (fX6_part S (nI k)) (fX7_part M (nI k)) := fun v hy hx => ⟨_, _, _, hx, hy, Or.inl ⟨v, rfl, rfl, rfl⟩⟩
    by_cases h0 : 0 < n
    · refine one (FP.ddiv (FP.i2d (nI m)) (FP.i2d (nI n))) ?_ ?_
      · unfold fX7_part
        rw [pm_there.1 (pu_in3 hk)]
        simp only [Option.bind_some]
        (try rw [pm_b1])
        rw [qm_gd_of (pu_v4 hk), pu_cl (show k < 2 ^ 31 by omega), hR.th.1.2.1, if_neg (show ¬ nI n ≤ (0 : Int32) from nI_ge (a := 0) (b := n) h0 (by omega)), qm_gd_of (pu_v4 hk), qm_gd_of (pu_v4 hk), hR.th.1.2.2, qm_gd_of (pd_ok hm6 hn6 h0)]
      · unfold fX6_part
        rw [qc_in hk]
        simp only [Option.bind_some, Sum.elim_inl]
        rw [qm_gd_of hk, pc_tot hC, if_neg (show ¬ nI n ≤ (0 : Int32) from nI_ge (a := 0) (b := n) h0 (by omega)), hC.1.1.1, qm_gd_of (pd_ok hm6 hn6 h0)]
    · have e : n = 0 := by omega
      subst e
      refine one FP.dconst0 ?_ ?_
      · unfold fX7_part
        rw [pm_there.1 (pu_in3 hk)]
        simp only [Option.bind_some]
        (try rw [pm_b1])
        rw [qm_gd_of (pu_v4 hk), pu_cl (show k < 2 ^ 31 by omega), hR.th.1.2.1, if_pos (show nI 0 ≤ (0 : Int32) from pu_le_refl 0)]
      · unfold fX6_part
        rw [qc_in hk]
        simp only [Option.bind_some, Sum.elim_inl]
        rw [qm_gd_of hk, pc_tot hC, if_pos (show nI 0 ≤ (0 : Int32) from pu_le_refl 0)]
  · refine ⟨.inr "java/lang/IndexOutOfBoundsException", FP.dconst0, 1, ?_, ?_, Or.inr ⟨0, _, rfl, rfl, rfl⟩⟩
    · unfold fX6_part
      rw [qc_out ho]
      rfl
    · unfold fX7_part
      rw [pm_there.2 hn]
      rfl
