section StPour2
variable {S : qm_S} {M : mm_M}
theorem st_pour (h : st_R S M) (p q : Int32) : st_w st_3 S (fX6_pour S p q) (fX7_pour M p q) := by
  rcases pu_arg p with ⟨o, ho, rfl⟩ | ⟨ho, hn⟩
  · rcases pu_arg q with ⟨k, hk, rfl⟩ | ⟨hq, hnq⟩
    · by_cases hko : k = o
      · subst hko
        refine .e h 1 rfl (b := 0) ?_ ?_
        · unfold fX7_pour
          rw [if_pos (pu_in3 hk), if_pos (pu_in3 hk), if_pos rfl]
          rfl
        · unfold fX6_pour
          rw [qc_in hk]
          simp only [Option.bind_some, Sum.elim_inl]
          rw [qm_gd_of hk, qm_gd_of hk, if_pos trivial]
      · have hne : ¬ nI o = nI k := fun z => by rw [nI_eq (by omega) (by omega)] at z; exact hko z.symm
        obtain ⟨n1, m1, V1, g1, P1, N1, th1, hI1, hC1, hR1⟩ := h k hk
        obtain ⟨n2, m2, V2, g2, P2, N2, th2, hI2, hC2, hR2⟩ := h o ho
        have hn1 := hI1.1
        have hn2 := hI2.1
        by_cases h6 : n1 + n2 ≤ 600
        · obtain ⟨f, hf⟩ : ∃ f, f = pu_mo V1 V2 m1 m2 := ⟨_, rfl⟩
          obtain ⟨M', b1, b2, b3, b4⟩ := pm_pour hk ho hko hR1 hR2 hI1 hI2 h6 hf
          obtain ⟨S', a1, a2, a3⟩ := co_takeAll hk ho hko hC1 hC2 hI1 hI2 h6 hf
          refine .v b1 (S' := S') ?_ b2 (st_R.fr (h.th (v := 0)) hk a3 b4 ⟨_, _, _, _, _, hI1.pour hI2 h6 hf, a2, b3⟩)
          unfold fX6_pour
          rw [qc_in ho]
          simp only [Option.bind_some, Sum.elim_inl]
          rw [qm_gd_of ho, qc_in hk]
          simp only [Option.bind_some, Sum.elim_inl]
          rw [qm_gd_of hk, if_neg hne, pc_tot hC2, qd_r (pc_tot hC1) hn1 hn2, if_pos h6]
          simp only [Option.bind_some, Sum.elim_inl]
          rw [a1]
          simp only [Option.bind_some]
          rw [pc_tot a2]
        · refine .e h 2 rfl (b := 0) ?_ ?_
          · unfold fX7_pour
            rw [if_pos (pu_in3 ho), if_pos (pu_in3 hk), if_neg hne, qm_gd_of (pu_v4 ho), qm_gd_of (pu_v4 hk), pu_cl (show k < 2 ^ 31 by omega), pu_cl (show o < 2 ^ 31 by omega), hR1.1.2.1, hR2.1.2.1, nI_add, if_neg (show ¬ nI (n2 + n1) ≤ (600 : Int32) from nI_ge (b := n2 + n1) (a := 600) (by omega) (by omega))]
            rfl
          · unfold fX6_pour
            rw [qc_in ho]
            simp only [Option.bind_some, Sum.elim_inl]
            rw [qm_gd_of ho, qc_in hk]
            simp only [Option.bind_some, Sum.elim_inl]
            rw [qm_gd_of hk, if_neg hne, pc_tot hC2, qd_r (pc_tot hC1) hn1 hn2, if_neg h6]
            rfl
    · refine .e h 0 rfl (b := 0) ?_ ?_
      · unfold fX7_pour
        rw [if_pos (pu_in3 ho), if_neg hnq]
        rfl
      · unfold fX6_pour
        rw [qc_in ho]
        simp only [Option.bind_some, Sum.elim_inl]
        rw [qm_gd_of ho, qc_out hq]
        rfl
  · refine .e h 0 rfl (b := 0) ?_ ?_
    · unfold fX7_pour
      rw [if_neg hn]
      rfl
    · unfold fX6_pour
      rw [qc_out ho]
      rfl
end StPour2
