/-! ===== the law's loop ends well ===== -/
theorem pl_law {L : Nat} (hL : L ≤ 260) (xs : Nat → Int32) : ∀ (fuel e : Nat) (S : qm_S), pv_R S → e ≤ 50 → 50 < e + fuel → ∃ z, fL_law_L10 L xs fuel (nI e) S = some z := by
  intro fuel
  induction fuel with
  | zero => intro e S _ h1 h2; omega
  | succ fuel ih =>
    intro e S hR h1 h2
    rw [fL_law_L10]
    by_cases c : 50 ≤ e
    · rw [if_pos (show (50 : Int32) ≤ nI e from nI_le (a := 50) c (by omega))]
      exact ⟨S, rfl⟩
    · obtain ⟨v, ev⟩ := pl_cell (S := S) xs hL (e := e) (by omega)
      obtain ⟨w, ew⟩ := pl_cell (S := S) xs hL (e := e + 14) (by omega)
      have fin : ∀ o : Nat, o < 4 → ∃ z, Option.bind (fL_does S (nI o) v w) (fun z_25 => qm_gd (z_25.1 = 1) (Option.bind (fL_low z_25.2 w (1001 : Int32)) (fun z_28 => Option.bind (fL_number z_25.2 v) (fun z_30 => Option.bind (fL_areAnswersSo z_25.2 (nI o) z_28 z_30) (fun z_32 => qm_gd (z_32 = 1) ((if ((nI e) - (nI e) / (5 : Int32) * (5 : Int32)) = (4 : Int32) then Option.bind (fL_areMarksSo z_25.2 (nI o)) (fun z_36 => qm_gd (z_36 = 1) (fL_law_L10 L xs fuel ((nI e) + (1 : Int32)) z_25.2)) else fL_law_L10 L xs fuel ((nI e) + (1 : Int32)) z_25.2))))))) = some z := by
        intro o ho
        obtain ⟨S', a1, a2⟩ := pl_does hR ho v w
        obtain ⟨n, m, V, g, P, N, b, hK⟩ := a2 o ho
        obtain ⟨j, hj, ej⟩ := pl_low (S := S') w (q := 1001) (by omega) (by omega)
        obtain ⟨y, hy, ey⟩ := pl_number (S := S') v
        obtain ⟨z, hz⟩ := ih (e + 1) S' a2 (by omega) (by omega)
        rw [a1]
        simp only [Option.bind_some]
        first | rw [qm_gd_of trivial] | rw [qm_gd_of rfl]
        rw [show (1001 : Int32) = nI 1001 from rfl, ej]
        simp only [Option.bind_some]
        rw [ey]
        simp only [Option.bind_some]
        rw [pl_answers ho hK (by omega)]
        simp only [Option.bind_some]
        first | rw [qm_gd_of trivial] | rw [qm_gd_of rfl]
        rw [pl_marks ho hK]
        simp only [Option.bind_some]
        rw [nI_1, hz]
        refine ⟨z, ?_⟩
        split
        · first | rw [qm_gd_of trivial] | rw [qm_gd_of rfl]
        · rfl
      rw [if_neg (show ¬ (50 : Int32) ≤ nI e from nI_ge (a := e) (b := 50) (by omega) (by omega)), ev]
      simp only [Option.bind_some]
      rw [show nI e + (14 : Int32) = nI (e + 14) from nI_add e 14, ew]
      simp only [Option.bind_some]
      by_cases d : v &&& (64 : Int32) = 0
      · obtain ⟨o, ho, eo⟩ := pl_low (S := S) (v >>> ((4 : Int32) &&& 31)) (q := 4) (by omega) (by omega)
        have eo : fL_low S (v >>> ((4 : Int32) &&& 31)) (4 : Int32) = some (nI o) := eo
        rw [if_pos d, eo]
        simp only [Option.bind_some]
        exact fin o ho
      · obtain ⟨o, ho, eo⟩ := pl_low (S := S) (v >>> ((4 : Int32) &&& 31)) (q := 2) (by omega) (by omega)
        have eo : fL_low S (v >>> ((4 : Int32) &&& 31)) (2 : Int32) = some (nI o) := eo
        rw [if_neg d, eo]
        simp only [Option.bind_some]
        exact fin o (by omega)
