/-! ===== both sides: thinOut ===== -/
def pu_sh (a j : Nat) : Nat := if j < a then j else j + 1
section StThin
variable {S : qm_S} {M : mm_M}
theorem pm_th_L85 {k mm : Nat} (hk : k < 4) (h2 : M.1 2 k = nI mm) (hm : mm < 600) {x3 x4 : Int32} {a0 : Nat} {bv bl bh : Nat → Int32} : ∀ (q fuel a : Nat) (fv fl fh : Nat → Int32), q < fuel → a + q = mm → a0 ≤ a →
    (∀ j, j < a → fv (600 * k + j) = bv (600 * k + pu_sh a0 j) ∧ fl (600 * k + j) = bl (600 * k + pu_sh a0 j) ∧ fh (600 * k + j) = bh (600 * k + pu_sh a0 j)) →
    (∀ j, a ≤ j → j ≤ mm → fv (600 * k + j) = bv (600 * k + j) ∧ fl (600 * k + j) = bl (600 * k + j) ∧ fh (600 * k + j) = bh (600 * k + j)) →
    (∀ q, (q < 600 * k ∨ 600 * k + 600 ≤ q) → fv q = M.1 4 q ∧ fl q = M.1 5 q ∧ fh q = M.1 6 q) →
    ∃ fv' fl' fh', fX7_thinOut_L85 (nI k) (nI (600 * k)) x3 x4 fuel (nI (600 * k + a)) (mm_u3 M fv fl fh) = some (mm_u3 M fv' fl' fh') ∧
      (∀ j, j < mm → fv' (600 * k + j) = bv (600 * k + pu_sh a0 j) ∧ fl' (600 * k + j) = bl (600 * k + pu_sh a0 j) ∧ fh' (600 * k + j) = bh (600 * k + pu_sh a0 j)) ∧
      ∀ q, (q < 600 * k ∨ 600 * k + 600 ≤ q) → fv' q = M.1 4 q ∧ fl' q = M.1 5 q ∧ fh' q = M.1 6 q := by
  intro q
  induction q with
  | zero =>
    intro fuel a fv fl fh h1 h3 h4 h5 h6 h7
    obtain ⟨fu, rfl⟩ : ∃ f, fuel = f + 1 := ⟨fuel - 1, by omega⟩
    rw [fX7_thinOut_L85, qm_gd_of (pu_v4 hk), pu_cl (show k < 2 ^ 31 by omega), mm_u3_ne (show 2 ≠ 4 by omega) (show 2 ≠ 5 by omega) (show 2 ≠ 6 by omega), h2, nI_add, if_pos (nI_le (by omega) (by omega))]
    refine ⟨fv, fl, fh, rfl, fun j hj => h5 j (by omega), h7⟩
  | succ q ih =>
    intro fuel a fv fl fh h1 h3 h4 h5 h6 h7
    obtain ⟨fu, rfl⟩ : ∃ f, fuel = f + 1 := ⟨fuel - 1, by omega⟩
    have ga : ∀ {α : Type} (z : Option α), qm_gd (vp_in (nI (600 * k + a)) 2400) z = z := fun z => qm_gd_of (vp_in_nI (by omega) (by omega))
    have gb : ∀ {α : Type} (z : Option α), qm_gd (vp_in (nI (600 * k + a + 1)) 2400) z = z := fun z => qm_gd_of (vp_in_nI (by omega) (by omega))
    rw [fX7_thinOut_L85, qm_gd_of (pu_v4 hk), pu_cl (show k < 2 ^ 31 by omega), mm_u3_ne (show 2 ≠ 4 by omega) (show 2 ≠ 5 by omega) (show 2 ≠ 6 by omega), h2, nI_add, if_neg (nI_ge (by omega) (by omega)), nI_1, gb, ga, gb, ga, gb, ga]
    rw [pu_cl (show 600 * k + a < 2 ^ 31 by omega), pu_cl (show 600 * k + a + 1 < 2 ^ 31 by omega), mm_up_ne (show 5 ≠ 4 by omega), mm_up_ne (show 6 ≠ 5 by omega), mm_up_ne (show 6 ≠ 4 by omega), mm_u3_4, mm_u3_5, mm_u3_6, mm_u3_u3]
    obtain ⟨e1, e2, e3⟩ := h6 (a + 1) (by omega) (by omega)
    rw [show 600 * k + a + 1 = 600 * k + (a + 1) by omega, e1, e2, e3]
    refine ih fu (a + 1) _ _ _ (by omega) (by omega) (by omega) (fun j hj => ?_) (fun j h8 h9 => ?_) (fun q hq => ?_)
    · by_cases e : j = a
      · subst e
        rw [pk_us, pk_us, pk_us, show pu_sh a0 j = j + 1 from if_neg (by omega)]
        exact ⟨rfl, rfl, rfl⟩
      · rw [pk_un (by omega), pk_un (by omega), pk_un (by omega)]; exact h5 j (by omega)
    · rw [pk_un (by omega), pk_un (by omega), pk_un (by omega)]; exact h6 j (by omega) h9
    · rw [pk_un (by omega), pk_un (by omega), pk_un (by omega)]; exact h7 q hq
theorem i3_f (a b c p : Int32) : a + b + c + p - a = b + (c + p) := by grind
theorem pm_thin_L {k n : Nat} {N : Nat → Int32} {th al : Int32} (hk : k < 4) (hal : al = ((2 * th) * nI n) / 1000) {x3 : Int32} : ∀ (i fuel : Nat) (M1 : mm_M) (A : pu_A), i < fuel → A.1 ≤ 600 → (i + 1 < A.1 ∨ i = 0) → pm_R M1 k n A.1 A.2.1 A.2.2.1 A.2.2.2 N th →
    ∃ M', fX7_thinOut_L33 (nI k) (nI (600 * k)) x3 fuel (nI i) M1 = some M' ∧ pm_R M' k n (pu_th al i A).1 (pu_th al i A).2.1 (pu_th al i A).2.2.1 (pu_th al i A).2.2.2 N th ∧ pm_fr k M1 M' := by
  intro i
  induction i with
  | zero =>
    intro fuel M1 A h1 h2 h3 h4
    obtain ⟨fu, rfl⟩ : ∃ f, fuel = f + 1 := ⟨fuel - 1, by omega⟩
    rw [fX7_thinOut_L33, if_pos (show nI 0 ≤ (0 : Int32) from pu_le_refl 0)]
    exact ⟨M1, rfl, h4, pm_fr.rf⟩
  | succ i ih =>
    intro fuel M1 A h1 h2 h3 h4
    obtain ⟨fu, rfl⟩ : ∃ f, fuel = f + 1 := ⟨fuel - 1, by omega⟩
    have h3 : i + 2 < A.1 := by omega
    rw [fX7_thinOut_L33, if_neg (show ¬ nI (i + 1) ≤ (0 : Int32) from nI_ge (a := 0) (b := i + 1) (by omega) (by omega)), nI_add, nI_1, pu_m1is (by omega), show 600 * k + (i + 1) - 1 = 600 * k + i by omega, show 600 * k + (i + 1) + 1 = 600 * k + (i + 2) by omega, qm_gd_of (vp_in_nI (by omega) (by omega)), qm_gd_of (vp_in_nI (by omega) (by omega)), pm_allowed hk h4, ← hal]
    simp only [Option.bind_some]
    rw [pu_cl (show 600 * k + (i + 2) < 2 ^ 31 by omega), pu_cl (show 600 * k + i < 2 ^ 31 by omega), h4.2.2.2.2 (i + 2) h3, h4.2.2.2.1 i (by omega)]
    have e : nI (pu_ns A.2.2.1 (i + 2 + 1)) + A.2.2.2 (i + 2) - nI (pu_ns A.2.2.1 (i + 1)) = nI (A.2.2.1 (i + 1)) + (nI (A.2.2.1 (i + 2)) + A.2.2.2 (i + 2)) := by
      rw [show pu_ns A.2.2.1 (i + 2 + 1) = pu_ns A.2.2.1 (i + 1) + A.2.2.1 (i + 1) + A.2.2.1 (i + 2) from rfl, ← nI_add, ← nI_add, i3_f]
    rw [e]
    have et : pu_th al (i + 1) A = pu_th al i (if al < nI (A.2.2.1 (i + 1)) + (nI (A.2.2.1 (i + 2)) + A.2.2.2 (i + 2)) then A else (A.1 - 1, pu_rm A.2.1 (i + 1), pu_rg2 A.2.2.1 (i + 1), pu_rm A.2.2.2 (i + 1))) := rfl
    by_cases c : al < nI (A.2.2.1 (i + 1)) + (nI (A.2.2.1 (i + 2)) + A.2.2.2 (i + 2))
    · rw [if_pos c] at et ⊢
      rw [et, pu_sub1, pu_m1is (by omega), show i + 1 - 1 = i by omega]
      exact ih fu M1 A (by omega) h2 (by omega) h4
    · rw [if_neg c] at et ⊢
      rw [et, pu_sub1, pu_m1is (by omega), show i + 1 - 1 = i by omega, qm_gd_of (pu_v4 hk), qm_gd_of (pu_v4 hk), pu_cl (show k < 2 ^ 31 by omega), h4.1.2.2, pu_m1is (by omega)]
      have f2 : pm_fr k M1 (mm_up M1 2 (upd (M1.1 2) k (nI (A.1 - 1)))) := pm_fr.small (by omega)
      have g0 : (mm_up M1 2 (upd (M1.1 2) k (nI (A.1 - 1)))).1 0 = M1.1 0 := mm_up_ne (by omega)
      have g1 : (mm_up M1 2 (upd (M1.1 2) k (nI (A.1 - 1)))).1 1 = M1.1 1 := mm_up_ne (by omega)
      have g2 : (mm_up M1 2 (upd (M1.1 2) k (nI (A.1 - 1)))).1 2 k = nI (A.1 - 1) := by rw [mm_up_at, pk_us]
      have g3 : (mm_up M1 2 (upd (M1.1 2) k (nI (A.1 - 1)))).1 3 = M1.1 3 := mm_up_ne (by omega)
      have g4 : (mm_up M1 2 (upd (M1.1 2) k (nI (A.1 - 1)))).1 4 = M1.1 4 := mm_up_ne (by omega)
      have g5 : (mm_up M1 2 (upd (M1.1 2) k (nI (A.1 - 1)))).1 5 = M1.1 5 := mm_up_ne (by omega)
      have g6 : (mm_up M1 2 (upd (M1.1 2) k (nI (A.1 - 1)))).1 6 = M1.1 6 := mm_up_ne (by omega)
      generalize mm_up M1 2 (upd (M1.1 2) k (nI (A.1 - 1))) = M2 at f2 g0 g1 g2 g3 g4 g5 g6 ⊢
      obtain ⟨fv, fl, fh, l1, l2, l3⟩ := pm_th_L85 (M := M2) hk g2 (by omega) (x3 := x3) (x4 := nI (i + 1)) (a0 := i + 1) (bv := M1.1 4) (bl := M1.1 5) (bh := M1.1 6) (A.1 - 1 - (i + 1)) qm_F (i + 1) (M2.1 4) (M2.1 5) (M2.1 6) (by rw [qm_F_big]; omega) (by omega) (Nat.le_refl _)
        (fun j hj => by rw [g4, g5, g6, show pu_sh (i + 1) j = j from if_pos hj]; exact ⟨rfl, rfl, rfl⟩) (fun j _ _ => by rw [g4, g5, g6]; exact ⟨rfl, rfl, rfl⟩) (fun q _ => ⟨rfl, rfl, rfl⟩)
      rw [mm_u3_self] at l1
      rw [l1]
      simp only [Option.bind_some]
      have fr : pm_fr k M1 (mm_u3 M2 fv fl fh) := f2.tr (mm_u3_fr (fun q hq => (l3 q hq).1) (fun q hq => (l3 q hq).2.1) (fun q hq => (l3 q hq).2.2))
      have shl : ∀ j, j < A.1 - 1 → pu_sh (i + 1) j < A.1 := fun j hj => by unfold pu_sh; split <;> omega
      have nsl : ∀ j, pu_ns (pu_rg2 A.2.2.1 (i + 1)) (j + 1) = pu_ns A.2.2.1 (pu_sh (i + 1) j + 1) := fun j => by
        rw [pu_rg2_ns]
        unfold pu_sh
        by_cases a : j < i + 1
        · rw [if_pos (by omega), if_pos a]
        · rw [if_neg (by omega), if_neg a]
      have rml : ∀ {α : Type} (f : Nat → α) (j : Nat), pu_rm f (i + 1) j = f (pu_sh (i + 1) j) := fun f j => by
        unfold pu_rm pu_sh
        split <;> rfl
      have hR : pm_R (mm_u3 M2 fv fl fh) k n (A.1 - 1) (pu_rm A.2.1 (i + 1)) (pu_rg2 A.2.2.1 (i + 1)) (pu_rm A.2.2.2 (i + 1)) N th := by
        refine ⟨⟨?_, ?_, ?_⟩, fun j hj => ?_, fun j hj => ?_, fun j hj => ?_, fun j hj => ?_⟩
        · rw [mm_u3_ne (by omega) (by omega) (by omega), g0]; exact h4.1.1
        · rw [mm_u3_ne (by omega) (by omega) (by omega), g1]; exact h4.1.2.1
        · rw [mm_u3_ne (by omega) (by omega) (by omega), g2]
        · rw [mm_u3_ne (by omega) (by omega) (by omega), g3]; exact h4.2.1 j hj
        · rw [mm_u3_4, (l2 j hj).1, h4.2.2.1 _ (shl j hj), rml]
        · rw [mm_u3_5, (l2 j hj).2.1, h4.2.2.2.1 _ (shl j hj), nsl]
        · rw [mm_u3_6, (l2 j hj).2.2, h4.2.2.2.2 _ (shl j hj), nsl, rml]
      obtain ⟨M', a1, a2, a3⟩ := ih fu (mm_u3 M2 fv fl fh) (A.1 - 1, pu_rm A.2.1 (i + 1), pu_rg2 A.2.2.1 (i + 1), pu_rm A.2.2.2 (i + 1)) (by omega) (by show A.1 - 1 ≤ 600; omega) (by show i + 1 < A.1 - 1 ∨ i = 0; omega) hR
      exact ⟨M', a1, a2, fr.tr a3⟩
theorem st_thinOut (h : st_R S M) (p : Int32) : st_w st_1 S (fX6_thinOut S p) (fX7_thinOut M p) := by
  rcases pu_arg p with ⟨k, hk, rfl⟩ | ⟨ho, hn⟩
  · obtain ⟨n, m, V, g, P, N, th, hI, hC, hR⟩ := h k hk
    have hn6 := hI.1
    have hmn := hI.2.1
    obtain ⟨al, hal⟩ : ∃ al : Int32, al = ((2 * th) * nI n) / 1000 := ⟨_, rfl⟩
    obtain ⟨S', c1, c2, c3⟩ := mk_thin hC.1 (by omega) hI.2.2.1 hI.2.2.2.1 hI.2.2.2.2.1 hn6 al
    have hth : m - 2 + 1 < (m, V, g, P).1 ∨ m - 2 = 0 := by show m - 2 + 1 < m ∨ _; omega
    obtain ⟨t1, t2, t3, t4⟩ := pu_th_ok al (m - 2) (m, V, g, P) n hth hI.2.2.2.2.1 hI.2.2.2.1 hI.2.2.1
    obtain ⟨M', d1, d2, d3⟩ := pm_thin_L (N := N) (th := th) (x3 := nI m) hk hal (m - 2) qm_F (mm_th M 0) (m, V, g, P) (by rw [qm_F_big]; omega) (by show m ≤ 600; omega) hth hR.th
    have run : fX7_thinOut_L33 (nI k) (nI (600 * k)) (nI m) qm_F (nI m - 2) (mm_th M 0) = some M' := by
      by_cases c : 2 ≤ m
      · rw [pu_2, pk_sub c]; exact d1
      · rw [show m - 2 = 0 by omega] at d1
        rw [show qm_F = (qm_F - 1) + 1 from rfl, fX7_thinOut_L33, if_pos (show nI 0 ≤ (0 : Int32) from pu_le_refl 0)] at d1
        rw [show qm_F = (qm_F - 1) + 1 from rfl, fX7_thinOut_L33, if_pos]
        · exact d1
        · have : m = 0 ∨ m = 1 := by omega
          rcases this with e | e <;> subst e <;> decide
    generalize pu_th al (m - 2) (m, V, g, P) = B at c2 t1 t2 t3 t4 d2
    have hB : B.1 ≤ m := t4
    refine .v (M' := M') (S' := S') (v := nI m - nI B.1) ?_ ?_ d3.1 (st_R.fr (h.th (v := 0)) hk c3.fr d3 (n := n) (m := B.1) ⟨_, _, _, N, th, ⟨hn6, by omega, t3, t2, t1, hI.2.2.2.2.2⟩, ⟨c2, hC.2.1.of (c3.1 _ (by omega) (by omega) (by omega)) (c3.1 _ (by omega) (by omega) (by omega)) (by rw [c3.2]), hC.2.2.1.of (c3.1 _ (by omega) (by omega) (by omega)) (c3.1 _ (by omega) (by omega) (by omega)), by rw [c3.2]; exact hC.2.2.2⟩, d2⟩)
    · unfold fX7_thinOut
      rw [pm_there.1 (pu_in3 hk)]
      simp only [Option.bind_some]
      (try rw [pm_b1])
      rw [qm_gd_of (pu_v4 hk), qm_gd_of (pu_v4 hk), pu_cl (show k < 2 ^ 31 by omega), hR.th.1.2.2, pu_6k, run]
      simp only [Option.bind_some]
      rw [qm_gd_of (pu_v4 hk), d2.1.2.2]
    · unfold fX6_thinOut
      rw [qc_in hk]
      simp only [Option.bind_some, Sum.elim_inl]
      rw [qm_gd_of hk, hC.2.2.2, pc_tot hC, ← hal, c1]
      simp only [Option.bind_some]
      rw [hC.1.1.1, c2.1.1]
  · refine .e h 0 rfl (b := 0) ?_ ?_
    · unfold fX7_thinOut
      rw [pm_there.2 hn]
      rfl
    · unfold fX6_thinOut
      rw [qc_out ho]
      rfl
end StThin
