/-! ===== both sides: pour ===== -/
def mm_t3 (M : mm_M) (a b c : Nat → Int32) : mm_M := mm_up (mm_up (mm_up M 7 a) 8 b) 9 c
theorem mm_t3_7 {M : mm_M} {a b c : Nat → Int32} : (mm_t3 M a b c).1 7 = a := by unfold mm_t3; rw [mm_up_ne (by omega), mm_up_ne (by omega), mm_up_at]
theorem mm_t3_8 {M : mm_M} {a b c : Nat → Int32} : (mm_t3 M a b c).1 8 = b := by unfold mm_t3; rw [mm_up_ne (by omega), mm_up_at]
theorem mm_t3_9 {M : mm_M} {a b c : Nat → Int32} : (mm_t3 M a b c).1 9 = c := by unfold mm_t3; rw [mm_up_at]
theorem mm_t3_lo {M : mm_M} {a b c : Nat → Int32} {i : Nat} (h : i < 7) : (mm_t3 M a b c).1 i = M.1 i := by unfold mm_t3; rw [mm_up_ne (by omega), mm_up_ne (by omega), mm_up_ne (by omega)]
theorem mm_t3_t3 {M : mm_M} {a b c a' b' c' : Nat → Int32} : mm_t3 (mm_t3 M a b c) a' b' c' = mm_t3 M a' b' c' := by
  unfold mm_t3 mm_up
  congr 1
  funext q
  simp only [va_up]
  split
  · rfl
  · split
    · rfl
    · split <;> rfl
theorem mm_t3_self {M : mm_M} : mm_t3 M (M.1 7) (M.1 8) (M.1 9) = M := by unfold mm_t3; rw [mm_up_self, mm_up_self, mm_up_self]
theorem pm_R.of {M M' : mm_M} {k n m : Nat} {V : Nat → Int32} {g : Nat → Nat} {p N : Nat → Int32} {th : Int32} (h : pm_R M k n m V g p N th) (e : ∀ i, i < 7 → M'.1 i = M.1 i) : pm_R M' k n m V g p N th := by
  unfold pm_R
  rw [e 0 (by omega), e 1 (by omega), e 2 (by omega), e 3 (by omega), e 4 (by omega), e 5 (by omega), e 6 (by omega)]
  exact h
theorem i3_g (a b c p : Int32) : a + (b + c + p - 1) = a + (b + (c + p - 1)) := by grind
section StPour
variable {M : mm_M}
theorem pm_pours {o pl at_ ah m2 : Nat} {g2 : Nat → Nat} {p2 : Nat → Int32} (ho : o < 4) (hpl : pl < 600) (hat : at_ < 2400) (hm2 : m2 ≤ 600) (hah : ah ≤ m2) (h2 : M.1 2 o = nI m2) (h5 : ∀ j, j < m2 → M.1 5 (600 * o + j) = nI (pu_ns g2 (j + 1))) (h6 : ∀ j, j < m2 → M.1 6 (600 * o + j) = nI (pu_ns g2 (j + 1)) + p2 j) :
    fX7_pours M (nI pl) (nI at_) (nI o) (nI ah) = some (mm_t3 M (upd (M.1 7) pl (M.1 4 at_)) (upd (M.1 8) pl (M.1 5 at_ + nI (pu_ns g2 ah))) (upd (M.1 9) pl (M.1 6 at_ + (nI (pu_ns g2 ah) + pu_ad m2 g2 p2 ah)))) := by
  have ga : ∀ {α : Type} (z : Option α), qm_gd (vp_in (nI at_) 2400) z = z := fun z => qm_gd_of (vp_in_nI (by omega) (by omega))
  have gp : ∀ {α : Type} (z : Option α), qm_gd (vp_in (nI pl) 600) z = z := fun z => qm_gd_of (vp_in_nI (by omega) (by omega))
  have go : ∀ {α : Type} (z : Option α), qm_gd (vp_in (nI o) 4) z = z := fun z => qm_gd_of (pu_v4 ho)
  unfold fX7_pours
  simp only [mm_up_ne (show 2 ≠ 8 by omega), mm_up_ne (show 2 ≠ 7 by omega), mm_up_ne (show 5 ≠ 7 by omega), mm_up_ne (show 6 ≠ 8 by omega), mm_up_ne (show 6 ≠ 7 by omega), mm_up_ne (show 9 ≠ 8 by omega), mm_up_ne (show 9 ≠ 7 by omega), mm_up_ne (show 8 ≠ 7 by omega), pu_cl (show pl < 2 ^ 31 by omega), pu_cl (show at_ < 2 ^ 31 by omega), pu_cl (show o < 2 ^ 31 by omega), pu_6k, nI_add, h2, ga, gp, go]
  have fin : ∀ x y : Int32, x = nI (pu_ns g2 ah) → y = nI (pu_ns g2 ah) + pu_ad m2 g2 p2 ah → some (mm_up (mm_up (mm_up M 7 (upd (M.1 7) pl (M.1 4 at_))) 8 (upd (M.1 8) pl (M.1 5 at_ + x))) 9 (upd (M.1 9) pl (M.1 6 at_ + y))) = some (mm_t3 M (upd (M.1 7) pl (M.1 4 at_)) (upd (M.1 8) pl (M.1 5 at_ + nI (pu_ns g2 ah))) (upd (M.1 9) pl (M.1 6 at_ + (nI (pu_ns g2 ah) + pu_ad m2 g2 p2 ah)))) := by
    intro x y hx hy
    rw [hx, hy]
    rfl
  -- what comes on top
  have y1 : ah < m2 → M.1 6 (600 * o + ah) - 1 = nI (pu_ns g2 ah) + pu_ad m2 g2 p2 ah := fun c => by
    rw [h6 ah c, show pu_ns g2 (ah + 1) = pu_ns g2 ah + g2 ah from rfl, ← nI_add]
    unfold pu_ad
    rw [if_pos c]
    grind
  have y2 : ¬ ah < m2 → 0 < m2 → M.1 6 (600 * o + (m2 - 1)) = nI (pu_ns g2 ah) + pu_ad m2 g2 p2 ah := fun c d => by
    rw [h6 (m2 - 1) (by omega), show m2 - 1 + 1 = ah by omega]
    unfold pu_ad
    rw [if_neg c, if_pos d]
  have y3 : m2 = 0 → (0 : Int32) = nI (pu_ns g2 ah) + pu_ad m2 g2 p2 ah := fun c => by
    subst c
    rw [show ah = 0 by omega]
    rfl
  have tail : ∀ x : Int32, x = nI (pu_ns g2 ah) → (if nI m2 ≤ nI ah then (if nI m2 ≤ 0 then some (mm_up (mm_up (mm_up M 7 (upd (M.1 7) pl (M.1 4 at_))) 8 (upd (M.1 8) pl (M.1 5 at_ + x))) 9 (upd (M.1 9) pl (M.1 6 at_ + 0))) else qm_gd (vp_in (nI (600 * o + m2) - 1) 2400) (some (mm_up (mm_up (mm_up M 7 (upd (M.1 7) pl (M.1 4 at_))) 8 (upd (M.1 8) pl (M.1 5 at_ + x))) 9 (upd (M.1 9) pl (M.1 6 at_ + M.1 6 (nI (600 * o + m2) - 1).toNatClampNeg))))) else qm_gd (vp_in (nI (600 * o + ah)) 2400) (some (mm_up (mm_up (mm_up M 7 (upd (M.1 7) pl (M.1 4 at_))) 8 (upd (M.1 8) pl (M.1 5 at_ + x))) 9 (upd (M.1 9) pl (M.1 6 at_ + (M.1 6 (nI (600 * o + ah)).toNatClampNeg - 1)))))) = some (mm_t3 M (upd (M.1 7) pl (M.1 4 at_)) (upd (M.1 8) pl (M.1 5 at_ + nI (pu_ns g2 ah))) (upd (M.1 9) pl (M.1 6 at_ + (nI (pu_ns g2 ah) + pu_ad m2 g2 p2 ah)))) := by
    intro x hx
    by_cases c : ah < m2
    · rw [if_neg (nI_ge (by omega) (by omega)), qm_gd_of (vp_in_nI (by omega) (by omega)), pu_cl (by omega)]
      exact fin _ _ hx (y1 c)
    · rw [if_pos (nI_le (by omega) (by omega))]
      by_cases d : 0 < m2
      · rw [if_neg (show ¬ nI m2 ≤ (0 : Int32) from nI_ge (a := 0) d (by omega)), pu_m1is (by omega), show 600 * o + m2 - 1 = 600 * o + (m2 - 1) by omega, qm_gd_of (vp_in_nI (by omega) (by omega)), pu_cl (by omega)]
        exact fin _ _ hx (y2 c d)
      · have e : m2 = 0 := by omega
        rw [if_pos (show nI m2 ≤ (0 : Int32) from by rw [e]; exact pu_le_refl 0)]
        exact fin _ _ hx (y3 e)
  by_cases c0 : ah = 0
  · rw [if_pos (show nI ah = (0 : Int32) from by rw [c0]; rfl)]
    exact tail _ (by rw [c0]; rfl)
  · rw [if_neg (fun q : nI ah = (0 : Int32) => by rw [pu_0, nI_eq (by omega) (by omega)] at q; omega), pu_m1is (show 0 < 600 * o + ah by omega), show 600 * o + ah - 1 = 600 * o + (ah - 1) by omega, qm_gd_of (vp_in_nI (by omega) (by omega)), pu_cl (show 600 * o + (ah - 1) < 2 ^ 31 by omega)]
    exact tail _ (by rw [h5 (ah - 1) (by omega), show ah - 1 + 1 = ah by omega])
end StPour
section StMerge
variable {k o n1 m1 n2 m2 : Nat} {V1 V2 : Nat → Int32} {g1 g2 : Nat → Nat} {p1 p2 N1 N2 : Nat → Int32} {th1 th2 : Int32} {f : Nat → Nat}
theorem i3_h (a b p q : Int32) : a + p + (b + q) = a + b + (p + q) := by grind
theorem i3_i (a b : Int32) : a + b = b + a := Int32.add_comm a b
/-- the marks of both counters in the order of their values -/
theorem pm_L83 {M : mm_M} (hk : k < 4) (ho : o < 4) (hM : m1 + m2 ≤ 600) (h1 : pm_R M k n1 m1 V1 g1 p1 N1 th1) (h2 : pm_R M o n2 m2 V2 g2 p2 N2 th2) (u1 : pu_up V1 m1) (u2 : pu_up V2 m2) (hf : f = pu_mo V1 V2 m1 m2) : ∀ (q fuel P : Nat) (a b c : Nat → Int32), q < fuel → P + q = m1 + m2 →
    (∀ j, j < P → a j = pu_mv f V1 V2 j ∧ b j = nI (pu_ns (pu_mv f g1 g2) (j + 1)) ∧ c j = nI (pu_ns (pu_mv f g1 g2) (j + 1)) + pu_mp f m1 m2 g1 g2 p1 p2 j) →
    ∃ a' b' c', fX7_pour_L83 (nI o) (nI k) (nI (m1 + m2)) fuel (nI (f P)) (nI (P - f P)) (nI P) (mm_t3 M a b c) = some (mm_t3 M a' b' c') ∧
      ∀ j, j < m1 + m2 → a' j = pu_mv f V1 V2 j ∧ b' j = nI (pu_ns (pu_mv f g1 g2) (j + 1)) ∧ c' j = nI (pu_ns (pu_mv f g1 g2) (j + 1)) + pu_mp f m1 m2 g1 g2 p1 p2 j := by
  intro q
  induction q with
  | zero =>
    intro fuel P a b c hq hP hin
    obtain ⟨fu, rfl⟩ : ∃ z, fuel = z + 1 := ⟨fuel - 1, by omega⟩
    rw [fX7_pour_L83, if_pos (nI_le (by omega) (by omega))]
    exact ⟨a, b, c, rfl, fun j hj => hin j (by omega)⟩
  | succ q ih =>
    intro fuel P a b c hq hP hin
    obtain ⟨fu, rfl⟩ : ∃ z, fuel = z + 1 := ⟨fuel - 1, by omega⟩
    obtain ⟨i1, i2, i3, -, -⟩ := pu_mo_ok u1 u2 P (by omega)
    obtain ⟨s1, -⟩ := pu_mv_ok (g1 := g1) (g2 := g2) u1 u2 hf
    have sP := s1 (P + 1) (by omega)
    have st := pu_mo_step V1 V2 m1 m2 P
    rw [← hf] at i1 i2 i3 st
    have own : f (P + 1) = f P + 1 → ∃ a' b' c', Option.bind (fX7_pours (mm_t3 M a b c) (nI P) (nI (600 * k + f P)) (nI o) (nI (P - f P))) (fun z => fX7_pour_L83 (nI o) (nI k) (nI (m1 + m2)) fu (nI (f P) + 1) (nI (P - f P)) (nI P + 1) z) = some (mm_t3 M a' b' c') ∧
      ∀ j, j < m1 + m2 → a' j = pu_mv f V1 V2 j ∧ b' j = nI (pu_ns (pu_mv f g1 g2) (j + 1)) ∧ c' j = nI (pu_ns (pu_mv f g1 g2) (j + 1)) + pu_mp f m1 m2 g1 g2 p1 p2 j := by
      intro e
      have lt1 : f P < m1 := by
        obtain ⟨-, j2, -⟩ := pu_mo_ok u1 u2 (P + 1) (by omega)
        rw [← hf] at j2
        omega
      rw [pm_pours (g2 := g2) (p2 := p2) ho (by omega) (by omega) (by omega) i3 (by rw [mm_t3_lo (by omega)]; exact h2.1.2.2) (fun j hj => by rw [mm_t3_lo (by omega)]; exact h2.2.2.2.1 j hj) (fun j hj => by rw [mm_t3_lo (by omega)]; exact h2.2.2.2.2 j hj)]
      simp only [Option.bind_some]
      rw [mm_t3_t3, mm_t3_7, mm_t3_8, mm_t3_9, mm_t3_lo (show 4 < 7 by omega), mm_t3_lo (show 5 < 7 by omega), mm_t3_lo (show 6 < 7 by omega), h1.2.2.1 _ lt1, h1.2.2.2.1 _ lt1, h1.2.2.2.2 _ lt1, nI_1, nI_1]
      have := ih fu (P + 1) (upd a P (V1 (f P))) (upd b P (nI (pu_ns g1 (f P + 1)) + nI (pu_ns g2 (P - f P)))) (upd c P (nI (pu_ns g1 (f P + 1)) + p1 (f P) + (nI (pu_ns g2 (P - f P)) + pu_ad m2 g2 p2 (P - f P)))) (by omega) (by omega) (fun j hj => by
        by_cases d : j = P
        · subst d
          rw [pk_us, pk_us, pk_us, sP, e, show j + 1 - (f j + 1) = j - f j by omega, ← nI_add]
          refine ⟨by unfold pu_mv; rw [if_pos e], rfl, ?_⟩
          unfold pu_mp
          rw [if_pos e, i3_h]
        · rw [pk_un (by omega), pk_un (by omega), pk_un (by omega)]; exact hin j (by omega))
      rw [e, show P + 1 - (f P + 1) = P - f P by omega] at this
      exact this
    have oth : f (P + 1) = f P → P - f P < m2 → ∃ a' b' c', Option.bind (fX7_pours (mm_t3 M a b c) (nI P) (nI (600 * o + (P - f P))) (nI k) (nI (f P))) (fun z => fX7_pour_L83 (nI o) (nI k) (nI (m1 + m2)) fu (nI (f P)) (nI (P - f P) + 1) (nI P + 1) z) = some (mm_t3 M a' b' c') ∧
      ∀ j, j < m1 + m2 → a' j = pu_mv f V1 V2 j ∧ b' j = nI (pu_ns (pu_mv f g1 g2) (j + 1)) ∧ c' j = nI (pu_ns (pu_mv f g1 g2) (j + 1)) + pu_mp f m1 m2 g1 g2 p1 p2 j := by
      intro e lt2
      rw [pm_pours (g2 := g1) (p2 := p1) hk (by omega) (by omega) (by omega) i2 (by rw [mm_t3_lo (by omega)]; exact h1.1.2.2) (fun j hj => by rw [mm_t3_lo (by omega)]; exact h1.2.2.2.1 j hj) (fun j hj => by rw [mm_t3_lo (by omega)]; exact h1.2.2.2.2 j hj)]
      simp only [Option.bind_some]
      rw [mm_t3_t3, mm_t3_7, mm_t3_8, mm_t3_9, mm_t3_lo (show 4 < 7 by omega), mm_t3_lo (show 5 < 7 by omega), mm_t3_lo (show 6 < 7 by omega), h2.2.2.1 _ lt2, h2.2.2.2.1 _ lt2, h2.2.2.2.2 _ lt2, nI_1, nI_1]
      have := ih fu (P + 1) (upd a P (V2 (P - f P))) (upd b P (nI (pu_ns g2 (P - f P + 1)) + nI (pu_ns g1 (f P)))) (upd c P (nI (pu_ns g2 (P - f P + 1)) + p2 (P - f P) + (nI (pu_ns g1 (f P)) + pu_ad m1 g1 p1 (f P)))) (by omega) (by omega) (fun j hj => by
        by_cases d : j = P
        · subst d
          have ne : ¬ f (j + 1) = f j + 1 := by omega
          rw [pk_us, pk_us, pk_us, sP, e, show j + 1 - f j = j - f j + 1 by omega, ← nI_add]
          refine ⟨by unfold pu_mv; rw [if_neg ne], i3_i _ _, ?_⟩
          unfold pu_mp
          rw [if_neg ne, i3_h, i3_i (nI (pu_ns g1 (f j)))]
        · rw [pk_un (by omega), pk_un (by omega), pk_un (by omega)]; exact hin j (by omega))
      rw [e, show P + 1 - f P = P - f P + 1 by omega] at this
      exact this
    rw [fX7_pour_L83, if_neg (nI_ge (by omega) (by omega)), qm_gd_of (pu_v4 ho), pu_cl (show o < 2 ^ 31 by omega), mm_t3_lo (show 2 < 7 by omega), h2.1.2.2, pu_6k, pu_6k, nI_add, nI_add]
    by_cases c1 : P - f P = m2
    · rw [if_pos (by rw [c1])]
      exact own (by
        rcases st with z | z
        · exact z.1
        · exact absurd c1 z.2.1)
    · rw [if_neg (fun z => by rw [nI_eq (by omega) (by omega)] at z; omega), qm_gd_of (pu_v4 hk), pu_cl (show k < 2 ^ 31 by omega), h1.1.2.2]
      by_cases c2 : m1 ≤ f P
      · rw [if_pos (nI_le c2 (by omega))]
        exact oth (by
          rcases st with z | z
          · rcases z.2 with y | y <;> omega
          · exact z.1) (by omega)
      · rw [if_neg (nI_ge (by omega) (by omega)), qm_gd_of (vp_in_nI (by omega) (by omega)), qm_gd_of (vp_in_nI (by omega) (by omega)), pu_cl (show 600 * o + (P - f P) < 2 ^ 31 by omega), pu_cl (show 600 * k + f P < 2 ^ 31 by omega), mm_t3_lo (show 4 < 7 by omega), h2.2.2.1 _ (by omega), h1.2.2.1 _ (by omega)]
        by_cases c3 : V2 (P - f P) < V1 (f P)
        · rw [if_pos c3]
          exact oth (by
            rcases st with z | z
            · rcases z.2 with y | y
              · omega
              · exact absurd y.2 (pu_not_le.mpr c3)
            · exact z.1) (by omega)
        · rw [if_neg c3]
          exact own (by
            rcases st with z | z
            · exact z.1
            · exact absurd ⟨by omega, pu_not_lt.mp c3⟩ z.2.2)
/-- and back into the counter's own row -/
theorem pm_L201 {M : mm_M} {mm : Nat} {x1 : Int32} (hk : k < 4) (hM : mm ≤ 600) : ∀ (q fuel P : Nat) (fv fl fh : Nat → Int32), q < fuel → P + q = mm →
    (∀ j, j < P → fv (600 * k + j) = M.1 7 j ∧ fl (600 * k + j) = M.1 8 j ∧ fh (600 * k + j) = M.1 9 j) →
    (∀ q, (q < 600 * k ∨ 600 * k + 600 ≤ q) → fv q = M.1 4 q ∧ fl q = M.1 5 q ∧ fh q = M.1 6 q) →
    ∃ fv' fl' fh', fX7_pour_L201 x1 (nI k) (nI mm) fuel (nI P) (mm_u3 M fv fl fh) = some (mm_u3 M fv' fl' fh') ∧
      (∀ j, j < mm → fv' (600 * k + j) = M.1 7 j ∧ fl' (600 * k + j) = M.1 8 j ∧ fh' (600 * k + j) = M.1 9 j) ∧
      ∀ q, (q < 600 * k ∨ 600 * k + 600 ≤ q) → fv' q = M.1 4 q ∧ fl' q = M.1 5 q ∧ fh' q = M.1 6 q := by
  intro q
  induction q with
  | zero =>
    intro fuel P fv fl fh hq hP hin hout
    obtain ⟨fu, rfl⟩ : ∃ z, fuel = z + 1 := ⟨fuel - 1, by omega⟩
    rw [fX7_pour_L201, if_pos (nI_le (by omega) (by omega))]
    exact ⟨fv, fl, fh, rfl, fun j hj => hin j (by omega), hout⟩
  | succ q ih =>
    intro fuel P fv fl fh hq hP hin hout
    obtain ⟨fu, rfl⟩ : ∃ z, fuel = z + 1 := ⟨fuel - 1, by omega⟩
    have ga : ∀ {α : Type} (z : Option α), qm_gd (vp_in (nI P) 600) z = z := fun z => qm_gd_of (vp_in_nI (by omega) (by omega))
    have gb : ∀ {α : Type} (z : Option α), qm_gd (vp_in (nI (600 * k + P)) 2400) z = z := fun z => qm_gd_of (vp_in_nI (by omega) (by omega))
    rw [fX7_pour_L201, if_neg (nI_ge (by omega) (by omega)), pu_6k, nI_add, ga, gb, ga, gb, ga, gb]
    rw [pu_cl (show 600 * k + P < 2 ^ 31 by omega), pu_cl (show P < 2 ^ 31 by omega), mm_up_ne (show 5 ≠ 4 by omega), mm_up_ne (show 6 ≠ 5 by omega), mm_up_ne (show 6 ≠ 4 by omega), mm_up_ne (show 8 ≠ 4 by omega), mm_up_ne (show 9 ≠ 5 by omega), mm_up_ne (show 9 ≠ 4 by omega), mm_u3_4, mm_u3_5, mm_u3_6, mm_u3_ne (show 7 ≠ 4 by omega) (by omega) (by omega), mm_u3_ne (show 8 ≠ 4 by omega) (by omega) (by omega), mm_u3_ne (show 9 ≠ 4 by omega) (by omega) (by omega), mm_u3_u3, nI_1]
    refine ih fu (P + 1) _ _ _ (by omega) (by omega) (fun j hj => ?_) (fun q hq => ?_)
    · by_cases d : j = P
      · subst d
        rw [pk_us, pk_us, pk_us]
        exact ⟨rfl, rfl, rfl⟩
      · rw [pk_un (by omega), pk_un (by omega), pk_un (by omega)]; exact hin j (by omega)
    · rw [pk_un (by omega), pk_un (by omega), pk_un (by omega)]; exact hout q hq
/-- the numbers, one by one -/
theorem pm_L285 (hk : k < 4) (ho : o < 4) (hko : k ≠ o) (h6 : n1 + n2 ≤ 600) (u1 : pu_up N1 n1) (r1 : ∀ j, j < n1 → pu_rg (N1 j) = true) (r2 : ∀ j, j < n2 → pu_rg (N2 j) = true) {M : mm_M} (hc : M.1 1 o = nI n2) (hN : ∀ j, j < n2 → M.1 3 (600 * o + j) = N2 j) : ∀ (q fuel P : Nat) (M1 : mm_M), q < fuel → P + q = n2 →
    M1.1 1 k = nI (n1 + P) → (∀ j, j < n1 + P → M1.1 3 (600 * k + j) = pu_all N1 n1 N2 P j) → pm_fr k M M1 → (∀ i, i ≠ 1 → i ≠ 3 → M1.1 i = M.1 i) →
    ∃ M', fX7_pour_L285 (nI o) (nI k) fuel (nI P) M1 = some M' ∧ M'.1 1 k = nI (n1 + n2) ∧ (∀ j, j < n1 + n2 → M'.1 3 (600 * k + j) = pu_all N1 n1 N2 n2 j) ∧ pm_fr k M M' ∧ ∀ i, i ≠ 1 → i ≠ 3 → M'.1 i = M.1 i := by
  intro q
  induction q with
  | zero =>
    intro fuel P M1 hq hP a1 a2 a3 a4
    obtain ⟨fu, rfl⟩ : ∃ z, fuel = z + 1 := ⟨fuel - 1, by omega⟩
    have e : P = n2 := by omega
    subst e
    rw [fX7_pour_L285, qm_gd_of (pu_v4 ho), pu_cl (show o < 2 ^ 31 by omega), a3.2.1 1 (by omega) o (Ne.symm hko), hc, if_pos (nI_le (by omega) (by omega))]
    exact ⟨M1, rfl, a1, a2, a3, a4⟩
  | succ q ih =>
    intro fuel P M1 hq hP a1 a2 a3 a4
    obtain ⟨fu, rfl⟩ : ∃ z, fuel = z + 1 := ⟨fuel - 1, by omega⟩
    obtain ⟨w, -⟩ := pu_all_ok u1 r1 P (fun j hj => r2 j (by omega))
    obtain ⟨f', e1, e2, e3⟩ := pm_remembers hk a1 a2 (by omega) w (N2 P)
    rw [fX7_pour_L285, qm_gd_of (pu_v4 ho), pu_cl (show o < 2 ^ 31 by omega), a3.2.1 1 (by omega) o (Ne.symm hko), hc, if_neg (nI_ge (by omega) (by omega)), pu_6k, nI_add, qm_gd_of (vp_in_nI (by omega) (by omega)), pu_cl (show 600 * o + P < 2 ^ 31 by omega), a3.2.2 3 (by omega) (by omega) _ (by omega), hN P (by omega), e1]
    simp only [Option.bind_some]
    rw [nI_1]
    have fa : pm_fr k M1 (mm_up M1 3 f') := pm_fr.big (by omega) e3
    have fb : pm_fr k (mm_up M1 3 f') (mm_up (mm_up M1 3 f') 1 (upd ((mm_up M1 3 f').1 1) k (nI (n1 + P + 1)))) := pm_fr.small (by omega)
    rw [mm_up_ne (show 1 ≠ 3 by omega)] at fb
    refine ih fu (P + 1) _ (by omega) (by omega) ?_ (fun j hj => ?_) ((a3.tr fa).tr fb) (fun i h1 h3 => ?_)
    · rw [mm_up_at, pk_us]; rfl
    · rw [mm_up_ne (by omega), mm_up_at]; exact e2 j hj
    · rw [mm_up_ne h1, mm_up_ne h3]; exact a4 i h1 h3
theorem pm_pour {M : mm_M} (hk : k < 4) (ho : o < 4) (hko : k ≠ o) (h1 : pm_R M k n1 m1 V1 g1 p1 N1 th1) (h2 : pm_R M o n2 m2 V2 g2 p2 N2 th2) (hI1 : pu_I n1 m1 V1 g1 N1) (hI2 : pu_I n2 m2 V2 g2 N2) (h6 : n1 + n2 ≤ 600) (hf : f = pu_mo V1 V2 m1 m2) :
    ∃ M', fX7_pour M (nI o) (nI k) = some (nI (n1 + n2), M') ∧ M'.2 = 0 ∧ pm_R M' k (n1 + n2) (m1 + m2) (pu_mv f V1 V2) (pu_mv f g1 g2) (pu_mp f m1 m2 g1 g2 p1 p2) (pu_all N1 n1 N2 n2) (if th1 < th2 then th2 else th1) ∧ pm_fr k (mm_th M 0) M' := by
  have mn1 := hI1.2.1
  have mn2 := hI2.2.1
  have h1' := h1.th (v := 0)
  have h2' := h2.th (v := 0)
  unfold fX7_pour
  rw [if_pos (pu_in3 ho), if_pos (pu_in3 hk), if_neg (fun z => by rw [nI_eq (by omega) (by omega)] at z; omega), qm_gd_of (pu_v4 ho), qm_gd_of (pu_v4 hk), pu_cl (show k < 2 ^ 31 by omega), pu_cl (show o < 2 ^ 31 by omega), h1.1.2.1, h2.1.2.1, nI_add, if_pos (show nI (n2 + n1) ≤ (600 : Int32) from nI_le (b := 600) (by omega) (by omega)), qm_gd_of (pu_v4 hk), qm_gd_of (pu_v4 ho), h1'.1.2.2, h2'.1.2.2, nI_add]
  obtain ⟨Mz, hMz⟩ : ∃ z, z = mm_th M 0 := ⟨_, rfl⟩
  have hz0 : Mz.2 = 0 := by rw [hMz]; rfl
  rw [← hMz] at h1' h2' ⊢

  obtain ⟨a, b, c, x1, x2⟩ := pm_L83 hk ho (by omega) h1' h2' hI1.2.2.1 hI2.2.2.1 hf (m1 + m2) qm_F 0 (Mz.1 7) (Mz.1 8) (Mz.1 9) (by rw [qm_F_big]; omega) (by omega) (fun j hj => absurd hj (by omega))
  rw [mm_t3_self, show f 0 = 0 from by rw [hf]; rfl] at x1
  rw [show fX7_pour_L83 (nI o) (nI k) (nI (m1 + m2)) qm_F 0 0 0 Mz = _ from x1]
  simp only [Option.bind_some]
  have tl : ∀ i, i < 7 → (mm_t3 Mz a b c).1 i = Mz.1 i := fun i hi => mm_t3_lo hi
  have t7 : (mm_t3 Mz a b c).1 7 = a := mm_t3_7
  have t8 : (mm_t3 Mz a b c).1 8 = b := mm_t3_8
  have t9 : (mm_t3 Mz a b c).1 9 = c := mm_t3_9
  have ft : pm_fr k Mz (mm_t3 Mz a b c) := ⟨rfl, fun i hi j _ => by rw [tl i (by omega)], fun i _ h7 q _ => by rw [tl i h7]⟩
  generalize mm_t3 Mz a b c = Mt at tl t7 t8 t9 ft ⊢
  obtain ⟨fv, fl, fh, y1, y2, y3⟩ := pm_L201 (M := Mt) (x1 := nI o) hk (mm := m1 + m2) (by omega) (m1 + m2) qm_F 0 (Mt.1 4) (Mt.1 5) (Mt.1 6) (by rw [qm_F_big]; omega) (by omega) (fun j hj => absurd hj (by omega)) (fun q _ => ⟨rfl, rfl, rfl⟩)
  rw [mm_u3_self] at y1
  rw [show fX7_pour_L201 (nI o) (nI k) (nI (m1 + m2)) qm_F 0 Mt = _ from y1]
  simp only [Option.bind_some]
  rw [qm_gd_of (pu_v4 hk)]
  have fu : pm_fr k Mt (mm_u3 Mt fv fl fh) := mm_u3_fr (fun q hq => (y3 q hq).1) (fun q hq => (y3 q hq).2.1) (fun q hq => (y3 q hq).2.2)
  have fs : pm_fr k (mm_u3 Mt fv fl fh) (mm_up (mm_u3 Mt fv fl fh) 2 (upd ((mm_u3 Mt fv fl fh).1 2) k (nI (m1 + m2)))) := pm_fr.small (by omega)
  have f3 := (ft.tr fu).tr fs
  have w4 : (mm_up (mm_u3 Mt fv fl fh) 2 (upd ((mm_u3 Mt fv fl fh).1 2) k (nI (m1 + m2)))).1 4 = fv := by rw [mm_up_ne (by omega), mm_u3_4]
  have w5 : (mm_up (mm_u3 Mt fv fl fh) 2 (upd ((mm_u3 Mt fv fl fh).1 2) k (nI (m1 + m2)))).1 5 = fl := by rw [mm_up_ne (by omega), mm_u3_5]
  have w6 : (mm_up (mm_u3 Mt fv fl fh) 2 (upd ((mm_u3 Mt fv fl fh).1 2) k (nI (m1 + m2)))).1 6 = fh := by rw [mm_up_ne (by omega), mm_u3_6]
  have w2 : (mm_up (mm_u3 Mt fv fl fh) 2 (upd ((mm_u3 Mt fv fl fh).1 2) k (nI (m1 + m2)))).1 2 k = nI (m1 + m2) := by rw [mm_up_at, pk_us]
  have w0 : (mm_up (mm_u3 Mt fv fl fh) 2 (upd ((mm_u3 Mt fv fl fh).1 2) k (nI (m1 + m2)))).1 0 = Mz.1 0 := by rw [mm_up_ne (by omega), mm_u3_ne (by omega) (by omega) (by omega), tl 0 (by omega)]
  have w1 : (mm_up (mm_u3 Mt fv fl fh) 2 (upd ((mm_u3 Mt fv fl fh).1 2) k (nI (m1 + m2)))).1 1 = Mz.1 1 := by rw [mm_up_ne (by omega), mm_u3_ne (by omega) (by omega) (by omega), tl 1 (by omega)]
  have w3 : (mm_up (mm_u3 Mt fv fl fh) 2 (upd ((mm_u3 Mt fv fl fh).1 2) k (nI (m1 + m2)))).1 3 = Mz.1 3 := by rw [mm_up_ne (by omega), mm_u3_ne (by omega) (by omega) (by omega), tl 3 (by omega)]
  generalize mm_up (mm_u3 Mt fv fl fh) 2 (upd ((mm_u3 Mt fv fl fh).1 2) k (nI (m1 + m2))) = Mu at f3 w0 w1 w2 w3 w4 w5 w6 ⊢
  obtain ⟨Mr, z1, z2, z3, z4, z5⟩ := pm_L285 (M := Mu) hk ho hko h6 hI1.2.2.2.2.2.1 hI1.2.2.2.2.2.2 hI2.2.2.2.2.2.2 (by rw [w1]; exact h2'.1.2.1) (fun j hj => by rw [w3]; exact h2'.2.1 j hj) n2 qm_F 0 Mu (by rw [qm_F_big]; omega) (by omega) (by rw [w1]; exact h1'.1.2.1) (fun j hj => by rw [w3]; exact h1'.2.1 j hj) pm_fr.rf (fun _ _ _ => rfl)
  rw [show fX7_pour_L285 (nI o) (nI k) qm_F 0 Mu = _ from z1]
  simp only [Option.bind_some]
  rw [qm_gd_of (pu_v4 ho), qm_gd_of (pu_v4 hk), z5 0 (by omega) (by omega), w0, h1'.1.1, h2'.1.1]
  have fin : ∀ t : Int32, t = (if th1 < th2 then th2 else th1) → pm_R (mm_up Mr 0 (upd (Mz.1 0) k t)) k (n1 + n2) (m1 + m2) (pu_mv f V1 V2) (pu_mv f g1 g2) (pu_mp f m1 m2 g1 g2 p1 p2) (pu_all N1 n1 N2 n2) (if th1 < th2 then th2 else th1) ∧ pm_fr k Mz (mm_up Mr 0 (upd (Mz.1 0) k t)) ∧ (mm_up Mr 0 (upd (Mz.1 0) k t)).1 1 k = nI (n1 + n2) := by
    intro t ht
    have fe : pm_fr k Mr (mm_up Mr 0 (upd (Mr.1 0) k t)) := pm_fr.small (by omega)
    rw [z5 0 (by omega) (by omega), w0] at fe
    refine ⟨⟨⟨?_, ?_, ?_⟩, fun j hj => ?_, fun j hj => ?_, fun j hj => ?_, fun j hj => ?_⟩, (f3.tr z4).tr fe, ?_⟩
    · rw [mm_up_at, pk_us, ht]
    · rw [mm_up_ne (by omega), z2]
    · rw [mm_up_ne (by omega), z5 2 (by omega) (by omega), w2]
    · rw [mm_up_ne (by omega)]; exact z3 j hj
    · rw [mm_up_ne (by omega), z5 4 (by omega) (by omega), w4, (y2 j hj).1, t7]; exact (x2 j hj).1
    · rw [mm_up_ne (by omega), z5 5 (by omega) (by omega), w5, (y2 j hj).2.1, t8]; exact (x2 j hj).2.1
    · rw [mm_up_ne (by omega), z5 6 (by omega) (by omega), w6, (y2 j hj).2.2, t9]; exact (x2 j hj).2.2
    · rw [mm_up_ne (by omega), z2]
  by_cases c : th2 ≤ th1
  · obtain ⟨q1, q2, q3⟩ := fin th1 (by rw [if_neg (pu_not_lt.mpr c)])
    rw [if_pos c, qm_gd_of (pu_v4 hk), qm_gd_of (pu_v4 hk), qm_gd_of (pu_v4 hk), q3]
    exact ⟨_, rfl, q2.1.trans hz0, q1, q2⟩
  · obtain ⟨q1, q2, q3⟩ := fin th2 (by rw [if_pos (pu_not_le.mp c)])
    rw [if_neg c, qm_gd_of (pu_v4 ho), qm_gd_of (pu_v4 hk), qm_gd_of (pu_v4 hk), q3]
    exact ⟨_, rfl, q2.1.trans hz0, q1, q2⟩
end StMerge
