/-! ===== two rows of marks in one ===== -/
section PuMerge
variable (V1 V2 : Nat → Int32) (m1 m2 : Nat)
/-- how many of the first P are own -/
def pu_mo : Nat → Nat
  | 0 => 0
  | P + 1 => if P - pu_mo P = m2 ∨ (pu_mo P < m1 ∧ V1 (pu_mo P) ≤ V2 (P - pu_mo P)) then pu_mo P + 1 else pu_mo P
theorem pu_mo_step (P : Nat) : (pu_mo V1 V2 m1 m2 (P + 1) = pu_mo V1 V2 m1 m2 P + 1 ∧ (P - pu_mo V1 V2 m1 m2 P = m2 ∨ (pu_mo V1 V2 m1 m2 P < m1 ∧ V1 (pu_mo V1 V2 m1 m2 P) ≤ V2 (P - pu_mo V1 V2 m1 m2 P)))) ∨
    (pu_mo V1 V2 m1 m2 (P + 1) = pu_mo V1 V2 m1 m2 P ∧ P - pu_mo V1 V2 m1 m2 P ≠ m2 ∧ ¬ (pu_mo V1 V2 m1 m2 P < m1 ∧ V1 (pu_mo V1 V2 m1 m2 P) ≤ V2 (P - pu_mo V1 V2 m1 m2 P))) := by
  by_cases c : P - pu_mo V1 V2 m1 m2 P = m2 ∨ (pu_mo V1 V2 m1 m2 P < m1 ∧ V1 (pu_mo V1 V2 m1 m2 P) ≤ V2 (P - pu_mo V1 V2 m1 m2 P))
  · exact Or.inl ⟨by rw [pu_mo, if_pos c], c⟩
  · exact Or.inr ⟨by rw [pu_mo, if_neg c], fun q => c (Or.inl q), fun q => c (Or.inr q)⟩
variable {V1 V2 m1 m2}
/-- what is known of the first P: the counts, and that the last of each row stands ahead of the next of the other -/
theorem pu_mo_ok (h1 : pu_up V1 m1) (h2 : pu_up V2 m2) : ∀ P, P ≤ m1 + m2 → pu_mo V1 V2 m1 m2 P ≤ P ∧ pu_mo V1 V2 m1 m2 P ≤ m1 ∧ P - pu_mo V1 V2 m1 m2 P ≤ m2 ∧
    (0 < P - pu_mo V1 V2 m1 m2 P → pu_mo V1 V2 m1 m2 P < m1 → V2 (P - pu_mo V1 V2 m1 m2 P - 1) < V1 (pu_mo V1 V2 m1 m2 P)) ∧
    (0 < pu_mo V1 V2 m1 m2 P → P - pu_mo V1 V2 m1 m2 P < m2 → V1 (pu_mo V1 V2 m1 m2 P - 1) ≤ V2 (P - pu_mo V1 V2 m1 m2 P)) := by
  intro P
  induction P with
  | zero => intro _; exact ⟨Nat.le_refl _, Nat.zero_le _, Nat.zero_le _, fun a => absurd a (by simp [pu_mo]), fun a => absurd a (by simp [pu_mo])⟩
  | succ P ih =>
    intro hP
    obtain ⟨i1, i2, i3, i4, i5⟩ := ih (by omega)
    have st := pu_mo_step V1 V2 m1 m2 P
    generalize pu_mo V1 V2 m1 m2 P = a at i1 i2 i3 i4 i5 st
    generalize pu_mo V1 V2 m1 m2 (P + 1) = a' at st ⊢
    obtain ⟨b, rfl⟩ : ∃ b, P = a + b := ⟨P - a, by omega⟩
    rw [show a + b - a = b by omega] at i3 i4 i5 st
    rcases st with ⟨rfl, c⟩ | ⟨rfl, c1, c2⟩
    · rw [show a + b + 1 - (a + 1) = b by omega, show a + 1 - 1 = a by omega]
      refine ⟨by omega, by omega, i3, fun q1 q2 => ?_, fun q1 q2 => ?_⟩
      · exact pu_lt_le (i4 q1 (by omega)) (h1 a (a + 1) (by omega) q2)
      · rcases c with c | c
        · omega
        · exact c.2
    · rw [show a' + b + 1 - a' = b + 1 by omega, show b + 1 - 1 = b by omega]
      refine ⟨by omega, i2, by omega, fun q1 q2 => ?_, fun q1 q2 => ?_⟩
      · exact pu_not_le.mp (fun q => c2 ⟨q2, q⟩)
      · exact pu_le_trans (i5 q1 (by omega)) (h2 b (b + 1) (by omega) q2)
theorem pu_mo_end (h1 : pu_up V1 m1) (h2 : pu_up V2 m2) : pu_mo V1 V2 m1 m2 (m1 + m2) = m1 := by
  obtain ⟨a, b, c, -⟩ := pu_mo_ok h1 h2 (m1 + m2) (Nat.le_refl _)
  omega
end PuMerge
/-- what a mark of the other row gets added to its spread, with c of this row's marks ahead of it -/
def pu_ad (m : Nat) (g : Nat → Nat) (p : Nat → Int32) (c : Nat) : Int32 := if c < m then nI (g c) + p c - 1 else if 0 < m then p (m - 1) else 0
/-- the merged row: by f the own count ahead of each place -/
def pu_mv {α : Type} (f : Nat → Nat) (X1 X2 : Nat → α) : Nat → α := fun q => if f (q + 1) = f q + 1 then X1 (f q) else X2 (q - f q)
def pu_mp (f : Nat → Nat) (m1 m2 : Nat) (g1 g2 : Nat → Nat) (p1 p2 : Nat → Int32) : Nat → Int32 := fun q => if f (q + 1) = f q + 1 then p1 (f q) + pu_ad m2 g2 p2 (q - f q) else p2 (q - f q) + pu_ad m1 g1 p1 (f q)
theorem pu_sub1 (x : Int32) : x + (-1) = x - 1 := (Int32.sub_eq_add_neg x 1).symm
theorem pu_m1neg {a : Nat} (h : a = 0) : nI a - 1 < 0 := by subst h; decide
theorem pu_m1pos {a : Nat} (h : 0 < a) (h2 : a < 2 ^ 31) : ¬ nI a - 1 < 0 := by
  rw [pu_1, pk_sub h]
  exact nI_pos (by omega)
theorem pu_m1is {a : Nat} (h : 0 < a) : nI a - 1 = nI (a - 1) := by rw [pu_1, pk_sub h]
theorem mr_wr_ne {S : qm_S} {k q : Nat} {p v g s : Int32} (h1 : q ≠ k) (h2 : q ≠ 4 + k) (h3 : q ≠ 8 + k) : (mr_wr S k p v g s).1 q = S.1 q := by
  unfold mr_wr
  rw [qm_row_ne _ _ h3, qm_row_ne _ _ h2, qm_row_ne _ _ h1]
theorem me_L {S : qm_S} {k o m1 m2 : Nat} {V1 V2 : Nat → Int32} {g1 g2 : Nat → Nat} {p1 p2 : Nat → Int32} (hk : k < 4) (ho : o < 4) (hko : k ≠ o) (hM : m1 + m2 ≤ 600) (h1 : pu_up V1 m1) (h2 : pu_up V2 m2) (hO : pu_M S o m2 V2 g2 p2)
    {f : Nat → Nat} (hf : f = pu_mo V1 V2 m1 m2) : ∀ (P fuel : Nat) (V' G' P' : Nat → Int32), P < fuel → P ≤ m1 + m2 →
      (∀ q, q < f P → V' q = V1 q ∧ G' q = nI (g1 q) ∧ P' q = p1 q) → (∀ q, P ≤ q → q < m1 + m2 → V' q = pu_mv f V1 V2 q ∧ G' q = nI (pu_mv f g1 g2 q) ∧ P' q = pu_mp f m1 m2 g1 g2 p1 p2 q) →
      ∃ V3 G3 P3, fX3_mergeWith_L55 k o fuel (nI (f P) - 1) (nI (P - f P) - 1) (pu_ad m1 g1 p1 (f P)) (pu_ad m2 g2 p2 (P - f P)) (nI P - 1) (pu_r3 S k (nI (m1 + m2), V') (nI (m1 + m2), G') (nI (m1 + m2), P')) = some (pu_r3 S k (nI (m1 + m2), V3) (nI (m1 + m2), G3) (nI (m1 + m2), P3)) ∧
        ∀ q, q < m1 + m2 → V3 q = pu_mv f V1 V2 q ∧ G3 q = nI (pu_mv f g1 g2 q) ∧ P3 q = pu_mp f m1 m2 g1 g2 p1 p2 q := by
  intro P
  induction P with
  | zero =>
    intro fuel V' G' P' hfu hP a b
    obtain ⟨fu, rfl⟩ : ∃ q, fuel = q + 1 := ⟨fuel - 1, by omega⟩
    rw [fX3_mergeWith_L55, if_pos (pu_m1neg rfl)]
    exact ⟨V', G', P', rfl, fun q hq => b q (Nat.zero_le _) hq⟩
  | succ P ih =>
    intro fuel V' G' P' hfu hP a b
    obtain ⟨fu, rfl⟩ : ∃ q, fuel = q + 1 := ⟨fuel - 1, by omega⟩
    obtain ⟨i1, i2, i3, i4, i5⟩ := pu_mo_ok h1 h2 P (by omega)
    have st := pu_mo_step V1 V2 m1 m2 P
    rw [← hf] at i1 i2 i3 i4 i5 st
    -- the place's own words
    have mvo : f (P + 1) = f P + 1 → pu_mv f V1 V2 P = V1 (f P) ∧ pu_mv f g1 g2 P = g1 (f P) ∧ pu_mp f m1 m2 g1 g2 p1 p2 P = p1 (f P) + pu_ad m2 g2 p2 (P - f P) := fun e => ⟨by unfold pu_mv; rw [if_pos e], by unfold pu_mv; rw [if_pos e], by unfold pu_mp; rw [if_pos e]⟩
    have mvn : f (P + 1) = f P → pu_mv f V1 V2 P = V2 (P - f P) ∧ pu_mv f g1 g2 P = g2 (P - f P) ∧ pu_mp f m1 m2 g1 g2 p1 p2 P = p2 (P - f P) + pu_ad m1 g1 p1 (f P) := fun e => ⟨by unfold pu_mv; rw [if_neg (by omega)], by unfold pu_mv; rw [if_neg (by omega)], by unfold pu_mp; rw [if_neg (by omega)]⟩
    have ih' := ih fu
    generalize hfa : f P = fa at i1 i2 i3 i4 i5 st mvo mvn ih'
    generalize hfb : f (P + 1) = fb at a st mvo mvn ⊢
    obtain ⟨bb, rfl⟩ : ∃ q, P = fa + q := ⟨P - fa, by omega⟩
    rw [show fa + bb - fa = bb by omega] at i3 i4 i5 st mvo mvn ih'
    have hok : ∀ x, (pu_r3 S k (nI (m1 + m2), V') (nI (m1 + m2), G') (nI (m1 + m2), P')).1 (x + o) = S.1 (x + o) → True := fun _ _ => trivial
    have ro : (pu_r3 S k (nI (m1 + m2), V') (nI (m1 + m2), G') (nI (m1 + m2), P')).1 o = S.1 o := pu_r3_ne (by omega) (by omega) (by omega)
    have ro4 : (pu_r3 S k (nI (m1 + m2), V') (nI (m1 + m2), G') (nI (m1 + m2), P')).1 (4 + o) = S.1 (4 + o) := pu_r3_ne (by omega) (by omega) (by omega)
    have ro8 : (pu_r3 S k (nI (m1 + m2), V') (nI (m1 + m2), G') (nI (m1 + m2), P')).1 (8 + o) = S.1 (8 + o) := pu_r3_ne (by omega) (by omega) (by omega)
    rw [fX3_mergeWith_L55, if_neg (pu_m1pos (by omega) (by omega)), pu_sub1, pu_sub1, pu_sub1, mr_wr_ne (show 4 + o ≠ k by omega) (show 4 + o ≠ 4 + k by omega) (show 4 + o ≠ 8 + k by omega), mr_wr_ne (show 8 + o ≠ k by omega) (show 8 + o ≠ 4 + k by omega) (show 8 + o ≠ 8 + k by omega), ro, ro4, ro8, mr_wr_r3, mr_wr_r3, pu_r3_a, pu_r3_b, pu_r3_c]
    rw [pu_m1is (show 0 < fa + bb + 1 by omega), show fa + bb + 1 - 1 = fa + bb by omega]
    rw [rw_put_in (n := m1 + m2) rfl hM (show fa + bb < m1 + m2 by omega), rw_put_in (n := m1 + m2) rfl hM (show fa + bb < m1 + m2 by omega), rw_put_in (n := m1 + m2) rfl hM (show fa + bb < m1 + m2 by omega), rw_put_in (n := m1 + m2) rfl hM (show fa + bb < m1 + m2 by omega), rw_put_in (n := m1 + m2) rfl hM (show fa + bb < m1 + m2 by omega), rw_put_in (n := m1 + m2) rfl hM (show fa + bb < m1 + m2 by omega)]
    rcases st with ⟨rfl, c⟩ | ⟨rfl, c1, c2⟩
    · -- an own mark
      have m1f : fa < m1 := by
        rcases c with c | c
        · omega
        · exact c.1
      obtain ⟨w1, w2, w3⟩ := mvo rfl
      rw [show fa + bb + 1 - (fa + 1) = bb by omega, pu_m1is (show 0 < fa + 1 by omega), show fa + 1 - 1 = fa by omega]
      rw [rw_at_in (n := m1 + m2) rfl hM (show fa < m1 + m2 by omega), rw_at_in (n := m1 + m2) rfl hM (show fa < m1 + m2 by omega), rw_at_in (n := m1 + m2) rfl hM (show fa < m1 + m2 by omega)]
      obtain ⟨a1, a2, a3⟩ := a fa (by omega)
      have go : ∃ V3 G3 P3, fX3_mergeWith_L55 k o fu (nI fa - 1) (nI bb - 1) (G' fa + P' fa - 1) (pu_ad m2 g2 p2 bb) (nI (fa + bb) - 1) (pu_r3 S k (nI (m1 + m2), upd V' (fa + bb) (V' fa)) (nI (m1 + m2), upd G' (fa + bb) (G' fa)) (nI (m1 + m2), upd P' (fa + bb) (P' fa + pu_ad m2 g2 p2 bb))) = some (pu_r3 S k (nI (m1 + m2), V3) (nI (m1 + m2), G3) (nI (m1 + m2), P3)) ∧
          ∀ q, q < m1 + m2 → V3 q = pu_mv f V1 V2 q ∧ G3 q = nI (pu_mv f g1 g2 q) ∧ P3 q = pu_mp f m1 m2 g1 g2 p1 p2 q := by
        rw [a1, a2, a3]
        have hadd : nI (g1 fa) + p1 fa - 1 = pu_ad m1 g1 p1 fa := by unfold pu_ad; rw [if_pos m1f]
        rw [hadd]
        refine ih' _ _ _ (by omega) (by omega) (fun q hq => ?_) (fun q hq1 hq2 => ?_)
        · rw [pk_un (by omega), pk_un (by omega), pk_un (by omega)]
          exact a q (by omega)
        · by_cases e : q = fa + bb
          · subst e
            rw [pk_us, pk_us, pk_us, w1, w2, w3]
            exact ⟨rfl, rfl, rfl⟩
          · rw [pk_un e, pk_un e, pk_un e]
            exact b q (by omega) hq2
      by_cases b0 : bb = 0
      · rw [if_pos (pu_m1neg b0)]
        exact go
      · rw [if_neg (pu_m1pos (by omega) (by omega)), if_neg (nI_pos (by omega)), pu_m1is (show 0 < bb by omega), mk_v hO (by omega) (by omega)]
        show ∃ _ _ _, (if V2 (bb - 1) < V' fa then _ else _) = _ ∧ _
        rw [a1, if_pos (i4 (by omega) m1f), ← pu_m1is (show 0 < bb by omega)]
        exact go
    · -- one of the other row
      obtain ⟨w1, w2, w3⟩ := mvn rfl
      rw [show fb + bb + 1 - fb = bb + 1 by omega, if_neg (pu_m1pos (by omega) (by omega)), pu_m1is (show 0 < bb + 1 by omega), show bb + 1 - 1 = bb by omega]
      rw [mk_v hO (by omega) (by omega), mk_g hO (by omega) (by omega), mk_p hO (by omega) (by omega)]
      have go : ∃ V3 G3 P3, fX3_mergeWith_L55 k o fu (nI fb - 1) (nI bb - 1) (pu_ad m1 g1 p1 fb) (nI (g2 bb) + p2 bb - 1) (nI (fb + bb) - 1) (pu_r3 S k (nI (m1 + m2), upd V' (fb + bb) (V2 bb)) (nI (m1 + m2), upd G' (fb + bb) (nI (g2 bb))) (nI (m1 + m2), upd P' (fb + bb) (p2 bb + pu_ad m1 g1 p1 fb))) = some (pu_r3 S k (nI (m1 + m2), V3) (nI (m1 + m2), G3) (nI (m1 + m2), P3)) ∧
          ∀ q, q < m1 + m2 → V3 q = pu_mv f V1 V2 q ∧ G3 q = nI (pu_mv f g1 g2 q) ∧ P3 q = pu_mp f m1 m2 g1 g2 p1 p2 q := by
        have hadd : nI (g2 bb) + p2 bb - 1 = pu_ad m2 g2 p2 bb := by unfold pu_ad; rw [if_pos (by omega)]
        rw [hadd]
        refine ih' _ _ _ (by omega) (by omega) (fun q hq => ?_) (fun q hq1 hq2 => ?_)
        · rw [pk_un (by omega), pk_un (by omega), pk_un (by omega)]
          exact a q (by omega)
        · by_cases e : q = fb + bb
          · subst e
            rw [pk_us, pk_us, pk_us, w1, w2, w3]
            exact ⟨rfl, rfl, rfl⟩
          · rw [pk_un e, pk_un e, pk_un e]
            exact b q (by omega) hq2
      by_cases a0 : fb = 0
      · rw [if_pos (pu_m1neg a0)]
        exact go
      · rw [if_neg (pu_m1pos (by omega) (by omega))]
        rw [pu_m1is (show 0 < fb by omega), rw_at_in (n := m1 + m2) rfl hM (show fb - 1 < m1 + m2 by omega)]
        show ∃ _ _ _, (if V2 bb < V' (fb - 1) then _ else _) = _ ∧ _
        rw [(a (fb - 1) (by omega)).1, if_neg (pu_not_lt.mpr (i5 (by omega) (by omega))), ← pu_m1is (show 0 < fb by omega)]
        exact go
theorem mr_gro_r3 {S : qm_S} {k : Nat} {p : Int32} : mr_gro S k p = pu_r3 S k (rw_gro (S.1 k) p) (rw_gro (S.1 (4 + k)) p) (rw_gro (S.1 (8 + k)) p) := rfl
theorem mk_last (S : qm_S) (k m : Nat) {V : Nat → Int32} {g : Nat → Nat} {p : Nat → Int32} (h : pu_M S k m V g p) (hm : m ≤ 600) : rw_at (S.1 (8 + k)) (nI m - 1) = pu_ad m g p m := by
  unfold pu_ad
  rw [if_neg (by omega)]
  by_cases c : 0 < m
  · rw [if_pos c, pu_m1is c, mk_p h hm (by omega)]
  · rw [if_neg c]
    exact rw_at_neg (pu_m1neg (by omega))
theorem mk_merge {S : qm_S} {k o m1 m2 : Nat} {V1 V2 : Nat → Int32} {g1 g2 : Nat → Nat} {p1 p2 : Nat → Int32} (hk : k < 4) (ho : o < 4) (hko : k ≠ o) (hM : m1 + m2 ≤ 600) (h1 : pu_up V1 m1) (h2 : pu_up V2 m2) (hK : pu_M S k m1 V1 g1 p1) (hO : pu_M S o m2 V2 g2 p2) {f : Nat → Nat} (hf : f = pu_mo V1 V2 m1 m2) :
    ∃ S', fX3_mergeWith S k o = some S' ∧ pu_M S' k (m1 + m2) (pu_mv f V1 V2) (pu_mv f g1 g2) (pu_mp f m1 m2 g1 g2 p1 p2) ∧ pu_fm k S S' := by
  have hend : f (m1 + m2) = m1 := by rw [hf]; exact pu_mo_end h1 h2
  unfold fX3_mergeWith
  rw [mr_gro_r3, pu_r3_a, hK.1.1, hO.1.1, nI_add, rw_gro_in hK.1.1 (by omega) hM, rw_gro_in hK.1.2.1 (by omega) hM, rw_gro_in hK.1.2.2 (by omega) hM, mk_last S k m1 hK (by omega), mk_last S o m2 hO (by omega)]
  obtain ⟨V3, G3, P3, e1, e2⟩ := me_L (S := S) hk ho hko hM h1 h2 hO hf (p1 := p1) (g1 := g1) (m1 + m2) qm_F (S.1 k).2 (S.1 (4 + k)).2 (S.1 (8 + k)).2 (by rw [qm_F_big]; omega) (Nat.le_refl _) (fun q hq => by
    rw [hend] at hq
    exact ⟨hK.2.1 q hq, hK.2.2.1 q hq, hK.2.2.2 q hq⟩) (fun q a b => by omega)
  rw [hend, show m1 + m2 - m1 = m2 by omega] at e1
  rw [show ((nI (m1 + m2), (S.1 k).2) : qm_R).1 = nI (m1 + m2) from rfl, e1]
  refine ⟨_, rfl, ?_, pu_r3_fm⟩
  unfold pu_M
  rw [pu_r3_a, pu_r3_b, pu_r3_c]
  exact ⟨⟨rfl, rfl, rfl⟩, fun q hq => (e2 q hq).1, fun q hq => (e2 q hq).2.1, fun q hq => (e2 q hq).2.2⟩
/-- the merged row is rising, its gaps sum up -/
theorem pu_mv_ok {V1 V2 : Nat → Int32} {m1 m2 : Nat} {g1 g2 : Nat → Nat} (h1 : pu_up V1 m1) (h2 : pu_up V2 m2) {f : Nat → Nat} (hf : f = pu_mo V1 V2 m1 m2) :
    (∀ P, P ≤ m1 + m2 → pu_ns (pu_mv f g1 g2) P = pu_ns g1 (f P) + pu_ns g2 (P - f P)) ∧ pu_up (pu_mv f V1 V2) (m1 + m2) := by
  have adj : ∀ q, q + 1 < m1 + m2 → pu_mv f V1 V2 q ≤ pu_mv f V1 V2 (q + 1) := by
    intro q hq
    obtain ⟨i1, i2, i3, i4, i5⟩ := pu_mo_ok h1 h2 q (by omega)
    obtain ⟨j1, j2, j3, j4, j5⟩ := pu_mo_ok h1 h2 (q + 1) (by omega)
    have st := pu_mo_step V1 V2 m1 m2 q
    have st2 := pu_mo_step V1 V2 m1 m2 (q + 1)
    rw [← hf] at i1 i2 i3 i4 i5 j1 j2 j3 j4 j5 st st2
    have next : ∀ v : Int32, (f (q + 1) < m1 → v ≤ V1 (f (q + 1))) → (q + 1 - f (q + 1) < m2 → v ≤ V2 (q + 1 - f (q + 1))) → v ≤ pu_mv f V1 V2 (q + 1) := by
      intro v a b
      unfold pu_mv
      rcases st2 with ⟨e, c⟩ | ⟨e, c1, c2⟩
      · rw [if_pos e]
        exact a (by rcases c with c | c <;> omega)
      · rw [if_neg (by omega)]
        exact b (by omega)
    rcases st with ⟨e, c⟩ | ⟨e, c1, c2⟩
    · have e0 : pu_mv f V1 V2 q = V1 (f q) := by unfold pu_mv; rw [if_pos e]
      rw [e0]
      refine next _ (fun a => by rw [e] at a ⊢; exact h1 _ _ (by omega) a) (fun b => ?_)
      have := j5 (by omega) b
      rw [e, show f q + 1 - 1 = f q by omega] at this
      rw [e]
      exact this
    · have e0 : pu_mv f V1 V2 q = V2 (q - f q) := by unfold pu_mv; rw [if_neg (by omega)]
      rw [e0]
      refine next _ (fun a => ?_) (fun b => ?_)
      · have := j4 (by omega) a
        rw [e, show q + 1 - f q - 1 = q - f q by omega] at this
        rw [e]
        exact pu_lt_le' this
      · rw [e] at b ⊢
        exact h2 _ _ (by omega) b
  refine ⟨fun P => ?_, fun i j hij hj => ?_⟩
  · induction P with
    | zero =>
      intro _
      obtain ⟨i1, -⟩ := pu_mo_ok h1 h2 0 (by omega)
      rw [← hf] at i1
      rw [show f 0 = 0 by omega]
      rfl
    | succ P ih =>
      intro hP
      obtain ⟨i1, i2, i3, -⟩ := pu_mo_ok h1 h2 P (by omega)
      have st := pu_mo_step V1 V2 m1 m2 P
      rw [← hf] at i1 i2 i3 st
      rw [pu_ns, ih (by omega)]
      unfold pu_mv
      rcases st with ⟨e, c⟩ | ⟨e, c1, c2⟩
      · rw [if_pos e, e, show P + 1 - (f P + 1) = P - f P by omega, pu_ns]
        omega
      · rw [if_neg (by omega), e, show P + 1 - f P = P - f P + 1 by omega]
        show _ = _ + (pu_ns g2 (P - f P) + g2 (P - f P))
        omega
  · induction j with
    | zero => rw [show i = 0 by omega]; exact pu_le_refl _
    | succ j ih =>
      by_cases e : i = j + 1
      · rw [e]; exact pu_le_refl _
      · exact pu_le_trans (ih (by omega) (by omega)) (adj j hj)
