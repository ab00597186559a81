/-! ===== thinning out ===== -/
theorem i3_1 (x w : Int32) : x + w - x = w := by rw [Int32.add_comm, Int32.add_sub_cancel]
def pu_rm {α : Type} (f : Nat → α) (i : Nat) : Nat → α := fun j => if j < i then f j else f (j + 1)
def pu_rg2 (g : Nat → Nat) (i : Nat) : Nat → Nat := fun j => if j < i then g j else if j = i then g i + g (i + 1) else g (j + 1)
abbrev pu_A : Type := Nat × (Nat → Int32) × (Nat → Nat) × (Nat → Int32)
def pu_th (al : Int32) : Nat → pu_A → pu_A
  | 0, A => A
  | i + 1, A => pu_th al i (if al < nI (A.2.2.1 (i + 1)) + (nI (A.2.2.1 (i + 2)) + A.2.2.2 (i + 2)) then A else (A.1 - 1, pu_rm A.2.1 (i + 1), pu_rg2 A.2.2.1 (i + 1), pu_rm A.2.2.2 (i + 1)))
theorem pu_rg2_ns {g : Nat → Nat} {i : Nat} : ∀ {n : Nat}, pu_ns (pu_rg2 g i) n = if n ≤ i then pu_ns g n else pu_ns g (n + 1)
  | 0 => by simp [pu_ns]
  | n + 1 => by
    rw [pu_ns, pu_rg2_ns (n := n)]
    unfold pu_rg2
    by_cases h1 : n + 1 ≤ i
    · rw [if_pos (by omega), if_pos h1, if_pos (by omega), pu_ns]
    · rw [if_neg h1]
      by_cases h2 : n = i
      · subst h2
        rw [if_pos (Nat.le_refl _), if_neg (by omega), if_pos rfl, pu_ns, pu_ns]
        omega
      · rw [if_neg (by omega), if_neg (by omega), if_neg h2, pu_ns]
        rw [pu_ns, pu_ns]
/-- what is kept, seen in the rows where what goes has the gap 0: e tells where each kept mark stands -/
def pu_K (m0 : Nat) (V0 G P0 : Nat → Int32) (e : Nat → Nat) (A : pu_A) : Prop :=
  A.1 ≤ m0 ∧ (∀ j, j < A.1 → e j < m0) ∧ (∀ j j', j < j' → j' < A.1 → e j < e j') ∧ (∀ j, j < A.1 → V0 (e j) = A.2.1 j ∧ G (e j) = nI (A.2.2.1 j) ∧ P0 (e j) = A.2.2.2 j) ∧ ∀ q, q < m0 → (∀ j, j < A.1 → e j ≠ q) → G q = 0
theorem th_L {S : qm_S} {k m0 : Nat} {al : Int32} {P0 : Nat → Int32} (hm : m0 ≤ 600) (hG : (S.1 (4 + k)).1 = nI m0) (hP : (S.1 (8 + k)).1 = nI m0) (hP0 : (S.1 (8 + k)).2 = P0) {V0 : Nat → Int32} :
    ∀ (i fuel b : Nat) (S1 : qm_S) (G : Nat → Int32) (e : Nat → Nat) (A : pu_A), i < fuel → S1 = qm_row S (4 + k) (nI m0, G) → pu_K m0 V0 G P0 e A → (∀ j, j ≤ i → e j = j) → i + 1 < A.1 → e (i + 1) = b →
      ∃ (G' : Nat → Int32) (e' : Nat → Nat), fX3_thin_L14 k al fuel (nI b) (nI i) S1 = some (qm_row S (4 + k) (nI m0, G')) ∧ pu_K m0 V0 G' P0 e' (pu_th al i A) := by
  intro i
  induction i with
  | zero =>
    intro fuel b S1 G e A h1 hS hk he hi hb
    obtain ⟨f, rfl⟩ : ∃ f, fuel = f + 1 := ⟨fuel - 1, by omega⟩
    subst hS
    rw [fX3_thin_L14, if_pos (by rw [pu_1]; exact nI_lt (by omega) (by omega))]
    exact ⟨G, e, rfl, hk⟩
  | succ i ih =>
    intro fuel b S1 G e A h1 hS hk he hi hb
    obtain ⟨f, rfl⟩ : ∃ f, fuel = f + 1 := ⟨fuel - 1, by omega⟩
    subst hS
    obtain ⟨k1, k2, k3, k4, k5⟩ := hk
    have ei : e (i + 1) = i + 1 := he (i + 1) (Nat.le_refl _)
    have hbm : b < m0 := by rw [← hb]; exact k2 _ hi
    have him : i + 1 < m0 := by rw [← ei]; exact k2 _ (by omega)
    have hib : i + 1 < b := by
      have q : e (i + 1) < e (i + 1 + 1) := k3 _ _ (by omega) hi
      rw [ei, hb] at q
      exact q
    have gi : G (i + 1) = nI (A.2.2.1 (i + 1)) := by have := (k4 (i + 1) (by omega)).2.1; rw [ei] at this; exact this
    have gb : G b = nI (A.2.2.1 (i + 2)) := by have := (k4 (i + 2) hi).2.1; rw [hb] at this; exact this
    have pb : P0 b = A.2.2.2 (i + 2) := by have := (k4 (i + 2) hi).2.2; rw [hb] at this; exact this
    rw [fX3_thin_L14, if_neg (by rw [pu_1]; exact nI_nlt (by omega) (by omega)), qm_row_at, qm_row_ne _ _ (show 8 + k ≠ 4 + k by omega)]
    rw [rw_at_in (n := m0) rfl hm him, rw_at_in (n := m0) rfl hm hbm, rw_at_in hP hm hbm, hP0, pk_m1]
    show ∃ _ _, (if al < G (i + 1) + (G b + P0 b) then _ else _) = _ ∧ _
    rw [gi, gb, pb]
    by_cases c : al < nI (A.2.2.1 (i + 1)) + (nI (A.2.2.1 (i + 2)) + A.2.2.2 (i + 2))
    · rw [if_pos c]
      obtain ⟨G', e', g1, g2⟩ := ih f (i + 1) _ G e A (by omega) rfl ⟨k1, k2, k3, k4, k5⟩ (fun j hj => he j (by omega)) (by omega) ei
      refine ⟨G', e', g1, ?_⟩
      rw [pu_th, if_pos c]
      exact g2
    · rw [if_neg c, rw_put_in (n := m0) rfl hm hbm, qm_row_row, qm_row_at, rw_put_in (n := m0) rfl hm him, qm_row_row]
      show ∃ _ _, fX3_thin_L14 k al f (nI b) (nI i) (qm_row S (4 + k) (nI m0, upd (upd G b (G b + G (i + 1))) (i + 1) 0)) = _ ∧ _
      rw [gb, gi]
      have hone : A.1 - 1 + 1 = A.1 := by omega
      refine Exists.elim (ih f b _ (upd (upd G b (nI (A.2.2.1 (i + 2)) + nI (A.2.2.1 (i + 1)))) (i + 1) 0) (pu_rm e (i + 1)) (A.1 - 1, pu_rm A.2.1 (i + 1), pu_rg2 A.2.2.1 (i + 1), pu_rm A.2.2.2 (i + 1)) (by omega) rfl ⟨by show A.1 - 1 ≤ m0; omega, fun j hj => ?_, fun j j' h1 h2 => ?_, fun j hj => ?_, fun q hq hne => ?_⟩ (fun j hj => ?_) (by show i + 1 < A.1 - 1; omega) ?_) (fun G' ⟨e', g1, g2⟩ => ⟨G', e', g1, by rw [pu_th, if_neg c]; exact g2⟩)
      · replace hj : j < A.1 - 1 := hj
        unfold pu_rm
        split
        · exact k2 j (by omega)
        · exact k2 (j + 1) (by omega)
      · replace h2 : j' < A.1 - 1 := h2
        unfold pu_rm
        by_cases a : j < i + 1
        · rw [if_pos a]
          by_cases a2 : j' < i + 1
          · rw [if_pos a2]; exact k3 _ _ h1 (by omega)
          · rw [if_neg a2]; exact k3 _ _ (by omega) (by omega)
        · rw [if_neg a, if_neg (by omega)]
          exact k3 _ _ (by omega) (by omega)
      · replace hj : j < A.1 - 1 := hj
        show V0 (pu_rm e (i + 1) j) = pu_rm A.2.1 (i + 1) j ∧ upd (upd G b _) (i + 1) 0 (pu_rm e (i + 1) j) = nI (pu_rg2 A.2.2.1 (i + 1) j) ∧ P0 (pu_rm e (i + 1) j) = pu_rm A.2.2.2 (i + 1) j
        unfold pu_rm pu_rg2
        by_cases a : j < i + 1
        · rw [if_pos a, if_pos a, if_pos a, if_pos a]
          have ej : e j = j := he j (by omega)
          rw [pk_un (by rw [ej]; omega), pk_un (by rw [ej]; omega)]
          exact k4 j (by omega)
        · rw [if_neg a, if_neg a, if_neg a, if_neg a]
          by_cases a2 : j = i + 1
          · subst a2
            rw [if_pos rfl, hb, pk_un (by omega), pk_us, nI_add, Nat.add_comm (A.2.2.1 (i + 2))]
            have := k4 (i + 2) hi
            rw [hb] at this
            exact ⟨this.1, rfl, this.2.2⟩
          · rw [if_neg a2]
            have h3 : b < e (j + 1) := by rw [← hb]; exact k3 _ _ (by omega) (by omega)
            rw [pk_un (by omega), pk_un (by omega)]
            exact k4 (j + 1) (by omega)
      · by_cases a : q = i + 1
        · rw [a, pk_us]
        · rw [pk_un a]
          by_cases a2 : q = b
          · exfalso
            refine hne (i + 1) (by show i + 1 < A.1 - 1; omega) ?_
            unfold pu_rm
            rw [if_neg (by omega), hb, a2]
          · rw [pk_un a2]
            refine k5 q hq (fun j hj hje => ?_)
            by_cases a3 : j < i + 1
            · exact hne j (by show j < A.1 - 1; omega) (by unfold pu_rm; rw [if_pos a3]; exact hje)
            · by_cases a4 : j = i + 1
              · rw [a4, ei] at hje
                exact a hje.symm
              · exact hne (j - 1) (by show j - 1 < A.1 - 1; omega) (by unfold pu_rm; rw [if_neg (by omega), show j - 1 + 1 = j by omega]; exact hje)
      · unfold pu_rm
        rw [if_pos (by omega)]
        exact he j (by omega)
      · unfold pu_rm
        rw [if_neg (by omega)]
        exact hb
theorem pu_r3_mid {S : qm_S} {k : Nat} {B : qm_R} : pu_r3 S k (S.1 k) B (S.1 (8 + k)) = qm_row S (4 + k) B := by
  unfold pu_r3
  rw [qm_row_self]
  have e : S.1 (8 + k) = (qm_row S (4 + k) B).1 (8 + k) := (qm_row_ne _ _ (by omega)).symm
  rw [e, qm_row_self]
theorem mr_wr_r3 {S : qm_S} {k : Nat} {A B C : qm_R} {p v g s : Int32} : mr_wr (pu_r3 S k A B C) k p v g s = pu_r3 S k (rw_put A p v) (rw_put B p g) (rw_put C p s) := by
  unfold mr_wr
  rw [pu_r3_a, pu_r3_b, pu_r3_c]
  unfold pu_r3 qm_row
  congr 1
  funext q
  simp only [va_up]
  split
  · rfl
  · split
    · rfl
    · split <;> rfl
theorem pu_r3_self {S : qm_S} {k : Nat} : pu_r3 S k (S.1 k) (S.1 (4 + k)) (S.1 (8 + k)) = S := by
  unfold pu_r3
  rw [qm_row_self, qm_row_self, qm_row_self]
theorem dr_L {S : qm_S} {k m0 : Nat} {V0 G P0 : Nat → Int32} {e : Nat → Nat} {A : pu_A} (hm : m0 ≤ 600) (hk : pu_K m0 V0 G P0 e A) (hg : ∀ j, j < A.1 → 1 ≤ A.2.2.1 j ∧ A.2.2.1 j ≤ 600) :
    ∀ (fuel i kept : Nat) (V' G' P' : Nat → Int32), m0 < i + fuel → i ≤ m0 → kept ≤ i → kept ≤ A.1 → (∀ j, j < kept → e j < i) → (∀ j, kept ≤ j → j < A.1 → i ≤ e j) →
      (∀ j, j < kept → V' j = A.2.1 j ∧ G' j = nI (A.2.2.1 j) ∧ P' j = A.2.2.2 j) → (∀ q, i ≤ q → V' q = V0 q ∧ G' q = G q ∧ P' q = P0 q) →
      ∃ V2 G2 P2, fX3_dropWithoutGap_L4 k fuel (nI kept) (nI i) (pu_r3 S k (nI m0, V') (nI m0, G') (nI m0, P')) = some (nI A.1, pu_r3 S k (nI m0, V2) (nI m0, G2) (nI m0, P2)) ∧ ∀ j, j < A.1 → V2 j = A.2.1 j ∧ G2 j = nI (A.2.2.1 j) ∧ P2 j = A.2.2.2 j := by
  obtain ⟨k1, k2, k3, k4, k5⟩ := hk
  intro fuel
  induction fuel with
  | zero => intro i kept V' G' P' h1 h2; omega
  | succ fuel ih =>
    intro i kept V' G' P' h1 h2 h3 h4 h5 h6 h7 h8
    rw [fX3_dropWithoutGap_L4, pu_r3_a, pu_r3_b, pu_r3_c]
    show ∃ _ _ _, (if nI m0 ≤ nI i then _ else _) = _ ∧ _
    by_cases c : m0 ≤ i
    · rw [if_pos (nI_le c (by omega))]
      have hka : kept = A.1 := by
        rcases Nat.lt_or_ge kept A.1 with q | q
        · have := h6 kept (Nat.le_refl _) q
          have := k2 kept q
          omega
        · omega
      subst hka
      exact ⟨V', G', P', rfl, h7⟩
    · rw [if_neg (nI_ge (by omega) (by omega)), rw_at_in (n := m0) rfl hm (by omega), rw_at_in (n := m0) rfl hm (by omega), rw_at_in (n := m0) rfl hm (by omega), nI_1, nI_1, mr_wr_r3, rw_put_in (n := m0) rfl hm (by omega), rw_put_in (n := m0) rfl hm (by omega), rw_put_in (n := m0) rfl hm (by omega)]
      show ∃ _ _ _, (if G' i ≤ 0 then _ else _) = _ ∧ _
      rw [(h8 i (Nat.le_refl _)).2.1]
      by_cases c2 : ∃ j, j < A.1 ∧ e j = i
      · obtain ⟨j, hj, ej⟩ := c2
        have hjk : j = kept := by
          rcases Nat.lt_trichotomy j kept with q | q | q
          · have := h5 j q; omega
          · exact q
          · have a1 := h6 kept (Nat.le_refl _) (by omega)
            have a2 := k3 kept j q hj
            omega
        subst hjk
        have kk := k4 j hj
        rw [ej] at kk
        have hgj := hg j hj
        rw [kk.2.1, if_neg (by rw [pu_0]; exact nI_ge (by omega) (by omega))]
        obtain ⟨V2, G2, P2, g1, g2⟩ := ih (i + 1) (j + 1) (upd V' j (V' i)) (upd G' j (nI (A.2.2.1 j))) (upd P' j (P' i)) (by omega) (by omega) (by omega) (by omega) (fun q hq => by
            by_cases a : q = j
            · rw [a, ej]; omega
            · have := h5 q (by omega); omega) (fun q a1 a2 => by
            have := k3 j q (by omega) a2
            omega) (fun q hq => by
            by_cases a : q = j
            · subst a
              rw [pk_us, pk_us, pk_us, (h8 i (Nat.le_refl _)).1, (h8 i (Nat.le_refl _)).2.2]
              exact ⟨kk.1, rfl, kk.2.2⟩
            · rw [pk_un a, pk_un a, pk_un a]
              exact h7 q (by omega)) (fun q hq => by
            rw [pk_un (by omega), pk_un (by omega), pk_un (by omega)]
            exact h8 q (by omega))
        refine ⟨V2, G2, P2, ?_, g2⟩
        rw [← g1]
        congr 3
        · show upd G' j (G' i) = _
          rw [(h8 i (Nat.le_refl _)).2.1, kk.2.1]
      · have g0 : G i = 0 := k5 i (by omega) (fun j hj q => c2 ⟨j, hj, q⟩)
        rw [g0, if_pos (pu_le_refl _)]
        exact ih (i + 1) kept V' G' P' (by omega) (by omega) (by omega) h4 (fun j hj => by have := h5 j hj; omega) (fun j a1 a2 => by
            have := h6 j a1 a2
            have : e j ≠ i := fun q => c2 ⟨j, a2, q⟩
            omega) h7 (fun q hq => h8 q (by omega))
theorem mr_cut_r3 {S : qm_S} {k : Nat} {A B C : qm_R} {p : Int32} : mr_cut (pu_r3 S k A B C) k p = pu_r3 S k (rw_cut A p) (rw_cut B p) (rw_cut C p) := by
  unfold mr_cut
  rw [pu_r3_a, pu_r3_b, pu_r3_c]
  unfold pu_r3 qm_row
  congr 1
  funext q
  simp only [va_up]
  split
  · rfl
  · split
    · rfl
    · split <;> rfl
theorem dr_is {S : qm_S} {k m0 : Nat} {V0 G P0 : Nat → Int32} {e : Nat → Nat} {A : pu_A} (hm : m0 ≤ 600) (hk : pu_K m0 V0 G P0 e A) (hg : ∀ j, j < A.1 → 1 ≤ A.2.2.1 j ∧ A.2.2.1 j ≤ 600) :
    ∃ S', fX3_dropWithoutGap (pu_r3 S k (nI m0, V0) (nI m0, G) (nI m0, P0)) k = some S' ∧ pu_M S' k A.1 A.2.1 A.2.2.1 A.2.2.2 ∧ pu_fm k S S' := by
  obtain ⟨V2, G2, P2, g1, g2⟩ := dr_L (S := S) hm hk hg qm_F 0 0 V0 G P0 (by rw [qm_F_big]; omega) (by omega) (Nat.le_refl 0) (by omega) (fun j hj => absurd hj (by omega)) (fun j _ _ => Nat.zero_le _) (fun j hj => absurd hj (by omega)) (fun q _ => ⟨rfl, rfl, rfl⟩)
  unfold fX3_dropWithoutGap
  have e3 : ∀ (z : qm_S) (p : Int32), qm_row (qm_row (qm_row z k (rw_cut (z.1 k) p)) (4 + k) (rw_cut (z.1 (4 + k)) p)) (8 + k) (rw_cut (z.1 (8 + k)) p) = mr_cut z k p := fun _ _ => rfl
  rw [pu_0, g1]
  simp only [Option.bind_some]
  refine ⟨_, rfl, ?_, ?_⟩
  · rw [mr_cut_r3, rw_cut_in (n := m0) rfl hm hk.1, rw_cut_in (n := m0) rfl hm hk.1, rw_cut_in (n := m0) rfl hm hk.1]
    unfold pu_M
    rw [pu_r3_a, pu_r3_b, pu_r3_c]
    exact ⟨⟨rfl, rfl, rfl⟩, fun j hj => (g2 j hj).1, fun j hj => (g2 j hj).2.1, fun j hj => (g2 j hj).2.2⟩
  · rw [mr_cut_r3]
    exact pu_r3_fm
/-- what thinning keeps of the sums -/
theorem pu_th_ok (al : Int32) : ∀ (i : Nat) (A : pu_A) (n : Nat), i + 1 < A.1 ∨ i = 0 → pu_ns A.2.2.1 A.1 = n → (∀ j, j < A.1 → 1 ≤ A.2.2.1 j) → pu_up A.2.1 A.1 →
    pu_ns (pu_th al i A).2.2.1 (pu_th al i A).1 = n ∧ (∀ j, j < (pu_th al i A).1 → 1 ≤ (pu_th al i A).2.2.1 j) ∧ pu_up (pu_th al i A).2.1 (pu_th al i A).1 ∧ (pu_th al i A).1 ≤ A.1 := by
  intro i
  induction i with
  | zero => intro A n _ h1 h2 h3; exact ⟨h1, h2, h3, Nat.le_refl _⟩
  | succ i ih =>
    intro A n hi h1 h2 h3
    have hi : i + 2 < A.1 := by omega
    rw [pu_th]
    split
    · exact ih A n (by omega) h1 h2 h3
    · have := ih (A.1 - 1, pu_rm A.2.1 (i + 1), pu_rg2 A.2.2.1 (i + 1), pu_rm A.2.2.2 (i + 1)) n (by show i + 1 < A.1 - 1 ∨ i = 0; omega) (by
        show pu_ns (pu_rg2 A.2.2.1 (i + 1)) (A.1 - 1) = n
        rw [pu_rg2_ns, if_neg (by omega), show A.1 - 1 + 1 = A.1 by omega, h1]) (fun j hj => by
        replace hj : j < A.1 - 1 := hj
        show 1 ≤ pu_rg2 A.2.2.1 (i + 1) j
        unfold pu_rg2
        split
        · exact h2 j (by omega)
        · split
          · have := h2 (i + 1) (by omega); omega
          · exact h2 (j + 1) (by omega)) (fun a b hab hb => by
        replace hb : b < A.1 - 1 := hb
        show pu_rm A.2.1 (i + 1) a ≤ pu_rm A.2.1 (i + 1) b
        unfold pu_rm
        by_cases q1 : a < i + 1
        · rw [if_pos q1]
          by_cases q2 : b < i + 1
          · rw [if_pos q2]; exact h3 a b hab (by omega)
          · rw [if_neg q2]; exact h3 a (b + 1) (by omega) (by omega)
        · rw [if_neg q1, if_neg (by omega)]
          exact h3 _ _ (by omega) (by omega))
      refine ⟨this.1, this.2.1, this.2.2.1, ?_⟩
      have h4 := this.2.2.2
      replace h4 : _ ≤ A.1 - 1 := h4
      omega
theorem mk_thin {S : qm_S} {k m n : Nat} {V : Nat → Int32} {g : Nat → Nat} {p : Nat → Int32} (h : pu_M S k m V g p) (hm : m ≤ 600) (hu : pu_up V m) (hg : ∀ j, j < m → 1 ≤ g j) (hs : pu_ns g m = n) (hn : n ≤ 600) (al : Int32) :
    ∃ S', fX3_thin S k al = some S' ∧ pu_M S' k (pu_th al (m - 2) (m, V, g, p)).1 (pu_th al (m - 2) (m, V, g, p)).2.1 (pu_th al (m - 2) (m, V, g, p)).2.2.1 (pu_th al (m - 2) (m, V, g, p)).2.2.2 ∧ pu_fm k S S' := by
  have hK : pu_K m (S.1 k).2 (S.1 (4 + k)).2 (S.1 (8 + k)).2 (fun j => j) (m, V, g, p) := ⟨Nat.le_refl _, fun j hj => hj, fun j j' a _ => a, fun j hj => ⟨h.2.1 j hj, h.2.2.1 j hj, h.2.2.2 j hj⟩, fun q hq hne => absurd rfl (hne q hq)⟩
  have hth : m - 2 + 1 < (m, V, g, p).1 ∨ m - 2 = 0 := by show m - 2 + 1 < m ∨ _; omega
  obtain ⟨t1, t2, t3, t4⟩ := pu_th_ok al (m - 2) (m, V, g, p) n hth hs hg hu
  have hgA : ∀ j, j < (pu_th al (m - 2) (m, V, g, p)).1 → 1 ≤ (pu_th al (m - 2) (m, V, g, p)).2.2.1 j ∧ (pu_th al (m - 2) (m, V, g, p)).2.2.1 j ≤ 600 := fun j hj => by
    refine ⟨t2 j hj, ?_⟩
    have a := pu_ns_mono (pu_th al (m - 2) (m, V, g, p)).2.2.1 (show j + 1 ≤ _ from hj)
    rw [pu_ns] at a
    omega
  have loop : ∃ (G' : Nat → Int32) (e' : Nat → Nat), fX3_thin_L14 k al qm_F ((S.1 k).1 - 1) ((S.1 k).1 - 2) S = some (qm_row S (4 + k) (nI m, G')) ∧ pu_K m (S.1 k).2 G' (S.1 (8 + k)).2 e' (pu_th al (m - 2) (m, V, g, p)) := by
    rw [h.1.1]
    have self : S = qm_row S (4 + k) (nI m, (S.1 (4 + k)).2) := by rw [← h.1.2.1]; exact (qm_row_self S (4 + k)).symm
    by_cases c : m < 2
    · refine ⟨(S.1 (4 + k)).2, fun j => j, ?_, ?_⟩
      · rw [show qm_F = 4294967295 + 1 from rfl, fX3_thin_L14, if_pos]
        · rw [← self]
        · rcases (show m = 0 ∨ m = 1 by omega) with q | q <;> subst q <;> decide
      · rw [show m - 2 = 0 by omega]
        exact hK
    · rw [pu_1, pk_sub (by omega), pu_2, pk_sub (by omega)]
      exact th_L hm h.1.2.1 h.1.2.2 rfl (m - 2) qm_F (m - 1) S (S.1 (4 + k)).2 (fun j => j) (m, V, g, p) (by rw [qm_F_big]; omega) self hK (fun _ _ => rfl) (by show m - 2 + 1 < m; omega) (by show m - 2 + 1 = m - 1; omega)
  obtain ⟨G', e', g1, g2⟩ := loop
  unfold fX3_thin
  rw [g1]
  simp only [Option.bind_some]
  have er : qm_row S (4 + k) (nI m, G') = pu_r3 S k (nI m, (S.1 k).2) (nI m, G') (nI m, (S.1 (8 + k)).2) := by
    have a1 : (nI m, (S.1 k).2) = S.1 k := by rw [← h.1.1]
    have a2 : (nI m, (S.1 (8 + k)).2) = S.1 (8 + k) := by rw [← h.1.2.2]
    rw [a1, a2, pu_r3_mid]
  rw [er]
  obtain ⟨S', d1, d2, d3⟩ := dr_is (S := S) hm g2 hgA
  rw [d1]
  exact ⟨S', rfl, d2, d3⟩
