/-! ===== Heap: the least number on top ===== -/
def pu_h (f : Nat → Int32) (n : Nat) : Prop := ∀ j, 0 < j → j < n → f ((j - 1) / 2) ≤ f j
theorem pu_h_top {f : Nat → Int32} {n : Nat} (h : pu_h f n) : ∀ j, j < n → f 0 ≤ f j := by
  intro j
  induction j using Nat.strongRecOn with
  | _ j ih =>
    intro hj
    by_cases h0 : j = 0
    · rw [h0]; exact pu_le_refl _
    · exact pu_le_trans (ih ((j - 1) / 2) (by omega) (by omega)) (h j (by omega) hj)
/-- the heap y holds n numbers, and is one -/
def pu_P (S : qm_S) (y n : Nat) (f : Nat → Int32) : Prop := (S.1 (20 + y)).1 = nI n ∧ (∀ j, j < n → (S.1 (20 + y)).2 j = f j) ∧ pu_h f n
theorem pu_upd_upd {f : Nat → Int32} {i : Nat} {a b : Int32} : upd (upd f i a) i b = upd f i b := by
  funext j
  unfold upd
  split <;> rfl
/-- a swap of what stands (thought of) at i and at j changes no count -/
theorem pu_cb_swap {P : Int32 → Bool} {f : Nat → Int32} {i j n : Nat} {x : Int32} (hi : i < n) (hj : j < n) (hij : i ≠ j) : pu_cb P (upd (upd f i (f j)) j x) n = pu_cb P (upd f i x) n := by
  have a := pu_cb_upd (P := P) (f := upd f i (f j)) (v := x) hj
  have b := pu_cb_upd (P := P) (f := f) (v := f j) hi
  have c := pu_cb_upd (P := P) (f := f) (v := x) hi
  rw [pk_un (Ne.symm hij)] at a
  omega
theorem he_push_L {S : qm_S} {y n : Nat} {x : Int32} (hn : n ≤ 600) : ∀ (fuel p : Nat) (S1 : qm_S) (f : Nat → Int32), p < n → p < fuel → S1 = qm_row S (20 + y) (nI n, f) →
    (∀ j, 0 < j → j < n → j ≠ p → upd f p x ((j - 1) / 2) ≤ upd f p x j) → (∀ j, 0 < p → 0 < j → j < n → (j - 1) / 2 = p → f ((p - 1) / 2) ≤ f j) →
    ∃ (q : Nat) (f' : Nat → Int32), fX2_push_L17 y x fuel (nI p) S1 = some (nI q, qm_row S (20 + y) (nI n, f')) ∧ q < n ∧ pu_h (upd f' q x) n ∧ ∀ P, pu_cb P (upd f' q x) n = pu_cb P (upd f p x) n := by
  intro fuel
  induction fuel with
  | zero => intro p S1 f h1 h2; omega
  | succ fuel ih =>
    intro p S1 f h1 h2 hS ha hb
    subst hS
    rw [fX2_push_L17, qm_row_at]
    by_cases c1 : p ≤ 0
    · rw [if_pos (by rw [pu_0]; exact nI_le c1 (by omega))]
      refine ⟨p, f, rfl, h1, fun j a b => ha j a b (by omega), fun _ => rfl⟩
    · rw [if_neg (by rw [pu_0]; exact nI_ge (by omega) (by omega)), pu_1, pk_sub (by omega), pu_2, pk_div (by omega) (by omega) (by omega)]
      generalize hq : (p - 1) / 2 = q
      have hqp : q < p := by omega
      rw [rw_at_in (n := n) rfl hn (by omega)]
      show ∃ _ _, (if x < f q then _ else _) = _ ∧ _
      by_cases c2 : x < f q
      · rw [if_pos c2, rw_put_in (n := n) rfl hn h1, qm_row_row]
        show ∃ _ _, fX2_push_L17 y x fuel (nI q) (qm_row S (20 + y) (nI n, upd f p (f q))) = _ ∧ _
        refine Exists.elim (ih q _ (upd f p (f q)) (by omega) (by omega) rfl (fun j j0 jn jq => ?_) (fun j q0 j0 jn jq => ?_)) (fun q2 ⟨f2, e1, e2, e3, e4⟩ => ⟨q2, f2, e1, e2, e3, fun P => (e4 P).trans (pu_cb_swap h1 (by omega) (by omega))⟩)
        · by_cases jp : j = p
          · subst jp
            rw [hq, pk_us, pk_un (by omega), pk_us]
            exact pu_lt_le' c2
          · by_cases j1 : (j - 1) / 2 = p
            · rw [j1, pk_un (by omega), pk_us, pk_un jq, pk_un jp]
              have := hb j (by omega) j0 jn j1
              rw [hq] at this
              exact this
            · by_cases j2 : (j - 1) / 2 = q
              · rw [j2, pk_us, pk_un jq, pk_un jp]
                have := ha j j0 jn jp
                rw [j2, pk_un (by omega), pk_un jp] at this
                exact pu_le_trans (pu_lt_le' c2) this
              · rw [pk_un j2, pk_un j1, pk_un jq, pk_un jp]
                have := ha j j0 jn jp
                rw [pk_un j1, pk_un jp] at this
                exact this
        · have hgq : f ((q - 1) / 2) ≤ f q := by
            have := ha q q0 (by omega) (by omega)
            rw [pk_un (by omega), pk_un (by omega)] at this
            exact this
          rw [pk_un (show (q - 1) / 2 ≠ p by omega)]
          by_cases jp : j = p
          · rw [jp, pk_us]; exact hgq
          · rw [pk_un jp]
            have := ha j j0 jn jp
            rw [jq, pk_un (by omega), pk_un jp] at this
            exact pu_le_trans hgq this
      · rw [if_neg c2]
        refine ⟨p, f, rfl, h1, fun j a b => ?_, fun _ => rfl⟩
        by_cases jp : j = p
        · subst jp
          rw [hq, pk_us, pk_un (by omega)]
          exact pu_not_lt.mp c2
        · exact ha j a b jp
theorem he_push {S : qm_S} {y n : Nat} {f : Nat → Int32} (h : pu_P S y n f) (hn : n < 600) (x : Int32) :
    ∃ R f', fX2_push S y x = some (qm_row S (20 + y) R) ∧ pu_P (qm_row S (20 + y) R) y (n + 1) f' ∧ ∀ P, pu_cb P f' (n + 1) = pu_cb P f n + pu_b (P x) := by
  obtain ⟨h1, h2, h3⟩ := h
  unfold fX2_push
  rw [h1, rw_ins_in h1 hn (Nat.le_refl n), Nat.sub_self]
  generalize hf0 : upd (va_cpy (S.1 (20 + y)).2 (S.1 (20 + y)).2 n (n + 1) 0) n x = f0
  have e0 : ∀ j, j < n → f0 j = f j := fun j hj => by
    rw [← hf0, pk_un (by omega), pk_cpy_out (by omega), h2 j hj]
  have en : f0 n = x := by rw [← hf0, pk_us]
  have eu : upd f0 n x = f0 := by
    funext j
    unfold upd
    split
    · next q => rw [q, en]
    · rfl
  obtain ⟨q, f', e1, e2, e3, e4⟩ := he_push_L (S := S) (y := y) (x := x) (n := n + 1) (by omega) qm_F n _ f0 (by omega) (by rw [qm_F_big]; omega) rfl (fun j a b c => by
      rw [eu, e0 j (by omega), e0 _ (by omega)]
      exact h3 j a (by omega)) (fun j a b c d => absurd d (by omega))
  rw [e1]
  simp only [Option.bind_some]
  rw [qm_row_at, rw_put_in (n := n + 1) rfl (by omega) e2, qm_row_row]
  refine ⟨_, upd f' q x, rfl, ⟨by rw [qm_row_at], fun j hj => by rw [qm_row_at], e3⟩, fun P => ?_⟩
  rw [e4 P, eu, pu_cb, en, pu_cb_congr e0]
theorem he_pop_L {S : qm_S} {y n : Nat} {t s : Int32} (hn : n ≤ 600) : ∀ (fuel p : Nat) (S1 : qm_S) (f : Nat → Int32), p < n → n < p + fuel → S1 = qm_row S (20 + y) (nI n, f) →
    (∀ j, 0 < j → j < n → (j - 1) / 2 ≠ p → upd f p s ((j - 1) / 2) ≤ upd f p s j) → (∀ j, 0 < p → 0 < j → j < n → (j - 1) / 2 = p → f ((p - 1) / 2) ≤ f j) →
    ∃ (q : Nat) (f' : Nat → Int32), fX2_pop_L43 y t s fuel (nI p) (nI (2 * p + 1)) S1 = some (nI q, qm_row S (20 + y) (nI n, f')) ∧ q < n ∧ pu_h (upd f' q s) n ∧ ∀ P, pu_cb P (upd f' q s) n = pu_cb P (upd f p s) n := by
  intro fuel
  induction fuel with
  | zero => intro p S1 f h1 h2; omega
  | succ fuel ih =>
    intro p S1 f h1 h2 hS ha hb
    subst hS
    rw [fX2_pop_L43, qm_row_at]
    show ∃ _ _, (if nI n ≤ nI (2 * p + 1) then _ else _) = _ ∧ _
    by_cases c1 : n ≤ 2 * p + 1
    · rw [if_pos (nI_le c1 (by omega))]
      refine ⟨p, f, rfl, h1, fun j a b => ha j a b (by omega), fun _ => rfl⟩
    · rw [if_neg (nI_ge (by omega) (by omega)), nI_1]
      simp only [qm_row_row]
      -- the lesser child b, and what is done with it
      have go : ∀ b, (b = 2 * p + 1 ∨ b = 2 * p + 2) → b < n → (∀ j, 0 < j → j < n → (j - 1) / 2 = p → f b ≤ f j) →
          ∃ (q : Nat) (f' : Nat → Int32), (if f b < s then fX2_pop_L43 y t s fuel (nI b) (2 * nI b + 1) (qm_row S (20 + y) (rw_put (nI n, f) (nI p) (f b))) else some (nI p, qm_row S (20 + y) (nI n, f))) = some (nI q, qm_row S (20 + y) (nI n, f')) ∧ q < n ∧ pu_h (upd f' q s) n ∧ ∀ P, pu_cb P (upd f' q s) n = pu_cb P (upd f p s) n := by
        intro b hb1 hb2 hmin
        by_cases c2 : f b < s
        · rw [if_pos c2, rw_put_in (n := n) rfl hn h1, pu_2, pk_mul, nI_1]
          show ∃ _ _, fX2_pop_L43 y t s fuel (nI b) (nI (2 * b + 1)) (qm_row S (20 + y) (nI n, upd f p (f b))) = _ ∧ _
          refine Exists.elim (ih b _ (upd f p (f b)) hb2 (by omega) rfl (fun j j0 jn jb => ?_) (fun j q0 j0 jn jb => ?_)) (fun q2 ⟨f2, e1, e2, e3, e4⟩ => ⟨q2, f2, e1, e2, e3, fun P => (e4 P).trans (pu_cb_swap h1 hb2 (by omega))⟩)
          · by_cases j1 : (j - 1) / 2 = p
            · rw [j1, pk_un (by omega), pk_us]
              by_cases j2 : j = b
              · rw [j2, pk_us]; exact pu_lt_le' c2
              · rw [pk_un j2, pk_un (by omega)]
                exact hmin j j0 jn j1
            · rw [pk_un jb, pk_un j1]
              by_cases j3 : j = p
              · rw [j3, pk_un (by omega), pk_us]
                rw [j3] at j0
                exact hb b j0 (by omega) hb2 (by omega)
              · have := ha j j0 jn j1
                rw [pk_un j1, pk_un j3] at this
                rw [pk_un (show j ≠ b by omega), pk_un j3]
                exact this
          · rw [show (b - 1) / 2 = p by omega, pk_us, pk_un (by omega)]
            have := ha j j0 jn (by omega)
            rw [jb, pk_un (by omega), pk_un (by omega)] at this
            exact this
        · rw [if_neg c2]
          refine ⟨p, f, rfl, h1, fun j a b2 => ?_, fun _ => rfl⟩
          by_cases j1 : (j - 1) / 2 = p
          · rw [j1, pk_us, pk_un (by omega)]
            exact pu_le_trans (pu_not_lt.mp c2) (hmin j a b2 j1)
          · exact ha j a b2 j1
      rw [rw_at_in (n := n) rfl hn (by omega)]
      by_cases c3 : n ≤ 2 * p + 1 + 1
      · rw [if_pos (nI_le c3 (by omega))]
        exact go (2 * p + 1) (Or.inl rfl) (by omega) (fun j a b c => by rw [show j = 2 * p + 1 by omega]; exact pu_le_refl _)
      · rw [if_neg (nI_ge (by omega) (by omega)), rw_at_in (n := n) rfl hn (by omega)]
        show ∃ _ _, (if f (2 * p + 1) ≤ f (2 * p + 1 + 1) then _ else _) = _ ∧ _
        by_cases c4 : f (2 * p + 1) ≤ f (2 * p + 1 + 1)
        · rw [if_pos c4]
          exact go (2 * p + 1) (Or.inl rfl) (by omega) (fun j a b c => by
            rcases (show j = 2 * p + 1 ∨ j = 2 * p + 1 + 1 by omega) with e | e
            · rw [e]; exact pu_le_refl _
            · rw [e]; exact c4)
        · rw [if_neg c4]
          exact go (2 * p + 1 + 1) (Or.inr rfl) (by omega) (fun j a b c => by
            rcases (show j = 2 * p + 1 ∨ j = 2 * p + 1 + 1 by omega) with e | e
            · rw [e]; exact pu_lt_le' (pu_not_le.mp c4)
            · rw [e]; exact pu_le_refl _)
theorem he_pop {S : qm_S} {y n : Nat} {f : Nat → Int32} (h : pu_P S y (n + 1) f) (hn : n + 1 ≤ 600) :
    ∃ R f', fX2_pop S y = some (f 0, qm_row S (20 + y) R) ∧ pu_P (qm_row S (20 + y) R) y n f' ∧ ∀ P, pu_cb P f' n + pu_b (P (f 0)) = pu_cb P f (n + 1) := by
  obtain ⟨h1, h2, h3⟩ := h
  unfold fX2_pop
  rw [h1, pu_1, pk_sub (by omega), show n + 1 - 1 = n by omega, rw_cut_in h1 hn (by omega), rw_at_in h1 hn (by omega), h2 n (by omega), pu_0, rw_at_in h1 hn (by omega), h2 0 (by omega)]
  by_cases h0 : n = 0
  · subst h0
    rw [show qm_F = 4294967295 + 1 from rfl, fX2_pop_L43, qm_row_at]
    rw [if_pos (show (nI 0, (S.1 (20 + y)).2).1 ≤ nI 1 from nI_le (by omega) (by omega))]
    simp only [Option.bind_some]
    rw [qm_row_at, qm_row_row]
    have e : rw_put (nI 0, (S.1 (20 + y)).2) (nI 0) (f 0) = (nI 0, (S.1 (20 + y)).2) := by
      unfold rw_put
      rw [if_neg]
      rintro ⟨-, q, -⟩
      exact q (pu_le_refl _)
    rw [e]
    refine ⟨_, f, rfl, ⟨by rw [qm_row_at], fun j hj => absurd hj (by omega), fun j _ hj => absurd hj (by omega)⟩, fun P => ?_⟩
    rw [pu_cb, pu_cb]
    rfl
  · obtain ⟨q, f', e1, e2, e3, e4⟩ := he_pop_L (S := S) (y := y) (t := f 0) (s := f n) (n := n) (by omega) qm_F 0 _ (S.1 (20 + y)).2 (by omega) (by rw [qm_F_big]; omega) rfl (fun j a b c => by
        rw [pk_un c, pk_un (by omega), h2 _ (by omega), h2 j (by omega)]
        exact h3 j a (by omega)) (fun j a => absurd a (by omega))
    rw [show nI 1 = nI (2 * 0 + 1) from rfl, e1]
    simp only [Option.bind_some]
    rw [qm_row_at, rw_put_in (n := n) rfl (by omega) e2, qm_row_row]
    refine ⟨_, upd f' q (f n), rfl, ⟨by rw [qm_row_at], fun j hj => by rw [qm_row_at], e3⟩, fun P => ?_⟩
    rw [e4 P]
    have a := pu_cb_upd (P := P) (f := (S.1 (20 + y)).2) (v := f n) (i := 0) (n := n) (by omega)
    have b : pu_cb P f (n + 1) = pu_cb P (S.1 (20 + y)).2 n + pu_b (P (f n)) := by
      rw [pu_cb, pu_cb_congr (f := f) (fun j hj => (h2 j (by omega)).symm)]
    rw [h2 0 (by omega)] at a
    omega
