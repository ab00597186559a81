/-! ===== MarkRow: what its marks are ===== -/
/-- sums of gaps -/
def pu_ns (g : Nat → Nat) : Nat → Nat
  | 0 => 0
  | n + 1 => pu_ns g n + g n
theorem pu_ns_congr {g g' : Nat → Nat} : ∀ {n : Nat}, (∀ j, j < n → g j = g' j) → pu_ns g n = pu_ns g' n
  | 0, _ => rfl
  | n + 1, h => by rw [pu_ns, pu_ns, pu_ns_congr (fun j q => h j (by omega)), h n (by omega)]
theorem pu_ns_mono (g : Nat → Nat) : ∀ {a b : Nat}, a ≤ b → pu_ns g a ≤ pu_ns g b
  | a, 0, h => by rw [show a = 0 by omega]; exact Nat.le_refl _
  | a, b + 1, h => by
    by_cases e : a = b + 1
    · rw [e]; exact Nat.le_refl _
    · rw [pu_ns]
      exact Nat.le_trans (pu_ns_mono g (by omega)) (Nat.le_add_right _ _)
theorem pu_sum_ns {f : Nat → Int32} {g : Nat → Nat} : ∀ {n : Nat}, (∀ j, j < n → f j = nI (g j)) → pu_sum f n = nI (pu_ns g n)
  | 0, _ => rfl
  | n + 1, h => by rw [pu_sum, pu_ns, pu_sum_ns (fun j q => h j (by omega)), h n (by omega), nI_add]
/-- the marks of counter k: m of them, values, gaps, spreads -/
def pu_M (S : qm_S) (k m : Nat) (V : Nat → Int32) (g : Nat → Nat) (p : Nat → Int32) : Prop :=
  ((S.1 k).1 = nI m ∧ (S.1 (4 + k)).1 = nI m ∧ (S.1 (8 + k)).1 = nI m) ∧ (∀ j, j < m → (S.1 k).2 j = V j) ∧ (∀ j, j < m → (S.1 (4 + k)).2 j = nI (g j)) ∧ ∀ j, j < m → (S.1 (8 + k)).2 j = p j
theorem pu_M.congr {S : qm_S} {k m : Nat} {V V' : Nat → Int32} {g g' : Nat → Nat} {p p' : Nat → Int32} (h : pu_M S k m V g p) (a : ∀ j, j < m → V j = V' j) (b : ∀ j, j < m → g j = g' j) (c : ∀ j, j < m → p j = p' j) : pu_M S k m V' g' p' :=
  ⟨h.1, fun j q => (h.2.1 j q).trans (a j q), fun j q => (h.2.2.1 j q).trans (by rw [b j q]), fun j q => (h.2.2.2 j q).trans (c j q)⟩
theorem pu_M.of {S S' : qm_S} {k m : Nat} {V : Nat → Int32} {g : Nat → Nat} {p : Nat → Int32} (h : pu_M S k m V g p) (a : S'.1 k = S.1 k) (b : S'.1 (4 + k) = S.1 (4 + k)) (c : S'.1 (8 + k) = S.1 (8 + k)) : pu_M S' k m V g p := by
  unfold pu_M
  rw [a, b, c]
  exact h
section PuMark
variable {S : qm_S} {k m : Nat} {V : Nat → Int32} {g : Nat → Nat} {p : Nat → Int32}
theorem mk_v (h : pu_M S k m V g p) (hm : m ≤ 600) {j : Nat} (hj : j < m) : rw_at (S.1 k) (nI j) = V j := by
  rw [rw_at_in h.1.1 hm hj, h.2.1 j hj]
theorem mk_g (h : pu_M S k m V g p) (hm : m ≤ 600) {j : Nat} (hj : j < m) : rw_at (S.1 (4 + k)) (nI j) = nI (g j) := by
  rw [rw_at_in h.1.2.1 hm hj, h.2.2.1 j hj]
theorem mk_p (h : pu_M S k m V g p) (hm : m ≤ 600) {j : Nat} (hj : j < m) : rw_at (S.1 (8 + k)) (nI j) = p j := by
  rw [rw_at_in h.1.2.2 hm hj, h.2.2.2 j hj]
theorem mk_rankFrom (h : pu_M S k m V g p) (hm : m ≤ 600) {j : Nat} (hj : j < m) : fX3_rankFrom S k (nI j) = some (nI (pu_ns g (j + 1))) := by
  unfold fX3_rankFrom
  rw [nI_1, so_is h.1.2.1 hm (by omega), show min (j + 1) m = j + 1 by omega, pu_sum_ns (fun i q => h.2.2.1 i (by omega))]
  rfl
theorem mk_rankTo (h : pu_M S k m V g p) (hm : m ≤ 600) {j : Nat} (hj : j < m) : fX3_rankTo S k (nI j) = some (nI (pu_ns g (j + 1)) + p j) := by
  unfold fX3_rankTo
  rw [mk_rankFrom h hm hj, mk_p h hm hj]
  rfl
/-- the greatest width of the first marks -/
def pu_wid (g : Nat → Nat) (p : Nat → Int32) : Nat → Int32
  | 0 => 0
  | n + 1 => if pu_wid g p n < nI (g n) + p n then nI (g n) + p n else pu_wid g p n
theorem mk_wid_L (h : pu_M S k m V g p) (hm : m ≤ 600) : ∀ (fuel a : Nat), a ≤ m → m < a + fuel → fX3_greatestWidth_L4 k fuel (pu_wid g p a) (nI a) S = some (pu_wid g p m) := by
  intro fuel
  induction fuel with
  | zero => intro a h1 h2; omega
  | succ fuel ih =>
    intro a h1 h2
    rw [fX3_greatestWidth_L4, h.1.1]
    by_cases c : m ≤ a
    · rw [if_pos (nI_le c (by omega)), show a = m by omega]
    · rw [if_neg (nI_ge (by omega) (by omega)), mk_g h hm (by omega), mk_p h hm (by omega), nI_1]
      exact ih (a + 1) (by omega) (by omega)
theorem mk_widest (h : pu_M S k m V g p) (hm : m ≤ 600) : fX3_greatestWidth S k = some (pu_wid g p m) := by
  unfold fX3_greatestWidth
  rw [show fX3_greatestWidth_L4 k qm_F 0 0 S = _ from mk_wid_L h hm qm_F 0 (by omega) (by rw [qm_F_big]; omega)]
  rfl
theorem mk_firstAbove (h : pu_M S k m V g p) (hm : m ≤ 600) (hu : pu_up V m) (x : Int32) : fX3_firstAbove S k x = some (nI (pu_cnt V x m)) := by
  unfold fX3_firstAbove
  rw [na_is h.1.1 hm (hu.congr h.2.1), pu_cnt_congr h.2.1]
  rfl
theorem mk_atLeast (h : pu_M S k m V g p) (hm : m ≤ 600) (hu : pu_up V m) (x : Int32) : fX3_atLeastNotAbove S k x = some (nI (pu_ns g (pu_cnt V x m))) := by
  unfold fX3_atLeastNotAbove
  have hc := pu_cnt_le V x m
  rw [na_is h.1.1 hm (hu.congr h.2.1), pu_cnt_congr h.2.1]
  simp only [Option.bind_some]
  rw [so_is h.1.2.1 hm (by omega), show min (pu_cnt V x m) m = pu_cnt V x m by omega, pu_sum_ns (fun i q => h.2.2.1 i (by omega))]
  rfl
/-- by how much mark i is off the rank r; the first mark that is off by least -/
def pu_off (r : Int32) (g : Nat → Nat) (p : Nat → Int32) (i : Nat) : Int32 :=
  if r - nI (pu_ns g (i + 1)) < nI (pu_ns g (i + 1)) + p i - r then nI (pu_ns g (i + 1)) + p i - r else r - nI (pu_ns g (i + 1))
def pu_best (r : Int32) (g : Nat → Nat) (p : Nat → Int32) : Nat → Nat
  | 0 => 0
  | n + 1 => if pu_off r g p n < pu_off r g p (pu_best r g p n) then n else pu_best r g p n
theorem pu_best_lt (r : Int32) (g : Nat → Nat) (p : Nat → Int32) : ∀ n : Nat, 0 < n → pu_best r g p n < n
  | 0, h => absurd h (by omega)
  | n + 1, _ => by
    rw [pu_best]
    split
    · omega
    · by_cases h : n = 0
      · subst h; rw [pu_best]; omega
      · have := pu_best_lt r g p n (by omega); omega
theorem mk_ans_L (h : pu_M S k m V g p) (hm : m ≤ 600) (r : Int32) : ∀ (fuel a : Nat), 0 < a → a ≤ m → m < a + fuel →
    fX3_answering_L19 k r fuel (nI (pu_best r g p a)) (pu_off r g p (pu_best r g p a)) (nI (pu_ns g a)) (nI a) S = some (nI (pu_best r g p m)) := by
  intro fuel
  induction fuel with
  | zero => intro a h0 h1 h2; omega
  | succ fuel ih =>
    intro a h0 h1 h2
    rw [fX3_answering_L19, h.1.1]
    by_cases c : m ≤ a
    · rw [if_pos (nI_le c (by omega)), show a = m by omega]
    · rw [if_neg (nI_ge (by omega) (by omega)), mk_g h hm (by omega), mk_p h hm (by omega), nI_1, nI_add, show pu_ns g a + g a = pu_ns g (a + 1) from rfl]
      rw [show (if r - nI (pu_ns g (a + 1)) < nI (pu_ns g (a + 1)) + p a - r then nI (pu_ns g (a + 1)) + p a - r else r - nI (pu_ns g (a + 1))) = pu_off r g p a from rfl]
      have e : pu_best r g p (a + 1) = if pu_off r g p a < pu_off r g p (pu_best r g p a) then a else pu_best r g p a := rfl
      by_cases c2 : pu_off r g p (pu_best r g p a) ≤ pu_off r g p a
      · rw [if_pos c2]
        have e2 : pu_best r g p (a + 1) = pu_best r g p a := by rw [e, if_neg (pu_not_lt.mpr c2)]
        have := ih (a + 1) (by omega) (by omega) (by omega)
        rw [e2] at this
        exact this
      · rw [if_neg c2]
        have e2 : pu_best r g p (a + 1) = a := by rw [e, if_pos (pu_not_le.mp c2)]
        have := ih (a + 1) (by omega) (by omega) (by omega)
        rw [e2] at this
        exact this
theorem mk_offBy (h : pu_M S k m V g p) (hm : m ≤ 600) (r : Int32) {j : Nat} (hj : j < m) : fX3_offBy S k (nI j) r = some (pu_off r g p j) := by
  unfold fX3_offBy
  rw [mk_rankFrom h hm hj, mk_rankTo h hm hj]
  rfl
theorem mk_answering (h : pu_M S k m V g p) (hm : m ≤ 600) (hm0 : 0 < m) (r : Int32) : fX3_answering S k r = some (nI (pu_best r g p m)) := by
  unfold fX3_answering
  rw [show (0 : Int32) = nI 0 from rfl, mk_offBy h hm r hm0, mk_rankFrom h hm hm0]
  simp only [Option.bind_some]
  have hb : pu_best r g p (0 + 1) = 0 := by rw [pu_best]; split <;> rfl
  have := mk_ans_L h hm r qm_F 1 (by omega) hm0 (by rw [qm_F_big]; omega)
  rw [show pu_best r g p 1 = 0 from hb] at this
  rw [show (1 : Int32) = nI 1 from rfl, show pu_ns g (0 + 1) = pu_ns g 1 from rfl, this]
  rfl
end PuMark
/-- which rows belong to counter k -/
def pu_own (k q : Nat) : Prop := q = k ∨ q = 4 + k ∨ q = 8 + k ∨ q = 12 + k ∨ q = 16 + k ∨ q = 20 + 2 * k ∨ q = 20 + (2 * k + 1)
/-- nothing else has changed -/
def pu_fr (k : Nat) (S S' : qm_S) : Prop := (∀ q, ¬ pu_own k q → S'.1 q = S.1 q) ∧ ∀ j, j ≠ k → S'.2.1 j = S.2.1 j ∧ S'.2.2 j = S.2.2 j
theorem pu_fr.rf {k : Nat} {S : qm_S} : pu_fr k S S := ⟨fun _ _ => rfl, fun _ _ => ⟨rfl, rfl⟩⟩
theorem pu_fr.tr {k : Nat} {S S' S'' : qm_S} (a : pu_fr k S S') (b : pu_fr k S' S'') : pu_fr k S S'' := ⟨fun q h => (b.1 q h).trans (a.1 q h), fun j h => ⟨(b.2 j h).1.trans (a.2 j h).1, (b.2 j h).2.trans (a.2 j h).2⟩⟩
theorem pu_fr.row {k q : Nat} {S : qm_S} {R : qm_R} (h : pu_own k q) : pu_fr k S (qm_row S q R) := ⟨fun j hj => qm_row_ne S R (fun e => hj (e ▸ h)), fun _ _ => ⟨rfl, rfl⟩⟩
theorem pu_fr.th {k : Nat} {S : qm_S} {v : Int32} : pu_fr k S (qm_th S k v) := ⟨fun _ _ => rfl, fun j h => ⟨by simp [qm_th, va_up, h], rfl⟩⟩
theorem pu_fr.to {k : Nat} {S : qm_S} {v : Int32} : pu_fr k S (qm_to S k v) := ⟨fun _ _ => rfl, fun j h => ⟨rfl, by simp [qm_to, va_up, h]⟩⟩
/-- three rows anew: the marks -/
def pu_r3 (S : qm_S) (k : Nat) (A B C : qm_R) : qm_S := qm_row (qm_row (qm_row S k A) (4 + k) B) (8 + k) C
section PuR3
variable {S : qm_S} {k : Nat} {A B C : qm_R}
theorem pu_r3_a : (pu_r3 S k A B C).1 k = A := by
  unfold pu_r3
  rw [qm_row_ne _ _ (show k ≠ 8 + k by omega), qm_row_ne _ _ (show k ≠ 4 + k by omega), qm_row_at]
theorem pu_r3_b : (pu_r3 S k A B C).1 (4 + k) = B := by
  unfold pu_r3
  rw [qm_row_ne _ _ (show 4 + k ≠ 8 + k by omega), qm_row_at]
theorem pu_r3_c : (pu_r3 S k A B C).1 (8 + k) = C := by
  unfold pu_r3
  rw [qm_row_at]
theorem pu_r3_ne {q : Nat} (h1 : q ≠ k) (h2 : q ≠ 4 + k) (h3 : q ≠ 8 + k) : (pu_r3 S k A B C).1 q = S.1 q := by
  unfold pu_r3
  rw [qm_row_ne _ _ h3, qm_row_ne _ _ h2, qm_row_ne _ _ h1]
theorem pu_r3_fr : pu_fr k S (pu_r3 S k A B C) :=
  ((pu_fr.row (Or.inl rfl)).tr (pu_fr.row (Or.inr (Or.inl rfl)))).tr (pu_fr.row (Or.inr (Or.inr (Or.inl rfl))))
theorem pu_r3_s : (pu_r3 S k A B C).2 = S.2 := rfl
end PuR3
/-- no other rows than the marks' have changed -/
def pu_fm (k : Nat) (S S' : qm_S) : Prop := (∀ q, q ≠ k → q ≠ 4 + k → q ≠ 8 + k → S'.1 q = S.1 q) ∧ S'.2 = S.2
theorem pu_fm.fr {k : Nat} {S S' : qm_S} (h : pu_fm k S S') : pu_fr k S S' := ⟨fun q hq => h.1 q (fun e => hq (Or.inl e)) (fun e => hq (Or.inr (Or.inl e))) (fun e => hq (Or.inr (Or.inr (Or.inl e)))), fun j _ => by rw [h.2]; exact ⟨rfl, rfl⟩⟩
theorem pu_fm.rf {k : Nat} {S : qm_S} : pu_fm k S S := ⟨fun _ _ _ _ => rfl, rfl⟩
theorem pu_fm.tr {k : Nat} {S S' S'' : qm_S} (a : pu_fm k S S') (b : pu_fm k S' S'') : pu_fm k S S'' := ⟨fun q h1 h2 h3 => (b.1 q h1 h2 h3).trans (a.1 q h1 h2 h3), b.2.trans a.2⟩
theorem pu_r3_fm {S : qm_S} {k : Nat} {A B C : qm_R} : pu_fm k S (pu_r3 S k A B C) := ⟨fun _ h1 h2 h3 => pu_r3_ne h1 h2 h3, rfl⟩
/-! add -/
theorem mk_add {S : qm_S} {k m : Nat} {V : Nat → Int32} {g : Nat → Nat} {p : Nat → Int32} (h : pu_M S k m V g p) (hm : m < 600) (hu : pu_up V m) (x : Int32) :
    ∃ S', fX3_add S k x = some S' ∧ pu_M S' k (m + 1) (pu_ins V (pu_cnt V x m) x) (pu_ins g (pu_cnt V x m) 1) (pu_ins p (pu_cnt V x m) (if pu_cnt V x m < m then nI (g (pu_cnt V x m)) + p (pu_cnt V x m) - 1 else 0)) ∧ pu_fm k S S' := by
  have hc := pu_cnt_le V x m
  have key : ∀ w : Int32, (∀ j, j < m + 1 → upd (va_cpy (S.1 k).2 (S.1 k).2 (pu_cnt V x m) (pu_cnt V x m + 1) (m - pu_cnt V x m)) (pu_cnt V x m) x j = pu_ins V (pu_cnt V x m) x j) ∧ (∀ j, j < m + 1 → upd (va_cpy (S.1 (4 + k)).2 (S.1 (4 + k)).2 (pu_cnt V x m) (pu_cnt V x m + 1) (m - pu_cnt V x m)) (pu_cnt V x m) 1 j = nI (pu_ins g (pu_cnt V x m) 1 j)) ∧ ∀ j, j < m + 1 → upd (va_cpy (S.1 (8 + k)).2 (S.1 (8 + k)).2 (pu_cnt V x m) (pu_cnt V x m + 1) (m - pu_cnt V x m)) (pu_cnt V x m) w j = pu_ins p (pu_cnt V x m) w j := by
    intro w
    refine ⟨fun j hj => ?_, fun j hj => ?_, fun j hj => ?_⟩
    · rw [pu_ins_eq hc (by omega)]
      unfold pu_ins
      split
      · exact h.2.1 j (by omega)
      · split
        · rfl
        · exact h.2.1 _ (by omega)
    · rw [pu_ins_eq hc (by omega)]
      unfold pu_ins
      split
      · exact h.2.2.1 j (by omega)
      · split
        · rfl
        · exact h.2.2.1 _ (by omega)
    · rw [pu_ins_eq hc (by omega)]
      unfold pu_ins
      split
      · exact h.2.2.2 j (by omega)
      · split
        · rfl
        · exact h.2.2.2 _ (by omega)
  unfold fX3_add
  rw [mk_firstAbove h (by omega) hu]
  simp only [Option.bind_some]
  rw [qm_row_ne _ _ (show 4 + k ≠ k by omega), qm_row_ne _ _ (show 8 + k ≠ 4 + k by omega), qm_row_ne _ _ (show 8 + k ≠ k by omega), rw_ins_in h.1.1 hm hc, rw_ins_in h.1.2.1 hm hc, h.1.1]
  by_cases c : pu_cnt V x m < m
  · rw [if_neg (nI_ge c (by omega)), if_pos c, rw_ins_in h.1.2.2 hm hc, mk_g h (by omega) c, mk_p h (by omega) c]
    refine ⟨_, rfl, ?_, pu_r3_fm⟩
    obtain ⟨k1, k2, k3⟩ := key (nI (g (pu_cnt V x m)) + p (pu_cnt V x m) - 1)
    unfold pu_M
    rw [show ∀ A B C, qm_row (qm_row (qm_row S k A) (4 + k) B) (8 + k) C = pu_r3 S k A B C from fun _ _ _ => rfl, pu_r3_a, pu_r3_b, pu_r3_c]
    exact ⟨⟨rfl, rfl, rfl⟩, k1, k2, k3⟩
  · rw [if_pos (nI_le (by omega) (by omega)), if_neg c, rw_ins_in h.1.2.2 hm hc]
    refine ⟨_, rfl, ?_, pu_r3_fm⟩
    obtain ⟨k1, k2, k3⟩ := key 0
    unfold pu_M
    rw [show ∀ A B C, qm_row (qm_row (qm_row S k A) (4 + k) B) (8 + k) C = pu_r3 S k A B C from fun _ _ _ => rfl, pu_r3_a, pu_r3_b, pu_r3_c]
    exact ⟨⟨rfl, rfl, rfl⟩, k1, k2, k3⟩
