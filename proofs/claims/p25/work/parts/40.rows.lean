/-! ===== rows as plain numbers ===== -/
theorem pu_600 : (600 : Int32) = nI 600 := rfl
theorem pu_0 : (0 : Int32) = nI 0 := rfl
theorem pu_1 : (1 : Int32) = nI 1 := rfl
theorem pu_2 : (2 : Int32) = nI 2 := rfl
theorem pu_lt {a b : Nat} (ha : a < 2 ^ 31) (hb : b < 2 ^ 31) : nI a < nI b ↔ a < b := nI_ltI ha hb
theorem pu_le {a b : Nat} (ha : a < 2 ^ 31) (hb : b < 2 ^ 31) : nI a ≤ nI b ↔ a ≤ b := nI_leI ha hb
theorem pu_lt_irrefl (x : Int32) : ¬ x < x := fun h => absurd (Int32.lt_iff_toInt_lt.mp h) (by omega)
theorem pu_not_lt {x y : Int32} : ¬ x < y ↔ y ≤ x := by
  rw [Int32.lt_iff_toInt_lt, Int32.le_iff_toInt_le]; omega
theorem pu_not_le {x y : Int32} : ¬ x ≤ y ↔ y < x := by
  rw [Int32.lt_iff_toInt_lt, Int32.le_iff_toInt_le]; omega
theorem pu_le_trans {x y z : Int32} (h : x ≤ y) (h2 : y ≤ z) : x ≤ z := by
  rw [Int32.le_iff_toInt_le] at *; omega
theorem pu_le_lt {x y z : Int32} (h : x ≤ y) (h2 : y < z) : x < z := by
  rw [Int32.le_iff_toInt_le] at h; rw [Int32.lt_iff_toInt_lt] at *; omega
theorem pu_lt_le {x y z : Int32} (h : x < y) (h2 : y ≤ z) : x < z := by
  rw [Int32.le_iff_toInt_le] at h2; rw [Int32.lt_iff_toInt_lt] at *; omega
theorem pu_lt_le' {x y : Int32} (h : x < y) : x ≤ y := by
  rw [Int32.lt_iff_toInt_lt] at h; rw [Int32.le_iff_toInt_le]; omega
theorem pu_le_refl (x : Int32) : x ≤ x := by rw [Int32.le_iff_toInt_le]; omega
theorem pu_antisymm {x y : Int32} (h : x ≤ y) (h2 : y ≤ x) : x = y := by
  rw [Int32.le_iff_toInt_le] at h h2
  exact Int32.toInt_inj.mp (by omega)
section PuRows
variable {R : qm_R} {n i : Nat} {v : Int32}
theorem rw_hd_nI (hR : R.1 = nI n) (hn : n ≤ 600) (hi : i < n) : rw_hd R (nI i) :=
  ⟨nI_pos (by omega), by rw [hR]; exact nI_ge hi (by omega), fun q => nI_ge (a := i) (b := 600) (by omega) (by omega) q⟩
theorem rw_at_in (hR : R.1 = nI n) (hn : n ≤ 600) (hi : i < n) : rw_at R (nI i) = R.2 i := by
  unfold rw_at
  rw [if_pos (rw_hd_nI hR hn hi), nI_clamp (by omega)]
theorem rw_at_out (hR : R.1 = nI n) (hi : n ≤ i) (h2 : i < 2 ^ 31) : rw_at R (nI i) = 0 := by
  unfold rw_at
  rw [if_neg]
  rintro ⟨-, h, -⟩
  exact h (by rw [hR]; exact nI_le hi h2)
theorem rw_at_neg {p : Int32} (h : p < 0) : rw_at R p = 0 := by
  unfold rw_at
  rw [if_neg]
  rintro ⟨q, -⟩
  exact q h
theorem rw_put_in (hR : R.1 = nI n) (hn : n ≤ 600) (hi : i < n) : rw_put R (nI i) v = (nI n, upd R.2 i v) := by
  unfold rw_put
  rw [if_pos (rw_hd_nI hR hn hi), nI_clamp (by omega), hR]
theorem rw_ins_in (hR : R.1 = nI n) (hn : n < 600) (hi : i ≤ n) : rw_ins R (nI i) v = (nI (n + 1), upd (va_cpy R.2 R.2 i (i + 1) (n - i)) i v) := by
  unfold rw_ins
  rw [if_neg (nI_pos (by omega)), hR, if_neg (nI_nlt hi (by omega)), if_pos (by rw [pu_600]; exact nI_lt (by omega) (by omega)), nI_1, nI_1, pk_sub hi, nI_clamp (by omega), nI_clamp (by omega), nI_clamp (by omega)]
theorem rw_cut_in (hR : R.1 = nI n) (hn : n ≤ 600) (hi : i ≤ n) : rw_cut R (nI i) = (nI i, R.2) := by
  unfold rw_cut
  rw [if_neg (nI_pos (by omega)), hR]
  by_cases h : i = n
  · subst h
    rw [if_pos (pu_le_refl _), ← hR]
  · rw [if_neg (nI_ge (by omega) (by omega))]
theorem rw_gro_in (hR : R.1 = nI n) (hi : n ≤ i) (h6 : i ≤ 600) : rw_gro R (nI i) = (nI i, R.2) := by
  unfold rw_gro
  rw [hR]
  by_cases h : i = n
  · subst h
    rw [if_pos (pu_le_refl _), ← hR]
  · rw [if_neg (nI_ge (by omega) (by omega)), if_neg (by rw [pu_600]; exact nI_nlt h6 (by omega))]
end PuRows
/-- with v put in at place i -/
def pu_ins {α : Type} (f : Nat → α) (i : Nat) (v : α) : Nat → α := fun j => if j < i then f j else if j = i then v else f (j - 1)
theorem pu_ins_eq {f : Nat → Int32} {i n j : Nat} {v : Int32} (hi : i ≤ n) (hj : j ≤ n) : upd (va_cpy f f i (i + 1) (n - i)) i v j = pu_ins f i v j := by
  unfold upd va_cpy pu_ins
  by_cases h1 : j < i
  · rw [if_neg (by omega), if_neg (by omega), if_pos h1]
  · by_cases h2 : j = i
    · rw [if_pos h2, if_neg h1, if_pos h2]
    · rw [if_neg h2, if_pos (by omega), if_neg h1, if_neg h2]
      congr 1
      omega
/-- sums and counts over the first n -/
def pu_sum (f : Nat → Int32) : Nat → Int32
  | 0 => 0
  | n + 1 => pu_sum f n + f n
def pu_cnt (f : Nat → Int32) (x : Int32) : Nat → Nat
  | 0 => 0
  | n + 1 => pu_cnt f x n + (if f n ≤ x then 1 else 0)
theorem pu_sum_congr {f f' : Nat → Int32} : ∀ {n : Nat}, (∀ j, j < n → f j = f' j) → pu_sum f n = pu_sum f' n
  | 0, _ => rfl
  | n + 1, h => by rw [pu_sum, pu_sum, pu_sum_congr (fun j q => h j (by omega)), h n (by omega)]
theorem pu_cnt_congr {f f' : Nat → Int32} {x : Int32} : ∀ {n : Nat}, (∀ j, j < n → f j = f' j) → pu_cnt f x n = pu_cnt f' x n
  | 0, _ => rfl
  | n + 1, h => by rw [pu_cnt, pu_cnt, pu_cnt_congr (fun j q => h j (by omega)), h n (by omega)]
theorem pu_cnt_le (f : Nat → Int32) (x : Int32) : ∀ n : Nat, pu_cnt f x n ≤ n
  | 0 => Nat.le_refl 0
  | n + 1 => by
    have := pu_cnt_le f x n
    rw [pu_cnt]
    split <;> omega
theorem pu_cnt_all {f : Nat → Int32} {x : Int32} : ∀ {n : Nat}, (∀ j, j < n → f j ≤ x) → pu_cnt f x n = n
  | 0, _ => rfl
  | n + 1, h => by rw [pu_cnt, pu_cnt_all (fun j q => h j (by omega)), if_pos (h n (by omega))]
theorem pu_cnt_none {f : Nat → Int32} {x : Int32} : ∀ {n c : Nat}, c ≤ n → (∀ j, c ≤ j → j < n → x < f j) → pu_cnt f x n = pu_cnt f x c
  | 0, c, hc, _ => by rw [show c = 0 by omega]
  | n + 1, c, hc, h => by
    by_cases hcn : c = n + 1
    · rw [hcn]
    · rw [pu_cnt, if_neg (pu_not_le.mpr (h n (by omega) (by omega))), pu_cnt_none (by omega) (fun j a b => h j a (by omega)), Nat.add_zero]
theorem pu_cnt_is {f : Nat → Int32} {x : Int32} {n c : Nat} (hc : c ≤ n) (h1 : ∀ j, j < c → f j ≤ x) (h2 : ∀ j, c ≤ j → j < n → x < f j) : pu_cnt f x n = c := by
  rw [pu_cnt_none hc h2, pu_cnt_all h1]
/-- rising -/
def pu_up (f : Nat → Int32) (n : Nat) : Prop := ∀ i j, i ≤ j → j < n → f i ≤ f j
theorem pu_up.congr {f f' : Nat → Int32} {n : Nat} (h : pu_up f n) (e : ∀ j, j < n → f' j = f j) : pu_up f' n := fun i j hij hj => by
  rw [e i (by omega), e j hj]
  exact h i j hij hj
theorem pu_cnt_up {f : Nat → Int32} {x : Int32} : ∀ {n : Nat}, pu_up f n → (∀ j, j < pu_cnt f x n → f j ≤ x) ∧ ∀ j, pu_cnt f x n ≤ j → j < n → x < f j
  | 0, _ => ⟨fun j h => absurd h (by simp [pu_cnt]), fun j _ h => absurd h (by omega)⟩
  | n + 1, hu => by
    obtain ⟨a, b⟩ := pu_cnt_up (x := x) (n := n) (fun i j hij hj => hu i j hij (by omega))
    have hle := pu_cnt_le f x n
    rw [pu_cnt]
    by_cases h : f n ≤ x
    · rw [if_pos h]
      have : pu_cnt f x n = n := pu_cnt_all (fun j hj => pu_le_trans (hu j n (by omega) (by omega)) h)
      rw [this]
      exact ⟨fun j hj => pu_le_trans (hu j n (by omega) (by omega)) h, fun j h1 h2 => absurd h1 (by omega)⟩
    · rw [if_neg h, Nat.add_zero]
      refine ⟨a, fun j h1 h2 => ?_⟩
      by_cases hj : j = n
      · rw [hj]; exact pu_not_le.mp h
      · exact b j h1 (by omega)
theorem qm_F_big : qm_F = 4294967296 := rfl
/-! sumOfFirst -/
theorem so_L {S : qm_S} {r n i : Nat} (hR : (S.1 r).1 = nI n) (hn : n ≤ 600) (hi : i < 2 ^ 31) : ∀ (fuel a : Nat), a ≤ i → a ≤ n → min i n < a + fuel →
    fX4_sumOfFirst_L4 r (nI i) fuel (pu_sum (S.1 r).2 a) (nI a) S = some (pu_sum (S.1 r).2 (min i n)) := by
  intro fuel
  induction fuel with
  | zero => intro a h1 h2 h3; omega
  | succ fuel ih =>
    intro a h1 h2 h3
    rw [fX4_sumOfFirst_L4]
    by_cases c1 : i ≤ a
    · rw [if_pos (nI_le c1 (by omega)), show min i n = a by omega]
    · rw [if_neg (nI_ge (by omega) hi), hR]
      by_cases c2 : n ≤ a
      · rw [if_pos (nI_le c2 (by omega)), show min i n = a by omega]
      · rw [if_neg (nI_ge (by omega) (by omega)), rw_at_in hR hn (by omega), nI_1]
        exact ih (a + 1) (by omega) (by omega) (by omega)
theorem so_is {S : qm_S} {r n i : Nat} (hR : (S.1 r).1 = nI n) (hn : n ≤ 600) (hi : i < 2 ^ 31) : fX4_sumOfFirst S r (nI i) = some (pu_sum (S.1 r).2 (min i n)) := by
  unfold fX4_sumOfFirst
  rw [show (0 : Int32) = pu_sum (S.1 r).2 0 from rfl]
  rw [show fX4_sumOfFirst_L4 r (nI i) qm_F (pu_sum (S.1 r).2 0) (pu_sum (S.1 r).2 0) S = _ from so_L hR hn hi qm_F 0 (by omega) (by omega) (by rw [qm_F_big]; omega)]
  rfl
/-! notAbove -/
theorem na_L {S : qm_S} {r n : Nat} {x : Int32} (hR : (S.1 r).1 = nI n) (hn : n ≤ 600) (hu : pu_up (S.1 r).2 n) : ∀ (fuel a b : Nat), a ≤ b → b ≤ n → b < a + fuel → (∀ j, j < a → (S.1 r).2 j ≤ x) → (∀ j, b ≤ j → j < n → x < (S.1 r).2 j) →
    fX4_notAbove_L7 r x fuel (nI a) (nI b) S = some (nI (pu_cnt (S.1 r).2 x n)) := by
  intro fuel
  induction fuel with
  | zero => intro a b h1 h2 h3; omega
  | succ fuel ih =>
    intro a b h1 h2 h3 h4 h5
    rw [fX4_notAbove_L7]
    by_cases c1 : b ≤ a
    · rw [if_pos (nI_le c1 (by omega))]
      have : b = a := by omega
      subst this
      rw [pu_cnt_is h2 h4 h5]
    · rw [if_neg (nI_ge (by omega) (by omega)), nI_add, pu_2, pk_div (by omega) (by omega) (by omega)]
      have hm : (a + b) / 2 < b := by omega
      have hm2 : a ≤ (a + b) / 2 := by omega
      rw [rw_at_in hR hn (by omega)]
      by_cases c2 : x < (S.1 r).2 ((a + b) / 2)
      · rw [if_pos c2]
        exact ih a _ hm2 (by omega) (by omega) h4 (fun j q1 q2 => pu_lt_le c2 (hu _ j q1 q2))
      · rw [if_neg c2, nI_1]
        exact ih _ b (by omega) h2 (by omega) (fun j q => pu_le_trans (hu j _ (by omega) (by omega)) (pu_not_lt.mp c2)) h5
theorem na_is {S : qm_S} {r n : Nat} {x : Int32} (hR : (S.1 r).1 = nI n) (hn : n ≤ 600) (hu : pu_up (S.1 r).2 n) : fX4_notAbove S r x = some (nI (pu_cnt (S.1 r).2 x n)) := by
  unfold fX4_notAbove
  rw [hR, pu_0, na_L hR hn hu qm_F 0 n (by omega) (by omega) (by rw [qm_F_big]; omega) (fun j h => absurd h (by omega)) (fun j h1 h2 => absurd h1 (by omega))]
  rfl
