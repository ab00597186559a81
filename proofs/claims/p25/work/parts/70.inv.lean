/-! ===== what holds of a counter's marks, besides ===== -/
def pv_al (b n : Nat) : Nat := 2 * b * n / 1000
theorem pv_al_mono {b n n' : Nat} (h : n ≤ n') : pv_al b n ≤ pv_al b n' := Nat.div_le_div_right (Nat.mul_le_mul_left _ h)
theorem pv_al_small {b n : Nat} (hb : b ≤ 200) (hn : n ≤ 600) : pv_al b n ≤ 240 := by
  have : 2 * b * n ≤ 400 * 600 := Nat.mul_le_mul (by omega) hn
  unfold pv_al
  omega
theorem pv_al_sum {b1 n1 b2 n2 b : Nat} (h1 : b1 ≤ b) (h2 : b2 ≤ b) : pv_al b1 n1 + pv_al b2 n2 ≤ pv_al b (n1 + n2) := by
  unfold pv_al
  have e : 2 * b * (n1 + n2) = 2 * b * n1 + 2 * b * n2 := Nat.mul_add _ _ _
  have a1 : 2 * b1 * n1 ≤ 2 * b * n1 := Nat.mul_le_mul_right _ (by omega)
  have a2 : 2 * b2 * n2 ≤ 2 * b * n2 := Nat.mul_le_mul_right _ (by omega)
  rw [e]
  generalize 2 * b1 * n1 = x1 at a1
  generalize 2 * b2 * n2 = x2 at a2
  generalize 2 * b * n1 = y1 at a1
  generalize 2 * b * n2 = y2 at a2
  omega
/-- counts rise -/
theorem pu_cnt_mono {N : Nat → Int32} {x y : Int32} (h : x ≤ y) : ∀ n, pu_cnt N x n ≤ pu_cnt N y n
  | 0 => Nat.le_refl 0
  | n + 1 => by
    have := pu_cnt_mono (N := N) h n
    rw [pu_cnt, pu_cnt]
    by_cases c : N n ≤ x
    · rw [if_pos c, if_pos (pu_le_trans c h)]; omega
    · rw [if_neg c]; omega
/-- one less -/
theorem pv_m1 {v : Int32} (h : pu_rg v = true) : (v - 1).toInt = v.toInt - 1 := by
  have := pu_rg_i.mp h
  rw [Int32.toInt_sub, show (1 : Int32).toInt = 1 from rfl]
  exact Int.bmod_eq_of_le (by omega) (by omega)
theorem pv_m1_le {x v : Int32} (h : pu_rg v = true) : x ≤ v - 1 ↔ x < v := by
  rw [Int32.le_iff_toInt_le, Int32.lt_iff_toInt_lt, pv_m1 h]
  omega
theorem pv_m1_mono {v w : Int32} (hv : pu_rg v = true) (hw : pu_rg w = true) (h : v ≤ w) : v - 1 ≤ w - 1 := by
  rw [Int32.le_iff_toInt_le, pv_m1 hv, pv_m1 hw]
  have := Int32.le_iff_toInt_le.mp h
  omega
theorem pu_ins_all {Q : Int32 → Prop} {f : Nat → Int32} {n c : Nat} {x : Int32} (h : ∀ i, i < n → Q (f i)) (hx : Q x) (hc : c ≤ n) : ∀ i, i < n + 1 → Q (pu_ins f c x i) := by
  intro i hi
  unfold pu_ins
  split
  · exact h i (by omega)
  · split
    · exact hx
    · exact h _ (by omega)
theorem pu_ins_occ {f : Nat → Int32} {n c : Nat} {x v : Int32} (hc : c ≤ n) (h : v = x ∨ ∃ i, i < n ∧ f i = v) : ∃ i, i < n + 1 ∧ pu_ins f c x i = v := by
  rcases h with h | ⟨i, hi, e⟩
  · refine ⟨c, by omega, ?_⟩
    unfold pu_ins
    rw [if_neg (by omega), if_pos rfl, h]
  · by_cases q : i < c
    · refine ⟨i, by omega, ?_⟩
      unfold pu_ins
      rw [if_pos q, e]
    · refine ⟨i + 1, by omega, ?_⟩
      unfold pu_ins
      rw [if_neg (by omega), if_neg (by omega)]
      exact e
def pv_J (n m : Nat) (V : Nat → Int32) (g P : Nat → Nat) (N : Nat → Int32) (b : Nat) : Prop :=
  (5 ≤ b ∧ b ≤ 200) ∧ (∀ j, j < m → ∃ i, i < n ∧ N i = V j) ∧
  (∀ j, j < m → pu_ns g (j + 1) ≤ pu_cnt N (V j) n ∧ pu_cnt N (V j - 1) n < pu_ns g (j + 1) + P j ∧ pu_ns g (j + 1) + P j ≤ n) ∧
  (0 < m → (g 0 = 1 ∧ P 0 = 0 ∧ P (m - 1) = 0) ∧ ∀ i, i < n → V 0 ≤ N i ∧ N i ≤ V (m - 1)) ∧
  ∀ j, j < m → g j + P j ≤ 1 ∨ g j + P j ≤ pv_al b n
theorem pv_rgV {n m : Nat} {V : Nat → Int32} {g P : Nat → Nat} {N : Nat → Int32} {b : Nat} (h : pv_J n m V g P N b) (hI : pu_I n m V g N) {j : Nat} (hj : j < m) : pu_rg (V j) = true := by
  obtain ⟨i, hi, e⟩ := h.2.1 j hj
  rw [← e]
  exact hI.2.2.2.2.2.2 i hi
theorem pv_m0 {n m : Nat} {V : Nat → Int32} {g : Nat → Nat} {N : Nat → Int32} (hI : pu_I n m V g N) : (0 < n ↔ 0 < m) := by
  have h1 := hI.2.1
  have h2 := hI.2.2.2.2.1
  constructor
  · intro h
    rcases Nat.eq_zero_or_pos m with e | e
    · subst e
      rw [show pu_ns g 0 = 0 from rfl] at h2
      omega
    · exact e
  · intro h
    omega
theorem pv_J.empty {V : Nat → Int32} {g P : Nat → Nat} {N : Nat → Int32} {b : Nat} (h1 : 5 ≤ b) (h2 : b ≤ 200) : pv_J 0 0 V g P N b :=
  ⟨⟨h1, h2⟩, fun j hj => absurd hj (by omega), fun j hj => absurd hj (by omega), fun h => absurd h (by omega), fun j hj => absurd hj (by omega)⟩
theorem pv_J.take {n m : Nat} {V : Nat → Int32} {g P : Nat → Nat} {N : Nat → Int32} {b : Nat} (h : pv_J n m V g P N b) (hI : pu_I n m V g N) {x : Int32} (hx : pu_rg x = true) :
    pv_J (n + 1) (m + 1) (pu_ins V (pu_cnt V x m) x) (pu_ins g (pu_cnt V x m) 1) (pu_ins P (pu_cnt V x m) (if pu_cnt V x m < m then g (pu_cnt V x m) + P (pu_cnt V x m) - 1 else 0)) (pu_ins N (pu_cnt N x n) x) b := by
  have hrg : ∀ j, j < m → pu_rg (V j) = true := fun j hj => pv_rgV h hI hj
  have hm0 := pv_m0 hI
  obtain ⟨hb, ho, hr, hf, hw⟩ := h
  obtain ⟨i1, i2, i3, i4, i5, i6, i7⟩ := hI
  obtain ⟨u1, u2⟩ := pu_cnt_up (x := x) i3
  have hc := pu_cnt_le V x m
  have hd := pu_cnt_le N x n
  have hal : pv_al b n ≤ pv_al b (n + 1) := pv_al_mono (by omega)
  have cnt : ∀ y, pu_cnt (pu_ins N (pu_cnt N x n) x) y (n + 1) = pu_cnt N y n + (if x ≤ y then 1 else 0) := fun y => pu_cnt_ins hd
  generalize pu_cnt V x m = c at u1 u2 hc
  refine ⟨hb, fun j hj => ?_, fun j hj => ?_, fun _ => ⟨⟨?_, ?_, ?_⟩, fun i hi => ⟨?_, ?_⟩⟩, fun j hj => ?_⟩
  · refine pu_ins_occ hd ?_
    unfold pu_ins
    by_cases q : j < c
    · rw [if_pos q]; exact Or.inr (ho j (by omega))
    · rw [if_neg q]
      by_cases q2 : j = c
      · rw [if_pos q2]; exact Or.inl rfl
      · rw [if_neg q2]; exact Or.inr (ho _ (by omega))
  · rw [cnt, cnt, pu_ns_ins]
    by_cases q : j < c
    · have e1 : pu_ins V c x j = V j := by unfold pu_ins; rw [if_pos q]
      have e2 : ∀ w, pu_ins P c w j = P j := fun w => by unfold pu_ins; rw [if_pos q]
      rw [e1, e2, if_pos (show j + 1 ≤ c by omega), if_neg (fun z => pu_lt_irrefl x (pu_lt_le ((pv_m1_le (hrg j (by omega))).mp z) (u1 j q)))]
      have := hr j (by omega)
      by_cases z : x ≤ V j
      · rw [if_pos z]; omega
      · rw [if_neg z]; omega
    · by_cases q2 : j = c
      · subst q2
        have e1 : pu_ins V j x j = x := by unfold pu_ins; rw [if_neg q, if_pos rfl]
        have e2 : ∀ w, pu_ins P j w j = w := fun w => by unfold pu_ins; rw [if_neg q, if_pos rfl]
        rw [e1, e2, if_neg (show ¬ j + 1 ≤ j by omega), show j + 1 - 1 = j by omega, if_pos (pu_le_refl x), if_neg (fun z => pu_lt_irrefl x ((pv_m1_le hx).mp z))]
        have k1 : pu_ns g j ≤ pu_cnt N x n := by
          rcases Nat.eq_zero_or_pos j with z | z
          · rw [z]; exact Nat.zero_le _
          · have a1 := (hr (j - 1) (by omega)).1
            rw [show j - 1 + 1 = j by omega] at a1
            exact Nat.le_trans a1 (pu_cnt_mono (u1 (j - 1) (by omega)) n)
        by_cases q3 : j < m
        · rw [if_pos q3]
          have a1 := hr j q3
          have a2 : pu_cnt N (x - 1) n ≤ pu_cnt N (V j - 1) n := pu_cnt_mono (pv_m1_mono hx (hrg j q3) (pu_lt_le' (u2 j (Nat.le_refl _) q3))) n
          have a3 := i4 j q3
          have a4 : pu_ns g (j + 1) = pu_ns g j + g j := rfl
          omega
        · rw [if_neg q3]
          have a0 : j = m := by omega
          have a1 := pu_cnt_le N (x - 1) n
          have a2 := pu_cnt_le N x n
          rw [a0, i5] at k1 ⊢
          omega
      · obtain ⟨i, rfl⟩ : ∃ i, j = i + 1 := ⟨j - 1, by omega⟩
        have e1 : pu_ins V c x (i + 1) = V i := by unfold pu_ins; rw [if_neg q, if_neg q2]; rfl
        have e2 : ∀ w, pu_ins P c w (i + 1) = P i := fun w => by unfold pu_ins; rw [if_neg q, if_neg q2]; rfl
        have lx := u2 i (by omega) (by omega)
        rw [e1, e2, if_neg (show ¬ i + 1 + 1 ≤ c by omega), show i + 1 + 1 - 1 = i + 1 by omega, if_pos (pu_lt_le' lx), if_pos ((pv_m1_le (hrg i (by omega))).mpr lx)]
        have := hr i (by omega)
        omega
  · unfold pu_ins
    by_cases q : 0 < c
    · rw [if_pos q]; exact (hf (by omega)).1.1
    · rw [if_neg q, if_pos (by omega)]
  · unfold pu_ins
    by_cases q : 0 < c
    · rw [if_pos q]; exact (hf (by omega)).1.2.1
    · have c0 : c = 0 := by omega
      rw [if_neg q, if_pos (by omega), c0]
      by_cases q2 : 0 < m
      · rw [if_pos q2]
        have := (hf q2).1
        omega
      · rw [if_neg q2]
  · rw [show m + 1 - 1 = m by omega]
    unfold pu_ins
    rw [if_neg (by omega)]
    by_cases q : m = c
    · rw [if_pos q, if_neg (by omega)]
    · rw [if_neg q]; exact (hf (by omega)).1.2.2
  · refine pu_ins_all (Q := fun y => pu_ins V c x 0 ≤ y) (fun k hk => ?_) ?_ hd i hi
    · have hm : 0 < m := hm0.mp (by omega)
      unfold pu_ins
      by_cases q : 0 < c
      · rw [if_pos q]; exact ((hf hm).2 k hk).1
      · rw [if_neg q, if_pos (by omega)]
        exact pu_le_trans (pu_lt_le' (u2 0 (by omega) hm)) ((hf hm).2 k hk).1
    · unfold pu_ins
      by_cases q : 0 < c
      · rw [if_pos q]; exact u1 0 q
      · rw [if_neg q, if_pos (by omega)]; exact pu_le_refl x
  · rw [show m + 1 - 1 = m by omega]
    refine pu_ins_all (Q := fun y => y ≤ pu_ins V c x m) (fun k hk => ?_) ?_ hd i hi
    · have hm : 0 < m := hm0.mp (by omega)
      unfold pu_ins
      rw [if_neg (by omega)]
      by_cases q : m = c
      · rw [if_pos q]; exact pu_le_trans ((hf hm).2 k hk).2 (u1 (m - 1) (by omega))
      · rw [if_neg q]; exact ((hf hm).2 k hk).2
    · unfold pu_ins
      rw [if_neg (by omega)]
      by_cases q : m = c
      · rw [if_pos q]; exact pu_le_refl x
      · rw [if_neg q]; exact pu_lt_le' (u2 (m - 1) (by omega) (by omega))
  · unfold pu_ins
    by_cases q : j < c
    · rw [if_pos q, if_pos q]
      have := hw j (by omega)
      omega
    · rw [if_neg q, if_neg q]
      by_cases q2 : j = c
      · rw [if_pos q2, if_pos q2]
        by_cases q3 : c < m
        · rw [if_pos q3]
          have := hw c q3
          omega
        · rw [if_neg q3]; omega
      · rw [if_neg q2, if_neg q2]
        have := hw (j - 1) (by omega)
        omega
/-! thinning out -/
theorem pv_sml {n m : Nat} {V : Nat → Int32} {g P : Nat → Nat} {N : Nat → Int32} {b : Nat} (h : pv_J n m V g P N b) {j : Nat} (hj : j < m) : g j ≤ n ∧ P j ≤ n := by
  have := (h.2.2.1 j hj).2.2
  rw [pu_ns] at this
  omega
/-- mark k goes -/
theorem pv_J.rm {n m : Nat} {V : Nat → Int32} {g P : Nat → Nat} {N : Nat → Int32} {b : Nat} (h : pv_J n m V g P N b) {k : Nat} (h1 : 1 ≤ k) (h2 : k + 1 < m) (hw : g k + (g (k + 1) + P (k + 1)) ≤ pv_al b n) :
    pv_J n (m - 1) (pu_rm V k) (pu_rg2 g k) (pu_rm P k) N b := by
  obtain ⟨hb, ho, hr, hf, hv⟩ := h
  refine ⟨hb, fun j hj => ?_, fun j hj => ?_, fun _ => ?_, fun j hj => ?_⟩
  · unfold pu_rm
    split
    · exact ho j (by omega)
    · exact ho _ (by omega)
  · rw [pu_rg2_ns]
    unfold pu_rm
    by_cases q : j < k
    · rw [if_pos q, if_pos q, if_pos (by omega)]
      exact hr j (by omega)
    · rw [if_neg q, if_neg q, if_neg (by omega)]
      exact hr (j + 1) (by omega)
  · have := hf (by omega)
    unfold pu_rm pu_rg2
    rw [if_pos (by omega), if_pos (by omega), if_neg (by omega), if_pos (by omega), if_neg (by omega), show m - 1 - 1 + 1 = m - 1 by omega]
    exact this
  · unfold pu_rm pu_rg2
    by_cases q : j < k
    · rw [if_pos q, if_pos q]
      exact hv j (by omega)
    · rw [if_neg q, if_neg q]
      by_cases q2 : j = k
      · rw [if_pos q2, q2]
        right
        omega
      · rw [if_neg q2]
        exact hv (j + 1) (by omega)
/-- from mark i + 1 on, no mark goes -/
def pv_stay (al i : Nat) (m : Nat) (g P : Nat → Nat) : Prop := ∀ j, i < j → j + 1 < m → al < g j + (g (j + 1) + P (j + 1))
theorem pv_test {al a b c : Nat} (ha : al ≤ 240) (h : a ≤ 600 ∧ b ≤ 600 ∧ c ≤ 600) : nI al < nI a + (nI b + nI c) ↔ al < a + (b + c) := by
  rw [nI_add, nI_add]
  exact pu_lt (by omega) (by omega)
theorem pv_thin {n b : Nat} {N : Nat → Int32} (hn : n ≤ 600) (hb : b ≤ 200) : ∀ (i : Nat) (A : pu_A) (P : Nat → Nat), (i + 1 < A.1 ∨ i = 0) → (∀ j, j < A.1 → A.2.2.2 j = nI (P j)) → pv_J n A.1 A.2.1 A.2.2.1 P N b → pv_stay (pv_al b n) i A.1 A.2.2.1 P →
    ∃ P' : Nat → Nat, (∀ j, j < (pu_th (nI (pv_al b n)) i A).1 → (pu_th (nI (pv_al b n)) i A).2.2.2 j = nI (P' j)) ∧ pv_J n (pu_th (nI (pv_al b n)) i A).1 (pu_th (nI (pv_al b n)) i A).2.1 (pu_th (nI (pv_al b n)) i A).2.2.1 P' N b ∧ pv_stay (pv_al b n) 0 (pu_th (nI (pv_al b n)) i A).1 (pu_th (nI (pv_al b n)) i A).2.2.1 P' ∧ (2 ≤ A.1 → 2 ≤ (pu_th (nI (pv_al b n)) i A).1) := by
  intro i
  induction i with
  | zero => intro A P _ hP hJ hs; exact ⟨P, hP, hJ, hs, fun h => h⟩
  | succ i ih =>
    intro A P hi hP hJ hs
    have hi : i + 2 < A.1 := by omega
    have s1 := pv_sml hJ (show i + 1 < A.1 by omega)
    have s2 := pv_sml hJ (show i + 2 < A.1 by omega)
    rw [pu_th]
    rw [hP (i + 2) hi]
    have ht := pv_test (al := pv_al b n) (a := A.2.2.1 (i + 1)) (b := A.2.2.1 (i + 2)) (c := P (i + 2)) (pv_al_small hb hn) (by omega)
    by_cases c : pv_al b n < A.2.2.1 (i + 1) + (A.2.2.1 (i + 2) + P (i + 2))
    · rw [if_pos (ht.mpr c)]
      refine ih A P (by omega) hP hJ (fun j h1 h2 => ?_)
      by_cases q : j = i + 1
      · rw [q]; exact c
      · exact hs j (by omega) h2
    · rw [if_neg (fun z => c (ht.mp z))]
      obtain ⟨P', r1, r2, r3, r4⟩ := ih (A.1 - 1, pu_rm A.2.1 (i + 1), pu_rg2 A.2.2.1 (i + 1), pu_rm A.2.2.2 (i + 1)) (pu_rm P (i + 1)) (by show i + 1 < A.1 - 1 ∨ i = 0; omega) (fun j hj => by
        replace hj : j < A.1 - 1 := hj
        show pu_rm A.2.2.2 (i + 1) j = nI (pu_rm P (i + 1) j)
        unfold pu_rm
        split
        · exact hP j (by omega)
        · exact hP _ (by omega)) (hJ.rm (by omega) (by omega) (by show A.2.2.1 (i + 1) + (A.2.2.1 (i + 2) + P (i + 2)) ≤ _; omega)) (fun j h1 h2 => by
        replace h2 : j + 1 < A.1 - 1 := h2
        show pv_al b n < pu_rg2 A.2.2.1 (i + 1) j + (pu_rg2 A.2.2.1 (i + 1) (j + 1) + pu_rm P (i + 1) (j + 1))
        unfold pu_rm pu_rg2
        rw [if_neg (show ¬ j < i + 1 by omega), if_neg (show ¬ j + 1 < i + 1 by omega), if_neg (show ¬ j + 1 = i + 1 by omega), if_neg (show ¬ j + 1 < i + 1 by omega)]
        have := hs (j + 1) (by omega) (by omega)
        by_cases q : j = i + 1
        · rw [if_pos q]
          subst q
          omega
        · rw [if_neg q]; exact this)
      refine ⟨P', r1, r2, r3, fun _ => r4 (by show 2 ≤ A.1 - 1; omega)⟩
/-- what has been thinned out stays -/
theorem pv_again {n b : Nat} (hn : n ≤ 600) (hb : b ≤ 200) {N : Nat → Int32} : ∀ (i : Nat) (A : pu_A) (P : Nat → Nat), (i + 1 < A.1 ∨ i = 0) → (∀ j, j < A.1 → A.2.2.2 j = nI (P j)) → pv_J n A.1 A.2.1 A.2.2.1 P N b → pv_stay (pv_al b n) 0 A.1 A.2.2.1 P → pu_th (nI (pv_al b n)) i A = A := by
  intro i
  induction i with
  | zero => intro A P _ _ _ _; rfl
  | succ i ih =>
    intro A P hi hP hJ hs
    have hi : i + 2 < A.1 := by omega
    have s1 := pv_sml hJ (show i + 1 < A.1 by omega)
    have s2 := pv_sml hJ (show i + 2 < A.1 by omega)
    have ht := (pv_test (al := pv_al b n) (a := A.2.2.1 (i + 1)) (b := A.2.2.1 (i + 2)) (c := P (i + 2)) (pv_al_small hb hn) (by omega)).mpr (hs (i + 1) (by omega) hi)
    rw [pu_th, hP (i + 2) hi, if_pos ht]
    exact ih A P (by omega) hP hJ hs
/-! pouring -/
def pv_ad (m : Nat) (g P : Nat → Nat) (c : Nat) : Nat := if c < m then g c + P c - 1 else 0
theorem pv_ad_is {n m : Nat} {V : Nat → Int32} {g P : Nat → Nat} {N : Nat → Int32} {b : Nat} {p : Nat → Int32} (h : pv_J n m V g P N b) (hg : ∀ j, j < m → 1 ≤ g j) (hp : ∀ j, j < m → p j = nI (P j)) (c : Nat) : pu_ad m g p c = nI (pv_ad m g P c) := by
  unfold pu_ad pv_ad
  by_cases q : c < m
  · rw [if_pos q, if_pos q, hp c q, nI_add, pu_1, pk_sub (by have := hg c q; omega)]
  · rw [if_neg q, if_neg q]
    by_cases q2 : 0 < m
    · rw [if_pos q2, hp _ (by omega), (h.2.2.2.1 q2).1.2.2]
    · rw [if_neg q2]; rfl
/-- the other counter's share of a mark's ranks -/
theorem pv_side {n m : Nat} {V : Nat → Int32} {g P : Nat → Nat} {N : Nat → Int32} {b : Nat} (h : pv_J n m V g P N b) (hI : pu_I n m V g N) {c : Nat} (hc : c ≤ m) {v : Int32} (hv : pu_rg v = true) (h1 : 0 < c → V (c - 1) ≤ v) (h2 : c < m → v ≤ V c) :
    pu_ns g c ≤ pu_cnt N v n ∧ pu_cnt N (v - 1) n ≤ pu_ns g c + pv_ad m g P c ∧ pu_ns g c + pv_ad m g P c ≤ n ∧ (pv_ad m g P c = 0 ∨ pv_ad m g P c + 1 ≤ pv_al b n) := by
  have hrg : ∀ j, j < m → pu_rg (V j) = true := fun j hj => pv_rgV h hI hj
  obtain ⟨hb, ho, hr, hf, hw⟩ := h
  refine ⟨?_, ?_⟩
  · rcases Nat.eq_zero_or_pos c with z | z
    · rw [z]; exact Nat.zero_le _
    · have a1 := (hr (c - 1) (by omega)).1
      rw [show c - 1 + 1 = c by omega] at a1
      exact Nat.le_trans a1 (pu_cnt_mono (h1 z) n)
  · unfold pv_ad
    by_cases q : c < m
    · rw [if_pos q]
      have a1 := hr c q
      have a2 : pu_cnt N (v - 1) n ≤ pu_cnt N (V c - 1) n := pu_cnt_mono (pv_m1_mono hv (hrg c q) (h2 q)) n
      have a3 := hI.2.2.2.1 c q
      have a4 : pu_ns g (c + 1) = pu_ns g c + g c := rfl
      have a5 := hw c q
      refine ⟨by omega, by omega, by omega⟩
    · rw [if_neg q]
      have a0 : c = m := by omega
      have a1 := pu_cnt_le N (v - 1) n
      rw [a0, hI.2.2.2.2.1]
      exact ⟨by omega, by omega, Or.inl rfl⟩
theorem pu_all_occ {N1 N2 : Nat → Int32} {n1 : Nat} {v : Int32} : ∀ q, ((∃ i, i < n1 ∧ N1 i = v) ∨ ∃ i, i < q ∧ N2 i = v) → ∃ i, i < n1 + q ∧ pu_all N1 n1 N2 q i = v
  | 0, h => by
    rcases h with h | ⟨i, hi, _⟩
    · exact h
    · omega
  | q + 1, h => by
    refine pu_ins_occ (pu_cnt_le _ _ _) ?_
    rcases h with h | ⟨i, hi, e⟩
    · exact Or.inr (pu_all_occ q (Or.inl h))
    · by_cases z : i = q
      · subst z; exact Or.inl e.symm
      · exact Or.inr (pu_all_occ q (Or.inr ⟨i, by omega, e⟩))
theorem pu_all_all {Q : Int32 → Prop} {N1 N2 : Nat → Int32} {n1 : Nat} (h1 : ∀ i, i < n1 → Q (N1 i)) : ∀ q, (∀ i, i < q → Q (N2 i)) → ∀ i, i < n1 + q → Q (pu_all N1 n1 N2 q i)
  | 0, _ => h1
  | q + 1, h => pu_ins_all (pu_all_all h1 q (fun i hi => h i (by omega))) (h q (by omega)) (pu_cnt_le _ _ _)
theorem pv_wid {w1 w2 a1 a2 A : Nat} (h1 : w1 ≤ 1 ∨ w1 ≤ a1) (h2 : w2 = 0 ∨ w2 + 1 ≤ a2) (hA : a1 + a2 ≤ A) : w1 + w2 ≤ 1 ∨ w1 + w2 ≤ A := by omega
def pv_mp (f : Nat → Nat) (m1 m2 : Nat) (g1 g2 P1 P2 : Nat → Nat) : Nat → Nat := fun q => if f (q + 1) = f q + 1 then P1 (f q) + pv_ad m2 g2 P2 (q - f q) else P2 (q - f q) + pv_ad m1 g1 P1 (f q)
theorem pv_J.pour {n1 m1 n2 m2 b1 b2 b : Nat} {V1 V2 : Nat → Int32} {g1 g2 P1 P2 : Nat → Nat} {N1 N2 : Nat → Int32} (h1 : pv_J n1 m1 V1 g1 P1 N1 b1) (h2 : pv_J n2 m2 V2 g2 P2 N2 b2) (hI1 : pu_I n1 m1 V1 g1 N1) (hI2 : pu_I n2 m2 V2 g2 N2) (hb : b = if b1 < b2 then b2 else b1) {f : Nat → Nat} (hf : f = pu_mo V1 V2 m1 m2) :
    pv_J (n1 + n2) (m1 + m2) (pu_mv f V1 V2) (pu_mv f g1 g2) (pv_mp f m1 m2 g1 g2 P1 P2) (pu_all N1 n1 N2 n2) b := by
  have rg1 : ∀ j, j < m1 → pu_rg (V1 j) = true := fun j hj => pv_rgV h1 hI1 hj
  have rg2 : ∀ j, j < m2 → pu_rg (V2 j) = true := fun j hj => pv_rgV h2 hI2 hj
  have z1 := pv_m0 hI1
  have z2 := pv_m0 hI2
  obtain ⟨s, -⟩ := pu_mv_ok (g1 := g1) (g2 := g2) hI1.2.2.1 hI2.2.2.1 hf
  have hend : f (m1 + m2) = m1 := by rw [hf]; exact pu_mo_end hI1.2.2.1 hI2.2.2.1
  have hb1 : b1 ≤ b := by rw [hb]; split <;> omega
  have hb2 : b2 ≤ b := by rw [hb]; split <;> omega
  have hbb : 5 ≤ b ∧ b ≤ 200 := by
    have := h1.1
    have := h2.1
    rw [hb]; split <;> omega
  have hA : pv_al b1 n1 + pv_al b2 n2 ≤ pv_al b (n1 + n2) := pv_al_sum hb1 hb2
  -- one place: what stands there
  have at_ : ∀ q, q < m1 + m2 → (f (q + 1) = f q + 1 ∧ f q < m1 ∧ q - f q ≤ m2 ∧ f q ≤ q ∧ (0 < q - f q → V2 (q - f q - 1) ≤ V1 (f q)) ∧ (q - f q < m2 → V1 (f q) ≤ V2 (q - f q))) ∨ (f (q + 1) = f q ∧ f q ≤ m1 ∧ q - f q < m2 ∧ f q ≤ q ∧ (0 < f q → V1 (f q - 1) ≤ V2 (q - f q)) ∧ (f q < m1 → V2 (q - f q) ≤ V1 (f q))) := by
    intro q hq
    obtain ⟨i1, i2, i3, i4, i5⟩ := pu_mo_ok hI1.2.2.1 hI2.2.2.1 q (by omega)
    have st := pu_mo_step V1 V2 m1 m2 q
    rw [← hf] at i1 i2 i3 i4 i5 st
    rcases st with ⟨e, c⟩ | ⟨e, c1, c2⟩
    · left
      have fm : f q < m1 := by rcases c with c | c <;> omega
      refine ⟨e, fm, i3, i1, fun z => pu_lt_le' (i4 z fm), fun z => ?_⟩
      rcases c with c | c
      · omega
      · exact c.2
    · right
      refine ⟨e, i2, by omega, i1, fun z => i5 z (by omega), fun z => ?_⟩
      exact pu_lt_le' (pu_not_le.mp (fun w => c2 ⟨z, w⟩))
  refine ⟨hbb, fun q hq => ?_, fun q hq => ?_, fun h0 => ⟨⟨?_, ?_, ?_⟩, fun i hi => ⟨?_, ?_⟩⟩, fun q hq => ?_⟩
  · refine pu_all_occ n2 ?_
    unfold pu_mv
    rcases at_ q hq with ⟨e, a1, -⟩ | ⟨e, a1, a2, -⟩
    · rw [if_pos e]; exact Or.inl (h1.2.1 _ a1)
    · rw [if_neg (by omega)]; exact Or.inr (h2.2.1 _ a2)
  · rw [s (q + 1) (by omega), pu_all_cnt, pu_all_cnt]
    unfold pu_mv pv_mp
    rcases at_ q hq with ⟨e, a1, a2, a3, a4, a5⟩ | ⟨e, a1, a2, a3, a4, a5⟩
    · rw [if_pos e, if_pos e, e, show q + 1 - (f q + 1) = q - f q by omega]
      obtain ⟨r1, r2, r3, -⟩ := pv_side h2 hI2 a2 (rg1 _ a1) a4 a5
      have r4 := h1.2.2.1 _ a1
      omega
    · rw [if_neg (by omega), if_neg (by omega), e, show q + 1 - f q = q - f q + 1 by omega]
      obtain ⟨r1, r2, r3, -⟩ := pv_side h1 hI1 a1 (rg2 _ a2) a4 a5
      have r4 := h2.2.2.1 _ a2
      omega
  · unfold pu_mv
    rcases at_ 0 h0 with ⟨e, a1, a2, a3, a4, a5⟩ | ⟨e, a1, a2, a3, a4, a5⟩
    · rw [if_pos e, show f 0 = 0 by omega]; exact (h1.2.2.2.1 (by omega)).1.1
    · rw [if_neg (by omega), show f 0 = 0 by omega]; exact (h2.2.2.2.1 (by omega)).1.1
  · unfold pv_mp
    rcases at_ 0 h0 with ⟨e, a1, a2, a3, a4, a5⟩ | ⟨e, a1, a2, a3, a4, a5⟩
    · rw [if_pos e, show f 0 = 0 by omega, (h1.2.2.2.1 (by omega)).1.2.1]
      unfold pv_ad
      by_cases c : 0 < m2
      · have := (h2.2.2.2.1 c).1
        rw [if_pos (by omega), this.1, show (0 : Nat) - 0 = 0 from rfl, this.2.1]
      · rw [if_neg (by omega)]
    · rw [if_neg (by omega), show f 0 = 0 by omega, show (0 : Nat) - 0 = 0 from rfl, (h2.2.2.2.1 (by omega)).1.2.1]
      unfold pv_ad
      by_cases c : 0 < m1
      · have := (h1.2.2.2.1 c).1
        rw [if_pos c, this.1, this.2.1]
      · rw [if_neg c]
  · obtain ⟨q, hq⟩ : ∃ q, m1 + m2 = q + 1 := ⟨m1 + m2 - 1, by omega⟩
    rw [show m1 + m2 - 1 = q by omega]
    have hend : f (q + 1) = m1 := by rw [← hq]; exact hend
    unfold pv_mp
    rcases at_ q (by omega) with ⟨e, a1, a2, a3, a4, a5⟩ | ⟨e, a1, a2, a3, a4, a5⟩
    · rw [if_pos e, show f q = m1 - 1 by omega, (h1.2.2.2.1 (by omega)).1.2.2]
      unfold pv_ad
      rw [if_neg (by omega)]
    · rw [if_neg (by omega), show q - f q = m2 - 1 by omega, (h2.2.2.2.1 (by omega)).1.2.2]
      unfold pv_ad
      rw [if_neg (by omega)]
  · refine pu_all_all (Q := fun y => pu_mv f V1 V2 0 ≤ y) (fun k hk => ?_) n2 (fun k hk => ?_) i hi
    · have c1 := z1.mp (show 0 < n1 by omega)
      have l1 := ((h1.2.2.2.1 c1).2 k hk).1
      show pu_mv f V1 V2 0 ≤ N1 k
      unfold pu_mv
      rcases at_ 0 h0 with ⟨e, a1, a2, a3, a4, a5⟩ | ⟨e, a1, a2, a3, a4, a5⟩
      · rw [if_pos e, show f 0 = 0 by omega]; exact l1
      · rw [if_neg (by omega)]
        have := a5 (by omega)
        rw [show f 0 = 0 by omega] at this ⊢
        exact pu_le_trans this l1
    · have c2 := z2.mp (show 0 < n2 by omega)
      have l2 := ((h2.2.2.2.1 c2).2 k hk).1
      show pu_mv f V1 V2 0 ≤ N2 k
      unfold pu_mv
      rcases at_ 0 h0 with ⟨e, a1, a2, a3, a4, a5⟩ | ⟨e, a1, a2, a3, a4, a5⟩
      · rw [if_pos e]
        have := a5 (by omega)
        rw [show f 0 = 0 by omega] at this ⊢
        exact pu_le_trans this l2
      · rw [if_neg (by omega), show f 0 = 0 by omega]; exact l2
  · obtain ⟨q, hq⟩ : ∃ q, m1 + m2 = q + 1 := ⟨m1 + m2 - 1, by omega⟩
    rw [show m1 + m2 - 1 = q by omega]
    have hend : f (q + 1) = m1 := by rw [← hq]; exact hend
    refine pu_all_all (Q := fun y => y ≤ pu_mv f V1 V2 q) (fun k hk => ?_) n2 (fun k hk => ?_) i hi
    · have c1 := z1.mp (show 0 < n1 by omega)
      have l1 := ((h1.2.2.2.1 c1).2 k hk).2
      show N1 k ≤ pu_mv f V1 V2 q
      unfold pu_mv
      rcases at_ q (by omega) with ⟨e, a1, a2, a3, a4, a5⟩ | ⟨e, a1, a2, a3, a4, a5⟩
      · rw [if_pos e, show f q = m1 - 1 by omega]; exact l1
      · rw [if_neg (by omega)]
        have := a4 (by omega)
        rw [show f q = m1 by omega] at this ⊢
        exact pu_le_trans l1 this
    · have c2 := z2.mp (show 0 < n2 by omega)
      have l2 := ((h2.2.2.2.1 c2).2 k hk).2
      show N2 k ≤ pu_mv f V1 V2 q
      unfold pu_mv
      rcases at_ q (by omega) with ⟨e, a1, a2, a3, a4, a5⟩ | ⟨e, a1, a2, a3, a4, a5⟩
      · rw [if_pos e]
        have := a4 (by omega)
        rw [show q - f q - 1 = m2 - 1 by omega] at this
        exact pu_le_trans l2 this
      · rw [if_neg (by omega), show q - f q = m2 - 1 by omega]; exact l2
  · unfold pu_mv pv_mp
    rcases at_ q hq with ⟨e, a1, a2, a3, a4, a5⟩ | ⟨e, a1, a2, a3, a4, a5⟩
    · rw [if_pos e, if_pos e]
      obtain ⟨-, -, -, r4⟩ := pv_side h2 hI2 a2 (rg1 _ a1) a4 a5
      have := pv_wid (h1.2.2.2.2 _ a1) r4 hA
      omega
    · rw [if_neg (by omega), if_neg (by omega)]
      obtain ⟨-, -, -, r4⟩ := pv_side h1 hI1 a1 (rg2 _ a2) a4 a5
      have := pv_wid (h2.2.2.2.2 _ a2) r4 (by rw [Nat.add_comm]; exact hA)
      omega
