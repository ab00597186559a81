/-! ===== counts of any kind, and what one place more or less does to them ===== -/
def pu_b (b : Bool) : Nat := if b then 1 else 0
def pu_cb (P : Int32 → Bool) (f : Nat → Int32) : Nat → Nat
  | 0 => 0
  | n + 1 => pu_cb P f n + pu_b (P (f n))
theorem pu_cb_congr {P : Int32 → Bool} {f f' : Nat → Int32} : ∀ {n : Nat}, (∀ j, j < n → f j = f' j) → pu_cb P f n = pu_cb P f' n
  | 0, _ => rfl
  | n + 1, h => by rw [pu_cb, pu_cb, pu_cb_congr (fun j q => h j (by omega)), h n (by omega)]
theorem pu_cb_upd {P : Int32 → Bool} {f : Nat → Int32} {i : Nat} {v : Int32} : ∀ {n : Nat}, i < n → pu_cb P (upd f i v) n + pu_b (P (f i)) = pu_cb P f n + pu_b (P v)
  | 0, h => absurd h (by omega)
  | n + 1, h => by
    rw [pu_cb, pu_cb]
    by_cases e : i = n
    · subst e
      rw [pu_cb_congr (f := upd f i v) (f' := f) (fun j q => pk_un (by omega)), pk_us]
      omega
    · have := pu_cb_upd (P := P) (f := f) (v := v) (n := n) (i := i) (by omega)
      rw [pk_un (Ne.symm e)]
      omega
theorem pu_cb_le (P : Int32 → Bool) (f : Nat → Int32) : ∀ n, pu_cb P f n ≤ n
  | 0 => Nat.le_refl 0
  | n + 1 => by
    have := pu_cb_le P f n
    rw [pu_cb]
    unfold pu_b
    split <;> omega
theorem pu_cb_full {P : Int32 → Bool} {f : Nat → Int32} : ∀ {n : Nat}, pu_cb P f n = n → ∀ j, j < n → P (f j) = true
  | 0, _, j, h => absurd h (by omega)
  | n + 1, e, j, h => by
    have hl := pu_cb_le P f n
    rw [pu_cb] at e
    unfold pu_b at e
    by_cases c : P (f n) = true
    · rw [if_pos c] at e
      by_cases hj : j = n
      · rw [hj]; exact c
      · exact pu_cb_full (n := n) (by omega) j (by omega)
    · rw [if_neg c] at e
      omega
theorem pu_cb_all {P : Int32 → Bool} {f : Nat → Int32} : ∀ {n : Nat}, (∀ j, j < n → P (f j) = true) → pu_cb P f n = n
  | 0, _ => rfl
  | n + 1, h => by
    rw [pu_cb, pu_cb_all (fun j q => h j (by omega)), h n (by omega)]
    rfl
theorem pu_cb_zero {P : Int32 → Bool} {f : Nat → Int32} : ∀ {n : Nat}, (∀ j, j < n → P (f j) = false) → pu_cb P f n = 0
  | 0, _ => rfl
  | n + 1, h => by
    rw [pu_cb, pu_cb_zero (fun j q => h j (by omega)), h n (by omega)]
    rfl
theorem pu_cb_pos {P : Int32 → Bool} {f : Nat → Int32} : ∀ {n j : Nat}, j < n → P (f j) = true → 0 < pu_cb P f n
  | 0, j, h, _ => absurd h (by omega)
  | n + 1, j, h, e => by
    rw [pu_cb]
    by_cases hj : j = n
    · subst hj
      rw [e]
      unfold pu_b
      simp
    · have := pu_cb_pos (n := n) (j := j) (by omega) e
      omega
theorem pu_cnt_cb (f : Nat → Int32) (x : Int32) : ∀ n, pu_cnt f x n = pu_cb (fun v => decide (v ≤ x)) f n
  | 0 => rfl
  | n + 1 => by
    rw [pu_cnt, pu_cb, pu_cnt_cb f x n]
    unfold pu_b
    by_cases h : f n ≤ x <;> simp [h]
/-- one more put in -/
theorem pu_cnt_ins {f : Nat → Int32} {y v : Int32} {c : Nat} : ∀ {n : Nat}, c ≤ n → pu_cnt (pu_ins f c v) y (n + 1) = pu_cnt f y n + (if v ≤ y then 1 else 0)
  | 0, h => by
    have hc : c = 0 := by omega
    subst hc
    rw [pu_cnt, pu_cnt, pu_cnt]
    unfold pu_ins
    simp
  | n + 1, h => by
    rw [pu_cnt]
    by_cases e : c = n + 1
    · subst e
      rw [pu_cnt_congr (f := pu_ins f (n + 1) v) (f' := f) (n := n + 1) (fun j q => by unfold pu_ins; rw [if_pos q])]
      unfold pu_ins
      simp
    · rw [pu_cnt_ins (n := n) (by omega), pu_cnt]
      have : pu_ins f c v (n + 1) = f n := by
        unfold pu_ins
        rw [if_neg (by omega), if_neg (by omega)]
        rfl
      rw [this]
      omega
theorem pu_ns_ins {g : Nat → Nat} {c w : Nat} : ∀ {n : Nat}, pu_ns (pu_ins g c w) n = if n ≤ c then pu_ns g n else pu_ns g (n - 1) + w
  | 0 => by simp [pu_ns]
  | n + 1 => by
    rw [pu_ns, pu_ns_ins (n := n)]
    by_cases h1 : n + 1 ≤ c
    · rw [if_pos (by omega), if_pos h1, pu_ns]
      unfold pu_ins
      rw [if_pos (by omega)]
    · rw [if_neg h1]
      by_cases h2 : n = c
      · subst h2
        rw [if_pos (Nat.le_refl _)]
        unfold pu_ins
        rw [if_neg (by omega), if_pos rfl]
        rfl
      · rw [if_neg (by omega)]
        unfold pu_ins
        rw [if_neg (by omega), if_neg h2, show n + 1 - 1 = n by omega]
        obtain ⟨q, rfl⟩ : ∃ q, n = q + 1 := ⟨n - 1, by omega⟩
        rw [show q + 1 - 1 = q by omega, pu_ns]
        omega
theorem pu_ns_upd {g : Nat → Nat} {i w : Nat} : ∀ {n : Nat}, pu_ns (va_up g i (g i + w)) n = pu_ns g n + (if i < n then w else 0)
  | 0 => by simp [pu_ns]
  | n + 1 => by
    rw [pu_ns, pu_ns, pu_ns_upd (n := n)]
    unfold va_up
    by_cases h : n = i
    · subst h
      rw [if_pos rfl, if_neg (by omega), if_pos (by omega)]
      omega
    · rw [if_neg h]
      by_cases h2 : i < n
      · rw [if_pos h2, if_pos (by omega)]; omega
      · rw [if_neg h2, if_neg (by omega)]; omega
theorem pu_ns_ge {g : Nat → Nat} : ∀ {n : Nat}, (∀ j, j < n → 1 ≤ g j) → n ≤ pu_ns g n
  | 0, _ => Nat.le_refl 0
  | n + 1, h => by
    have := pu_ns_ge (n := n) (fun j q => h j (by omega))
    have := h n (by omega)
    rw [pu_ns]
    omega
/-- the numbers' range -/
def pu_rg (v : Int32) : Bool := decide ((-10000 : Int32) ≤ v) && decide (v ≤ (10000 : Int32))
theorem pu_rg_i {v : Int32} : pu_rg v = true ↔ -10000 ≤ v.toInt ∧ v.toInt ≤ 10000 := by
  unfold pu_rg
  rw [Bool.and_eq_true, decide_eq_true_eq, decide_eq_true_eq, Int32.le_iff_toInt_le, Int32.le_iff_toInt_le]
  exact Iff.rfl
/-! ===== Tally: each kind once, how often it came; rk y: how many are not above y ===== -/
def pu_T (S : qm_S) (k n : Nat) (rk : Int32 → Nat) : Prop :=
  ∃ (kn : Nat) (K : Nat → Int32) (t : Nat → Nat), ((S.1 (12 + k)).1 = nI kn ∧ (S.1 (16 + k)).1 = nI kn ∧ S.2.2 k = nI n) ∧ (∀ j, j < kn → (S.1 (12 + k)).2 j = K j) ∧ (∀ j, j < kn → (S.1 (16 + k)).2 j = nI (t j)) ∧ (∀ i j, i < j → j < kn → K i < K j) ∧ ((∀ j, j < kn → 1 ≤ t j) ∧ ∀ j, j < kn → pu_rg (K j) = true) ∧ pu_ns t kn = n ∧ ∀ y, pu_ns t (pu_cnt K y kn) = rk y
theorem pu_T.of {S S' : qm_S} {k n : Nat} {rk : Int32 → Nat} (h : pu_T S k n rk) (a : S'.1 (12 + k) = S.1 (12 + k)) (b : S'.1 (16 + k) = S.1 (16 + k)) (c : S'.2.2 k = S.2.2 k) : pu_T S' k n rk := by
  unfold pu_T
  rw [a, b, c]
  exact h
theorem pu_sup {K : Nat → Int32} {kn : Nat} (h : ∀ i j, i < j → j < kn → K i < K j) : pu_up K kn := fun i j hij hj => by
  by_cases e : i = j
  · rw [e]; exact pu_le_refl _
  · exact pu_lt_le' (h i j (by omega) hj)
theorem ta_notAbove {S : qm_S} {k n : Nat} {rk : Int32 → Nat} (h : pu_T S k n rk) (hn : n ≤ 600) (y : Int32) : fX5_notAbove S k y = some (nI (rk y)) := by
  obtain ⟨kn, K, t, ⟨h1, h2, h3⟩, hK, ht, hs, ⟨hp, hr⟩, hsum, hrk⟩ := h
  have hkn : kn ≤ n := by rw [← hsum]; exact pu_ns_ge hp
  have hc := pu_cnt_le K y kn
  unfold fX5_notAbove
  rw [na_is h1 (by omega) ((pu_sup hs).congr hK), pu_cnt_congr hK]
  simp only [Option.bind_some]
  rw [so_is h2 (by omega) (by omega), show min (pu_cnt K y kn) kn = pu_cnt K y kn by omega, pu_sum_ns (fun i q => ht i (by omega)), hrk]
  rfl
/-- only the tally's rows and total have changed -/
def pu_ft (k : Nat) (S S' : qm_S) : Prop := (∀ q, q ≠ 12 + k → q ≠ 16 + k → S'.1 q = S.1 q) ∧ S'.2.1 = S.2.1 ∧ ∀ j, j ≠ k → S'.2.2 j = S.2.2 j
theorem pu_ft.fr {k : Nat} {S S' : qm_S} (h : pu_ft k S S') : pu_fr k S S' := ⟨fun q hq => h.1 q (fun e => hq (Or.inr (Or.inr (Or.inr (Or.inl e))))) (fun e => hq (Or.inr (Or.inr (Or.inr (Or.inr (Or.inl e)))))), fun j hj => ⟨by rw [h.2.1], h.2.2 j hj⟩⟩
theorem ta_ft {S : qm_S} {k : Nat} {A B : qm_R} {v : Int32} : pu_ft k S (qm_to (qm_row (qm_row S (12 + k) A) (16 + k) B) k v) :=
  ⟨fun q h1 h2 => (qm_row_ne _ _ h2).trans (qm_row_ne _ _ h1), rfl, fun j hj => by simp [qm_to, qm_row, va_up, hj]⟩
theorem ta_add {S : qm_S} {k n w : Nat} {rk : Int32 → Nat} (h : pu_T S k n rk) {x : Int32} (hx : pu_rg x = true) (hw : 1 ≤ w) (hn : n + w ≤ 600) :
    ∃ S', fX5_add S k x (nI w) = some S' ∧ pu_T S' k (n + w) (fun y => rk y + (if x ≤ y then w else 0)) ∧ pu_ft k S S' := by
  obtain ⟨kn, K, t, ⟨h1, h2, h3⟩, hK, ht, hs, ⟨hp, hr⟩, hsum, hrk⟩ := h
  have hkn : kn ≤ n := by rw [← hsum]; exact pu_ns_ge hp
  have hc := pu_cnt_le K x kn
  obtain ⟨cl, cg⟩ := pu_cnt_up (x := x) (pu_sup hs)
  generalize hcd : pu_cnt K x kn = c at hc cl cg
  have ins : ∃ S', some (qm_to (qm_row (qm_row S (12 + k) (rw_ins (S.1 (12 + k)) (nI c) x)) (16 + k) (rw_ins ((qm_row S (12 + k) (rw_ins (S.1 (12 + k)) (nI c) x)).1 (16 + k)) (nI c) (nI w))) k (((qm_row (qm_row S (12 + k) (rw_ins (S.1 (12 + k)) (nI c) x)) (16 + k) (rw_ins ((qm_row S (12 + k) (rw_ins (S.1 (12 + k)) (nI c) x)).1 (16 + k)) (nI c) (nI w))).2.2 k) + nI w)) = some S' ∧ ((0 < c → K (c - 1) ≠ x) → pu_T S' k (n + w) (fun y => rk y + (if x ≤ y then w else 0))) ∧ pu_ft k S S' := by
    refine ⟨_, rfl, fun hne => ?_, ta_ft⟩
    refine ⟨kn + 1, pu_ins K c x, pu_ins t c w, ⟨?_, ?_, ?_⟩, fun j hj => ?_, fun j hj => ?_, fun i j hij hj => ?_, ⟨fun j hj => ?_, fun j hj => ?_⟩, ?_, fun y => ?_⟩
    · show ((qm_row (qm_row S (12 + k) _) (16 + k) _).1 (12 + k)).1 = _
      rw [qm_row_ne _ _ (show 12 + k ≠ 16 + k by omega), qm_row_at, rw_ins_in h1 (by omega) hc]
    · show ((qm_row (qm_row S (12 + k) _) (16 + k) _).1 (16 + k)).1 = _
      rw [qm_row_at, qm_row_ne _ _ (show 16 + k ≠ 12 + k by omega), rw_ins_in h2 (by omega) hc]
    · show va_up _ k _ k = _
      unfold va_up
      rw [if_pos rfl]
      show S.2.2 k + nI w = _
      rw [h3, nI_add]
    · show ((qm_row (qm_row S (12 + k) _) (16 + k) _).1 (12 + k)).2 j = _
      rw [qm_row_ne _ _ (show 12 + k ≠ 16 + k by omega), qm_row_at, rw_ins_in h1 (by omega) hc]
      show upd _ _ _ _ = _
      rw [pu_ins_eq hc (by omega)]
      unfold pu_ins
      split
      · exact hK j (by omega)
      · split
        · rfl
        · exact hK _ (by omega)
    · show ((qm_row (qm_row S (12 + k) _) (16 + k) _).1 (16 + k)).2 j = _
      rw [qm_row_at, qm_row_ne _ _ (show 16 + k ≠ 12 + k by omega), rw_ins_in h2 (by omega) hc]
      show upd _ _ _ _ = _
      rw [pu_ins_eq hc (by omega)]
      unfold pu_ins
      split
      · exact ht j (by omega)
      · split
        · rfl
        · exact ht _ (by omega)
    · have lx : ∀ q, q < c → K q < x := fun q hq => by
        have e1 := cl q hq
        by_cases e : q = c - 1
        · subst e
          have := hne (by omega)
          rcases Int32.le_iff_lt_or_eq.mp e1 with a | a
          · exact a
          · exact absurd a this
        · exact pu_lt_le (hs q (c - 1) (by omega) (by omega)) (cl (c - 1) (by omega))
      unfold pu_ins
      by_cases a1 : i < c
      · rw [if_pos a1]
        by_cases b1 : j < c
        · rw [if_pos b1]; exact hs i j hij (by omega)
        · rw [if_neg b1]
          by_cases b2 : j = c
          · rw [if_pos b2]; exact lx i a1
          · rw [if_neg b2]; exact hs i (j - 1) (by omega) (by omega)
      · rw [if_neg a1, if_neg (show ¬ j < c by omega)]
        by_cases a2 : i = c
        · rw [if_pos a2, if_neg (show ¬ j = c by omega)]
          exact cg (j - 1) (by omega) (by omega)
        · rw [if_neg a2, if_neg (show ¬ j = c by omega)]
          exact hs (i - 1) (j - 1) (by omega) (by omega)
    · unfold pu_ins
      split
      · exact hp j (by omega)
      · split
        · exact hw
        · exact hp _ (by omega)
    · unfold pu_ins
      split
      · exact hr j (by omega)
      · split
        · exact hx
        · exact hr _ (by omega)
    · rw [pu_ns_ins, if_neg (by omega), show kn + 1 - 1 = kn by omega, hsum]
    · show _ = rk y + _
      rw [pu_cnt_ins hc, ← hrk y, pu_ns_ins]
      by_cases a : x ≤ y
      · rw [if_pos a, if_pos a]
        have : c ≤ pu_cnt K y kn := by
          rcases Nat.lt_or_ge (pu_cnt K y kn) c with q | q
          · exact absurd (pu_le_trans (cl _ q) a) (pu_not_le.mpr ((pu_cnt_up (x := y) (pu_sup hs)).2 _ (Nat.le_refl _) (by omega)))
          · exact q
        rw [if_neg (by omega)]
        rfl
      · rw [if_neg a, if_neg a]
        have : pu_cnt K y kn ≤ c := by
          rcases Nat.lt_or_ge c (pu_cnt K y kn) with q | q
          · have hle := pu_cnt_le K y kn
            exact absurd (pu_lt_le (cg c (Nat.le_refl _) (by omega)) ((pu_cnt_up (x := y) (pu_sup hs)).1 c q)) (fun z => a (pu_lt_le' z))
          · exact q
        rw [Nat.add_zero, if_pos this, Nat.add_zero]
  unfold fX5_add
  rw [na_is h1 (by omega) ((pu_sup hs).congr hK), pu_cnt_congr hK, hcd]
  simp only [Option.bind_some]
  by_cases c0 : c = 0
  · subst c0
    rw [if_pos (show nI 0 ≤ 0 from pu_le_refl _)]
    obtain ⟨S', e1, e2, e3⟩ := ins
    exact ⟨S', e1, e2 (fun q => absurd q (by omega)), e3⟩
  · rw [if_neg (nI_nle (by omega) (by omega)), pu_1, pk_sub (by omega), rw_at_in h1 (by omega) (by omega), hK _ (by omega)]
    by_cases e : K (c - 1) = x
    · rw [if_pos e, rw_at_in h2 (by omega) (by omega), ht _ (by omega), nI_add, rw_put_in h2 (by omega) (by omega)]
      refine ⟨_, rfl, ⟨kn, K, va_up t (c - 1) (t (c - 1) + w), ⟨?_, ?_, ?_⟩, fun j hj => ?_, fun j hj => ?_, hs, ⟨fun j hj => ?_, hr⟩, ?_, fun y => ?_⟩, ?_⟩
      · show ((qm_row S (16 + k) _).1 (12 + k)).1 = _
        rw [qm_row_ne _ _ (show 12 + k ≠ 16 + k by omega), h1]
      · show ((qm_row S (16 + k) _).1 (16 + k)).1 = _
        rw [qm_row_at]
      · show va_up _ k _ k = _
        unfold va_up
        rw [if_pos rfl]
        show S.2.2 k + nI w = _
        rw [h3, nI_add]
      · show ((qm_row S (16 + k) _).1 (12 + k)).2 j = _
        rw [qm_row_ne _ _ (show 12 + k ≠ 16 + k by omega), hK j hj]
      · show ((qm_row S (16 + k) _).1 (16 + k)).2 j = _
        rw [qm_row_at]
        show upd _ _ _ j = _
        unfold va_up
        by_cases ej : j = c - 1
        · subst ej
          rw [pk_us, if_pos rfl]
        · rw [pk_un ej, if_neg ej, ht j hj]
      · unfold va_up
        split
        · have := hp (c - 1) (by omega); omega
        · exact hp j hj
      · rw [pu_ns_upd, if_pos (by omega), hsum]
      · show _ = rk y + _
        rw [pu_ns_upd, hrk]
        congr 1
        obtain ⟨yl, yg⟩ := pu_cnt_up (x := y) (pu_sup hs)
        by_cases a : x ≤ y
        · rw [if_pos a, if_pos]
          rcases Nat.lt_or_ge (c - 1) (pu_cnt K y kn) with q | q
          · exact q
          · exact absurd (yg (c - 1) q (by omega)) (pu_not_lt.mpr (by rw [e]; exact a))
        · rw [if_neg a, if_neg]
          intro q
          exact a (by rw [← e]; exact yl _ q)
      · exact ⟨fun q a b => qm_row_ne _ _ b, rfl, fun j hj => by simp [qm_to, qm_row, va_up, hj]⟩
    · rw [if_neg e]
      obtain ⟨S', e1, e2, e3⟩ := ins
      exact ⟨S', e1, e2 (fun _ => e), e3⟩
theorem ta_clear {S : qm_S} {k n : Nat} {rk : Int32 → Nat} (h : pu_T S k n rk) (hn : n ≤ 600) : pu_T (ta_clr S k) k 0 (fun _ => 0) ∧ pu_ft k S (ta_clr S k) := by
  obtain ⟨kn, K, t, ⟨h1, h2, h3⟩, hK, ht, hs, ⟨hp, hr⟩, hsum, hrk⟩ := h
  have hkn : kn ≤ n := by rw [← hsum]; exact pu_ns_ge hp
  refine ⟨⟨0, K, t, ⟨?_, ?_, ?_⟩, fun j hj => absurd hj (by omega), fun j hj => absurd hj (by omega), fun i j _ hj => absurd hj (by omega), ⟨fun j hj => absurd hj (by omega), fun j hj => absurd hj (by omega)⟩, rfl, fun y => rfl⟩, ta_ft⟩
  · show ((qm_row (qm_row S (12 + k) _) (16 + k) _).1 (12 + k)).1 = _
    rw [qm_row_ne _ _ (show 12 + k ≠ 16 + k by omega), qm_row_at, pu_0, rw_cut_in h1 (by omega) (by omega)]
  · show ((qm_row (qm_row S (12 + k) _) (16 + k) _).1 (16 + k)).1 = _
    rw [qm_row_at, pu_0, rw_cut_in h2 (by omega) (by omega)]
  · show va_up _ k _ k = _
    unfold va_up
    rw [if_pos rfl]
    rfl
