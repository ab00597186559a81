/-! ===== both sides: what reads ===== -/
def st_R (S : qm_S) (M : mm_M) : Prop := ∀ k, k < 4 → ∃ (n m : Nat) (V : Nat → Int32) (g : Nat → Nat) (p N : Nat → Int32) (th : Int32), pu_I n m V g N ∧ pu_C S k n m V g p N th ∧ pm_R M k n m V g p N th
theorem st_R.th {S : qm_S} {M : mm_M} {v : Int32} (h : st_R S M) : st_R S (mm_th M v) := h
/-- the places of what a method may throw -/
abbrev st_1 : List String := ["java/lang/IndexOutOfBoundsException"]
abbrev st_2 : List String := ["java/lang/IndexOutOfBoundsException", "java/lang/IllegalStateException"]
abbrev st_b : List String := ["java/lang/IndexOutOfBoundsException", "java/lang/IllegalArgumentException"]
abbrev st_3 : List String := ["java/lang/IndexOutOfBoundsException", "java/lang/IllegalArgumentException", "java/lang/IllegalStateException"]
def st_a (ts : List String) (z : Int32 ⊕ String) (b c : Int32) : Prop :=
  (∃ v, z = .inl v ∧ c = 0 ∧ b = v) ∨ ∃ (i : Nat) (E : String), ts[i]? = some E ∧ z = .inr E ∧ c = nI (i + 1)
def st_q (ts : List String) (M : mm_M) (x : Option (Int32 ⊕ String)) (y : Option (Int32 × mm_M)) : Prop :=
  ∃ z b c, x = some z ∧ y = some (b, mm_th M c) ∧ st_a ts z b c
theorem st_q.v {ts : List String} {M : mm_M} {x : Option (Int32 ⊕ String)} {y : Option (Int32 × mm_M)} {v : Int32} (hy : y = some (v, mm_th M 0)) (hx : x = some (.inl v)) : st_q ts M x y :=
  ⟨_, _, _, hx, hy, Or.inl ⟨v, rfl, rfl, rfl⟩⟩
theorem st_q.e {ts : List String} {M : mm_M} {x : Option (Int32 ⊕ String)} {y : Option (Int32 × mm_M)} (i : Nat) {E : String} {b : Int32} (hE : ts[i]? = some E) (hy : y = some (b, mm_th M (nI (i + 1)))) (hx : x = some (.inr E)) : st_q ts M x y :=
  ⟨_, _, _, hx, hy, Or.inr ⟨i, E, hE, rfl, rfl⟩⟩
theorem qc_in {S : qm_S} {k : Nat} (hk : k < 4) : fX6_counterAt S (nI k) = some (.inl k) := by
  unfold fX6_counterAt
  rw [if_neg (nI_pos (by omega)), if_pos (show nI k < (4 : Int32) from nI_lt (b := 4) hk (by omega)), qm_gd_of (pu_v4 hk), pu_cl (by omega)]
theorem qc_out {S : qm_S} {p : Int32} (h : p < 0 ∨ 4 ≤ p) : fX6_counterAt S p = some (.inr "java/lang/IndexOutOfBoundsException") := by
  unfold fX6_counterAt
  rcases h with h | h
  · rw [if_pos h]
  · by_cases c : p < 0
    · rw [if_pos c]
    · rw [if_neg c, if_neg (fun q => pu_not_lt.mpr h q)]
theorem qd_0 {S : qm_S} : fX6_demandInRange S 0 = some (.inr "java/lang/IllegalArgumentException") := if_pos rfl
theorem qd_1 {S : qm_S} : fX6_demandInRange S 1 = some (.inl ()) := if_neg (by decide)
theorem pc_tot {S : qm_S} {k n m : Nat} {V : Nat → Int32} {g : Nat → Nat} {p N : Nat → Int32} {th : Int32} (h : pu_C S k n m V g p N th) : S.2.2 k = nI n := by
  obtain ⟨-, ⟨_, _, _, ⟨_, _, h3⟩, _⟩, _⟩ := h
  exact h3
theorem qn_in {S : qm_S} {k n : Nat} (h : S.2.2 k = nI n) (hn : n ≤ 600) (h0 : 0 < n) : fX0_demandNumbers S k = some (.inl ()) := by
  unfold fX0_demandNumbers
  rw [h, if_pos (show (0 : Int32) < nI n from nI_lt (a := 0) h0 (by omega))]
theorem qn_out {S : qm_S} {k : Nat} (h : S.2.2 k = nI 0) : fX0_demandNumbers S k = some (.inr "java/lang/IllegalStateException") := by
  unfold fX0_demandNumbers
  rw [h, if_neg (show ¬ (0 : Int32) < nI 0 from nI_nlt (b := 0) (a := 0) (by omega) (by omega))]
theorem pm_isMark_out {M : mm_M} {p q : Int32} (h : ¬ mo_in p 0 3) : fX7_isMark M p q = some (0, mm_th M 1) := by
  unfold fX7_isMark
  rw [if_neg h]
theorem pm_canAsk_out {M : mm_M} {p q : Int32} (h : ¬ mo_in p 0 3) : fX7_canAsk M p q = some (0, mm_th M 1) := by
  unfold fX7_canAsk
  rw [if_neg h]
theorem pm_half_out {M : mm_M} {p : Int32} (h : ¬ mo_in p 0 3) : fX7_half M p = some (0, mm_th M 1) := by
  unfold fX7_half
  rw [if_neg h]
theorem qr_in {S : qm_S} {k m j : Nat} (hk : k < 4) (h : (S.1 k).1 = nI m) (hm : m ≤ 600) (hj : j < m) : fX6_rowWith S (nI k) (nI j) = some (.inl k) := by
  unfold fX6_rowWith
  rw [qc_in hk]
  simp only [Option.bind_some, Sum.elim_inl]
  rw [qm_gd_of hk, if_neg (nI_pos (by omega)), h, if_pos (nI_lt hj (by omega))]
theorem qr_bad {S : qm_S} {k m : Nat} {q : Int32} (hk : k < 4) (h : (S.1 k).1 = nI m) (hq : q < 0 ∨ nI m ≤ q) : fX6_rowWith S (nI k) q = some (.inr "java/lang/IndexOutOfBoundsException") := by
  unfold fX6_rowWith
  rw [qc_in hk]
  simp only [Option.bind_some, Sum.elim_inl]
  rw [qm_gd_of hk, h]
  rcases hq with c | c
  · rw [if_pos c]
  · by_cases d : q < 0
    · rw [if_pos d]
    · rw [if_neg d, if_neg (fun z => pu_not_lt.mpr c z)]
theorem qr_out {S : qm_S} {p q : Int32} (h : p < 0 ∨ 4 ≤ p) : fX6_rowWith S p q = some (.inr "java/lang/IndexOutOfBoundsException") := by
  unfold fX6_rowWith
  rw [qc_out h]
  rfl
theorem qs_in {S : qm_S} {k n : Nat} {q : Int32} (hk : k < 4) (h : S.2.2 k = nI n) (hn : n ≤ 600) (h0 : 0 < n) (hq : mo_in q 0 1000) : fX6_counterForShare S (nI k) q = some (.inl k) := by
  unfold fX6_counterForShare
  rw [qc_in hk]
  simp only [Option.bind_some, Sum.elim_inl]
  rw [qm_gd_of hk, if_neg hq.1, if_neg hq.2, qd_1]
  simp only [Option.bind_some, Sum.elim_inl]
  rw [qn_in h hn h0]
  rfl
theorem qs_ise {S : qm_S} {k : Nat} {q : Int32} (hk : k < 4) (h : S.2.2 k = nI 0) (hq : mo_in q 0 1000) : fX6_counterForShare S (nI k) q = some (.inr "java/lang/IllegalStateException") := by
  unfold fX6_counterForShare
  rw [qc_in hk]
  simp only [Option.bind_some, Sum.elim_inl]
  rw [qm_gd_of hk, if_neg hq.1, if_neg hq.2, qd_1]
  simp only [Option.bind_some, Sum.elim_inl]
  rw [qn_out h]
  rfl
theorem qs_iae {S : qm_S} {k : Nat} {q : Int32} (hk : k < 4) (hq : ¬ mo_in q 0 1000) : fX6_counterForShare S (nI k) q = some (.inr "java/lang/IllegalArgumentException") := by
  unfold fX6_counterForShare
  rw [qc_in hk]
  simp only [Option.bind_some, Sum.elim_inl]
  rw [qm_gd_of hk, qd_0]
  simp only [Option.bind_some, Sum.elim_inr]
  by_cases c : q < 0
  · rw [if_pos c]
  · rw [if_neg c, if_pos (by
      by_cases d : 1000 < q
      · exact d
      · exact absurd ⟨c, d⟩ hq)]
theorem qs_out {S : qm_S} {p q : Int32} (h : p < 0 ∨ 4 ≤ p) : fX6_counterForShare S p q = some (.inr "java/lang/IndexOutOfBoundsException") := by
  unfold fX6_counterForShare
  rw [qc_out h]
  rfl
theorem rk_1 (x : Int32) : x + 1000 - 1 = x + 999 := by grind
theorem rk_is {n : Nat} {q : Int32} : (if (1 : Int32) < ((((q * nI n) + (1000 : Int32)) - (1 : Int32)) / (1000 : Int32)) then (((q * nI n) + (1000 : Int32)) - (1 : Int32)) / (1000 : Int32) else (1 : Int32)) = pu_rank n q := by
  rw [rk_1]
  unfold pu_rank
  generalize (q * nI n + 999) / 1000 = y
  by_cases c : (1 : Int32) < y
  · rw [if_pos c, if_pos (pu_lt_le' c)]
  · rw [if_neg c]
    by_cases d : (1 : Int32) ≤ y
    · rw [if_pos d, pu_antisymm d (pu_not_lt.mp c)]
    · rw [if_neg d]
section StRead
variable {S : qm_S} {M : mm_M}
theorem st_count (h : st_R S M) (p : Int32) : st_q st_1 M (fX6_count S p) (fX7_count M p) := by
  rcases pu_arg p with ⟨k, hk, rfl⟩ | ⟨ho, hn⟩
  · obtain ⟨n, m, V, g, P, N, th, hI, hC, hR⟩ := h k hk
    have hn6 := hI.1
    have hm6 : m ≤ 600 := by have := hI.2.1; omega
    refine .v (pm_count hk hR) ?_
    unfold fX6_count
    rw [qc_in hk]
    simp only [Option.bind_some, Sum.elim_inl]
    rw [qm_gd_of hk]
    rw [pc_tot hC]
  · refine .e 0 rfl (b := 0) ?_ ?_
    · unfold fX7_count
      rw [pm_there.2 hn]
      rfl
    · unfold fX6_count
      rw [qc_out ho]
      rfl
theorem st_bound (h : st_R S M) (p : Int32) : st_q st_1 M (fX6_bound S p) (fX7_bound M p) := by
  rcases pu_arg p with ⟨k, hk, rfl⟩ | ⟨ho, hn⟩
  · obtain ⟨n, m, V, g, P, N, th, hI, hC, hR⟩ := h k hk
    have hn6 := hI.1
    have hm6 : m ≤ 600 := by have := hI.2.1; omega
    refine .v (pm_bound hk hR) ?_
    unfold fX6_bound
    rw [qc_in hk]
    simp only [Option.bind_some, Sum.elim_inl]
    rw [qm_gd_of hk]
    rw [hC.2.2.2]
  · refine .e 0 rfl (b := 0) ?_ ?_
    · unfold fX7_bound
      rw [pm_there.2 hn]
      rfl
    · unfold fX6_bound
      rw [qc_out ho]
      rfl
theorem st_allowance (h : st_R S M) (p : Int32) : st_q st_1 M (fX6_allowance S p) (fX7_allowance M p) := by
  rcases pu_arg p with ⟨k, hk, rfl⟩ | ⟨ho, hn⟩
  · obtain ⟨n, m, V, g, P, N, th, hI, hC, hR⟩ := h k hk
    have hn6 := hI.1
    have hm6 : m ≤ 600 := by have := hI.2.1; omega
    refine .v (pm_allowance hk hR) ?_
    unfold fX6_allowance
    rw [qc_in hk]
    simp only [Option.bind_some, Sum.elim_inl]
    rw [qm_gd_of hk]
    rw [hC.2.2.2, pc_tot hC]
  · refine .e 0 rfl (b := 0) ?_ ?_
    · unfold fX7_allowance
      rw [pm_there.2 hn]
      rfl
    · unfold fX6_allowance
      rw [qc_out ho]
      rfl
theorem st_marks (h : st_R S M) (p : Int32) : st_q st_1 M (fX6_marks S p) (fX7_marks M p) := by
  rcases pu_arg p with ⟨k, hk, rfl⟩ | ⟨ho, hn⟩
  · obtain ⟨n, m, V, g, P, N, th, hI, hC, hR⟩ := h k hk
    have hn6 := hI.1
    have hm6 : m ≤ 600 := by have := hI.2.1; omega
    refine .v (pm_marks hk hR) ?_
    unfold fX6_marks
    rw [qc_in hk]
    simp only [Option.bind_some, Sum.elim_inl]
    rw [qm_gd_of hk]
    rw [hC.1.1.1]
  · refine .e 0 rfl (b := 0) ?_ ?_
    · unfold fX7_marks
      rw [pm_there.2 hn]
      rfl
    · unfold fX6_marks
      rw [qc_out ho]
      rfl
theorem st_widest (h : st_R S M) (p : Int32) : st_q st_1 M (fX6_widest S p) (fX7_widest M p) := by
  rcases pu_arg p with ⟨k, hk, rfl⟩ | ⟨ho, hn⟩
  · obtain ⟨n, m, V, g, P, N, th, hI, hC, hR⟩ := h k hk
    have hn6 := hI.1
    have hm6 : m ≤ 600 := by have := hI.2.1; omega
    refine .v (pm_widest hk hR hm6) ?_
    unfold fX6_widest
    rw [qc_in hk]
    simp only [Option.bind_some, Sum.elim_inl]
    rw [qm_gd_of hk]
    rw [mk_widest hC.1 hm6]
    rfl
  · refine .e 0 rfl (b := 0) ?_ ?_
    · unfold fX7_widest
      rw [pm_there.2 hn]
      rfl
    · unfold fX6_widest
      rw [qc_out ho]
      rfl
theorem st_atLeastUpTo (h : st_R S M) (p : Int32) (q : Int32) : st_q st_1 M (fX6_atLeastUpTo S p q) (fX7_atLeastUpTo M p q) := by
  rcases pu_arg p with ⟨k, hk, rfl⟩ | ⟨ho, hn⟩
  · obtain ⟨n, m, V, g, P, N, th, hI, hC, hR⟩ := h k hk
    have hn6 := hI.1
    have hm6 : m ≤ 600 := by have := hI.2.1; omega
    refine .v (pm_atLeast hk hR hm6 hI.2.2.1 q) ?_
    unfold fX6_atLeastUpTo
    rw [qc_in hk]
    simp only [Option.bind_some, Sum.elim_inl]
    rw [qm_gd_of hk]
    rw [mk_atLeast hC.1 hm6 hI.2.2.1]
    rfl
  · refine .e 0 rfl (b := 0) ?_ ?_
    · unfold fX7_atLeastUpTo
      rw [pm_there.2 hn]
      rfl
    · unfold fX6_atLeastUpTo
      rw [qc_out ho]
      rfl
theorem st_reallyUpTo (h : st_R S M) (p : Int32) (q : Int32) : st_q st_1 M (fX6_reallyUpTo S p q) (fX7_reallyUpTo M p q) := by
  rcases pu_arg p with ⟨k, hk, rfl⟩ | ⟨ho, hn⟩
  · obtain ⟨n, m, V, g, P, N, th, hI, hC, hR⟩ := h k hk
    have hn6 := hI.1
    have hm6 : m ≤ 600 := by have := hI.2.1; omega
    refine .v (pm_reallyUpTo hk hR hn6 q) ?_
    unfold fX6_reallyUpTo
    rw [qc_in hk]
    simp only [Option.bind_some, Sum.elim_inl]
    rw [qm_gd_of hk]
    rw [ta_notAbove hC.2.1 hn6]
    rfl
  · refine .e 0 rfl (b := 0) ?_ ?_
    · unfold fX7_reallyUpTo
      rw [pm_there.2 hn]
      rfl
    · unfold fX6_reallyUpTo
      rw [qc_out ho]
      rfl
theorem st_atMostUpTo (h : st_R S M) (p : Int32) (q : Int32) : st_q st_1 M (fX6_atMostUpTo S p q) (fX7_atMostUpTo M p q) := by
  rcases pu_arg p with ⟨k, hk, rfl⟩ | ⟨ho, hn⟩
  · obtain ⟨n, m, V, g, P, N, th, hI, hC, hR⟩ := h k hk
    have hn6 := hI.1
    have hm6 : m ≤ 600 := by have := hI.2.1; omega
    refine .v (pm_atMost hk hR hm6 hI.2.2.1 q) ?_
    unfold fX6_atMostUpTo
    rw [qc_in hk]
    simp only [Option.bind_some, Sum.elim_inl]
    rw [qm_gd_of hk]
    rw [mk_firstAbove hC.1 hm6 hI.2.2.1]
    simp only [Option.bind_some]
    have hc := pu_cnt_le V q m
    rw [hC.1.1.1]
    by_cases c : pu_cnt V q m < m
    · rw [if_pos c, if_neg (nI_ge c (by omega)), mk_rankTo hC.1 hm6 c]
      rfl
    · rw [if_neg c, if_pos (nI_le (by omega) (by omega)), pc_tot hC]
  · refine .e 0 rfl (b := 0) ?_ ?_
    · unfold fX7_atMostUpTo
      rw [pm_there.2 hn]
      rfl
    · unfold fX6_atMostUpTo
      rw [qc_out ho]
      rfl
theorem st_value (h : st_R S M) (p q : Int32) : st_q st_1 M (fX6_value S p q) (fX7_value M p q) := by
  rcases pu_arg p with ⟨k, hk, rfl⟩ | ⟨ho, hn⟩
  · obtain ⟨n, m, V, g, P, N, th, hI, hC, hR⟩ := h k hk
    have hm6 : m ≤ 600 := by have := hI.1; have := hI.2.1; omega
    rcases pu_mk hm6 q with ⟨j, hj, rfl, hin⟩ | ⟨ho, hn⟩
    · refine .v (pm_value hk hR hm6 hj hin).1 ?_
      unfold fX6_value
      rw [qr_in hk hC.1.1.1 hm6 hj]
      simp only [Option.bind_some, Sum.elim_inl]
      rw [qm_gd_of hk]
      rw [mk_v hC.1 hm6 hj]
    · refine .e 0 rfl (b := 0) ?_ ?_
      · unfold fX7_value
        rw [(pm_isMark hk hR q).2 hn]
        rfl
      · unfold fX6_value
        rw [qr_bad hk hC.1.1.1 ho]
        rfl
  · refine .e 0 rfl (b := 0) ?_ ?_
    · unfold fX7_value
      rw [pm_isMark_out hn]
      rfl
    · unfold fX6_value
      rw [qr_out ho]
      rfl
theorem st_lowestRank (h : st_R S M) (p q : Int32) : st_q st_1 M (fX6_lowestRank S p q) (fX7_lowestRank M p q) := by
  rcases pu_arg p with ⟨k, hk, rfl⟩ | ⟨ho, hn⟩
  · obtain ⟨n, m, V, g, P, N, th, hI, hC, hR⟩ := h k hk
    have hm6 : m ≤ 600 := by have := hI.1; have := hI.2.1; omega
    rcases pu_mk hm6 q with ⟨j, hj, rfl, hin⟩ | ⟨ho, hn⟩
    · refine .v (pm_value hk hR hm6 hj hin).2.1 ?_
      unfold fX6_lowestRank
      rw [qr_in hk hC.1.1.1 hm6 hj]
      simp only [Option.bind_some, Sum.elim_inl]
      rw [qm_gd_of hk]
      rw [mk_rankFrom hC.1 hm6 hj]
      rfl
    · refine .e 0 rfl (b := 0) ?_ ?_
      · unfold fX7_lowestRank
        rw [(pm_isMark hk hR q).2 hn]
        rfl
      · unfold fX6_lowestRank
        rw [qr_bad hk hC.1.1.1 ho]
        rfl
  · refine .e 0 rfl (b := 0) ?_ ?_
    · unfold fX7_lowestRank
      rw [pm_isMark_out hn]
      rfl
    · unfold fX6_lowestRank
      rw [qr_out ho]
      rfl
theorem st_highestRank (h : st_R S M) (p q : Int32) : st_q st_1 M (fX6_highestRank S p q) (fX7_highestRank M p q) := by
  rcases pu_arg p with ⟨k, hk, rfl⟩ | ⟨ho, hn⟩
  · obtain ⟨n, m, V, g, P, N, th, hI, hC, hR⟩ := h k hk
    have hm6 : m ≤ 600 := by have := hI.1; have := hI.2.1; omega
    rcases pu_mk hm6 q with ⟨j, hj, rfl, hin⟩ | ⟨ho, hn⟩
    · refine .v (pm_value hk hR hm6 hj hin).2.2 ?_
      unfold fX6_highestRank
      rw [qr_in hk hC.1.1.1 hm6 hj]
      simp only [Option.bind_some, Sum.elim_inl]
      rw [qm_gd_of hk]
      rw [mk_rankTo hC.1 hm6 hj]
      rfl
    · refine .e 0 rfl (b := 0) ?_ ?_
      · unfold fX7_highestRank
        rw [(pm_isMark hk hR q).2 hn]
        rfl
      · unfold fX6_highestRank
        rw [qr_bad hk hC.1.1.1 ho]
        rfl
  · refine .e 0 rfl (b := 0) ?_ ?_
    · unfold fX7_highestRank
      rw [pm_isMark_out hn]
      rfl
    · unfold fX6_highestRank
      rw [qr_out ho]
      rfl
theorem st_ask (h : st_R S M) (p q : Int32) : st_q st_3 M (fX6_ask S p q) (fX7_ask M p q) := by
  rcases pu_arg p with ⟨k, hk, rfl⟩ | ⟨ho, hn⟩
  · obtain ⟨n, m, V, g, P, N, th, hI, hC, hR⟩ := h k hk
    have hn6 := hI.1
    have hm6 : m ≤ 600 := by have := hI.2.1; omega
    by_cases hq : mo_in q 0 1000
    · by_cases h0 : 0 < n
      · have hm0 : 0 < m := by
          rcases Nat.eq_zero_or_pos m with e | e
          · subst e
            have := hI.2.2.2.2.1
            rw [show pu_ns g 0 = 0 from rfl] at this
            omega
          · exact e
        refine .v ((pm_ask hk hR hn6 hm6 h0 hm0 hq).1) ?_
        unfold fX6_ask
        rw [qs_in hk (pc_tot hC) hn6 h0 hq]
        simp only [Option.bind_some, Sum.elim_inl]
        rw [qm_gd_of hk, pc_tot hC, rk_is, mk_answering hC.1 hm6 hm0]
        simp only [Option.bind_some]
        rw [mk_v hC.1 hm6 (pu_best_lt _ _ _ _ hm0)]
      · have e : n = 0 := by omega
        subst e
        refine .e 2 rfl (b := 0) ?_ ?_
        · unfold fX7_ask
          rw [(pm_canAsk hk hR hn6 q).2.1 hq rfl]
          rfl
        · unfold fX6_ask
          rw [qs_ise hk (pc_tot hC) hq]
          rfl
    · refine .e 1 rfl (b := 0) ?_ ?_
      · unfold fX7_ask
        rw [(pm_canAsk hk hR hn6 q).1 hq]
        rfl
      · unfold fX6_ask
        rw [qs_iae hk hq]
        rfl
  · refine .e 0 rfl (b := 0) ?_ ?_
    · unfold fX7_ask
      rw [pm_canAsk_out hn]
      rfl
    · unfold fX6_ask
      rw [qs_out ho]
      rfl
theorem st_off (h : st_R S M) (p q : Int32) : st_q st_3 M (fX6_off S p q) (fX7_off M p q) := by
  rcases pu_arg p with ⟨k, hk, rfl⟩ | ⟨ho, hn⟩
  · obtain ⟨n, m, V, g, P, N, th, hI, hC, hR⟩ := h k hk
    have hn6 := hI.1
    have hm6 : m ≤ 600 := by have := hI.2.1; omega
    by_cases hq : mo_in q 0 1000
    · by_cases h0 : 0 < n
      · have hm0 : 0 < m := by
          rcases Nat.eq_zero_or_pos m with e | e
          · subst e
            have := hI.2.2.2.2.1
            rw [show pu_ns g 0 = 0 from rfl] at this
            omega
          · exact e
        refine .v ((pm_ask hk hR hn6 hm6 h0 hm0 hq).2) ?_
        unfold fX6_off
        rw [qs_in hk (pc_tot hC) hn6 h0 hq]
        simp only [Option.bind_some, Sum.elim_inl]
        rw [qm_gd_of hk, pc_tot hC, rk_is, mk_answering hC.1 hm6 hm0]
        simp only [Option.bind_some]
        rw [mk_offBy hC.1 hm6 _ (pu_best_lt _ _ _ _ hm0)]
        rfl
      · have e : n = 0 := by omega
        subst e
        refine .e 2 rfl (b := 0) ?_ ?_
        · unfold fX7_off
          rw [(pm_canAsk hk hR hn6 q).2.1 hq rfl]
          rfl
        · unfold fX6_off
          rw [qs_ise hk (pc_tot hC) hq]
          rfl
    · refine .e 1 rfl (b := 0) ?_ ?_
      · unfold fX7_off
        rw [(pm_canAsk hk hR hn6 q).1 hq]
        rfl
      · unfold fX6_off
        rw [qs_iae hk hq]
        rfl
  · refine .e 0 rfl (b := 0) ?_ ?_
    · unfold fX7_off
      rw [pm_canAsk_out hn]
      rfl
    · unfold fX6_off
      rw [qs_out ho]
      rfl
theorem st_reallyOff (h : st_R S M) (p q : Int32) : st_q st_3 M (fX6_reallyOff S p q) (fX7_reallyOff M p q) := by
  rcases pu_arg p with ⟨k, hk, rfl⟩ | ⟨ho, hn⟩
  · obtain ⟨n, m, V, g, P, N, th, hI, hC, hR⟩ := h k hk
    have hn6 := hI.1
    have hm6 : m ≤ 600 := by have := hI.2.1; omega
    by_cases hq : mo_in q 0 1000
    · by_cases h0 : 0 < n
      · have hm0 : 0 < m := by
          rcases Nat.eq_zero_or_pos m with e | e
          · subst e
            have := hI.2.2.2.2.1
            rw [show pu_ns g 0 = 0 from rfl] at this
            omega
          · exact e
        refine .v (pm_reallyOff hk hR hn6 hm6 h0 hm0 hq) ?_
        unfold fX6_reallyOff
        rw [qs_in hk (pc_tot hC) hn6 h0 hq]
        simp only [Option.bind_some, Sum.elim_inl]
        rw [qm_gd_of hk, pc_tot hC, rk_is, mk_answering hC.1 hm6 hm0]
        simp only [Option.bind_some]
        rw [mk_v hC.1 hm6 (pu_best_lt _ _ _ _ hm0), ta_notAbove hC.2.1 hn6]
        simp only [Option.bind_some]
        rw [ta_notAbove hC.2.1 hn6]
        simp only [Option.bind_some]
        unfold pu_rof
        split
        · split <;> rfl
        · rfl
      · have e : n = 0 := by omega
        subst e
        refine .e 2 rfl (b := 0) ?_ ?_
        · unfold fX7_reallyOff
          rw [(pm_canAsk hk hR hn6 q).2.1 hq rfl]
          rfl
        · unfold fX6_reallyOff
          rw [qs_ise hk (pc_tot hC) hq]
          rfl
    · refine .e 1 rfl (b := 0) ?_ ?_
      · unfold fX7_reallyOff
        rw [(pm_canAsk hk hR hn6 q).1 hq]
        rfl
      · unfold fX6_reallyOff
        rw [qs_iae hk hq]
        rfl
  · refine .e 0 rfl (b := 0) ?_ ?_
    · unfold fX7_reallyOff
      rw [pm_canAsk_out hn]
      rfl
    · unfold fX6_reallyOff
      rw [qs_out ho]
      rfl
/-- the number with a rank, out of the kinds -/
theorem wr_L {k kn : Nat} {K : Nat → Int32} {t : Nat → Nat} {r : Nat} (hkn : kn ≤ 600) (hns : pu_ns t kn ≤ 600) (h1 : (S.1 (12 + k)).1 = nI kn) (h2 : (S.1 (16 + k)).1 = nI kn) (hK : ∀ j, j < kn → (S.1 (12 + k)).2 j = K j) (hT : ∀ j, j < kn → (S.1 (16 + k)).2 j = nI (t j)) (hr : r ≤ pu_ns t kn) :
    ∀ (fuel i : Nat), i < kn → kn < i + fuel → pu_ns t i < r → ∃ j, i ≤ j ∧ j < kn ∧ fX5_withRank_L4 k (nI r) fuel (nI (pu_ns t i)) (nI i) S = some (K j) ∧ pu_ns t j < r ∧ r ≤ pu_ns t (j + 1) := by
  intro fuel
  induction fuel with
  | zero => intro i a b; omega
  | succ fuel ih =>
    intro i a b c
    have e : pu_ns t (i + 1) = pu_ns t i + t i := rfl
    have hm := pu_ns_mono t (show i + 1 ≤ kn by omega)
    rw [fX5_withRank_L4, h1, if_neg (nI_ge a (by omega)), rw_at_in h2 hkn a, rw_at_in h1 hkn a, hK i a, hT i a, nI_add, ← e]
    by_cases d : pu_ns t (i + 1) < r
    · rw [if_pos (nI_lt d (by omega)), nI_1]
      have a1 : i + 1 < kn := by
        rcases Nat.lt_or_ge (i + 1) kn with q | q
        · exact q
        · have : i + 1 = kn := by omega
          rw [this] at d
          omega
      obtain ⟨j, q1, q2, q3, q4⟩ := ih (i + 1) a1 (by omega) d
      exact ⟨j, by omega, q2, q3, q4⟩
    · rw [if_neg (nI_nlt (by omega) (by omega))]
      exact ⟨i, Nat.le_refl _, a, rfl, c, by omega⟩
/-- what is the number with rank r -/
theorem nr_is {n r : Nat} {N : Nat → Int32} {v : Int32} (hu : pu_up N n) (h1 : 1 ≤ r) (hr : r ≤ n) (h : ∀ y, v ≤ y ↔ r ≤ pu_cnt N y n) : v = N (r - 1) := by
  have e : ∀ y, N (r - 1) ≤ y ↔ r ≤ pu_cnt N y n := by
    intro y
    obtain ⟨a, b⟩ := pu_cnt_up (x := y) hu
    constructor
    · intro c
      rcases Nat.lt_or_ge (pu_cnt N y n) r with d | d
      · exact absurd c (pu_not_le.mpr (b (r - 1) (by omega) (by omega)))
      · exact d
    · intro c
      exact a (r - 1) (by omega)
  exact pu_antisymm ((h _).mpr ((e _).mp (pu_le_refl _))) ((e _).mpr ((h _).mp (pu_le_refl _)))
theorem wr_is {k n : Nat} {N : Nat → Int32} (h : pu_T S k n (fun y => pu_cnt N y n)) (hn : n ≤ 600) (hu : pu_up N n) {r : Nat} (h1 : 1 ≤ r) (hr : r ≤ n) : fX5_withRank S k (nI r) = some (N (r - 1)) := by
  obtain ⟨kn, K, t, ⟨a1, a2, a3⟩, hK, hT, hs, ⟨hp, hrg⟩, hsum, hrk⟩ := h
  have hkn : kn ≤ 600 := by have := pu_ns_ge hp; omega
  have k0 : 0 < kn := by
    rcases Nat.eq_zero_or_pos kn with e | e
    · subst e
      rw [show pu_ns t 0 = 0 from rfl] at hsum
      omega
    · exact e
  obtain ⟨j, -, q2, q3, q4, q5⟩ := wr_L (S := S) (k := k) hkn (by omega) a1 a2 hK hT (r := r) (by omega) qm_F 0 k0 (by rw [qm_F_big]; omega) (by show 0 < r; omega)
  unfold fX5_withRank
  rw [show fX5_withRank_L4 k (nI r) qm_F 0 0 S = some (K j) from q3]
  congr 1
  refine nr_is hu h1 hr (fun y => ?_)
  show K j ≤ y ↔ r ≤ pu_cnt N y n
  rw [show pu_cnt N y n = pu_ns t (pu_cnt K y kn) from (hrk y).symm]
  obtain ⟨b1, b2⟩ := pu_cnt_up (x := y) (pu_sup hs)
  constructor
  · intro c
    have : j + 1 ≤ pu_cnt K y kn := by
      rcases Nat.lt_or_ge j (pu_cnt K y kn) with d | d
      · exact d
      · exact absurd c (pu_not_le.mpr (b2 j d q2))
    exact Nat.le_trans q5 (pu_ns_mono t this)
  · intro c
    rcases Nat.lt_or_ge j (pu_cnt K y kn) with d | d
    · exact b1 j d
    · have := pu_ns_mono t d
      omega
theorem hf_is {n : Nat} (hn : n ≤ 600) : (nI n + 1) / 2 = nI ((n + 1) / 2) := by
  rw [nI_1, pu_2, pk_div (by omega) (by omega) (by omega)]
theorem st_middle (h : st_R S M) (p : Int32) : st_q st_2 M (fX6_middle S p) (fX7_middle M p) := by
  rcases pu_arg p with ⟨k, hk, rfl⟩ | ⟨ho, hn⟩
  · obtain ⟨n, m, V, g, P, N, th, hI, hC, hR⟩ := h k hk
    have hn6 := hI.1
    by_cases h0 : 0 < n
    · refine .v (v := N ((n + 1) / 2 - 1)) ?_ ?_
      · unfold fX7_middle
        rw [(pm_half hk hR hn6).2 h0]
        rfl
      · unfold fX6_middle
        rw [qc_in hk]
        simp only [Option.bind_some, Sum.elim_inl]
        rw [qm_gd_of hk, qn_in (pc_tot hC) hn6 h0]
        simp only [Option.bind_some, Sum.elim_inl]
        rw [pc_tot hC, hf_is hn6, wr_is hC.2.1 hn6 hI.2.2.2.2.2.1 (by omega) (by omega)]
        rfl
    · have e : n = 0 := by omega
      subst e
      refine .e 1 rfl (b := 0) ?_ ?_
      · unfold fX7_middle
        rw [(pm_half hk hR hn6).1 rfl]
        rfl
      · unfold fX6_middle
        rw [qc_in hk]
        simp only [Option.bind_some, Sum.elim_inl]
        rw [qm_gd_of hk, qn_out (pc_tot hC)]
        rfl
  · refine .e 0 rfl (b := 0) ?_ ?_
    · unfold fX7_middle
      rw [pm_half_out hn]
      rfl
    · unfold fX6_middle
      rw [qc_out ho]
      rfl
theorem st_middleByHeaps (h : st_R S M) (p : Int32) : st_q st_2 M (fX6_middleByHeaps S p) (fX7_middleByHeaps M p) := by
  rcases pu_arg p with ⟨k, hk, rfl⟩ | ⟨ho, hn⟩
  · obtain ⟨n, m, V, g, P, N, th, hI, hC, hR⟩ := h k hk
    have hn6 := hI.1
    by_cases h0 : 0 < n
    · refine .v (v := N ((n + 1) / 2 - 1)) ?_ ?_
      · unfold fX7_middleByHeaps
        rw [(pm_half hk hR hn6).2 h0]
        rfl
      · unfold fX6_middleByHeaps
        rw [qc_in hk]
        simp only [Option.bind_some, Sum.elim_inl]
        rw [qm_gd_of hk, qn_in (pc_tot hC) hn6 h0]
        simp only [Option.bind_some, Sum.elim_inl]
        obtain ⟨v, e1, e2⟩ := ha_top hC.2.2.1 hn6 h0
        rw [e1, nr_is hI.2.2.2.2.2.1 (by omega) (by omega) e2]
    · have e : n = 0 := by omega
      subst e
      refine .e 1 rfl (b := 0) ?_ ?_
      · unfold fX7_middleByHeaps
        rw [(pm_half hk hR hn6).1 rfl]
        rfl
      · unfold fX6_middleByHeaps
        rw [qc_in hk]
        simp only [Option.bind_some, Sum.elim_inl]
        rw [qm_gd_of hk, qn_out (pc_tot hC)]
        rfl
  · refine .e 0 rfl (b := 0) ?_ ?_
    · unfold fX7_middleByHeaps
      rw [pm_half_out hn]
      rfl
    · unfold fX6_middleByHeaps
      rw [qc_out ho]
      rfl
end StRead
