/-! ===== what the face answers of a counter whose marks are so ===== -/
theorem pu_v4 {k : Nat} (hk : k < 4) : vp_in (nI k) 4 := vp_in_nI hk (by omega)
theorem pu_cl {a : Nat} (h : a < 2 ^ 31) : (nI a).toNatClampNeg = a := nI_clamp h
theorem pc_tot {S : qm_S} {k n m : Nat} {V : Nat → Int32} {g : Nat → Nat} {p N : Nat → Int32} {th : Int32} (h : pu_C S k n m V g p N th) : S.2.2 k = nI n := by
  obtain ⟨-, ⟨_, _, _, ⟨_, _, h3⟩, _⟩, _⟩ := h
  exact h3
theorem qc_in {S : qm_S} {k : Nat} (hk : k < 4) : fX6_counterAt S (nI k) = some k := by
  unfold fX6_counterAt
  rw [if_neg (nI_pos (by omega)), if_pos (show nI k < (4 : Int32) from nI_lt (b := 4) hk (by omega)), qm_gd_of (pu_v4 hk), pu_cl (by omega)]
theorem qd_1 {S : qm_S} : fX6_demandInRange S 1 = some () := if_neg (by decide)
theorem qn_in {S : qm_S} {k n : Nat} (h : S.2.2 k = nI n) (hn : n ≤ 600) (h0 : 0 < n) : fX0_demandNumbers S k = some () := by
  unfold fX0_demandNumbers
  rw [h, if_pos (show (0 : Int32) < nI n from nI_lt (a := 0) h0 (by omega))]
theorem qr_in {S : qm_S} {k m j : Nat} (hk : k < 4) (h : (S.1 k).1 = nI m) (hm : m ≤ 600) (hj : j < m) : fX6_rowWith S (nI k) (nI j) = some k := by
  unfold fX6_rowWith
  rw [qc_in hk]
  simp only [Option.bind_some]
  rw [qm_gd_of hk, if_neg (nI_pos (by omega)), h, if_pos (nI_lt hj (by omega))]
theorem qs_in {S : qm_S} {k n s : Nat} (hk : k < 4) (h : S.2.2 k = nI n) (hn : n ≤ 600) (h0 : 0 < n) (hs : s ≤ 1000) : fX6_counterForShare S (nI k) (nI s) = some k := by
  unfold fX6_counterForShare
  rw [qc_in hk]
  simp only [Option.bind_some]
  rw [qm_gd_of hk, if_neg (nI_pos (by omega)), if_neg (show ¬ (1000 : Int32) < nI s from nI_nlt (a := 1000) hs (by omega)), qd_1]
  simp only [Option.bind_some]
  rw [qn_in h hn h0]
  rfl
def pu_rank (n : Nat) (q : Int32) : Int32 := if (1 : Int32) ≤ (q * nI n + 999) / 1000 then (q * nI n + 999) / 1000 else 1
theorem rk_1 (x : Int32) : x + 1000 - 1 = x + 999 := by grind
theorem rk_is {n : Nat} {q : Int32} : (if (1 : Int32) < ((((q * nI n) + (1000 : Int32)) - (1 : Int32)) / (1000 : Int32)) then (((q * nI n) + (1000 : Int32)) - (1 : Int32)) / (1000 : Int32) else (1 : Int32)) = pu_rank n q := by
  rw [rk_1]
  unfold pu_rank
  generalize (q * nI n + 999) / 1000 = y
  by_cases c : (1 : Int32) < y
  · rw [if_pos c, if_pos (pu_lt_le' c)]
  · rw [if_neg c]
    by_cases d : (1 : Int32) ≤ y
    · rw [if_pos d, pu_antisymm d (pu_not_lt.mp c)]
    · rw [if_neg d]
def pv_rk (n s : Nat) : Nat := if 1 ≤ (s * n + 999) / 1000 then (s * n + 999) / 1000 else 1
theorem pv_rk_le {n s : Nat} (hs : s ≤ 1000) (h0 : 0 < n) : 1 ≤ pv_rk n s ∧ pv_rk n s ≤ n := by
  have : s * n ≤ 1000 * n := Nat.mul_le_mul_right _ hs
  unfold pv_rk
  split <;> omega
theorem pv_rank {n s : Nat} (hs : s ≤ 1000) (hn : n ≤ 600) : pu_rank n (nI s) = nI (pv_rk n s) := by
  have : s * n ≤ 1000 * 600 := Nat.mul_le_mul hs hn
  unfold pu_rank pv_rk
  rw [pk_mul, show (999 : Int32) = nI 999 from rfl, nI_add, show (1000 : Int32) = nI 1000 from rfl, pk_div (by omega) (by omega) (by omega)]
  by_cases c : 1 ≤ (s * n + 999) / 1000
  · rw [if_pos c, if_pos (show (1 : Int32) ≤ nI ((s * n + 999) / 1000) from nI_le (a := 1) c (by omega))]
  · rw [if_neg c, if_neg (show ¬ (1 : Int32) ≤ nI ((s * n + 999) / 1000) from nI_ge (a := (s * n + 999) / 1000) (b := 1) (by omega) (by omega))]
    rfl
def pv_K (S : qm_S) (k n m : Nat) (V : Nat → Int32) (g P : Nat → Nat) (N : Nat → Int32) (b : Nat) : Prop := pu_I n m V g N ∧ pu_C S k n m V g (fun j => nI (P j)) N (nI b) ∧ pv_J n m V g P N b
section PvRead
variable {S : qm_S} {k n m : Nat} {V : Nat → Int32} {g P : Nat → Nat} {N : Nat → Int32} {b : Nat}
theorem eq_count (hk : k < 4) (h : pv_K S k n m V g P N b) : fX6_count S (nI k) = some (nI n) := by
  obtain ⟨hI, hC, hJ⟩ := h
  have hn6 := hI.1
  have hm6 : m ≤ 600 := by have := hI.2.1; omega
  unfold fX6_count
  rw [qc_in hk]
  simp only [Option.bind_some]
  rw [qm_gd_of hk, pc_tot hC]
theorem eq_bound (hk : k < 4) (h : pv_K S k n m V g P N b) : fX6_bound S (nI k) = some (nI b) := by
  obtain ⟨hI, hC, hJ⟩ := h
  have hn6 := hI.1
  have hm6 : m ≤ 600 := by have := hI.2.1; omega
  unfold fX6_bound
  rw [qc_in hk]
  simp only [Option.bind_some]
  rw [qm_gd_of hk, hC.2.2.2]
theorem pv_al_is {b n : Nat} (hb : b ≤ 200) (hn : n ≤ 600) : ((2 : Int32) * nI b) * nI n / 1000 = nI (pv_al b n) := by
  have : 2 * b * n ≤ 400 * 600 := Nat.mul_le_mul (by omega) hn
  rw [pu_2, pk_mul, pk_mul, show (1000 : Int32) = nI 1000 from rfl, pk_div (by omega) (by omega) (by omega)]
  rfl
theorem eq_allowance (hk : k < 4) (h : pv_K S k n m V g P N b) : fX6_allowance S (nI k) = some (nI (pv_al b n)) := by
  obtain ⟨hI, hC, hJ⟩ := h
  have hn6 := hI.1
  have hm6 : m ≤ 600 := by have := hI.2.1; omega
  unfold fX6_allowance
  rw [qc_in hk]
  simp only [Option.bind_some]
  rw [qm_gd_of hk, pc_tot hC, hC.2.2.2, pv_al_is hJ.1.2 hn6]
theorem eq_marks (hk : k < 4) (h : pv_K S k n m V g P N b) : fX6_marks S (nI k) = some (nI m) := by
  obtain ⟨hI, hC, hJ⟩ := h
  have hn6 := hI.1
  have hm6 : m ≤ 600 := by have := hI.2.1; omega
  unfold fX6_marks
  rw [qc_in hk]
  simp only [Option.bind_some]
  rw [qm_gd_of hk, hC.1.1.1]
theorem eq_value (hk : k < 4) (h : pv_K S k n m V g P N b) {j : Nat} (hj : j < m) : fX6_value S (nI k) (nI j) = some (V j) := by
  obtain ⟨hI, hC, hJ⟩ := h
  have hn6 := hI.1
  have hm6 : m ≤ 600 := by have := hI.2.1; omega
  unfold fX6_value
  rw [qr_in hk hC.1.1.1 hm6 hj]
  simp only [Option.bind_some]
  rw [qm_gd_of hk, mk_v hC.1 hm6 hj]
theorem eq_low (hk : k < 4) (h : pv_K S k n m V g P N b) {j : Nat} (hj : j < m) : fX6_lowestRank S (nI k) (nI j) = some (nI (pu_ns g (j + 1))) := by
  obtain ⟨hI, hC, hJ⟩ := h
  have hn6 := hI.1
  have hm6 : m ≤ 600 := by have := hI.2.1; omega
  unfold fX6_lowestRank
  rw [qr_in hk hC.1.1.1 hm6 hj]
  simp only [Option.bind_some]
  rw [qm_gd_of hk, mk_rankFrom hC.1 hm6 hj]
  rfl
theorem eq_high (hk : k < 4) (h : pv_K S k n m V g P N b) {j : Nat} (hj : j < m) : fX6_highestRank S (nI k) (nI j) = some (nI (pu_ns g (j + 1) + P j)) := by
  obtain ⟨hI, hC, hJ⟩ := h
  have hn6 := hI.1
  have hm6 : m ≤ 600 := by have := hI.2.1; omega
  unfold fX6_highestRank
  rw [qr_in hk hC.1.1.1 hm6 hj]
  simp only [Option.bind_some]
  rw [qm_gd_of hk, mk_rankTo hC.1 hm6 hj]
  simp only [Option.bind_some]
  rw [nI_add]
/-- the greatest width of the first marks -/
def pv_w (g P : Nat → Nat) : Nat → Nat
  | 0 => 0
  | n + 1 => if pv_w g P n < g n + P n then g n + P n else pv_w g P n
theorem pv_w_is {w : Nat} : ∀ {a : Nat}, (∀ j, j < a → g j + P j ≤ w) → w < 2 ^ 31 → pu_wid g (fun j => nI (P j)) a = nI (pv_w g P a) ∧ pv_w g P a ≤ w
  | 0, _, _ => ⟨rfl, Nat.zero_le _⟩
  | a + 1, h, hw => by
    obtain ⟨e1, e2⟩ := pv_w_is (a := a) (w := w) (fun j q => h j (by omega)) hw
    have := h a (by omega)
    rw [pu_wid, pv_w, e1]
    show (if nI (pv_w g P a) < nI (g a) + nI (P a) then nI (g a) + nI (P a) else nI (pv_w g P a)) = _ ∧ _
    rw [nI_add]
    by_cases c : pv_w g P a < g a + P a
    · rw [if_pos c, if_pos (nI_lt c (by omega))]
      exact ⟨rfl, this⟩
    · rw [if_neg c, if_neg (nI_nlt (by omega) (by omega))]
      exact ⟨rfl, e2⟩
theorem pv_wle {n m : Nat} {V : Nat → Int32} {g P : Nat → Nat} {N : Nat → Int32} {b : Nat} (h : pv_J n m V g P N b) {j : Nat} (hj : j < m) : g j + P j ≤ n := by
  have := (h.2.2.1 j hj).2.2
  rw [pu_ns] at this
  omega
theorem eq_widest (hk : k < 4) (h : pv_K S k n m V g P N b) : fX6_widest S (nI k) = some (nI (pv_w g P m)) := by
  obtain ⟨hI, hC, hJ⟩ := h
  have hn6 := hI.1
  have hm6 : m ≤ 600 := by have := hI.2.1; omega
  unfold fX6_widest
  rw [qc_in hk]
  simp only [Option.bind_some]
  rw [qm_gd_of hk, mk_widest hC.1 hm6, (pv_w_is (w := n) (fun j hj => pv_wle hJ hj) (by omega)).1]
  rfl
theorem eq_atLeast (hk : k < 4) (h : pv_K S k n m V g P N b) (x : Int32) : fX6_atLeastUpTo S (nI k) x = some (nI (pu_ns g (pu_cnt V x m))) := by
  obtain ⟨hI, hC, hJ⟩ := h
  have hn6 := hI.1
  have hm6 : m ≤ 600 := by have := hI.2.1; omega
  unfold fX6_atLeastUpTo
  rw [qc_in hk]
  simp only [Option.bind_some]
  rw [qm_gd_of hk, mk_atLeast hC.1 hm6 hI.2.2.1]
  rfl
def pv_most (n m : Nat) (V : Nat → Int32) (g P : Nat → Nat) (x : Int32) : Nat := if pu_cnt V x m < m then pu_ns g (pu_cnt V x m + 1) + P (pu_cnt V x m) - 1 else n
theorem eq_atMost (hk : k < 4) (h : pv_K S k n m V g P N b) (x : Int32) : fX6_atMostUpTo S (nI k) x = some (nI (pv_most n m V g P x)) := by
  obtain ⟨hI, hC, hJ⟩ := h
  have hn6 := hI.1
  have hm6 : m ≤ 600 := by have := hI.2.1; omega
  unfold fX6_atMostUpTo
  rw [qc_in hk]
  simp only [Option.bind_some]
  have hc := pu_cnt_le V x m
  rw [qm_gd_of hk, mk_firstAbove hC.1 hm6 hI.2.2.1]
  simp only [Option.bind_some]
  rw [hC.1.1.1]
  unfold pv_most
  by_cases c : pu_cnt V x m < m
  · rw [if_neg (nI_ge c (by omega)), if_pos c, mk_rankTo hC.1 hm6 c]
    simp only [Option.bind_some]
    have a1 := hI.2.2.2.1 _ c
    have a2 : pu_ns g (pu_cnt V x m + 1) = pu_ns g (pu_cnt V x m) + g (pu_cnt V x m) := rfl
    rw [nI_add, pu_1, pk_sub (by omega)]
  · rw [if_pos (nI_le (by omega) (by omega)), if_neg c, pc_tot hC]
theorem eq_really (hk : k < 4) (h : pv_K S k n m V g P N b) (x : Int32) : fX6_reallyUpTo S (nI k) x = some (nI (pu_cnt N x n)) := by
  obtain ⟨hI, hC, hJ⟩ := h
  have hn6 := hI.1
  have hm6 : m ≤ 600 := by have := hI.2.1; omega
  unfold fX6_reallyUpTo
  rw [qc_in hk]
  simp only [Option.bind_some]
  rw [qm_gd_of hk, ta_notAbove hC.2.1 hn6]
  rfl
/-- the mark that answers -/
def pv_bs (n m s : Nat) (g P : Nat → Nat) : Nat := pu_best (nI (pv_rk n s)) g (fun j => nI (P j)) m
theorem eq_ask (hk : k < 4) (h : pv_K S k n m V g P N b) (h0 : 0 < n) {s : Nat} (hs : s ≤ 1000) : fX6_ask S (nI k) (nI s) = some (V (pv_bs n m s g P)) := by
  obtain ⟨hI, hC, hJ⟩ := h
  have hn6 := hI.1
  have hm6 : m ≤ 600 := by have := hI.2.1; omega
  have hm0 := (pv_m0 hI).mp h0
  unfold fX6_ask
  rw [qs_in hk (pc_tot hC) hn6 h0 hs]
  simp only [Option.bind_some]
  rw [qm_gd_of hk, pc_tot hC, rk_is, mk_answering hC.1 hm6 hm0, pv_rank hs hn6]
  simp only [Option.bind_some]
  rw [mk_v hC.1 hm6 (pu_best_lt _ _ _ _ hm0)]
  rfl
theorem eq_off (hk : k < 4) (h : pv_K S k n m V g P N b) (h0 : 0 < n) {s : Nat} (hs : s ≤ 1000) : fX6_off S (nI k) (nI s) = some (pu_off (nI (pv_rk n s)) g (fun j => nI (P j)) (pv_bs n m s g P)) := by
  obtain ⟨hI, hC, hJ⟩ := h
  have hn6 := hI.1
  have hm6 : m ≤ 600 := by have := hI.2.1; omega
  have hm0 := (pv_m0 hI).mp h0
  unfold fX6_off
  rw [qs_in hk (pc_tot hC) hn6 h0 hs]
  simp only [Option.bind_some]
  rw [qm_gd_of hk, pc_tot hC, rk_is, mk_answering hC.1 hm6 hm0, pv_rank hs hn6]
  simp only [Option.bind_some]
  rw [mk_offBy hC.1 hm6 _ (pu_best_lt _ _ _ _ hm0)]
  rfl
def pv_rof (a c r : Nat) : Int32 := if nI a + 1 ≤ nI r then (if nI r ≤ nI c then 0 else nI r - nI c) else nI a + 1 - nI r
theorem eq_reallyOff (hk : k < 4) (h : pv_K S k n m V g P N b) (h0 : 0 < n) {s : Nat} (hs : s ≤ 1000) : fX6_reallyOff S (nI k) (nI s) = some (pv_rof (pu_cnt N (V (pv_bs n m s g P) - 1) n) (pu_cnt N (V (pv_bs n m s g P)) n) (pv_rk n s)) := by
  obtain ⟨hI, hC, hJ⟩ := h
  have hn6 := hI.1
  have hm6 : m ≤ 600 := by have := hI.2.1; omega
  have hm0 := (pv_m0 hI).mp h0
  unfold fX6_reallyOff
  rw [qs_in hk (pc_tot hC) hn6 h0 hs]
  simp only [Option.bind_some]
  rw [qm_gd_of hk, pc_tot hC, rk_is, mk_answering hC.1 hm6 hm0, pv_rank hs hn6]
  simp only [Option.bind_some]
  rw [mk_v hC.1 hm6 (pu_best_lt _ _ _ _ hm0), ta_notAbove hC.2.1 hn6]
  simp only [Option.bind_some]
  rw [ta_notAbove hC.2.1 hn6]
  simp only [Option.bind_some]
  unfold pv_rof pv_bs
  split
  · split <;> rfl
  · rfl
theorem wr_L {k kn : Nat} {K : Nat → Int32} {t : Nat → Nat} {r : Nat} (hkn : kn ≤ 600) (hns : pu_ns t kn ≤ 600) (h1 : (S.1 (12 + k)).1 = nI kn) (h2 : (S.1 (16 + k)).1 = nI kn) (hK : ∀ j, j < kn → (S.1 (12 + k)).2 j = K j) (hT : ∀ j, j < kn → (S.1 (16 + k)).2 j = nI (t j)) (hr : r ≤ pu_ns t kn) :
    ∀ (fuel i : Nat), i < kn → kn < i + fuel → pu_ns t i < r → ∃ j, i ≤ j ∧ j < kn ∧ fX5_withRank_L4 k (nI r) fuel (nI (pu_ns t i)) (nI i) S = some (K j) ∧ pu_ns t j < r ∧ r ≤ pu_ns t (j + 1) := by
  intro fuel
  induction fuel with
  | zero => intro i a b; omega
  | succ fuel ih =>
    intro i a b c
    have e : pu_ns t (i + 1) = pu_ns t i + t i := rfl
    have hm := pu_ns_mono t (show i + 1 ≤ kn by omega)
    rw [fX5_withRank_L4, h1, if_neg (nI_ge a (by omega)), rw_at_in h2 hkn a, rw_at_in h1 hkn a, hK i a, hT i a, nI_add, ← e]
    by_cases d : pu_ns t (i + 1) < r
    · rw [if_pos (nI_lt d (by omega)), nI_1]
      have a1 : i + 1 < kn := by
        rcases Nat.lt_or_ge (i + 1) kn with q | q
        · exact q
        · have : i + 1 = kn := by omega
          rw [this] at d
          omega
      obtain ⟨j, q1, q2, q3, q4⟩ := ih (i + 1) a1 (by omega) d
      exact ⟨j, by omega, q2, q3, q4⟩
    · rw [if_neg (nI_nlt (by omega) (by omega))]
      exact ⟨i, Nat.le_refl _, a, rfl, c, by omega⟩
theorem nr_is {n r : Nat} {N : Nat → Int32} {v : Int32} (hu : pu_up N n) (h1 : 1 ≤ r) (hr : r ≤ n) (h : ∀ y, v ≤ y ↔ r ≤ pu_cnt N y n) : v = N (r - 1) := by
  have e : ∀ y, N (r - 1) ≤ y ↔ r ≤ pu_cnt N y n := by
    intro y
    obtain ⟨a, b⟩ := pu_cnt_up (x := y) hu
    constructor
    · intro c
      rcases Nat.lt_or_ge (pu_cnt N y n) r with d | d
      · exact absurd c (pu_not_le.mpr (b (r - 1) (by omega) (by omega)))
      · exact d
    · intro c
      exact a (r - 1) (by omega)
  exact pu_antisymm ((h _).mpr ((e _).mp (pu_le_refl _))) ((e _).mpr ((h _).mp (pu_le_refl _)))
theorem wr_is {k n : Nat} {N : Nat → Int32} (h : pu_T S k n (fun y => pu_cnt N y n)) (hn : n ≤ 600) (hu : pu_up N n) {r : Nat} (h1 : 1 ≤ r) (hr : r ≤ n) : fX5_withRank S k (nI r) = some (N (r - 1)) := by
  obtain ⟨kn, K, t, ⟨a1, a2, a3⟩, hK, hT, hs, ⟨hp, hrg⟩, hsum, hrk⟩ := h
  have hkn : kn ≤ 600 := by have := pu_ns_ge hp; omega
  have k0 : 0 < kn := by
    rcases Nat.eq_zero_or_pos kn with e | e
    · subst e
      rw [show pu_ns t 0 = 0 from rfl] at hsum
      omega
    · exact e
  obtain ⟨j, -, q2, q3, q4, q5⟩ := wr_L (S := S) (k := k) hkn (by omega) a1 a2 hK hT (r := r) (by omega) qm_F 0 k0 (by rw [qm_F_big]; omega) (by show 0 < r; omega)
  unfold fX5_withRank
  rw [show fX5_withRank_L4 k (nI r) qm_F 0 0 S = some (K j) from q3]
  congr 1
  refine nr_is hu h1 hr (fun y => ?_)
  show K j ≤ y ↔ r ≤ pu_cnt N y n
  rw [show pu_cnt N y n = pu_ns t (pu_cnt K y kn) from (hrk y).symm]
  obtain ⟨b1, b2⟩ := pu_cnt_up (x := y) (pu_sup hs)
  constructor
  · intro c
    have : j + 1 ≤ pu_cnt K y kn := by
      rcases Nat.lt_or_ge j (pu_cnt K y kn) with d | d
      · exact d
      · exact absurd c (pu_not_le.mpr (b2 j d q2))
    exact Nat.le_trans q5 (pu_ns_mono t this)
  · intro c
    rcases Nat.lt_or_ge j (pu_cnt K y kn) with d | d
    · exact b1 j d
    · have := pu_ns_mono t d
      omega
theorem hf_is {n : Nat} (hn : n ≤ 600) : (nI n + 1) / 2 = nI ((n + 1) / 2) := by
  rw [nI_1, pu_2, pk_div (by omega) (by omega) (by omega)]
theorem eq_middle (hk : k < 4) (h : pv_K S k n m V g P N b) (h0 : 0 < n) : fX6_middle S (nI k) = some (N ((n + 1) / 2 - 1)) := by
  obtain ⟨hI, hC, hJ⟩ := h
  have hn6 := hI.1
  have hm6 : m ≤ 600 := by have := hI.2.1; omega
  unfold fX6_middle
  rw [qc_in hk]
  simp only [Option.bind_some]
  rw [qm_gd_of hk, qn_in (pc_tot hC) hn6 h0]
  simp only [Option.bind_some]
  rw [pc_tot hC, hf_is hn6, wr_is hC.2.1 hn6 hI.2.2.2.2.2.1 (by omega) (by omega)]
  rfl
theorem eq_middleByHeaps (hk : k < 4) (h : pv_K S k n m V g P N b) (h0 : 0 < n) : fX6_middleByHeaps S (nI k) = some (N ((n + 1) / 2 - 1)) := by
  obtain ⟨hI, hC, hJ⟩ := h
  have hn6 := hI.1
  have hm6 : m ≤ 600 := by have := hI.2.1; omega
  unfold fX6_middleByHeaps
  rw [qc_in hk]
  simp only [Option.bind_some]
  rw [qm_gd_of hk, qn_in (pc_tot hC) hn6 h0]
  simp only [Option.bind_some]
  obtain ⟨v, e1, e2⟩ := ha_top hC.2.2.1 hn6 h0
  rw [e1, nr_is hI.2.2.2.2.2.1 (by omega) (by omega) e2]
theorem eq_part (hk : k < 4) (h : pv_K S k n m V g P N b) : fX6_part S (nI k) = some (if 0 < n then FP.ddiv (FP.i2d (nI m)) (FP.i2d (nI n)) else FP.dconst0) := by
  obtain ⟨hI, hC, hJ⟩ := h
  have hn6 := hI.1
  have hm6 : m ≤ 600 := by have := hI.2.1; omega
  unfold fX6_part
  rw [qc_in hk]
  simp only [Option.bind_some]
  rw [qm_gd_of hk, pc_tot hC, hC.1.1.1]
  by_cases h0 : 0 < n
  · rw [if_pos h0, if_neg (show ¬ nI n ≤ (0 : Int32) from nI_ge (a := 0) (b := n) h0 (by omega)), qm_gd_of (pd_ok hm6 hn6 h0)]
  · rw [if_neg h0, if_pos (show nI n ≤ (0 : Int32) from nI_le (a := n) (b := 0) (by omega) (by omega))]
end PvRead
