/-! ===== a counter: marks, tally and halves of the same numbers ===== -/
def pu_C (S : qm_S) (k n m : Nat) (V : Nat → Int32) (g : Nat → Nat) (p : Nat → Int32) (N : Nat → Int32) (th : Int32) : Prop :=
  pu_M S k m V g p ∧ pu_T S k n (fun y => pu_cnt N y n) ∧ pu_H S k n (fun y => pu_cnt N y n) ∧ S.2.1 k = th
/-- what holds of the numbers and marks themselves -/
def pu_I (n m : Nat) (V : Nat → Int32) (g : Nat → Nat) (N : Nat → Int32) : Prop :=
  n ≤ 600 ∧ m ≤ n ∧ pu_up V m ∧ (∀ j, j < m → 1 ≤ g j) ∧ pu_ns g m = n ∧ pu_up N n ∧ ∀ j, j < n → pu_rg (N j) = true
theorem pu_up_ins {f : Nat → Int32} {n : Nat} {x : Int32} (h : pu_up f n) : pu_up (pu_ins f (pu_cnt f x n) x) (n + 1) := by
  obtain ⟨a, b⟩ := pu_cnt_up (x := x) h
  have hc := pu_cnt_le f x n
  generalize pu_cnt f x n = c at a b hc
  intro i j hij hj
  unfold pu_ins
  by_cases i1 : i < c
  · rw [if_pos i1]
    by_cases j1 : j < c
    · rw [if_pos j1]; exact h i j hij (by omega)
    · rw [if_neg j1]
      by_cases j2 : j = c
      · rw [if_pos j2]; exact a i i1
      · rw [if_neg j2]; exact h i (j - 1) (by omega) (by omega)
  · rw [if_neg i1, if_neg (show ¬ j < c by omega)]
    by_cases i2 : i = c
    · rw [if_pos i2]
      by_cases j2 : j = c
      · rw [if_pos j2]; exact pu_le_refl _
      · rw [if_neg j2]; exact pu_lt_le' (b (j - 1) (by omega) (by omega))
    · rw [if_neg i2, if_neg (show ¬ j = c by omega)]
      exact h _ _ (by omega) (by omega)
theorem pu_rg_ins {f : Nat → Int32} {n c : Nat} {x : Int32} (h : ∀ j, j < n → pu_rg (f j) = true) (hx : pu_rg x = true) (hc : c ≤ n) : ∀ j, j < n + 1 → pu_rg (pu_ins f c x j) = true := by
  intro j hj
  unfold pu_ins
  split
  · exact h j (by omega)
  · split
    · exact hx
    · exact h _ (by omega)
/-- the invariant, with one number more -/
theorem pu_I.ins {n m : Nat} {V : Nat → Int32} {g : Nat → Nat} {N : Nat → Int32} (h : pu_I n m V g N) (hn : n < 600) {x : Int32} (hx : pu_rg x = true) :
    pu_I (n + 1) (m + 1) (pu_ins V (pu_cnt V x m) x) (pu_ins g (pu_cnt V x m) 1) (pu_ins N (pu_cnt N x n) x) := by
  obtain ⟨a1, a2, a3, a4, a5, a6, a7⟩ := h
  have hc := pu_cnt_le V x m
  refine ⟨by omega, by omega, pu_up_ins a3, fun j hj => ?_, ?_, pu_up_ins a6, pu_rg_ins a7 hx (pu_cnt_le N x n)⟩
  · unfold pu_ins
    split
    · exact a4 j (by omega)
    · split
      · omega
      · exact a4 _ (by omega)
  · rw [pu_ns_ins, if_neg (by omega), show m + 1 - 1 = m by omega, a5]
theorem co_take {S : qm_S} {k n m : Nat} {V : Nat → Int32} {g : Nat → Nat} {p N : Nat → Int32} {th : Int32} (hk : k < 4) (h : pu_C S k n m V g p N th) (hI : pu_I n m V g N) (hn : n < 600) {x : Int32} (hx : pu_rg x = true) :
    ∃ S', fX0_take S k x = some S' ∧ pu_C S' k (n + 1) (m + 1) (pu_ins V (pu_cnt V x m) x) (pu_ins g (pu_cnt V x m) 1) (pu_ins p (pu_cnt V x m) (if pu_cnt V x m < m then nI (g (pu_cnt V x m)) + p (pu_cnt V x m) - 1 else 0)) (pu_ins N (pu_cnt N x n) x) th ∧ pu_fr k S S' := by
  obtain ⟨hM, hT, hH, hth⟩ := h
  obtain ⟨S1, e1, m1, f1⟩ := mk_add hM (by have := hI.2.1; omega) hI.2.2.1 x
  have hT1 : pu_T S1 k n (fun y => pu_cnt N y n) := hT.of (f1.1 _ (by omega) (by omega) (by omega)) (f1.1 _ (by omega) (by omega) (by omega)) (by rw [f1.2])
  obtain ⟨S2, e2, m2, f2⟩ := ta_add hT1 hx (Nat.le_refl 1) (by omega)
  have hH2 : pu_H S2 k n (fun y => pu_cnt N y n) := (hH.of (f1.1 _ (by omega) (by omega) (by omega)) (f1.1 _ (by omega) (by omega) (by omega))).of (f2.1 _ (by omega) (by omega)) (f2.1 _ (by omega) (by omega))
  obtain ⟨S3, e3, m3, f3⟩ := ha_add hH2 hn hx
  have er : (fun y => pu_cnt N y n + (if x ≤ y then 1 else 0)) = (fun y => pu_cnt (pu_ins N (pu_cnt N x n) x) y (n + 1)) := by
    funext y
    rw [pu_cnt_ins (pu_cnt_le N x n)]
  unfold fX0_take
  rw [e1]
  simp only [Option.bind_some]
  rw [show (1 : Int32) = nI 1 from rfl, e2]
  simp only [Option.bind_some]
  rw [e3]
  refine ⟨S3, rfl, ⟨?_, ?_, ?_, ?_⟩, (f1.fr.tr f2.fr).tr f3.fr⟩
  · exact (m1.of (f2.1 _ (by omega) (by omega)) (f2.1 _ (by omega) (by omega)) (f2.1 _ (by omega) (by omega))).of (f3.1 _ (by omega) (by omega)) (f3.1 _ (by omega) (by omega)) (f3.1 _ (by omega) (by omega))
  · rw [← er]
    exact m2.of (f3.1 _ (by omega) (by omega)) (f3.1 _ (by omega) (by omega)) (by rw [f3.2])
  · rw [← er]
    exact m3
  · rw [f3.2, f2.2.1, f1.2, hth]
theorem mk_clear {S : qm_S} {k m : Nat} {V : Nat → Int32} {g : Nat → Nat} {p : Nat → Int32} (h : pu_M S k m V g p) (hm : m ≤ 600) : pu_M (mr_cut S k 0) k 0 V g p ∧ pu_fm k S (mr_cut S k 0) := by
  have e : mr_cut S k 0 = pu_r3 S k (rw_cut (S.1 k) 0) (rw_cut (S.1 (4 + k)) 0) (rw_cut (S.1 (8 + k)) 0) := rfl
  rw [e]
  refine ⟨?_, pu_r3_fm⟩
  unfold pu_M
  rw [pu_r3_a, pu_r3_b, pu_r3_c, pu_0, rw_cut_in h.1.1 hm (Nat.zero_le _), rw_cut_in h.1.2.1 hm (Nat.zero_le _), rw_cut_in h.1.2.2 hm (Nat.zero_le _)]
  exact ⟨⟨rfl, rfl, rfl⟩, fun j hj => absurd hj (by omega), fun j hj => absurd hj (by omega), fun j hj => absurd hj (by omega)⟩
theorem co_begin {S : qm_S} {k n m : Nat} {V : Nat → Int32} {g : Nat → Nat} {p N : Nat → Int32} {th : Int32} (hk : k < 4) (h : pu_C S k n m V g p N th) (hI : pu_I n m V g N) (b : Int32) :
    pu_C (ha_clr (ta_clr (mr_cut (qm_th S k b) k 0) k) k) k 0 0 V g p N b ∧ pu_fr k S (ha_clr (ta_clr (mr_cut (qm_th S k b) k 0) k) k) := by
  obtain ⟨hM, hT, hH, hth⟩ := h
  have hn := hI.1
  have hm := hI.2.1
  have hM0 : pu_M (qm_th S k b) k m V g p := hM
  obtain ⟨m1, f1⟩ := mk_clear hM0 (by omega)
  have hT1 : pu_T (mr_cut (qm_th S k b) k 0) k n (fun y => pu_cnt N y n) := pu_T.of (S := S) hT (f1.1 _ (by omega) (by omega) (by omega)) (f1.1 _ (by omega) (by omega) (by omega)) (by rw [f1.2]; rfl)
  obtain ⟨m2, f2⟩ := ta_clear hT1 hn
  have hH2 : pu_H (ta_clr (mr_cut (qm_th S k b) k 0) k) k n (fun y => pu_cnt N y n) := (pu_H.of (S := S) hH (f1.1 _ (by omega) (by omega) (by omega)) (f1.1 _ (by omega) (by omega) (by omega))).of (f2.1 _ (by omega) (by omega)) (f2.1 _ (by omega) (by omega))
  obtain ⟨m3, f3⟩ := ha_clear hH2 hn
  refine ⟨⟨?_, ?_, m3, ?_⟩, ((pu_fr.th.tr f1.fr).tr f2.fr).tr f3.fr⟩
  · exact (m1.of (f2.1 _ (by omega) (by omega)) (f2.1 _ (by omega) (by omega)) (f2.1 _ (by omega) (by omega))).of (f3.1 _ (by omega) (by omega)) (f3.1 _ (by omega) (by omega)) (f3.1 _ (by omega) (by omega))
  · exact m2.of (f3.1 _ (by omega) (by omega)) (f3.1 _ (by omega) (by omega)) (by rw [f3.2])
  · rw [f3.2, f2.2.1, f1.2]
    show va_up _ k b k = b
    unfold va_up
    rw [if_pos rfl]
/-! takeAll -/
/-- each number of N2 put into N1, one after the other -/
def pu_all (N1 : Nat → Int32) (n1 : Nat) (N2 : Nat → Int32) : Nat → (Nat → Int32)
  | 0 => N1
  | q + 1 => pu_ins (pu_all N1 n1 N2 q) (pu_cnt (pu_all N1 n1 N2 q) (N2 q) (n1 + q)) (N2 q)
theorem pu_all_cnt (N1 : Nat → Int32) (n1 : Nat) (N2 : Nat → Int32) (y : Int32) : ∀ q, pu_cnt (pu_all N1 n1 N2 q) y (n1 + q) = pu_cnt N1 y n1 + pu_cnt N2 y q
  | 0 => rfl
  | q + 1 => by
    show pu_cnt (pu_ins (pu_all N1 n1 N2 q) _ _) y (n1 + q + 1) = _
    rw [pu_cnt_ins (pu_cnt_le _ _ _), pu_all_cnt N1 n1 N2 y q, pu_cnt]
    omega
theorem pu_all_ok {N1 : Nat → Int32} {n1 : Nat} {N2 : Nat → Int32} (h1 : pu_up N1 n1) (r1 : ∀ j, j < n1 → pu_rg (N1 j) = true) : ∀ q, (∀ j, j < q → pu_rg (N2 j) = true) → pu_up (pu_all N1 n1 N2 q) (n1 + q) ∧ ∀ j, j < n1 + q → pu_rg (pu_all N1 n1 N2 q j) = true
  | 0, _ => ⟨h1, r1⟩
  | q + 1, h => by
    obtain ⟨a, b⟩ := pu_all_ok h1 r1 q (fun j hj => h j (by omega))
    exact ⟨pu_up_ins a, pu_rg_ins b (h q (by omega)) (pu_cnt_le _ _ _)⟩
/-- the first i kinds, how many of them not above y -/
def pu_rs (K : Nat → Int32) (t : Nat → Nat) (y : Int32) : Nat → Nat
  | 0 => 0
  | i + 1 => pu_rs K t y i + (if K i ≤ y then t i else 0)
theorem pu_rs_is {K : Nat → Int32} {t : Nat → Nat} {y : Int32} : ∀ {i : Nat}, pu_up K i → pu_rs K t y i = pu_ns t (pu_cnt K y i)
  | 0, _ => rfl
  | i + 1, h => by
    rw [pu_rs, pu_rs_is (i := i) (fun a b hab hb => h a b hab (by omega)), pu_cnt]
    by_cases c : K i ≤ y
    · rw [if_pos c, if_pos c, pu_cnt_all (fun j hj => pu_le_trans (h j i (by omega) (by omega)) c)]
      rfl
    · rw [if_neg c, if_neg c]
      rfl
theorem ta_in {S : qm_S} {k o n2 w : Nat} {x2 : Int32} {x : Int32} (hx : pu_rg x = true) : ∀ (fuel v : Nat) (S1 : qm_S) (n : Nat) (rk : Int32 → Nat), v ≤ w → w < v + fuel → n + (w - v) ≤ 600 → w < 2 ^ 31 → pu_H S1 k n rk →
    ∃ S', fX0_takeAll_L71 k o x2 x (nI w) fuel (nI v) S1 = some S' ∧ pu_H S' k (n + (w - v)) (fun y => rk y + (if x ≤ y then w - v else 0)) ∧ pu_fh k S1 S' := by
  intro fuel
  induction fuel with
  | zero => intro v S1 n rk h1 h2; omega
  | succ fuel ih =>
    intro v S1 n rk h1 h2 h3 h4 hH
    rw [fX0_takeAll_L71]
    by_cases c : w ≤ v
    · rw [if_pos (nI_le c (by omega))]
      refine ⟨S1, rfl, ?_, pu_fh.rf⟩
      rw [show w - v = 0 by omega]
      have : (fun y => rk y + (if x ≤ y then 0 else 0)) = rk := by funext y; simp
      rw [this]
      exact hH
    · rw [if_neg (nI_ge (by omega) (by omega))]
      obtain ⟨S2, e2, m2, f2⟩ := ha_add hH (by omega) hx
      rw [e2]
      simp only [Option.bind_some]
      rw [nI_1]
      obtain ⟨S3, e3, m3, f3⟩ := ih (v + 1) S2 (n + 1) _ (by omega) (by omega) (by omega) h4 m2
      refine ⟨S3, e3, ?_, f2.tr f3⟩
      rw [show n + (w - v) = n + 1 + (w - (v + 1)) by omega]
      have : (fun y => rk y + (if x ≤ y then w - v else 0)) = (fun y => rk y + (if x ≤ y then 1 else 0) + (if x ≤ y then w - (v + 1) else 0)) := by
        funext y
        split <;> omega
      rw [this]
      exact m3
theorem ta_out {S : qm_S} {k o kn n1 n2 : Nat} {K : Nat → Int32} {t : Nat → Nat} {rk : Int32 → Nat} (hk : k < 4) (ho : o < 4) (hko : k ≠ o) (h6 : n1 + n2 ≤ 600) (hkn : kn ≤ 600) (hs : pu_ns t kn = n2) (hp : ∀ j, j < kn → 1 ≤ t j) (hr : ∀ j, j < kn → pu_rg (K j) = true)
    (hK1 : (S.1 (12 + o)).1 = nI kn) (hT1 : (S.1 (16 + o)).1 = nI kn) (hK : ∀ j, j < kn → (S.1 (12 + o)).2 j = K j) (hT : ∀ j, j < kn → (S.1 (16 + o)).2 j = nI (t j)) :
    ∀ (fuel i : Nat) (S1 : qm_S), i ≤ kn → kn < i + fuel → pu_fr k S S1 → pu_T S1 k (n1 + pu_ns t i) (fun y => rk y + pu_rs K t y i) → pu_H S1 k (n1 + pu_ns t i) (fun y => rk y + pu_rs K t y i) →
      ∃ S', fX0_takeAll_L28 k o fuel (nI i) S1 = some S' ∧ pu_T S' k (n1 + n2) (fun y => rk y + pu_rs K t y kn) ∧ pu_H S' k (n1 + n2) (fun y => rk y + pu_rs K t y kn) ∧ pu_fr k S1 S' ∧ (S'.1 k = S1.1 k ∧ S'.1 (4 + k) = S1.1 (4 + k) ∧ S'.1 (8 + k) = S1.1 (8 + k)) ∧ S'.2.1 = S1.2.1 := by
  intro fuel
  induction fuel with
  | zero => intro i S1 h1 h2; omega
  | succ fuel ih =>
    intro i S1 h1 h2 hf hT2 hH2
    have o12 : S1.1 (12 + o) = S.1 (12 + o) := hf.1 _ (by unfold pu_own; omega)
    have o16 : S1.1 (16 + o) = S.1 (16 + o) := hf.1 _ (by unfold pu_own; omega)
    rw [fX0_takeAll_L28, o12, o16, hK1]
    by_cases c : kn ≤ i
    · rw [if_pos (nI_le c (by omega))]
      have : i = kn := by omega
      subst this
      rw [hs] at hT2 hH2
      exact ⟨S1, rfl, hT2, hH2, pu_fr.rf, ⟨rfl, rfl, rfl⟩, rfl⟩
    · rw [if_neg (nI_ge (by omega) (by omega)), rw_at_in hK1 hkn (by omega), rw_at_in hT1 hkn (by omega), hK i (by omega), hT i (by omega)]
      have hsi : pu_ns t i + t i ≤ n2 := by
        have := pu_ns_mono t (show i + 1 ≤ kn by omega)
        rw [pu_ns, hs] at this
        exact this
      obtain ⟨S2, e2, m2, f2⟩ := ta_add hT2 (hr i (by omega)) (hp i (by omega)) (by omega)
      rw [e2]
      simp only [Option.bind_some]
      have hH3 : pu_H S2 k (n1 + pu_ns t i) (fun y => rk y + pu_rs K t y i) := hH2.of (f2.1 _ (by omega) (by omega)) (f2.1 _ (by omega) (by omega))
      obtain ⟨S3, e3, m3, f3⟩ := ta_in (S := S) (o := o) (n2 := n2) (x2 := nI i) (w := t i) (hr i (by omega)) qm_F 0 S2 _ _ (Nat.zero_le _) (by rw [qm_F_big]; omega) (by omega) (by omega) hH3
      rw [pu_0, e3]
      simp only [Option.bind_some]
      rw [nI_1]
      have esum : n1 + pu_ns t i + t i = n1 + pu_ns t (i + 1) := by rw [pu_ns]; omega
      have erk : (fun y => rk y + pu_rs K t y i + (if K i ≤ y then t i else 0)) = (fun y => rk y + pu_rs K t y (i + 1)) := by
        funext y
        rw [pu_rs]
        omega
      rw [Nat.sub_zero] at m3
      rw [esum, erk] at m2 m3
      have m2' := m2.of (f3.1 _ (by omega) (by omega)) (f3.1 _ (by omega) (by omega)) (by rw [f3.2])
      obtain ⟨S4, e4, a1, a2, a3, a4, a5⟩ := ih (i + 1) S3 (by omega) (by omega) ((hf.tr f2.fr).tr f3.fr) m2' m3
      refine ⟨S4, e4, a1, a2, (f2.fr.tr f3.fr).tr a3, ?_, ?_⟩
      · rw [a4.1, a4.2.1, a4.2.2, f3.1 k (by omega) (by omega), f3.1 (4 + k) (by omega) (by omega), f3.1 (8 + k) (by omega) (by omega), f2.1 k (by omega) (by omega), f2.1 (4 + k) (by omega) (by omega), f2.1 (8 + k) (by omega) (by omega)]
        exact ⟨rfl, rfl, rfl⟩
      · rw [a5, f3.2, f2.2.1]
theorem co_takeAll {S : qm_S} {k o n1 m1 n2 m2 : Nat} {V1 V2 : Nat → Int32} {g1 g2 : Nat → Nat} {p1 p2 N1 N2 : Nat → Int32} {th1 th2 : Int32} (hk : k < 4) (ho : o < 4) (hko : k ≠ o) (h1 : pu_C S k n1 m1 V1 g1 p1 N1 th1) (h2 : pu_C S o n2 m2 V2 g2 p2 N2 th2) (hI1 : pu_I n1 m1 V1 g1 N1) (hI2 : pu_I n2 m2 V2 g2 N2) (h6 : n1 + n2 ≤ 600) {f : Nat → Nat} (hf : f = pu_mo V1 V2 m1 m2) :
    ∃ S', fX0_takeAll S k o = some S' ∧ pu_C S' k (n1 + n2) (m1 + m2) (pu_mv f V1 V2) (pu_mv f g1 g2) (pu_mp f m1 m2 g1 g2 p1 p2) (pu_all N1 n1 N2 n2) (if th1 < th2 then th2 else th1) ∧ pu_fr k S S' := by
  obtain ⟨hM1, hT1, hH1, ht1⟩ := h1
  obtain ⟨hM2, hT2, hH2, ht2⟩ := h2
  have q1 := hI1.2.1
  have q2 := hI2.2.1
  unfold fX0_takeAll
  rw [ht1, ht2]
  generalize (if th1 < th2 then th2 else th1) = th
  have hMk : pu_M (qm_th S k th) k m1 V1 g1 p1 := hM1
  have hMo : pu_M (qm_th S k th) o m2 V2 g2 p2 := hM2
  obtain ⟨S1, e1, a1, f1⟩ := mk_merge hk ho hko (by omega) hI1.2.2.1 hI2.2.2.1 hMk hMo hf
  rw [e1]
  simp only [Option.bind_some]
  have hTk : pu_T S1 k n1 (fun y => pu_cnt N1 y n1) := pu_T.of (S := S) hT1 (f1.1 _ (by omega) (by omega) (by omega)) (f1.1 _ (by omega) (by omega) (by omega)) (by rw [f1.2]; rfl)
  have hHk : pu_H S1 k n1 (fun y => pu_cnt N1 y n1) := pu_H.of (S := S) hH1 (f1.1 _ (by omega) (by omega) (by omega)) (f1.1 _ (by omega) (by omega) (by omega))
  have hTo : pu_T S1 o n2 (fun y => pu_cnt N2 y n2) := pu_T.of (S := S) hT2 (f1.1 _ (by omega) (by omega) (by omega)) (f1.1 _ (by omega) (by omega) (by omega)) (by rw [f1.2]; rfl)
  obtain ⟨kn, K, t, ⟨c1, c2, c3⟩, cK, ct, cs, ⟨cp, cr⟩, csum, crk⟩ := hTo
  have hkn : kn ≤ n2 := by rw [← csum]; exact pu_ns_ge cp
  obtain ⟨S2, e2, b1, b2, b3, b4, b5⟩ := ta_out (S := S1) (rk := fun y => pu_cnt N1 y n1) hk ho hko h6 (by omega) csum cp cr c1 c2 cK ct qm_F 0 S1 (Nat.zero_le _) (by rw [qm_F_big]; omega) pu_fr.rf hTk hHk
  rw [pu_0, e2]
  have er : (fun y => pu_cnt N1 y n1 + pu_rs K t y kn) = (fun y => pu_cnt (pu_all N1 n1 N2 n2) y (n1 + n2)) := by
    funext y
    rw [pu_rs_is (pu_sup cs), crk, pu_all_cnt]
  rw [er] at b1 b2
  refine ⟨S2, rfl, ⟨a1.of b4.1 b4.2.1 b4.2.2, b1, b2, ?_⟩, (pu_fr.th.tr f1.fr).tr b3⟩
  rw [b5, f1.2]
  show va_up _ k th k = th
  unfold va_up
  rw [if_pos rfl]
theorem pu_I.pour {n1 m1 n2 m2 : Nat} {V1 V2 : Nat → Int32} {g1 g2 : Nat → Nat} {N1 N2 : Nat → Int32} (hI1 : pu_I n1 m1 V1 g1 N1) (hI2 : pu_I n2 m2 V2 g2 N2) (h6 : n1 + n2 ≤ 600) {f : Nat → Nat} (hf : f = pu_mo V1 V2 m1 m2) :
    pu_I (n1 + n2) (m1 + m2) (pu_mv f V1 V2) (pu_mv f g1 g2) (pu_all N1 n1 N2 n2) := by
  obtain ⟨s, u⟩ := pu_mv_ok (g1 := g1) (g2 := g2) hI1.2.2.1 hI2.2.2.1 hf
  obtain ⟨w, r⟩ := pu_all_ok hI1.2.2.2.2.2.1 hI1.2.2.2.2.2.2 n2 hI2.2.2.2.2.2.2
  have hend : f (m1 + m2) = m1 := by rw [hf]; exact pu_mo_end hI1.2.2.1 hI2.2.2.1
  have q1 := hI1.2.1
  have q2 := hI2.2.1
  refine ⟨h6, by omega, u, fun j hj => ?_, ?_, w, r⟩
  · obtain ⟨i1, i2, i3, -⟩ := pu_mo_ok hI1.2.2.1 hI2.2.2.1 j (by omega)
    have st := pu_mo_step V1 V2 m1 m2 j
    rw [← hf] at i1 i2 i3 st
    unfold pu_mv
    rcases st with ⟨e, c⟩ | ⟨e, d1, d2⟩
    · rw [if_pos e]
      exact hI1.2.2.2.1 _ (by rcases c with c | c <;> omega)
    · rw [if_neg (by omega)]
      exact hI2.2.2.2.1 _ (by omega)
  · rw [s _ (Nat.le_refl _), hend, show m1 + m2 - m1 = m2 by omega, hI1.2.2.2.2.1, hI2.2.2.2.2.1]
