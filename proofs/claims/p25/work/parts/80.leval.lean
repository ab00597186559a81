/-! ===== the law's own methods, over counters whose marks are so ===== -/
theorem pl_and (x : Int32) : ∃ j : Nat, j < 2 ^ 31 ∧ x &&& (2147483647 : Int32) = nI j := pk_andE x 31 (by decide)
theorem pl_low {S : qm_S} (x : Int32) {q : Nat} (h0 : 0 < q) (hq : q < 2 ^ 31) : ∃ j : Nat, j < q ∧ fL_low S x (nI q) = some (nI j) := by
  obtain ⟨i, hi, e⟩ := pl_and x
  refine ⟨i % q, Nat.mod_lt _ h0, ?_⟩
  unfold fL_low
  rw [qm_gd_of (nI_ne0 h0 hq), e, pk_rem hi h0 hq]
theorem pl_sub {j c : Nat} (hj : j < 20000) (hc : c < 20000) : (nI j - nI c).toInt = (j : Int) - c := pk_sub_toInt (by omega) (by omega)
theorem pl_number {S : qm_S} (x : Int32) : ∃ y : Int32, pv_nu y ∧ fL_number S x = some y := by
  unfold fL_number
  by_cases c : x &&& (3 : Int32) = 0
  · obtain ⟨j, hj, e⟩ := pl_low (S := S) x (q := 19999) (by omega) (by omega)
    refine ⟨nI j - nI 9999, ?_, ?_⟩
    · unfold pv_nu
      rw [pl_sub (by omega) (by omega)]
      omega
    · rw [if_pos c, show (19999 : Int32) = nI 19999 from rfl, e]
      rfl
  · obtain ⟨j, hj, e⟩ := pl_low (S := S) x (q := 41) (by omega) (by omega)
    refine ⟨nI j - nI 20, ?_, ?_⟩
    · unfold pv_nu
      rw [pl_sub (by omega) (by omega)]
      omega
    · rw [if_neg c, show (41 : Int32) = nI 41 from rfl, e]
      rfl
theorem pl_cell {S : qm_S} {L : Nat} (xs : Nat → Int32) {e : Nat} (hL : L ≤ 260) (he : e < 2 ^ 31) : ∃ y, fL_cell S L xs (nI e) = some y := by
  unfold fL_cell
  rw [show Int32.ofNat L = nI L from rfl]
  by_cases c : L ≤ e
  · rw [if_pos (nI_le c he)]
    exact ⟨_, rfl⟩
  · rw [if_neg (nI_ge (by omega) (by omega)), qm_gd_of (vp_in_nI (by omega) (by omega))]
    exact ⟨_, rfl⟩
/-! areAnswersSo -/
section PlAns
variable {S : qm_S} {k n m : Nat} {V : Nat → Int32} {g P : Nat → Nat} {N : Nat → Int32} {b : Nat}
theorem pl_least (hJ : pv_J n m V g P N b) (hI : pu_I n m V g N) (x : Int32) : pu_ns g (pu_cnt V x m) ≤ pu_cnt N x n := by
  obtain ⟨u1, -⟩ := pu_cnt_up (x := x) hI.2.2.1
  have hc := pu_cnt_le V x m
  rcases Nat.eq_zero_or_pos (pu_cnt V x m) with z | z
  · rw [z]; exact Nat.zero_le _
  · have a1 := (hJ.2.2.1 (pu_cnt V x m - 1) (by omega)).1
    rw [show pu_cnt V x m - 1 + 1 = pu_cnt V x m by omega] at a1
    exact Nat.le_trans a1 (pu_cnt_mono (u1 _ (by omega)) n)
theorem pl_most (hJ : pv_J n m V g P N b) (hI : pu_I n m V g N) (x : Int32) : pu_cnt N x n ≤ pv_most n m V g P x ∧ pv_most n m V g P x ≤ n := by
  obtain ⟨-, u2⟩ := pu_cnt_up (x := x) hI.2.2.1
  unfold pv_most
  by_cases c : pu_cnt V x m < m
  · rw [if_pos c]
    have a1 := hJ.2.2.1 _ c
    have a2 : pu_cnt N x n ≤ pu_cnt N (V (pu_cnt V x m) - 1) n := pu_cnt_mono ((pv_m1_le (pv_rgV hJ hI c)).mpr (u2 _ (Nat.le_refl _) c)) n
    omega
  · rw [if_neg c]
    exact ⟨pu_cnt_le N x n, Nat.le_refl _⟩
theorem pl_occ {N : Nat → Int32} {v : Int32} (hv : pu_rg v = true) : ∀ n, (∃ i, i < n ∧ N i = v) → pu_cnt N (v - 1) n < pu_cnt N v n
  | 0, h => by obtain ⟨i, hi, -⟩ := h; omega
  | n + 1, h => by
    obtain ⟨i, hi, e⟩ := h
    have hle : v - 1 ≤ v := pu_lt_le' ((pv_m1_le hv).mp (pu_le_refl _))
    rw [pu_cnt, pu_cnt]
    by_cases q : i = n
    · subst q
      rw [e, if_neg (fun z => pu_lt_irrefl v ((pv_m1_le hv).mp z)), if_pos (pu_le_refl v)]
      have := pu_cnt_mono (N := N) hle i
      omega
    · have := pl_occ hv n ⟨i, by omega, e⟩
      by_cases c : N n ≤ v - 1
      · rw [if_pos c, if_pos (pu_le_trans c hle)]; omega
      · rw [if_neg c]; omega
theorem pl_half {n : Nat} (hn : n ≤ 600) : (nI n / (2 : Int32)) + (nI n - nI n / (2 : Int32) * (2 : Int32)) = nI ((n + 1) / 2) := by
  rw [pu_2, pk_rem (by omega) (by omega) (by omega), pk_div (by omega) (by omega) (by omega), nI_add]
  congr 1
  omega
theorem pl_mid (hI : pu_I n m V g N) (h0 : 0 < n) : (n + 1) / 2 ≤ pu_cnt N (N ((n + 1) / 2 - 1)) n ∧ pu_cnt N (N ((n + 1) / 2 - 1) - 1) n < (n + 1) / 2 := by
  have hu := hI.2.2.2.2.2.1
  have hr := hI.2.2.2.2.2.2 ((n + 1) / 2 - 1) (by omega)
  constructor
  · obtain ⟨a, b⟩ := pu_cnt_up (x := N ((n + 1) / 2 - 1)) hu
    rcases Nat.lt_or_ge (pu_cnt N (N ((n + 1) / 2 - 1)) n) ((n + 1) / 2) with d | d
    · exact absurd (b ((n + 1) / 2 - 1) (by omega) (by omega)) (pu_lt_irrefl _)
    · exact d
  · obtain ⟨a, b⟩ := pu_cnt_up (x := N ((n + 1) / 2 - 1) - 1) hu
    rcases Nat.lt_or_ge (pu_cnt N (N ((n + 1) / 2 - 1) - 1) n) ((n + 1) / 2) with d | d
    · exact d
    · exact absurd ((pv_m1_le hr).mp (a ((n + 1) / 2 - 1) (by omega))) (pu_lt_irrefl _)
/-- by how much a mark is off, as a whole number -/
theorem pl_off {r i : Nat} (hJ : pv_J n m V g P N b) (hn : n ≤ 600) (hi : i < m) (hr : r ≤ 600) : ((pu_off (nI r) g (fun j => nI (P j)) i).toInt = (r : Int) - pu_ns g (i + 1) ∧ (pu_ns g (i + 1) : Int) + P i - r ≤ r - pu_ns g (i + 1)) ∨ ((pu_off (nI r) g (fun j => nI (P j)) i).toInt = (pu_ns g (i + 1) : Int) + P i - r ∧ (r : Int) - pu_ns g (i + 1) < pu_ns g (i + 1) + P i - r) := by
  have a1 := (hJ.2.2.1 i hi).2.2
  have e1 : (nI r - nI (pu_ns g (i + 1))).toInt = (r : Int) - pu_ns g (i + 1) := pk_sub_toInt (by omega) (by omega)
  have e2 : (nI (pu_ns g (i + 1) + P i) - nI r).toInt = ((pu_ns g (i + 1) + P i : Nat) : Int) - r := pk_sub_toInt (by omega) (by omega)
  unfold pu_off
  show ((if nI r - nI (pu_ns g (i + 1)) < nI (pu_ns g (i + 1)) + nI (P i) - nI r then nI (pu_ns g (i + 1)) + nI (P i) - nI r else nI r - nI (pu_ns g (i + 1))).toInt = _ ∧ _) ∨ ((if nI r - nI (pu_ns g (i + 1)) < nI (pu_ns g (i + 1)) + nI (P i) - nI r then nI (pu_ns g (i + 1)) + nI (P i) - nI r else nI r - nI (pu_ns g (i + 1))).toInt = _ ∧ _)
  rw [nI_add]
  by_cases c : nI r - nI (pu_ns g (i + 1)) < nI (pu_ns g (i + 1) + P i) - nI r
  · rw [if_pos c]
    have := Int32.lt_iff_toInt_lt.mp c
    rw [e1, e2] at this
    right
    rw [e2]
    omega
  · rw [if_neg c]
    have := Int32.le_iff_toInt_le.mp (pu_not_lt.mp c)
    rw [e1, e2] at this
    left
    rw [e1]
    omega
theorem pl_rof {r i : Nat} (hJ : pv_J n m V g P N b) (hn : n ≤ 600) (hi : i < m) (hr : r ≤ 600) : ¬ pu_off (nI r) g (fun j => nI (P j)) i < pv_rof (pu_cnt N (V i - 1) n) (pu_cnt N (V i) n) r ∧ ¬ pu_off (nI r) g (fun j => nI (P j)) i < 0 := by
  have a1 := hJ.2.2.1 i hi
  have ho := pl_off hJ hn hi hr
  have l1 := pu_cnt_le N (V i - 1) n
  have l2 := pu_cnt_le N (V i) n
  generalize pu_cnt N (V i - 1) n = a at a1 l1
  generalize pu_cnt N (V i) n = c at a1 l2
  generalize pu_off (nI r) g (fun j => nI (P j)) i = o at ho
  refine ⟨fun q => ?_, fun q => ?_⟩
  · have q := Int32.lt_iff_toInt_lt.mp q
    unfold pv_rof at q
    rw [nI_1] at q
    by_cases d : a + 1 ≤ r
    · rw [if_pos (nI_le d (by omega))] at q
      by_cases d2 : r ≤ c
      · rw [if_pos (nI_le d2 (by omega)), show (0 : Int32).toInt = 0 from rfl] at q
        omega
      · rw [if_neg (nI_ge (by omega) (by omega)), pk_sub_toInt (by omega) (by omega)] at q
        omega
    · rw [if_neg (nI_ge (by omega) (by omega)), pk_sub_toInt (by omega) (by omega)] at q
      omega
  · have q := Int32.lt_iff_toInt_lt.mp q
    rw [show (0 : Int32).toInt = 0 from rfl] at q
    omega
theorem pl_answers (hk : k < 4) (h : pv_K S k n m V g P N b) {s : Nat} (hs : s ≤ 1000) (x : Int32) : fL_areAnswersSo S (nI k) (nI s) x = some 1 := by
  have hI := h.1
  have hJ := h.2.2
  have hn6 := hI.1
  have l1 := pl_least hJ hI x
  obtain ⟨l2, l3⟩ := pl_most hJ hI x
  have l4 := pu_cnt_le N x n
  unfold fL_areAnswersSo
  rw [eq_count hk h]
  simp only [Option.bind_some]
  rw [eq_atLeast hk h]
  simp only [Option.bind_some]
  rw [eq_really hk h]
  simp only [Option.bind_some]
  rw [if_neg (nI_nlt l1 (by omega))]
  rw [eq_atMost hk h]
  simp only [Option.bind_some]
  rw [if_neg (nI_nlt l2 (by omega)), if_neg (nI_nlt l3 (by omega))]
  by_cases h0 : 0 < n
  · have hm0 := (pv_m0 hI).mp h0
    have hb : pv_bs n m s g P < m := pu_best_lt _ _ _ _ hm0
    obtain ⟨k1, k2⟩ := pv_rk_le hs h0
    rw [if_neg (show ¬ nI n ≤ (0 : Int32) from nI_ge (a := 0) (b := n) h0 (by omega)), eq_ask hk h h0 hs]
    simp only [Option.bind_some]
    rw [eq_middle hk h h0]
    simp only [Option.bind_some]
    rw [eq_really hk h]
    simp only [Option.bind_some]
    rw [eq_really hk h]
    simp only [Option.bind_some]
    have o1 := pl_occ (pv_rgV hJ hI hb) n (hJ.2.1 _ hb)
    have o2 := pu_cnt_le N (V (pv_bs n m s g P)) n
    rw [if_neg (nI_ge o1 (by omega)), eq_reallyOff hk h h0 hs]
    simp only [Option.bind_some]
    rw [eq_off hk h h0 hs]
    simp only [Option.bind_some]
    obtain ⟨r1, r2⟩ := pl_rof (r := pv_rk n s) hJ hn6 hb (by omega)
    rw [if_neg r1, if_neg r2, eq_middleByHeaps hk h h0]
    simp only [Option.bind_some]
    first | rw [if_pos trivial] | rw [if_pos rfl]
    rw [eq_really hk h]
    simp only [Option.bind_some]
    obtain ⟨m1, m2⟩ := pl_mid hI h0
    have m3 := pu_cnt_le N (N ((n + 1) / 2 - 1)) n
    rw [pl_half hn6, if_neg (nI_nlt m1 (by omega)), eq_really hk h]
    simp only [Option.bind_some]
    rw [if_neg (nI_ge m2 (by omega))]
  · rw [if_pos (show nI n ≤ (0 : Int32) from nI_le (a := n) (b := 0) (by omega) (by omega))]
end PlAns
/-! isPoured -/
theorem pl_poured {S : qm_S} (h : pv_R S) {o k : Nat} (ho : o < 4) (hk : k < 4) : ∃ S', fL_isPoured S (nI o) (nI k) = some (1, S') ∧ pv_R S' := by
  unfold fL_isPoured
  by_cases e : o = k
  · subst e
    first | rw [if_pos trivial] | rw [if_pos rfl]
    exact ⟨S, rfl, h⟩
  · obtain ⟨n1, m1, V1, g1, P1, N1, b1, h1⟩ := h k hk
    obtain ⟨n2, m2, V2, g2, P2, N2, b2, h2⟩ := h o ho
    rw [if_neg (fun z => by rw [nI_eq (by omega) (by omega)] at z; exact e z), eq_count ho h2]
    simp only [Option.bind_some]
    rw [eq_count hk h1]
    simp only [Option.bind_some]
    rw [nI_add]
    by_cases c : n2 + n1 ≤ 600
    · obtain ⟨S', V', g', P', a1, a2, a3⟩ := ev_pour hk ho (fun q => e q.symm) h1 h2 (by omega)
      have h2' := h2.fr a3 ho hk e
      rw [if_pos (show nI (n2 + n1) ≤ (600 : Int32) from nI_le (b := 600) c (by omega))]
      rw [eq_marks hk h1]
      simp only [Option.bind_some]
      rw [eq_bound hk h1]
      simp only [Option.bind_some]
      rw [eq_bound ho h2]
      simp only [Option.bind_some]
      rw [eq_really ho h2]
      simp only [Option.bind_some]
      rw [eq_really hk h1]
      simp only [Option.bind_some]
      rw [a1]
      simp only [Option.bind_some]
      rw [eq_count ho h2']
      simp only [Option.bind_some]
      rw [nI_add]
      first | rw [if_pos trivial] | rw [if_pos rfl]
      rw [eq_marks hk a2]
      simp only [Option.bind_some]
      rw [eq_marks ho h2']
      simp only [Option.bind_some]
      rw [nI_add]
      first | rw [if_pos trivial] | rw [if_pos rfl]
      rw [eq_bound hk a2]
      simp only [Option.bind_some]
      rw [eq_really hk a2]
      simp only [Option.bind_some]
      rw [eq_really ho h2']
      simp only [Option.bind_some]
      rw [pu_all_cnt, nI_add, Nat.add_comm (pu_cnt N2 7 n2)]
      first | rw [if_pos trivial] | rw [if_pos rfl]
      have q1 := h1.2.2.1
      have q2 := h2.2.2.1
      refine ⟨S', ?_, h.fr hk a3 a2⟩
      by_cases d : b1 ≤ b2
      · have eb : nI (if b1 < b2 then b2 else b1) = nI b2 := by
          by_cases d2 : b1 < b2
          · rw [if_pos d2]
          · rw [if_neg d2, show b1 = b2 by omega]
        rw [if_pos (nI_le d (by omega)), if_pos eb]
        first | rw [if_pos trivial] | rw [if_pos rfl]
        (try first | rw [if_pos trivial] | rw [if_pos rfl])
      · have eb : nI (if b1 < b2 then b2 else b1) = nI b1 := by rw [if_neg (by omega)]
        rw [if_neg (nI_ge (by omega) (by omega)), if_pos eb]
        simp
    · have z1 := h1.1.1
      have z2 := h2.1.1
      rw [if_neg (show ¬ nI (n2 + n1) ≤ (600 : Int32) from nI_ge (b := n2 + n1) (a := 600) (by omega) (by omega))]
      exact ⟨S, rfl, h⟩
/-! does -/
theorem pl_does {S : qm_S} (h : pv_R S) {k : Nat} (hk : k < 4) (v w : Int32) : ∃ S', fL_does S (nI k) v w = some (1, S') ∧ pv_R S' := by
  obtain ⟨n, m, V, g, P, N, b, hK⟩ := h k hk
  have hI := hK.1
  have hJ := hK.2.2
  have hn6 := hI.1
  have hmn := hI.2.1
  unfold fL_does
  rw [eq_count hk hK]
  simp only [Option.bind_some]
  rw [eq_marks hk hK]
  simp only [Option.bind_some]
  generalize v &&& (15 : Int32) = c
  by_cases c0 : c = (0 : Int32)
  · rw [if_pos c0]
    obtain ⟨j, hj, e⟩ := pl_low (S := S) (w >>> ((3 : Int32) &&& 31)) (q := 196) (by omega) (by omega)
    rw [show (196 : Int32) = nI 196 from rfl, e]
    simp only [Option.bind_some]
    by_cases d : (0 : Int32) < w &&& (7 : Int32)
    · rw [if_pos d]
      exact ⟨S, rfl, h⟩
    · obtain ⟨S', a1, a2, a3⟩ := ev_begin hk hK (q := 5 + j) (by omega) (by omega)
      rw [if_neg d, show (5 : Int32) = nI 5 from rfl, nI_add, a1]
      simp only [Option.bind_some]
      first | rw [if_pos trivial] | rw [if_pos rfl]
      rw [eq_count hk a2]
      simp only [Option.bind_some]
      rw [if_pos nI_0, eq_marks hk a2]
      simp only [Option.bind_some]
      rw [if_pos nI_0, eq_bound hk a2]
      simp only [Option.bind_some]
      first | rw [if_pos trivial] | rw [if_pos rfl]
      exact ⟨S', rfl, h.fr hk a3 a2⟩
  · rw [if_neg c0]
    by_cases c1 : c = (1 : Int32) ∨ c = (2 : Int32) ∨ c = (3 : Int32) ∨ c = (4 : Int32)
    · rw [if_pos c1]
      obtain ⟨j, hj, e⟩ := pl_low (S := S) (w >>> ((4 : Int32) &&& 31)) (q := 40) (by omega) (by omega)
      rw [show (40 : Int32) = nI 40 from rfl, e]
      simp only [Option.bind_some]
      obtain ⟨y, hy, ey⟩ := pl_number (S := S) w
      have fin : ∀ t : Nat, t ≤ 9999 → ∃ S', (if (600 : Int32) < (nI n + ((1 : Int32) + nI j)) then some ((1 : Int32), S) else Option.bind (fL_number S w) (fun z_39 => Option.bind (fX6_showRow S (nI k) z_39 (nI t) ((1 : Int32) + nI j)) (fun z_41 => (if z_41.1 = (nI m + ((1 : Int32) + nI j)) then Option.bind (fX6_count z_41.2 (nI k)) (fun z_44 => (if z_44 = (nI n + ((1 : Int32) + nI j)) then some ((1 : Int32), z_41.2) else none)) else none)))) = some (1, S') ∧ pv_R S' := by
        intro t ht
        rw [show (1 : Int32) + nI j = nI (1 + j) from nI_add 1 j, nI_add, nI_add]
        by_cases d : n + (1 + j) ≤ 600
        · obtain ⟨S', V', g', P', N', a1, a2, a3⟩ := ev_showRow hk hK hy ht (w := 1 + j) (by omega) (by omega) d
          rw [if_neg (show ¬ (600 : Int32) < nI (n + (1 + j)) from nI_nlt (a := 600) d (by omega)), ey]
          simp only [Option.bind_some]
          rw [a1]
          simp only [Option.bind_some]
          first | rw [if_pos trivial] | rw [if_pos rfl]
          rw [eq_count hk a2]
          simp only [Option.bind_some]
          first | rw [if_pos trivial] | rw [if_pos rfl]
          exact ⟨S', rfl, h.fr hk a3 a2⟩
        · rw [if_pos (show (600 : Int32) < nI (n + (1 + j)) from nI_lt (a := 600) (by omega) (by omega))]
          exact ⟨S, rfl, h⟩
      by_cases d : w &&& (4 : Int32) = 0
      · obtain ⟨t, ht, et⟩ := pl_low (S := S) w (q := 10000) (by omega) (by omega)
        rw [if_pos d, show (10000 : Int32) = nI 10000 from rfl, et]
        simp only [Option.bind_some]
        exact fin t (by omega)
      · obtain ⟨t, ht, et⟩ := pl_low (S := S) w (q := 8) (by omega) (by omega)
        rw [if_neg d, show (8 : Int32) = nI 8 from rfl, et]
        simp only [Option.bind_some]
        exact fin t (by omega)
    · rw [if_neg c1]
      by_cases c2 : c = (5 : Int32) ∨ c = (6 : Int32) ∨ c = (7 : Int32)
      · rw [if_pos c2]
        obtain ⟨S', m', V', g', P', a1, a2, a3, a4, a5, a6, a7, -⟩ := ev_thin hk hK
        obtain ⟨S2, m2, V2, g2, P2, b1, b2, b3, b4, b5, b6, -, b8⟩ := ev_thin hk a5
        have e2 := b8 a7
        subst e2
        rw [a1]
        simp only [Option.bind_some]
        rw [b1]
        simp only [Option.bind_some]
        rw [eq_marks hk b5]
        simp only [Option.bind_some]
        rw [show m2 - m2 = 0 by omega, pk_sub (show m - m2 ≤ m by omega), pk_sub (Nat.zero_le _), show m - (m - m2) - 0 = m2 by omega]
        first | rw [if_pos trivial] | rw [if_pos rfl]
        rw [if_neg (nI_nlt (Nat.zero_le _) (by omega))]
        have cnt := eq_count hk b5
        have goal : pv_R S2 := (h.fr hk a6 a5).fr hk b6 b5
        by_cases d : 3 ≤ m
        · rw [if_pos (show (3 : Int32) ≤ nI m from nI_le (a := 3) d (by omega))]
          (try rw [eq_marks hk b5])
          (try simp only [Option.bind_some])
          rw [if_neg (show ¬ nI m2 < (2 : Int32) from nI_nlt (b := 2) (a3 (by omega)) (by omega)), cnt]
          simp only [Option.bind_some]
          first | rw [if_pos trivial] | rw [if_pos rfl]
          exact ⟨S2, rfl, goal⟩
        · rw [if_neg (show ¬ (3 : Int32) ≤ nI m from nI_ge (a := m) (b := 3) (by omega) (by omega)), a4 (by omega), show m - m = 0 by omega, if_pos nI_0, cnt]
          simp only [Option.bind_some]
          first | rw [if_pos trivial] | rw [if_pos rfl]
          exact ⟨S2, rfl, goal⟩
      · rw [if_neg c2]
        by_cases c3 : c = (8 : Int32)
        · rw [if_pos c3]
          obtain ⟨o, ho, e⟩ := pl_low (S := S) w (q := 4) (by omega) (by omega)
          obtain ⟨S', a1, a2⟩ := pl_poured h ho hk
          have e : fL_low S w (4 : Int32) = some (nI o) := e
          rw [e]
          simp only [Option.bind_some]
          rw [a1]
          simp only [Option.bind_some]
          first | rw [qm_gd_of trivial] | rw [qm_gd_of rfl]
          exact ⟨S', rfl, a2⟩
        · rw [if_neg c3]
          by_cases d : n = 600
          · rw [if_pos (show nI n = (600 : Int32) by rw [d]; rfl)]
            exact ⟨S, rfl, h⟩
          · obtain ⟨y, hy, ey⟩ := pl_number (S := S) w
            obtain ⟨S', V', g', P', a1, a2, a3⟩ := ev_show hk hK (by omega) hy
            obtain ⟨y2, hy2, ey2⟩ := pl_number (S := S') w
            have same : y2 = y := by
              have q1 : fL_number S' w = fL_number S w := rfl
              rw [ey, ey2] at q1
              exact Option.some.inj q1
            subst same
            rw [if_neg (fun z => d (by rw [show (600 : Int32) = nI 600 from rfl, nI_eq (by omega) (by omega)] at z; exact z)), ey]
            simp only [Option.bind_some]
            rw [a1]
            simp only [Option.bind_some]
            rw [nI_1, nI_1]
            first | rw [if_pos trivial] | rw [if_pos rfl]
            rw [eq_count hk a2]
            simp only [Option.bind_some]
            first | rw [if_pos trivial] | rw [if_pos rfl]
            rw [ey2]
            simp only [Option.bind_some]
            rw [eq_really hk a2, pu_cnt_ins (pu_cnt_le _ _ _), if_pos (pu_le_refl _)]
            simp only [Option.bind_some]
            have := pu_cnt_le N y2 n
            rw [if_neg (show ¬ nI (pu_cnt N y2 n + 1) ≤ (0 : Int32) from nI_ge (a := 0) (b := pu_cnt N y2 n + 1) (by omega) (by omega))]
            exact ⟨S', rfl, h.fr hk a3 a2⟩
