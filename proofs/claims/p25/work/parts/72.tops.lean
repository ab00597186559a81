/-! ===== what the face does to a counter whose marks are so ===== -/
theorem pu_C.fr {S S' : qm_S} {j k n m : Nat} {V : Nat → Int32} {g : Nat → Nat} {p N : Nat → Int32} {th : Int32} (h : pu_C S j n m V g p N th) (hf : pu_fr k S S') (hj : j < 4) (hk : k < 4) (hjk : j ≠ k) : pu_C S' j n m V g p N th := by
  have e : ∀ q, (q = j ∨ q = 4 + j ∨ q = 8 + j ∨ q = 12 + j ∨ q = 16 + j ∨ q = 20 + 2 * j ∨ q = 20 + (2 * j + 1)) → S'.1 q = S.1 q := fun q hq => hf.1 q (fun z => by unfold pu_own at z; omega)
  obtain ⟨a, b, c, d⟩ := h
  exact ⟨a.of (e _ (by omega)) (e _ (by omega)) (e _ (by omega)), b.of (e _ (by omega)) (e _ (by omega)) (hf.2 j hjk).2, c.of (e _ (by omega)) (e _ (by omega)), (hf.2 j hjk).1.trans d⟩
theorem pv_C_congr {S : qm_S} {k n m : Nat} {V : Nat → Int32} {g P : Nat → Nat} {p N : Nat → Int32} {th : Int32} (h : pu_C S k n m V g p N th) (e : ∀ j, j < m → p j = nI (P j)) : pu_C S k n m V g (fun j => nI (P j)) N th :=
  ⟨h.1.congr (fun _ _ => rfl) (fun _ _ => rfl) e, h.2⟩
def pv_R (S : qm_S) : Prop := ∀ k, k < 4 → ∃ (n m : Nat) (V : Nat → Int32) (g P : Nat → Nat) (N : Nat → Int32) (b : Nat), pv_K S k n m V g P N b
theorem pv_K.fr {S S' : qm_S} {j k n m : Nat} {V : Nat → Int32} {g P : Nat → Nat} {N : Nat → Int32} {b : Nat} (h : pv_K S j n m V g P N b) (hf : pu_fr k S S') (hj : j < 4) (hk : k < 4) (hjk : j ≠ k) : pv_K S' j n m V g P N b := ⟨h.1, h.2.1.fr hf hj hk hjk, h.2.2⟩
theorem pv_R.fr {S S' : qm_S} {k : Nat} (h : pv_R S) (hk : k < 4) (hf : pu_fr k S S') {n m : Nat} {V : Nat → Int32} {g P : Nat → Nat} {N : Nat → Int32} {b : Nat} (hn : pv_K S' k n m V g P N b) : pv_R S' := by
  intro j hj
  by_cases e : j = k
  · subst e
    exact ⟨n, m, V, g, P, N, b, hn⟩
  · obtain ⟨n1, m1, V1, g1, P1, N1, b1, a⟩ := h j hj
    exact ⟨n1, m1, V1, g1, P1, N1, b1, a.fr hf hj hk e⟩
theorem qd_r {S : qm_S} {k n c : Nat} (h : S.2.2 k = nI n) (hc : n + c ≤ 600) : fX0_demandRoomFor S k (nI c) = some () := by
  unfold fX0_demandRoomFor
  rw [h, nI_add, if_pos (show nI (n + c) ≤ (600 : Int32) from nI_le (b := 600) hc (by omega))]
/-- a number that show() takes -/
def pv_nu (x : Int32) : Prop := -9999 ≤ x.toInt ∧ x.toInt ≤ 9999
theorem qi_is {S : qm_S} {p : Int32} (h : pv_nu p) : fX6_isNumber S p = some 1 := by
  unfold fX6_isNumber
  rw [if_neg (fun q => by have := Int32.lt_iff_toInt_lt.mp q; rw [show (-9999 : Int32).toInt = -9999 from rfl] at this; unfold pv_nu at h; omega), if_neg (fun q => by have := Int32.lt_iff_toInt_lt.mp q; rw [show (9999 : Int32).toInt = 9999 from rfl] at this; unfold pv_nu at h; omega)]
section PvOps
variable {S : qm_S} {k n m : Nat} {V : Nat → Int32} {g P : Nat → Nat} {N : Nat → Int32} {b : Nat}
theorem ev_begin (hk : k < 4) (h : pv_K S k n m V g P N b) {q : Nat} (h5 : 5 ≤ q) (h2 : q ≤ 200) : ∃ S', fX6_begin S (nI k) (nI q) = some (nI n, S') ∧ pv_K S' k 0 0 V g P N q ∧ pu_fr k S S' := by
  obtain ⟨hI, hC, hJ⟩ := h
  obtain ⟨c1, c2⟩ := co_begin hk hC hI (nI q)
  refine ⟨_, ?_, ⟨⟨by omega, by omega, fun i j _ hj => absurd hj (by omega), fun j hj => absurd hj (by omega), rfl, fun i j _ hj => absurd hj (by omega), fun j hj => absurd hj (by omega)⟩, c1, pv_J.empty h5 h2⟩, c2⟩
  unfold fX6_begin
  rw [qc_in hk]
  simp only [Option.bind_some]
  rw [qm_gd_of hk, if_neg (show ¬ nI q < (5 : Int32) from nI_nlt (b := 5) h5 (by omega)), if_neg (show ¬ (200 : Int32) < nI q from nI_nlt (a := 200) h2 (by omega)), qd_1, pc_tot hC]
  rfl
theorem ev_take (hk : k < 4) (h : pv_K S k n m V g P N b) (hn : n < 600) {x : Int32} (hx : pu_rg x = true) : ∃ (S' : qm_S) (V' : Nat → Int32) (g' P' : Nat → Nat), fX0_take S k x = some S' ∧ pv_K S' k (n + 1) (m + 1) V' g' P' (pu_ins N (pu_cnt N x n) x) b ∧ pu_fr k S S' := by
  obtain ⟨hI, hC, hJ⟩ := h
  obtain ⟨S', a1, a2, a3⟩ := co_take hk hC hI hn hx
  refine ⟨S', _, _, _, a1, ⟨hI.ins hn hx, pv_C_congr a2 (fun j hj => ?_), hJ.take hI hx⟩, a3⟩
  unfold pu_ins
  split
  · rfl
  · split
    · show (if pu_cnt V x m < m then nI (g (pu_cnt V x m)) + nI (P (pu_cnt V x m)) - 1 else 0) = _
      split
      · next c =>
        have := hI.2.2.2.1 _ c
        rw [nI_add, pu_1, pk_sub (by omega)]
      · rfl
    · rfl
theorem ev_show (hk : k < 4) (h : pv_K S k n m V g P N b) (hn : n < 600) {x : Int32} (hx : pv_nu x) : ∃ (S' : qm_S) (V' : Nat → Int32) (g' P' : Nat → Nat), fX6_show S (nI k) x = some (nI (m + 1), S') ∧ pv_K S' k (n + 1) (m + 1) V' g' P' (pu_ins N (pu_cnt N x n) x) b ∧ pu_fr k S S' := by
  obtain ⟨S', V', g', P', a1, a2, a3⟩ := ev_take hk h hn (x := x) (pu_rg_i.mpr (by unfold pv_nu at hx; omega))
  refine ⟨S', V', g', P', ?_, a2, a3⟩
  obtain ⟨hI, hC, hJ⟩ := h
  unfold fX6_show
  rw [qc_in hk]
  simp only [Option.bind_some]
  rw [qm_gd_of hk, qi_is hx]
  simp only [Option.bind_some]
  rw [qd_1]
  simp only [Option.bind_some]
  rw [show (1 : Int32) = nI 1 from rfl, qd_r (pc_tot hC) (by omega)]
  simp only [Option.bind_some]
  rw [a1]
  simp only [Option.bind_some]
  rw [a2.2.1.1.1.1]
theorem nx_rg {v t : Int32} (h : -10000 ≤ v.toInt ∧ v.toInt ≤ 9999) (ht : 0 ≤ t.toInt ∧ t.toInt ≤ 9999) : (v + t).toInt = v.toInt + t.toInt ∧ (9999 < v.toInt + t.toInt → (v + t + (-20000)).toInt = v.toInt + t.toInt - 20000) := by
  have e : (v + t).toInt = v.toInt + t.toInt := by
    rw [Int32.toInt_add]
    exact Int.bmod_eq_of_le (by omega) (by omega)
  refine ⟨e, fun c => ?_⟩
  rw [Int32.toInt_add, e, show (-20000 : Int32).toInt = -20000 from rfl]
  exact Int.bmod_eq_of_le (by omega) (by omega)
theorem ev_row_L {t : Int32} (hk : k < 4) (ht : 0 ≤ t.toInt ∧ t.toInt ≤ 9999) {c : Nat} (hc : c ≤ 600) : ∀ (q fuel i n m : Nat) (V : Nat → Int32) (g P : Nat → Nat) (N : Nat → Int32) (S1 : qm_S) (v : Int32), q < fuel → i + q = c → pv_K S1 k n m V g P N b → n + q ≤ 600 → -10000 ≤ v.toInt ∧ v.toInt ≤ 9999 →
    ∃ (S' : qm_S) (V' : Nat → Int32) (g' P' : Nat → Nat) (N' : Nat → Int32), fX6_showRow_L67 t (nI c) k fuel v (nI i) S1 = some S' ∧ pv_K S' k (n + q) (m + q) V' g' P' N' b ∧ pu_fr k S1 S' := by
  intro q
  induction q with
  | zero =>
    intro fuel i n m V g P N S1 v h1 h2 h3 h4 h5
    obtain ⟨fu, rfl⟩ : ∃ f, fuel = f + 1 := ⟨fuel - 1, by omega⟩
    rw [fX6_showRow_L67, if_pos (nI_le (by omega) (by omega))]
    exact ⟨S1, V, g, P, N, rfl, h3, pu_fr.rf⟩
  | succ q ih =>
    intro fuel i n m V g P N S1 v h1 h2 h3 h4 h5
    obtain ⟨fu, rfl⟩ : ∃ f, fuel = f + 1 := ⟨fuel - 1, by omega⟩
    obtain ⟨S2, V2, g2, P2, a1, a2, a3⟩ := ev_take hk h3 (by omega) (x := v) (pu_rg_i.mpr (by omega))
    obtain ⟨w1, w2⟩ := nx_rg h5 ht
    rw [fX6_showRow_L67, if_neg (nI_ge (by omega) (by omega)), a1]
    simp only [Option.bind_some]
    rw [nI_1]
    have fin : ∀ w : Int32, -10000 ≤ w.toInt ∧ w.toInt ≤ 9999 → ∃ (S' : qm_S) (V' : Nat → Int32) (g' P' : Nat → Nat) (N' : Nat → Int32), fX6_showRow_L67 t (nI c) k fu w (nI (i + 1)) S2 = some S' ∧ pv_K S' k (n + (q + 1)) (m + (q + 1)) V' g' P' N' b ∧ pu_fr k S1 S' := by
      intro w hw
      obtain ⟨S', V', g', P', N', b1, b2, b3⟩ := ih fu (i + 1) (n + 1) (m + 1) V2 g2 P2 _ S2 w (by omega) (by omega) a2 (by omega) hw
      rw [show n + 1 + q = n + (q + 1) by omega, show m + 1 + q = m + (q + 1) by omega] at b2
      exact ⟨S', V', g', P', N', b1, b2, a3.tr b3⟩
    by_cases d : v + t ≤ 9999
    · rw [if_pos d]
      have d' := Int32.le_iff_toInt_le.mp d
      rw [w1, show (9999 : Int32).toInt = 9999 from rfl] at d'
      exact fin _ (by rw [w1]; omega)
    · rw [if_neg d]
      have d' := Int32.lt_iff_toInt_lt.mp (pu_not_le.mp d)
      rw [w1, show (9999 : Int32).toInt = 9999 from rfl] at d'
      exact fin _ (by rw [w2 d']; omega)
theorem ev_showRow (hk : k < 4) (h : pv_K S k n m V g P N b) {x : Int32} (hx : pv_nu x) {t w : Nat} (ht : t ≤ 9999) (h1 : 1 ≤ w) (hw : w ≤ 100) (h6 : n + w ≤ 600) : ∃ (S' : qm_S) (V' : Nat → Int32) (g' P' : Nat → Nat) (N' : Nat → Int32), fX6_showRow S (nI k) x (nI t) (nI w) = some (nI (m + w), S') ∧ pv_K S' k (n + w) (m + w) V' g' P' N' b ∧ pu_fr k S S' := by
  obtain ⟨S', V', g', P', N', a1, a2, a3⟩ := ev_row_L (b := b) hk (t := nI t) (by rw [nI_toInt (by omega)]; omega) (c := w) (by omega) w qm_F 0 n m V g P N S x (by rw [qm_F_big]; omega) (by omega) h h6 (by unfold pv_nu at hx; omega)
  refine ⟨S', V', g', P', N', ?_, a2, a3⟩
  obtain ⟨hI, hC, hJ⟩ := h
  unfold fX6_showRow
  rw [qc_in hk]
  simp only [Option.bind_some]
  rw [qm_gd_of hk, qi_is hx]
  simp only [Option.bind_some]
  rw [qd_1]
  simp only [Option.bind_some]
  rw [if_neg (nI_pos (by omega)), if_neg (show ¬ (9999 : Int32) < nI t from nI_nlt (a := 9999) ht (by omega)), if_neg (show ¬ nI w < (1 : Int32) from nI_nlt (b := 1) h1 (by omega)), if_neg (show ¬ (100 : Int32) < nI w from nI_nlt (a := 100) hw (by omega))]
  (try simp only [Option.bind_some])
  rw [qd_r (pc_tot hC) h6]
  simp only [Option.bind_some]
  rw [show fX6_showRow_L67 (nI t) (nI w) k qm_F x 0 S = some S' from a1]
  simp only [Option.bind_some]
  rw [a2.2.1.1.1.1]
theorem ev_thin (hk : k < 4) (h : pv_K S k n m V g P N b) : ∃ (S' : qm_S) (m' : Nat) (V' : Nat → Int32) (g' P' : Nat → Nat), fX6_thinOut S (nI k) = some (nI (m - m'), S') ∧ m' ≤ m ∧ (2 ≤ m → 2 ≤ m') ∧ (m < 3 → m' = m) ∧ pv_K S' k n m' V' g' P' N b ∧ pu_fr k S S' ∧ pv_stay (pv_al b n) 0 m' g' P' ∧ (pv_stay (pv_al b n) 0 m g P → m' = m) := by
  obtain ⟨hI, hC, hJ⟩ := h
  have hn6 := hI.1
  have hmn := hI.2.1
  obtain ⟨S', c1, c2, c3⟩ := mk_thin hC.1 (by omega) hI.2.2.1 hI.2.2.2.1 hI.2.2.2.2.1 hn6 (nI (pv_al b n))
  have hth : m - 2 + 1 < m ∨ m - 2 = 0 := by omega
  obtain ⟨t1, t2, t3, t4⟩ := pu_th_ok (nI (pv_al b n)) (m - 2) (m, V, g, fun j => nI (P j)) n hth hI.2.2.2.2.1 hI.2.2.2.1 hI.2.2.1
  obtain ⟨P', r1, r2, r3, r4⟩ := pv_thin hn6 hJ.1.2 (m - 2) (m, V, g, fun j => nI (P j)) P hth (fun j _ => rfl) hJ (fun j h1 h2 => by
    replace h2 : j + 1 < m := h2
    omega)
  have same : pv_stay (pv_al b n) 0 m g P → pu_th (nI (pv_al b n)) (m - 2) (m, V, g, fun j => nI (P j)) = (m, V, g, fun j => nI (P j)) := fun hs => pv_again hn6 hJ.1.2 (m - 2) (m, V, g, fun j => nI (P j)) P hth (fun j _ => rfl) hJ hs
  have small : m < 3 → pu_th (nI (pv_al b n)) (m - 2) (m, V, g, fun j => nI (P j)) = (m, V, g, fun j => nI (P j)) := fun hs => same (fun j h1 h2 => by omega)
  generalize pu_th (nI (pv_al b n)) (m - 2) (m, V, g, fun j => nI (P j)) = B at c2 t1 t2 t3 t4 r1 r2 r3 r4 same small
  have hB : B.1 ≤ m := t4
  refine ⟨S', B.1, B.2.1, B.2.2.1, P', ?_, hB, r4, fun hs => by rw [small hs], ⟨⟨hn6, by omega, t3, t2, t1, hI.2.2.2.2.2⟩, pv_C_congr ⟨c2, hC.2.1.of (c3.1 _ (by omega) (by omega) (by omega)) (c3.1 _ (by omega) (by omega) (by omega)) (by rw [c3.2]), hC.2.2.1.of (c3.1 _ (by omega) (by omega) (by omega)) (c3.1 _ (by omega) (by omega) (by omega)), by rw [c3.2]; exact hC.2.2.2⟩ r1, r2⟩, c3.fr, r3, fun hs => by rw [same hs]⟩
  unfold fX6_thinOut
  rw [qc_in hk]
  simp only [Option.bind_some]
  rw [qm_gd_of hk, hC.2.2.2, pc_tot hC, pv_al_is hJ.1.2 hn6, c1]
  simp only [Option.bind_some]
  rw [hC.1.1.1, c2.1.1, pk_sub hB]
theorem ev_pour {o n2 m2 : Nat} {V2 : Nat → Int32} {g2 P2 : Nat → Nat} {N2 : Nat → Int32} {b2 : Nat} (hk : k < 4) (ho : o < 4) (hko : k ≠ o) (h : pv_K S k n m V g P N b) (h2 : pv_K S o n2 m2 V2 g2 P2 N2 b2) (h6 : n + n2 ≤ 600) :
    ∃ (S' : qm_S) (V' : Nat → Int32) (g' P' : Nat → Nat), fX6_pour S (nI o) (nI k) = some (nI (n + n2), S') ∧ pv_K S' k (n + n2) (m + m2) V' g' P' (pu_all N n N2 n2) (if b < b2 then b2 else b) ∧ pu_fr k S S' := by
  obtain ⟨hI1, hC1, hJ1⟩ := h
  obtain ⟨hI2, hC2, hJ2⟩ := h2
  obtain ⟨f, hf⟩ : ∃ f, f = pu_mo V V2 m m2 := ⟨_, rfl⟩
  obtain ⟨S', a1, a2, a3⟩ := co_takeAll hk ho hko hC1 hC2 hI1 hI2 h6 hf
  have eb : (if nI b < nI b2 then nI b2 else nI b) = nI (if b < b2 then b2 else b) := by
    have := hJ1.1
    have := hJ2.1
    by_cases c : b < b2
    · rw [if_pos c, if_pos (nI_lt c (by omega))]
    · rw [if_neg c, if_neg (nI_nlt (by omega) (by omega))]
  rw [eb] at a2
  refine ⟨S', _, _, _, ?_, ⟨hI1.pour hI2 h6 hf, pv_C_congr a2 (fun q hq => ?_), hJ1.pour hJ2 hI1 hI2 rfl hf⟩, a3⟩
  · have hne : ¬ nI o = nI k := fun z => by rw [nI_eq (by omega) (by omega)] at z; exact hko z.symm
    unfold fX6_pour
    rw [qc_in ho]
    simp only [Option.bind_some]
    rw [qm_gd_of ho, qc_in hk]
    simp only [Option.bind_some]
    rw [qm_gd_of hk, if_neg hne, pc_tot hC2, qd_r (pc_tot hC1) h6]
    simp only [Option.bind_some]
    rw [a1]
    simp only [Option.bind_some]
    rw [pc_tot a2]
  · unfold pu_mp pv_mp
    rw [pv_ad_is hJ2 hI2.2.2.2.1 (fun _ _ => rfl), pv_ad_is hJ1 hI1.2.2.2.1 (fun _ _ => rfl), nI_add, nI_add]
    split <;> rfl
end PvOps
