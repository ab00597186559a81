/-! ===== both sides: begin, show, showRow ===== -/
def st_w (ts : List String) (S : qm_S) (x : Option ((Int32 × qm_S) ⊕ String)) (y : Option (Int32 × mm_M)) : Prop :=
  ∃ z b M', x = some z ∧ y = some (b, M') ∧ ((∃ v S', z = .inl (v, S') ∧ M'.2 = 0 ∧ b = v ∧ st_R S' M') ∨ ∃ (i : Nat) (E : String), ts[i]? = some E ∧ z = .inr E ∧ M'.2 = nI (i + 1) ∧ st_R S M')
theorem st_w.v {ts : List String} {S S' : qm_S} {x : Option ((Int32 × qm_S) ⊕ String)} {y : Option (Int32 × mm_M)} {v : Int32} {M' : mm_M} (hy : y = some (v, M')) (hx : x = some (.inl (v, S'))) (h0 : M'.2 = 0) (hR : st_R S' M') : st_w ts S x y :=
  ⟨_, _, _, hx, hy, Or.inl ⟨v, S', rfl, h0, rfl, hR⟩⟩
theorem st_w.e {ts : List String} {S : qm_S} {M : mm_M} {x : Option ((Int32 × qm_S) ⊕ String)} {y : Option (Int32 × mm_M)} (h : st_R S M) (i : Nat) {E : String} {b : Int32} (hE : ts[i]? = some E) (hy : y = some (b, mm_th M (nI (i + 1)))) (hx : x = some (.inr E)) : st_w ts S x y :=
  ⟨_, _, _, hx, hy, Or.inr ⟨i, E, hE, rfl, rfl, h⟩⟩
theorem pu_C.fr {S S' : qm_S} {j k n m : Nat} {V : Nat → Int32} {g : Nat → Nat} {p N : Nat → Int32} {th : Int32} (h : pu_C S j n m V g p N th) (hf : pu_fr k S S') (hj : j < 4) (hk : k < 4) (hjk : j ≠ k) : pu_C S' j n m V g p N th := by
  have e : ∀ q, (q = j ∨ q = 4 + j ∨ q = 8 + j ∨ q = 12 + j ∨ q = 16 + j ∨ q = 20 + 2 * j ∨ q = 20 + (2 * j + 1)) → S'.1 q = S.1 q := fun q hq => hf.1 q (fun z => by unfold pu_own at z; omega)
  obtain ⟨a, b, c, d⟩ := h
  exact ⟨a.of (e _ (by omega)) (e _ (by omega)) (e _ (by omega)), b.of (e _ (by omega)) (e _ (by omega)) (hf.2 j hjk).2, c.of (e _ (by omega)) (e _ (by omega)), (hf.2 j hjk).1.trans d⟩
/-- counter k stands alike on both sides -/
def st_k (S : qm_S) (M : mm_M) (k n m : Nat) : Prop := ∃ (V : Nat → Int32) (g : Nat → Nat) (p N : Nat → Int32) (th : Int32), pu_I n m V g N ∧ pu_C S k n m V g p N th ∧ pm_R M k n m V g p N th
theorem st_R.fr {S S' : qm_S} {M M' : mm_M} {k : Nat} (h : st_R S M) (hk : k < 4) (hf : pu_fr k S S') (hg : pm_fr k M M') {n m : Nat} (hn : st_k S' M' k n m) : st_R S' M' := by
  intro j hj
  by_cases e : j = k
  · subst e
    obtain ⟨V, g, p, N, th, r⟩ := hn
    exact ⟨n, m, V, g, p, N, th, r⟩
  · obtain ⟨n1, m1, V, g, p, N, th, a, b, c⟩ := h j hj
    exact ⟨n1, m1, V, g, p, N, th, a, b.fr hf hj hk e, c.fr hg e a.1 (by have := a.1; have := a.2.1; omega)⟩
section StShow
variable {S : qm_S} {M : mm_M}
theorem pm_begin {k n m : Nat} {V : Nat → Int32} {g : Nat → Nat} {p N : Nat → Int32} {th : Int32} (hk : k < 4) (h : pm_R M k n m V g p N th) {b : Int32} (hb : mo_in b 5 200) :
    ∃ M', fX7_begin M (nI k) b = some (nI n, M') ∧ M'.2 = 0 ∧ pm_R M' k 0 0 V g p N b ∧ pm_fr k (mm_th M 0) M' := by
  have h' := h.th (v := 0)
  unfold fX7_begin
  rw [if_pos (pu_in3 hk), if_pos hb, qm_gd_of (pu_v4 hk), qm_gd_of (pu_v4 hk), qm_gd_of (pu_v4 hk), qm_gd_of (pu_v4 hk), pu_cl (by omega), h'.1.2.1]
  have f := ((pm_fr.small (k := k) (i := 0) (M := mm_th M 0) (v := b) (by omega)).tr (pm_fr.small (i := 1) (v := 0) (by omega))).tr (pm_fr.small (i := 2) (v := 0) (by omega))
  refine ⟨_, rfl, f.1, ⟨⟨?_, ?_, ?_⟩, fun j hj => absurd hj (by omega), fun j hj => absurd hj (by omega), fun j hj => absurd hj (by omega), fun j hj => absurd hj (by omega)⟩, f⟩
  · rw [mm_up_ne (by omega), mm_up_ne (by omega), mm_up_at, pk_us]
  · rw [mm_up_ne (by omega), mm_up_at, pk_us]; rfl
  · rw [mm_up_at, pk_us]; rfl
theorem st_begin (h : st_R S M) (p q : Int32) : st_w st_b S (fX6_begin S p q) (fX7_begin M p q) := by
  rcases pu_arg p with ⟨k, hk, rfl⟩ | ⟨ho, hn⟩
  · obtain ⟨n, m, V, g, P, N, th, hI, hC, hR⟩ := h k hk
    by_cases hq : mo_in q 5 200
    · obtain ⟨M', e1, e2, e3, e4⟩ := pm_begin hk hR hq
      obtain ⟨c1, c2⟩ := co_begin hk hC hI q
      refine .v e1 ?_ e2 (st_R.fr (h.th (v := 0)) hk c2 e4 (n := 0) (m := 0) ⟨V, g, P, N, q, ⟨by omega, by omega, fun i j _ hj => absurd hj (by omega), fun j hj => absurd hj (by omega), rfl, fun i j _ hj => absurd hj (by omega), fun j hj => absurd hj (by omega)⟩, c1, e3⟩)
      unfold fX6_begin
      rw [qc_in hk]
      simp only [Option.bind_some, Sum.elim_inl]
      rw [qm_gd_of hk, if_neg hq.1, if_neg hq.2, qd_1, pc_tot hC]
      rfl
    · refine .e h 1 rfl (b := 0) ?_ ?_
      · unfold fX7_begin
        rw [if_pos (pu_in3 hk), if_neg hq]
        rfl
      · unfold fX6_begin
        rw [qc_in hk]
        simp only [Option.bind_some, Sum.elim_inl]
        rw [qm_gd_of hk, qd_0]
        simp only [Option.bind_some, Sum.elim_inr]
        by_cases c : q < 5
        · rw [if_pos c]
        · rw [if_neg c, if_pos (by
            by_cases d : 200 < q
            · exact d
            · exact absurd ⟨c, d⟩ hq)]
  · refine .e h 0 rfl (b := 0) ?_ ?_
    · unfold fX7_begin
      rw [if_neg hn]
      rfl
    · unfold fX6_begin
      rw [qc_out ho]
      rfl
/-- one number more, on both sides -/
theorem st_take {k n m : Nat} (hk : k < 4) (h : st_k S M k n m) (hn : n < 600) {x : Int32} (hx : pu_rg x = true) :
    ∃ S' M', fX0_take S k x = some S' ∧ fX7_shows M (nI k) x = some M' ∧ st_k S' M' k (n + 1) (m + 1) ∧ pu_fr k S S' ∧ pm_fr k M M' := by
  obtain ⟨V, g, p, N, th, hI, hC, hR⟩ := h
  obtain ⟨S', a1, a2, a3⟩ := co_take hk hC hI hn hx
  obtain ⟨M', b1, b2, b3⟩ := pm_shows hk hR hI hn x
  exact ⟨S', M', a1, b1, ⟨_, _, _, _, _, hI.ins hn hx, a2, b2⟩, a3, b3⟩
theorem st_k.len {k n m : Nat} (h : st_k S M k n m) : (S.1 k).1 = nI m ∧ M.1 2 k = nI m := by
  obtain ⟨V, g, p, N, th, hI, hC, hR⟩ := h
  exact ⟨hC.1.1.1, hR.1.2.2⟩
theorem qd_r {k n c : Nat} (h : S.2.2 k = nI n) (hn : n ≤ 600) (hc : c ≤ 600) : fX0_demandRoomFor S k (nI c) = if n + c ≤ 600 then some (.inl ()) else some (.inr "java/lang/IllegalStateException") := by
  unfold fX0_demandRoomFor
  rw [h, nI_add]
  by_cases d : n + c ≤ 600
  · rw [if_pos d, if_pos (show nI (n + c) ≤ (600 : Int32) from nI_le (b := 600) d (by omega))]
  · rw [if_neg d, if_neg (show ¬ nI (n + c) ≤ (600 : Int32) from nI_ge (b := n + c) (a := 600) (by omega) (by omega))]
theorem qi_is {p : Int32} : fX6_isNumber S p = if mo_in p (-9999) 9999 then some 1 else some 0 := by
  unfold fX6_isNumber
  by_cases a : p < -9999
  · rw [if_pos a, if_neg (fun q => q.1 a)]
  · rw [if_neg a]
    by_cases b : 9999 < p
    · rw [if_pos b, if_neg (fun q => q.2 b)]
    · rw [if_neg b, if_pos ⟨a, b⟩]
theorem rg_of {p : Int32} (h : mo_in p (-9999) 9999) : -9999 ≤ p.toInt ∧ p.toInt ≤ 9999 := by
  obtain ⟨a, b⟩ := h
  have a := Int32.le_iff_toInt_le.mp (pu_not_lt.mp a)
  have b := Int32.le_iff_toInt_le.mp (pu_not_lt.mp b)
  rw [show (-9999 : Int32).toInt = -9999 from rfl] at a
  rw [show (9999 : Int32).toInt = 9999 from rfl] at b
  exact ⟨a, b⟩
theorem st_show (h : st_R S M) (p q : Int32) : st_w st_3 S (fX6_show S p q) (fX7_show M p q) := by
  rcases pu_arg p with ⟨k, hk, rfl⟩ | ⟨ho, hn⟩
  · obtain ⟨n, m, V, g, P, N, th, hI, hC, hR⟩ := h k hk
    have hn6 := hI.1
    have hkk : st_k S (mm_th M 0) k n m := ⟨V, g, P, N, th, hI, hC, hR.th⟩
    by_cases hq : mo_in q (-9999) 9999
    · by_cases h6 : n < 600
      · have hr := rg_of hq
        obtain ⟨S', M', a1, a2, a3, a4, a5⟩ := st_take hk hkk h6 (x := q) (pu_rg_i.mpr (by omega))
        refine .v (M' := M') (S' := S') (v := nI (m + 1)) ?_ ?_ a5.1 (st_R.fr (h.th (v := 0)) hk a4 a5 a3)
        · unfold fX7_show
          rw [if_pos (pu_in3 hk), if_pos hq, qm_gd_of (pu_v4 hk), pu_cl (by omega), hR.1.2.1, if_neg (fun e => by rw [pu_600, nI_eq (by omega) (by omega)] at e; omega), a2]
          simp only [Option.bind_some]
          rw [qm_gd_of (pu_v4 hk), a3.len.2]
        · unfold fX6_show
          rw [qc_in hk]
          simp only [Option.bind_some, Sum.elim_inl]
          rw [qm_gd_of hk, qi_is, if_pos hq]
          simp only [Option.bind_some]
          rw [qd_1]
          simp only [Option.bind_some, Sum.elim_inl]
          rw [show (1 : Int32) = nI 1 from rfl, qd_r (pc_tot hC) hn6 (by omega), if_pos (by omega)]
          simp only [Option.bind_some, Sum.elim_inl]
          rw [a1]
          simp only [Option.bind_some]
          rw [a3.len.1]
      · have e : n = 600 := by omega
        refine .e h 2 rfl (b := 0) ?_ ?_
        · unfold fX7_show
          rw [if_pos (pu_in3 hk), if_pos hq, qm_gd_of (pu_v4 hk), pu_cl (by omega), hR.1.2.1, if_pos (by rw [e]; rfl)]
          rfl
        · unfold fX6_show
          rw [qc_in hk]
          simp only [Option.bind_some, Sum.elim_inl]
          rw [qm_gd_of hk, qi_is, if_pos hq]
          simp only [Option.bind_some]
          rw [qd_1]
          simp only [Option.bind_some, Sum.elim_inl]
          rw [show (1 : Int32) = nI 1 from rfl, qd_r (pc_tot hC) hn6 (by omega), if_neg (by omega)]
          rfl
    · refine .e h 1 rfl (b := 0) ?_ ?_
      · unfold fX7_show
        rw [if_pos (pu_in3 hk), if_neg hq]
        rfl
      · unfold fX6_show
        rw [qc_in hk]
        simp only [Option.bind_some, Sum.elim_inl]
        rw [qm_gd_of hk, qi_is, if_neg hq]
        simp only [Option.bind_some]
        rw [qd_0]
        rfl
  · refine .e h 0 rfl (b := 0) ?_ ?_
    · unfold fX7_show
      rw [if_neg hn]
      rfl
    · unfold fX6_show
      rw [qc_out ho]
      rfl
theorem i3_d (x : Int32) : x - 20000 = x + (-20000) := by grind
theorem i3_e (x : Int32) : x - 0 = x := by grind
/-- the next number of a row -/
theorem nx_rg {v t : Int32} (h : -10000 ≤ v.toInt ∧ v.toInt ≤ 9999) (ht : 0 ≤ t.toInt ∧ t.toInt ≤ 9999) : (v + t).toInt = v.toInt + t.toInt ∧ (9999 < v.toInt + t.toInt → (v + t + (-20000)).toInt = v.toInt + t.toInt - 20000) := by
  have e : (v + t).toInt = v.toInt + t.toInt := by
    rw [Int32.toInt_add]
    exact Int.bmod_eq_of_le (by omega) (by omega)
  refine ⟨e, fun c => ?_⟩
  rw [Int32.toInt_add, e, show (-20000 : Int32).toInt = -20000 from rfl]
  exact Int.bmod_eq_of_le (by omega) (by omega)
theorem st_row_L {k : Nat} (hk : k < 4) {t : Int32} (ht : 0 ≤ t.toInt ∧ t.toInt ≤ 9999) {c : Nat} (hc : c ≤ 600) : ∀ (q fuel i n m : Nat) (S1 : qm_S) (M1 : mm_M) (v : Int32), q < fuel → i + q = c → st_k S1 M1 k n m → n + q ≤ 600 → -10000 ≤ v.toInt ∧ v.toInt ≤ 9999 →
    ∃ S' M', fX6_showRow_L67 t (nI c) k fuel v (nI i) S1 = some S' ∧ fX7_showRow_L97 (nI k) t (nI c) fuel v (nI i) M1 = some M' ∧ st_k S' M' k (n + q) (m + q) ∧ pu_fr k S1 S' ∧ pm_fr k M1 M' := by
  intro q
  induction q with
  | zero =>
    intro fuel i n m S1 M1 v h1 h2 h3 h4 h5
    obtain ⟨fu, rfl⟩ : ∃ f, fuel = f + 1 := ⟨fuel - 1, by omega⟩
    rw [fX6_showRow_L67, fX7_showRow_L97, if_pos (nI_le (by omega) (by omega)), if_pos (nI_le (by omega) (by omega))]
    exact ⟨S1, M1, rfl, rfl, h3, pu_fr.rf, pm_fr.rf⟩
  | succ q ih =>
    intro fuel i n m S1 M1 v h1 h2 h3 h4 h5
    obtain ⟨fu, rfl⟩ : ∃ f, fuel = f + 1 := ⟨fuel - 1, by omega⟩
    obtain ⟨S2, M2, a1, a2, a3, a4, a5⟩ := st_take hk h3 (by omega) (x := v) (pu_rg_i.mpr (by omega))
    obtain ⟨w1, w2⟩ := nx_rg h5 ht
    rw [fX6_showRow_L67, fX7_showRow_L97, if_neg (nI_ge (by omega) (by omega)), if_neg (nI_ge (by omega) (by omega)), a1, a2]
    simp only [Option.bind_some]
    rw [nI_1, i3_d, i3_e]
    have fin : ∀ w : Int32, -10000 ≤ w.toInt ∧ w.toInt ≤ 9999 → ∃ S' M', fX6_showRow_L67 t (nI c) k fu w (nI (i + 1)) S2 = some S' ∧ fX7_showRow_L97 (nI k) t (nI c) fu w (nI (i + 1)) M2 = some M' ∧ st_k S' M' k (n + (q + 1)) (m + (q + 1)) ∧ pu_fr k S1 S' ∧ pm_fr k M1 M' := by
      intro w hw
      obtain ⟨S', M', b1, b2, b3, b4, b5⟩ := ih fu (i + 1) (n + 1) (m + 1) S2 M2 w (by omega) (by omega) a3 (by omega) hw
      rw [show n + 1 + q = n + (q + 1) by omega, show m + 1 + q = m + (q + 1) by omega] at b3
      exact ⟨S', M', b1, b2, b3, a4.tr b4, a5.tr b5⟩
    by_cases d : v + t ≤ 9999
    · rw [if_pos d, if_pos d]
      have d' := Int32.le_iff_toInt_le.mp d
      rw [w1, show (9999 : Int32).toInt = 9999 from rfl] at d'
      exact fin _ (by rw [w1]; omega)
    · rw [if_neg d, if_neg d]
      have d' := Int32.lt_iff_toInt_lt.mp (pu_not_le.mp d)
      rw [w1, show (9999 : Int32).toInt = 9999 from rfl] at d'
      exact fin _ (by rw [w2 d']; omega)
theorem bad_lo {q a b : Int32} (h : ¬ mo_in q a b) : q < a ∨ (¬ q < a ∧ b < q) := by
  by_cases c : q < a
  · exact Or.inl c
  · refine Or.inr ⟨c, ?_⟩
    by_cases d : b < q
    · exact d
    · exact absurd ⟨c, d⟩ h
theorem st_showRow (h : st_R S M) (p a t c : Int32) : st_w st_3 S (fX6_showRow S p a t c) (fX7_showRow M p a t c) := by
  rcases pu_arg p with ⟨k, hk, rfl⟩ | ⟨ho, hn⟩
  · obtain ⟨n, m, V, g, P, N, th, hI, hC, hR⟩ := h k hk
    have hn6 := hI.1
    have hkk : st_k S (mm_th M 0) k n m := ⟨V, g, P, N, th, hI, hC, hR.th⟩
    by_cases ha : mo_in a (-9999) 9999
    · by_cases ht : mo_in t 0 9999
      · by_cases hc : mo_in c 1 100
        · -- all in range
          have hc0 : ¬ c < 0 := fun q => hc.1 (by rw [Int32.lt_iff_toInt_lt] at *; rw [show (0 : Int32).toInt = 0 from rfl] at q; rw [show (1 : Int32).toInt = 1 from rfl]; omega)
          obtain ⟨w, hw, rfl⟩ := nI_of hc0
          have hw6 : w ≤ 100 := by
            rcases Nat.lt_or_ge 100 w with q | q
            · exact absurd (nI_lt (a := 100) q (by omega)) hc.2
            · exact q
          have hr := rg_of ha
          have htr : 0 ≤ t.toInt ∧ t.toInt ≤ 9999 := by
            have x1 := Int32.le_iff_toInt_le.mp (pu_not_lt.mp ht.1)
            have x2 := Int32.le_iff_toInt_le.mp (pu_not_lt.mp ht.2)
            rw [show (0 : Int32).toInt = 0 from rfl] at x1
            rw [show (9999 : Int32).toInt = 9999 from rfl] at x2
            exact ⟨x1, x2⟩
          have cls : ∀ z, fX6_showRow S (nI k) a t (nI w) = z ↔ (Option.bind (fX0_demandRoomFor S k (nI w)) (fun y => Sum.elim (fun _ => Option.bind (fX6_showRow_L67 t (nI w) k qm_F a (0 : Int32) S) (fun u => some (.inl (((u.1 k).1), u)))) (fun e => some (.inr e)) y)) = z := by
            intro z
            unfold fX6_showRow
            rw [qc_in hk]
            simp only [Option.bind_some, Sum.elim_inl]
            rw [qm_gd_of hk, qi_is, if_pos ha]
            simp only [Option.bind_some]
            rw [qd_1]
            simp only [Option.bind_some, Sum.elim_inl]
            rw [if_neg ht.1, if_neg ht.2, if_neg hc.1, if_neg hc.2]
          by_cases h6 : n + w ≤ 600
          · obtain ⟨S', M', a1, a2, a3, a4, a5⟩ := st_row_L hk htr (c := w) (by omega) w qm_F 0 n m S (mm_th M 0) a (by rw [qm_F_big]; omega) (by omega) hkk h6 (by omega)
            refine .v (M' := M') (S' := S') (v := nI (m + w)) ?_ ((cls _).mpr ?_) a5.1 (st_R.fr (h.th (v := 0)) hk a4 a5 a3)
            · unfold fX7_showRow
              rw [if_pos ha, if_pos ht, if_pos hc, if_pos (pu_in3 hk), qm_gd_of (pu_v4 hk), pu_cl (by omega), hR.1.2.1, nI_add, if_pos (show nI (n + w) ≤ (600 : Int32) from nI_le (b := 600) h6 (by omega))]
              rw [show (fX7_showRow_L97 (nI k) t (nI w) qm_F a 0 (mm_th M 0)) = some M' from a2]
              simp only [Option.bind_some]
              rw [qm_gd_of (pu_v4 hk), a3.len.2]
            · rw [qd_r (pc_tot hC) hn6 (by omega), if_pos h6]
              simp only [Option.bind_some, Sum.elim_inl]
              rw [show fX6_showRow_L67 t (nI w) k qm_F a 0 S = some S' from a1]
              simp only [Option.bind_some]
              rw [a3.len.1]
          · refine .e h 2 rfl (b := 0) ?_ ((cls _).mpr ?_)
            · unfold fX7_showRow
              rw [if_pos ha, if_pos ht, if_pos hc, if_pos (pu_in3 hk), qm_gd_of (pu_v4 hk), pu_cl (by omega), hR.1.2.1, nI_add, if_neg (show ¬ nI (n + w) ≤ (600 : Int32) from nI_ge (b := n + w) (a := 600) (by omega) (by omega))]
              rfl
            · rw [qd_r (pc_tot hC) hn6 (by omega), if_neg h6]
              rfl
        · refine .e h 1 rfl (b := 0) ?_ ?_
          · unfold fX7_showRow
            rw [if_pos ha, if_pos ht, if_neg hc, if_pos (pu_in3 hk)]
            rfl
          · unfold fX6_showRow
            rw [qc_in hk]
            simp only [Option.bind_some, Sum.elim_inl]
            rw [qm_gd_of hk, qi_is, if_pos ha]
            simp only [Option.bind_some]
            rw [qd_1]
            simp only [Option.bind_some, Sum.elim_inl]
            rw [if_neg ht.1, if_neg ht.2]
            rcases bad_lo hc with q | ⟨q1, q2⟩
            · rw [if_pos q, qd_0]; rfl
            · rw [if_neg q1, if_pos q2, qd_0]; rfl
      · refine .e h 1 rfl (b := 0) ?_ ?_
        · unfold fX7_showRow
          rw [if_pos ha, if_neg ht, if_pos (pu_in3 hk)]
          rfl
        · unfold fX6_showRow
          rw [qc_in hk]
          simp only [Option.bind_some, Sum.elim_inl]
          rw [qm_gd_of hk, qi_is, if_pos ha]
          simp only [Option.bind_some]
          rw [qd_1]
          simp only [Option.bind_some, Sum.elim_inl]
          rcases bad_lo ht with q | ⟨q1, q2⟩
          · rw [if_pos q, qd_0]; rfl
          · rw [if_neg q1, if_pos q2, qd_0]; rfl
    · refine .e h 1 rfl (b := 0) ?_ ?_
      · unfold fX7_showRow
        rw [if_neg ha, if_pos (pu_in3 hk)]
        rfl
      · unfold fX6_showRow
        rw [qc_in hk]
        simp only [Option.bind_some, Sum.elim_inl]
        rw [qm_gd_of hk, qi_is, if_neg ha]
        simp only [Option.bind_some]
        rw [qd_0]
        rfl
  · refine .e h 0 rfl (b := 0) ?_ ?_
    · unfold fX7_showRow
      rw [if_neg hn, if_neg hn]
      split
      · split
        · split <;> rfl
        · rfl
      · rfl
    · unfold fX6_showRow
      rw [qc_out ho]
      rfl
end StShow
