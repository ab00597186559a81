/-! ===== Halves: two heaps; rk y: how many of all numbers are not above y ===== -/
theorem pu_neg {v : Int32} (h : pu_rg v = true) : (-v).toInt = -v.toInt := by
  have := pu_rg_i.mp h
  rw [Int32.toInt_neg]
  exact Int.bmod_eq_of_le (by omega) (by omega)
theorem pu_rg_neg {v : Int32} (h : pu_rg v = true) : pu_rg (-v) = true := by
  have a := pu_rg_i.mp h
  rw [pu_rg_i, pu_neg h]
  omega
theorem pu_neg_le {a b : Int32} (ha : pu_rg a = true) (hb : pu_rg b = true) (h : a ≤ b) : -b ≤ -a := by
  rw [Int32.le_iff_toInt_le] at *
  rw [pu_neg ha, pu_neg hb]
  omega
abbrev pu_nl (y : Int32) : Int32 → Bool := fun v => decide (-v ≤ y)
abbrev pu_lq (y : Int32) : Int32 → Bool := fun v => decide (v ≤ y)
def pu_J (S : qm_S) (k a b : Nat) (f u : Nat → Int32) (rk : Int32 → Nat) : Prop :=
  (pu_P S (2 * k) a f ∧ pu_P S (2 * k + 1) b u) ∧ (pu_cb pu_rg f a = a ∧ pu_cb pu_rg u b = b) ∧ (∀ y, pu_cb (pu_nl y) f a + pu_cb (pu_lq y) u b = rk y) ∧ ∀ y, 0 < pu_cb (pu_lq y) u b → pu_cb (pu_nl y) f a = a
def pu_H (S : qm_S) (k n : Nat) (rk : Int32 → Nat) : Prop := ∃ (a b : Nat) (f u : Nat → Int32), pu_J S k a b f u rk ∧ a + b = n ∧ b ≤ a ∧ a ≤ b + 1
theorem pu_P.of {S S' : qm_S} {y n : Nat} {f : Nat → Int32} (h : pu_P S y n f) (e : S'.1 (20 + y) = S.1 (20 + y)) : pu_P S' y n f := by
  unfold pu_P
  rw [e]
  exact h
theorem pu_H.of {S S' : qm_S} {k n : Nat} {rk : Int32 → Nat} (h : pu_H S k n rk) (e1 : S'.1 (20 + 2 * k) = S.1 (20 + 2 * k)) (e2 : S'.1 (20 + (2 * k + 1)) = S.1 (20 + (2 * k + 1))) : pu_H S' k n rk := by
  obtain ⟨a, b, f, u, ⟨⟨p1, p2⟩, r⟩, q⟩ := h
  exact ⟨a, b, f, u, ⟨⟨p1.of e1, p2.of e2⟩, r⟩, q⟩
/-- only the heaps' rows have changed -/
def pu_fh (k : Nat) (S S' : qm_S) : Prop := (∀ q, q ≠ 20 + 2 * k → q ≠ 20 + (2 * k + 1) → S'.1 q = S.1 q) ∧ S'.2 = S.2
theorem pu_fh.fr {k : Nat} {S S' : qm_S} (h : pu_fh k S S') : pu_fr k S S' := ⟨fun q hq => h.1 q (fun e => hq (Or.inr (Or.inr (Or.inr (Or.inr (Or.inr (Or.inl e)))))) ) (fun e => hq (Or.inr (Or.inr (Or.inr (Or.inr (Or.inr (Or.inr e))))))), fun j _ => by rw [h.2]; exact ⟨rfl, rfl⟩⟩
theorem pu_fh.rf {k : Nat} {S : qm_S} : pu_fh k S S := ⟨fun _ _ _ => rfl, rfl⟩
theorem pu_fh.tr {k : Nat} {S S' S'' : qm_S} (a : pu_fh k S S') (b : pu_fh k S' S'') : pu_fh k S S'' := ⟨fun q h1 h2 => (b.1 q h1 h2).trans (a.1 q h1 h2), b.2.trans a.2⟩
theorem pu_fh_l {k : Nat} {S : qm_S} {R : qm_R} : pu_fh k S (qm_row S (20 + 2 * k) R) := ⟨fun _ h1 _ => qm_row_ne _ _ h1, rfl⟩
theorem pu_fh_g {k : Nat} {S : qm_S} {R : qm_R} : pu_fh k S (qm_row S (20 + (2 * k + 1)) R) := ⟨fun _ _ h2 => qm_row_ne _ _ h2, rfl⟩
section PuHalves
variable {S : qm_S} {k a b : Nat} {f u : Nat → Int32} {rk : Int32 → Nat}
theorem pu_J.top (h : pu_J S k a b f u rk) (ha : 0 < a) {y : Int32} : -(f 0) ≤ y ↔ pu_cb (pu_nl y) f a = a := by
  have hf := pu_cb_full h.2.1.1
  constructor
  · intro hy
    refine pu_cb_all (fun j hj => ?_)
    rw [decide_eq_true_eq]
    exact pu_le_trans (pu_neg_le (hf 0 ha) (hf j hj) (pu_h_top h.1.1.2.2 j hj)) hy
  · intro e
    have := pu_cb_full e 0 ha
    rw [decide_eq_true_eq] at this
    exact this
theorem pu_J.bot (h : pu_J S k a b f u rk) (hb : 0 < b) {y : Int32} : u 0 ≤ y ↔ 0 < pu_cb (pu_lq y) u b := by
  constructor
  · intro hy
    exact pu_cb_pos (j := 0) hb (by rw [decide_eq_true_eq]; exact hy)
  · intro hp
    by_cases c : u 0 ≤ y
    · exact c
    · have := pu_cb_zero (P := pu_lq y) (f := u) (n := b) (fun j hj => by
        rw [decide_eq_false_iff_not]
        exact fun q => c (pu_le_trans (pu_h_top h.1.2.2.2 j hj) q))
      omega
/-- a number comes to the lesser half -/
theorem pu_J.pushL (h : pu_J S k a b f u rk) (ha : a < 600) {x : Int32} (hx : pu_rg x = true) (ho : ∀ y, 0 < pu_cb (pu_lq y) u b → x ≤ y) :
    ∃ S' f', fX2_push S (2 * k) (-x) = some S' ∧ pu_J S' k (a + 1) b f' u (fun y => rk y + (if x ≤ y then 1 else 0)) ∧ pu_fh k S S' := by
  obtain ⟨⟨p1, p2⟩, ⟨r1, r2⟩, hc, hord⟩ := h
  obtain ⟨R, f', e1, e2, e3⟩ := he_push p1 ha (-x)
  have en : ∀ y, pu_cb (pu_nl y) f' (a + 1) = pu_cb (pu_nl y) f a + (if x ≤ y then 1 else 0) := fun y => by
    rw [e3]
    show _ + pu_b (decide (-(-x) ≤ y)) = _
    rw [Int32.neg_neg]
    unfold pu_b
    by_cases c : x ≤ y <;> simp [c]
  refine ⟨_, f', e1, ⟨⟨e2, p2.of (qm_row_ne _ _ (by omega))⟩, ⟨?_, r2⟩, fun y => ?_, fun y hy => ?_⟩, pu_fh_l⟩
  · rw [e3, r1, pu_rg_neg hx]; rfl
  · show _ = rk y + _
    rw [en, ← hc y]; omega
  · rw [en, hord y hy, if_pos (ho y hy)]
/-- .. to the greater half -/
theorem pu_J.pushG (h : pu_J S k a b f u rk) (hb : b < 600) {x : Int32} (hx : pu_rg x = true) (ho : ∀ y, x ≤ y → pu_cb (pu_nl y) f a = a) :
    ∃ S' u', fX2_push S (2 * k + 1) x = some S' ∧ pu_J S' k a (b + 1) f u' (fun y => rk y + (if x ≤ y then 1 else 0)) ∧ pu_fh k S S' := by
  obtain ⟨⟨p1, p2⟩, ⟨r1, r2⟩, hc, hord⟩ := h
  obtain ⟨R, u', e1, e2, e3⟩ := he_push p2 hb x
  have en : ∀ y, pu_cb (pu_lq y) u' (b + 1) = pu_cb (pu_lq y) u b + (if x ≤ y then 1 else 0) := fun y => by
    rw [e3]
    unfold pu_b
    by_cases c : x ≤ y <;> simp [c]
  refine ⟨_, u', e1, ⟨⟨p1.of (qm_row_ne _ _ (by omega)), e2⟩, ⟨r1, ?_⟩, fun y => ?_, fun y hy => ?_⟩, pu_fh_g⟩
  · rw [e3, r2, hx]; rfl
  · show _ = rk y + _
    rw [en, ← hc y]; omega
  · by_cases c : x ≤ y
    · exact ho y c
    · rw [en, if_neg c] at hy
      exact hord y (by omega)
end PuHalves
noncomputable def ha_tail (k : Nat) (z_2 : qm_S) : Option qm_S := (if ((z_2.1 (20 + (2 * k))).1) ≤ (((z_2.1 (20 + (2 * k + 1))).1) + (1 : Int32)) then (if ((z_2.1 (20 + (2 * k + 1))).1) ≤ ((z_2.1 (20 + (2 * k))).1) then some z_2 else Option.bind (fX2_pop z_2 (2 * k + 1)) (fun z_6 => Option.bind (fX2_push z_6.2 (2 * k) (-z_6.1)) (fun z_8 => some z_8))) else Option.bind (fX2_pop z_2 (2 * k)) (fun z_10 => Option.bind (fX2_push z_10.2 (2 * k + 1) (-z_10.1)) (fun z_12 => some z_12)))
theorem ha_add_eq (S : qm_S) (k : Nat) (x : Int32) : fX1_add S k x = (if ((S.1 (20 + (2 * k))).1) ≤ 0 then Option.bind (fX2_push S (2 * k) (-x)) (ha_tail k) else (if x ≤ (-(rw_at (S.1 (20 + (2 * k))) (0 : Int32))) then Option.bind (fX2_push S (2 * k) (-x)) (ha_tail k) else Option.bind (fX2_push S (2 * k + 1) x) (ha_tail k))) := rfl
theorem ha_tail_is {S : qm_S} {k a b n : Nat} {f u : Nat → Int32} {rk : Int32 → Nat} (h : pu_J S k a b f u rk) (hn : a + b = n) (hn6 : n ≤ 600) (h1 : b ≤ a + 1) (h2 : a ≤ b + 2) :
    ∃ S', ha_tail k S = some S' ∧ pu_H S' k n rk ∧ pu_fh k S S' := by
  obtain ⟨⟨p1, p2⟩, ⟨r1, r2⟩, hc, hord⟩ := id h
  unfold ha_tail
  rw [p1.1, p2.1, nI_1]
  by_cases c1 : a ≤ b + 1
  · rw [if_pos (nI_le c1 (by omega))]
    by_cases c2 : b ≤ a
    · rw [if_pos (nI_le c2 (by omega))]
      exact ⟨S, rfl, ⟨a, b, f, u, h, hn, c2, c1⟩, pu_fh.rf⟩
    · rw [if_neg (nI_ge (by omega) (by omega))]
      -- the greater half is too long: its least goes over
      obtain ⟨b', rfl⟩ : ∃ q, b = q + 1 := ⟨b - 1, by omega⟩
      obtain ⟨R, u', e1, e2, e3⟩ := he_pop p2 (by omega)
      rw [e1]
      simp only [Option.bind_some]
      have hu0 := pu_cb_full r2 0 (by omega)
      have hrg := e3 pu_rg
      rw [hu0] at hrg
      have el : ∀ y, pu_cb (pu_lq y) u' b' + (if u 0 ≤ y then 1 else 0) = pu_cb (pu_lq y) u (b' + 1) := fun y => by
        rw [← e3]
        unfold pu_b
        by_cases c : u 0 ≤ y <;> simp [c]
      have J2 : pu_J (qm_row S (20 + (2 * k + 1)) R) k a b' f u' (fun y => rk y - (if u 0 ≤ y then 1 else 0)) := by
        refine ⟨⟨p1.of (qm_row_ne _ _ (by omega)), e2⟩, ⟨r1, ?_⟩, fun y => ?_, fun y hy => hord y ?_⟩
        · unfold pu_b at hrg
          simp only [if_true] at hrg
          omega
        · have := el y
          have := hc y
          show _ = rk y - _
          omega
        · have := el y
          omega
      obtain ⟨S', f', g1, g2, g3⟩ := J2.pushL (by omega) hu0 (fun y hy => (h.bot (by omega)).mpr (by have := el y; omega))
      rw [g1]
      refine ⟨S', rfl, ⟨a + 1, b', f', u', ⟨g2.1, g2.2.1, fun y => ?_, g2.2.2.2⟩, by omega, by omega, by omega⟩, pu_fh_g.tr g3⟩
      rw [g2.2.2.1 y]
      show rk y - _ + _ = rk y
      have hle : (if u 0 ≤ y then 1 else 0) ≤ rk y := by
        rw [← hc y, ← el y]
        omega
      omega
  · rw [if_neg (nI_ge (by omega) (by omega))]
    obtain ⟨a', rfl⟩ : ∃ q, a = q + 1 := ⟨a - 1, by omega⟩
    obtain ⟨R, f', e1, e2, e3⟩ := he_pop p1 (by omega)
    rw [e1]
    simp only [Option.bind_some]
    have hf0 := pu_cb_full r1 0 (by omega)
    have hrg := e3 pu_rg
    rw [hf0] at hrg
    have el : ∀ y, pu_cb (pu_nl y) f' a' + (if -(f 0) ≤ y then 1 else 0) = pu_cb (pu_nl y) f (a' + 1) := fun y => by
      rw [← e3]
      unfold pu_b
      by_cases c : -(f 0) ≤ y <;> simp [c]
    have J2 : pu_J (qm_row S (20 + 2 * k) R) k a' b f' u (fun y => rk y - (if -(f 0) ≤ y then 1 else 0)) := by
      refine ⟨⟨e2, p2.of (qm_row_ne _ _ (by omega))⟩, ⟨?_, r2⟩, fun y => ?_, fun y hy => ?_⟩
      · unfold pu_b at hrg
        simp only [if_true] at hrg
        omega
      · have := el y
        have := hc y
        show _ = rk y - _
        omega
      · have q := hord y hy
        have w := el y
        rw [if_pos ((h.top (by omega)).mpr q)] at w
        omega
    obtain ⟨S', u', g1, g2, g3⟩ := J2.pushG (by omega) (pu_rg_neg hf0) (fun y hy => by
      have w := el y
      rw [if_pos hy, (h.top (by omega)).mp hy] at w
      omega)
    rw [g1]
    refine ⟨S', rfl, ⟨a', b + 1, f', u', ⟨g2.1, g2.2.1, fun y => ?_, g2.2.2.2⟩, by omega, by omega, by omega⟩, pu_fh_l.tr g3⟩
    rw [g2.2.2.1 y]
    show rk y - _ + _ = rk y
    have hle : (if -(f 0) ≤ y then 1 else 0) ≤ rk y := by
      rw [← hc y, ← el y]
      omega
    omega
theorem ha_add {S : qm_S} {k n : Nat} {rk : Int32 → Nat} (h : pu_H S k n rk) (hn : n < 600) {x : Int32} (hx : pu_rg x = true) :
    ∃ S', fX1_add S k x = some S' ∧ pu_H S' k (n + 1) (fun y => rk y + (if x ≤ y then 1 else 0)) ∧ pu_fh k S S' := by
  obtain ⟨a, b, f, u, hj, hab, h1, h2⟩ := h
  have p1 := hj.1.1
  rw [ha_add_eq, p1.1]
  have viaL : (∀ y, 0 < pu_cb (pu_lq y) u b → x ≤ y) → ∃ S', Option.bind (fX2_push S (2 * k) (-x)) (ha_tail k) = some S' ∧ pu_H S' k (n + 1) (fun y => rk y + (if x ≤ y then 1 else 0)) ∧ pu_fh k S S' := by
    intro ho
    obtain ⟨S1, f', e1, e2, e3⟩ := hj.pushL (by omega) hx ho
    obtain ⟨S2, g1, g2, g3⟩ := ha_tail_is e2 (n := n + 1) (by omega) (by omega) (by omega) (by omega)
    rw [e1]
    exact ⟨S2, g1, g2, e3.tr g3⟩
  by_cases c1 : a ≤ 0
  · rw [if_pos (by rw [pu_0]; exact nI_le c1 (by omega))]
    exact viaL (fun y hy => by rw [show b = 0 by omega] at hy; exact absurd hy (by simp [pu_cb]))
  · rw [if_neg (by rw [pu_0]; exact nI_ge (by omega) (by omega))]
    have e0 : rw_at (S.1 (20 + 2 * k)) 0 = f 0 := by
      rw [pu_0, rw_at_in p1.1 (by omega) (by omega), p1.2.1 0 (by omega)]
    rw [e0]
    by_cases c2 : x ≤ -(f 0)
    · rw [if_pos c2]
      exact viaL (fun y hy => pu_le_trans c2 ((hj.top (by omega)).mpr (hj.2.2.2 y hy)))
    · rw [if_neg c2]
      obtain ⟨S1, u', e1, e2, e3⟩ := hj.pushG (by omega) hx (fun y hy => (hj.top (by omega)).mp (pu_le_trans (pu_lt_le' (pu_not_le.mp c2)) hy))
      obtain ⟨S2, g1, g2, g3⟩ := ha_tail_is e2 (n := n + 1) (by omega) (by omega) (by omega) (by omega)
      rw [e1]
      exact ⟨S2, g1, g2, e3.tr g3⟩
theorem ha_clear {S : qm_S} {k n : Nat} {rk : Int32 → Nat} (h : pu_H S k n rk) (hn : n ≤ 600) : pu_H (ha_clr S k) k 0 (fun _ => 0) ∧ pu_fh k S (ha_clr S k) := by
  obtain ⟨a, b, f, u, ⟨⟨p1, p2⟩, r⟩, hab, h1, h2⟩ := h
  refine ⟨⟨0, 0, f, u, ⟨⟨⟨?_, fun j hj => absurd hj (by omega), fun j _ hj => absurd hj (by omega)⟩, ⟨?_, fun j hj => absurd hj (by omega), fun j _ hj => absurd hj (by omega)⟩⟩, ⟨rfl, rfl⟩, fun _ => rfl, fun _ hy => absurd hy (by simp [pu_cb])⟩, rfl, Nat.le_refl 0, by omega⟩, pu_fh_l.tr pu_fh_g⟩
  · show ((qm_row (qm_row S (20 + 2 * k) _) (20 + (2 * k + 1)) _).1 (20 + 2 * k)).1 = _
    rw [qm_row_ne _ _ (show 20 + 2 * k ≠ 20 + (2 * k + 1) by omega), qm_row_at, pu_0, rw_cut_in p1.1 (by omega) (by omega)]
  · show ((qm_row (qm_row S (20 + 2 * k) _) (20 + (2 * k + 1)) _).1 (20 + (2 * k + 1))).1 = _
    rw [qm_row_at, pu_0, rw_cut_in p2.1 (by omega) (by omega)]
/-- the top of the lesser half is the middle: what is not below it counts up to (n + 1) / 2 -/
theorem ha_top {S : qm_S} {k n : Nat} {rk : Int32 → Nat} (h : pu_H S k n rk) (hn : n ≤ 600) (h0 : 0 < n) : ∃ v, rw_at (S.1 (20 + 2 * k)) 0 = v ∧ ∀ y, -v ≤ y ↔ (n + 1) / 2 ≤ rk y := by
  obtain ⟨a, b, f, u, hj, hab, h1, h2⟩ := h
  refine ⟨f 0, ?_, fun y => ?_⟩
  · rw [pu_0, rw_at_in hj.1.1.1 (by omega) (by omega), hj.1.1.2.1 0 (by omega)]
  · rw [hj.top (by omega), ← hj.2.2.1 y]
    have hl := pu_cb_le (pu_nl y) f a
    have ho := hj.2.2.2 y
    constructor
    · intro e
      omega
    · intro e
      by_cases c : 0 < pu_cb (pu_lq y) u b
      · exact ho c
      · omega
