/-! ===== a quotient of two counts lies above 0, and not above 1 ===== -/
def pf_d (m : Nat) : FP.Core.Datum → Bool
  | .fin false c q => decide (4503599627370496 ≤ c ∧ c < 9007199254740992 ∧ c.log2 = 52 ∧ q ≤ 0 ∧ -52 ≤ q ∧ c = m * 2 ^ (-q).toNat)
  | _ => false
theorem pf_all : (List.range 600).all (fun i => pf_d (i + 1) (FP.Core.decode FP.Core.b64 (FP.i2d (nI (i + 1))).toNat)) = true := by decide +kernel
theorem pf_in {m : Nat} (h0 : 0 < m) (hm : m ≤ 600) : ∃ c k : Nat, FP.Core.decode FP.Core.b64 (FP.i2d (nI m)).toNat = .fin false c (-(k : Int)) ∧ 4503599627370496 ≤ c ∧ c < 9007199254740992 ∧ c.log2 = 52 ∧ k ≤ 52 ∧ c = m * 2 ^ k := by
  have h := List.all_eq_true.mp pf_all (m - 1) (List.mem_range.mpr (by omega))
  rw [show m - 1 + 1 = m by omega] at h
  generalize FP.Core.decode FP.Core.b64 (FP.i2d (nI m)).toNat = d at h
  match d, h with
  | .fin false c q, h =>
    have h : decide (4503599627370496 ≤ c ∧ c < 9007199254740992 ∧ c.log2 = 52 ∧ q ≤ 0 ∧ -52 ≤ q ∧ c = m * 2 ^ (-q).toNat) = true := h
    obtain ⟨a1, a2, a3, a4, a5, a6⟩ := of_decide_eq_true h
    refine ⟨c, (-q).toNat, ?_, a1, a2, a3, by omega, a6⟩
    rw [show -(((-q).toNat : Nat) : Int) = q by omega]
theorem pf_near (a b : Nat) : a / b ≤ FP.Core.nearest a b ∧ FP.Core.nearest a b ≤ a / b + 1 := by
  unfold FP.Core.nearest
  generalize a / b = x
  generalize a % b = y
  split
  · omega
  · split <;> omega
theorem pf_same {c : Nat} (h : 0 < c) : FP.Core.nearest (c * 4503599627370496) c = 4503599627370496 := by
  unfold FP.Core.nearest
  rw [Nat.mul_mod_right, Nat.mul_div_cancel_left _ h, if_pos (by omega)]
theorem pf_lead {c d : Nat} (hc : c.log2 = 52) (hd : d.log2 = 52) : FP.Core.leading c d = if d ≤ c then 0 else -1 := by
  unfold FP.Core.leading
  rw [hc, hd]
  show (if d * 2 ^ ((52 : Int) - 52).toNat ≤ c * 2 ^ (-((52 : Int) - 52)).toNat then (52 : Int) - 52 else (52 : Int) - 52 - 1) = _
  rw [show ((52 : Int) - 52).toNat = 0 from rfl, show (-((52 : Int) - 52)).toNat = 0 from rfl, show (2 : Nat) ^ 0 = 1 from rfl, Nat.mul_one, Nat.mul_one, show (52 : Int) - 52 = 0 from rfl]
  rfl
theorem pf_quant {c d : Nat} {e : Int} (hc : c.log2 = 52) (hd : d.log2 = 52) (he : -60 ≤ e) : FP.Core.quantum FP.Core.b64 c d e = (if d ≤ c then 0 else -1) + e - 52 := by
  unfold FP.Core.quantum
  rw [pf_lead hc hd, show FP.Core.b64.qmin = -1074 from rfl, show ((FP.Core.b64.p : Nat) : Int) - 1 = 52 from rfl]
  exact Int.max_eq_right (by split <;> omega)
/-- what is settled from C at q -/
theorem pf_settle {C : Nat} {q : Int} (h1 : 4503599627370496 ≤ C) (h2 : C ≤ 9007199254740992) (q1 : -300 ≤ q) (q2 : q ≤ -52) (q3 : q = -52 → C = 4503599627370496) :
    ∃ (D : Nat) (r : Int), FP.Core.settle FP.Core.b64 false C q = .fin false D r ∧ 4503599627370496 ≤ D ∧ D < 9007199254740992 ∧ -300 ≤ r ∧ r ≤ -52 ∧ (r = -52 → D = 4503599627370496) := by
  unfold FP.Core.settle
  rw [show (2 : Nat) ^ FP.Core.b64.p = 9007199254740992 from rfl, show FP.Core.b64.tails = 4503599627370496 from rfl]
  unfold FP.Core.bound
  rw [show FP.Core.b64.qmax = 971 from rfl]
  by_cases c : C < 9007199254740992
  · rw [if_pos c, if_pos (by omega)]
    exact ⟨C, q, rfl, h1, c, q1, q2, q3⟩
  · rw [if_neg c, if_pos (by omega)]
    refine ⟨4503599627370496, q + 1, rfl, by omega, by omega, by omega, ?_, fun _ => rfl⟩
    by_cases z : q = -52
    · have := q3 z; omega
    · omega
theorem pf_round {c d k1 k2 m n : Nat} (hmn : m ≤ n) (c1 : 4503599627370496 ≤ c) (c2 : c < 9007199254740992) (c3 : c.log2 = 52) (d1 : 4503599627370496 ≤ d) (d2 : d < 9007199254740992) (d3 : d.log2 = 52) (hk1 : k1 ≤ 52) (hk2 : k2 ≤ 52) (ec : c = m * 2 ^ k1) (ed : d = n * 2 ^ k2) :
    ∃ (D : Nat) (r : Int), FP.Core.roundRatio FP.Core.b64 false c d (-(k1 : Int) - -(k2 : Int)) = .fin false D r ∧ 4503599627370496 ≤ D ∧ D < 9007199254740992 ∧ -300 ≤ r ∧ r ≤ -52 ∧ (r = -52 → D = 4503599627370496) := by
  have hle : c * 2 ^ k2 ≤ d * 2 ^ k1 := by
    rw [ec, ed, Nat.mul_assoc, Nat.mul_assoc, Nat.mul_comm (2 ^ k2)]
    exact Nat.mul_le_mul_right _ hmn
  have hk : k2 ≤ k1 := by
    rcases Nat.lt_or_ge k1 k2 with q | q
    · obtain ⟨t, rfl⟩ : ∃ t, k2 = k1 + 1 + t := ⟨k2 - k1 - 1, by omega⟩
      exfalso
      have p1 : 2 ^ (k1 + 1 + t) = 2 ^ k1 * 2 * 2 ^ t := by rw [Nat.pow_add, Nat.pow_succ]
      have p2 : 0 < 2 ^ t := Nat.two_pow_pos t
      have p3 : 0 < 2 ^ k1 := Nat.two_pow_pos k1
      have a1 : c * (2 ^ k1 * 2) ≤ c * 2 ^ (k1 + 1 + t) := by
        rw [p1]
        exact Nat.mul_le_mul_left _ (Nat.le_mul_of_pos_right _ p2)
      have a2 : c * 2 * 2 ^ k1 ≤ d * 2 ^ k1 := by
        have : c * (2 ^ k1 * 2) = c * 2 * 2 ^ k1 := by rw [Nat.mul_comm (2 ^ k1), Nat.mul_assoc]
        omega
      have a3 := Nat.le_of_mul_le_mul_right a2 p3
      omega
    · exact q
  unfold FP.Core.roundRatio
  rw [if_neg (by omega)]
  unfold FP.Core.roundAt
  rw [pf_quant c3 d3 (by omega)]
  unfold FP.Core.unitsNum FP.Core.unitsDen
  by_cases h : d ≤ c
  · rw [if_pos h, show (-(k1 : Int) - -(k2 : Int) - (0 + (-(k1 : Int) - -(k2 : Int)) - 52)).toNat = 52 by omega, show (0 + (-(k1 : Int) - -(k2 : Int)) - 52 - (-(k1 : Int) - -(k2 : Int))).toNat = 0 by omega, show (2 : Nat) ^ 52 = 4503599627370496 from rfl, show (2 : Nat) ^ 0 = 1 from rfl, Nat.mul_one]
    obtain ⟨n1, n2⟩ := pf_near (c * 4503599627370496) d
    have b1 : 4503599627370496 ≤ c * 4503599627370496 / d := (Nat.le_div_iff_mul_le (by omega)).mpr (by omega)
    have b2 : c * 4503599627370496 / d < 9007199254740992 := (Nat.div_lt_iff_lt_mul (by omega)).mpr (by omega)
    refine pf_settle (by omega) (by omega) (by omega) (by omega) (fun q => ?_)
    have ek : k1 = k2 := by omega
    rw [ek] at hle
    have := Nat.le_of_mul_le_mul_right hle (Nat.two_pow_pos k2)
    have e : c = d := by omega
    rw [e]
    exact pf_same (by omega)
  · rw [if_neg h, show (-(k1 : Int) - -(k2 : Int) - (-1 + (-(k1 : Int) - -(k2 : Int)) - 52)).toNat = 53 by omega, show (-1 + (-(k1 : Int) - -(k2 : Int)) - 52 - (-(k1 : Int) - -(k2 : Int))).toNat = 0 by omega, show (2 : Nat) ^ 53 = 9007199254740992 from rfl, show (2 : Nat) ^ 0 = 1 from rfl, Nat.mul_one]
    obtain ⟨n1, n2⟩ := pf_near (c * 9007199254740992) d
    have b1 : 4503599627370496 ≤ c * 9007199254740992 / d := (Nat.le_div_iff_mul_le (by omega)).mpr (by omega)
    have b2 : c * 9007199254740992 / d < 9007199254740992 := (Nat.div_lt_iff_lt_mul (by omega)).mpr (by omega)
    exact pf_settle (by omega) (by omega) (by omega) (by omega) (fun q => by omega)
theorem pf_code {C : Nat} {q : Int} (h1 : 4503599627370496 ≤ C) (h2 : C < 9007199254740992) (q1 : -300 ≤ q) (q2 : q ≤ 0) : FP.Core.encode FP.Core.b64 (.fin false C q) < 2 ^ 64 ∧ FP.Core.decode FP.Core.b64 (FP.Core.encode FP.Core.b64 (.fin false C q)) = .fin false C q := by
  have e : FP.Core.encode FP.Core.b64 (.fin false C q) = ((q - (-1074)).toNat + 1) * 4503599627370496 + (C - 4503599627370496) := by
    show (if C < 4503599627370496 then FP.Core.assemble FP.Core.b64 false 0 C else FP.Core.assemble FP.Core.b64 false ((q - (-1074)).toNat + 1) (C - 4503599627370496)) = _
    rw [if_neg (by omega), pd_asm, show false.toNat = 0 from rfl]
    omega
  rw [e]
  obtain ⟨E, hE⟩ : ∃ E, E = (q - (-1074)).toNat + 1 := ⟨_, rfl⟩
  obtain ⟨T, hT⟩ : ∃ T, T = C - 4503599627370496 := ⟨_, rfl⟩
  rw [← hE, ← hT]
  refine ⟨by omega, ?_⟩
  have fE : FP.Core.fieldE FP.Core.b64 (E * 4503599627370496 + T) = E := by
    show (E * 4503599627370496 + T) / 4503599627370496 % 2048 = E
    omega
  have fT : FP.Core.fieldT FP.Core.b64 (E * 4503599627370496 + T) = T := by
    show (E * 4503599627370496 + T) % 4503599627370496 = T
    omega
  have fS : FP.Core.fieldS FP.Core.b64 (E * 4503599627370496 + T) = false := by
    show ((E * 4503599627370496 + T) / 4503599627370496 / 2048 % 2 == 1) = false
    rw [show (E * 4503599627370496 + T) / 4503599627370496 / 2048 % 2 = 0 by omega]
    rfl
  unfold FP.Core.decode
  rw [fE, fT, fS, if_neg (show ¬ E = FP.Core.b64.exps - 1 from fun z => by rw [show FP.Core.b64.exps - 1 = 2047 from rfl] at z; omega), if_neg (by omega), show FP.Core.b64.tails = 4503599627370496 from rfl, show FP.Core.b64.qmin = -1074 from rfl]
  congr 1
  · omega
  · omega
theorem pf_quot {m n : Nat} (h0 : 0 < m) (hmn : m ≤ n) (hn : n ≤ 600) : ∃ (D : Nat) (r : Int), FP.Core.decode FP.Core.b64 (FP.ddiv (FP.i2d (nI m)) (FP.i2d (nI n))).toNat = .fin false D r ∧ 4503599627370496 ≤ D ∧ D < 9007199254740992 ∧ -300 ≤ r ∧ r ≤ -52 ∧ (r = -52 → D = 4503599627370496) := by
  obtain ⟨c, k1, e1, c1, c2, c3, c4, c5⟩ := pf_in h0 (show m ≤ 600 by omega)
  obtain ⟨d, k2, e2, d1, d2, d3, d4, d5⟩ := pf_in (show 0 < n by omega) hn
  obtain ⟨D, r, f1, f2, f3, f4, f5, f6⟩ := pf_round hmn c1 c2 c3 d1 d2 d3 c4 d4 c5 d5
  refine ⟨D, r, ?_, f2, f3, f4, f5, f6⟩
  obtain ⟨g1, g2⟩ := pf_code f2 f3 f4 (show r ≤ 0 by omega)
  have hq : FP.Core.quotient FP.Core.b64 (.fin false c (-(k1 : Int))) (.fin false d (-(k2 : Int))) = .fin false D r := by
    rw [← f1]
    exact if_neg (by omega)
  show FP.Core.decode FP.Core.b64 (UInt64.ofNat (FP.Core.encode FP.Core.b64 (FP.Core.quotient FP.Core.b64 (FP.Core.decode FP.Core.b64 (FP.i2d (nI m)).toNat) (FP.Core.decode FP.Core.b64 (FP.i2d (nI n)).toNat)))).toNat = _
  rw [e1, e2, hq, UInt64.toNat_ofNat_of_lt' g1]
  exact g2
theorem pf_gt {m n : Nat} (h0 : 0 < m) (hmn : m ≤ n) (hn : n ≤ 600) : FP.dcmp (FP.ddiv (FP.i2d (nI m)) (FP.i2d (nI n))) FP.dconst0 = some .gt := by
  obtain ⟨D, r, e, f2, f3, f4, f5, f6⟩ := pf_quot h0 hmn hn
  show FP.Core.order (FP.Core.decode FP.Core.b64 (FP.ddiv (FP.i2d (nI m)) (FP.i2d (nI n))).toNat) (FP.Core.decode FP.Core.b64 FP.dconst0.toNat) = some .gt
  rw [e, show FP.Core.decode FP.Core.b64 FP.dconst0.toNat = .fin false 0 (-1074) by decide +kernel]
  have p : 0 < D * 2 ^ (r - min r (-1074)).toNat := Nat.mul_pos (by omega) (Nat.two_pow_pos _)
  show some (if ((D * 2 ^ (r - min r (-1074)).toNat : Nat) : Int) < ((0 * 2 ^ (-1074 - min r (-1074)).toNat : Nat) : Int) then Ordering.lt else if ((D * 2 ^ (r - min r (-1074)).toNat : Nat) : Int) = ((0 * 2 ^ (-1074 - min r (-1074)).toNat : Nat) : Int) then Ordering.eq else Ordering.gt) = some .gt
  rw [Nat.zero_mul, if_neg (by omega), if_neg (by omega)]
theorem pf_le {m n : Nat} (h0 : 0 < m) (hmn : m ≤ n) (hn : n ≤ 600) : FP.dcmp (FP.ddiv (FP.i2d (nI m)) (FP.i2d (nI n))) FP.dconst1 = some .lt ∨ FP.dcmp (FP.ddiv (FP.i2d (nI m)) (FP.i2d (nI n))) FP.dconst1 = some .eq := by
  obtain ⟨D, r, e, f2, f3, f4, f5, f6⟩ := pf_quot h0 hmn hn
  have p : D * 2 ^ (r - min r (-52)).toNat ≤ 4503599627370496 * 2 ^ (-52 - min r (-52)).toNat := by
    rw [Int.min_eq_left f5, show (r - r).toNat = 0 by omega, show (2 : Nat) ^ 0 = 1 from rfl, Nat.mul_one]
    by_cases z : r = -52
    · rw [f6 z]
      exact Nat.le_mul_of_pos_right _ (Nat.two_pow_pos _)
    · obtain ⟨t, ht⟩ : ∃ t, (-52 - r).toNat = t + 1 := ⟨(-52 - r).toNat - 1, by omega⟩
      rw [ht, Nat.pow_succ]
      have := Nat.two_pow_pos t
      omega
  have k : FP.dcmp (FP.ddiv (FP.i2d (nI m)) (FP.i2d (nI n))) FP.dconst1 = some (if ((D * 2 ^ (r - min r (-52)).toNat : Nat) : Int) < ((4503599627370496 * 2 ^ (-52 - min r (-52)).toNat : Nat) : Int) then Ordering.lt else if ((D * 2 ^ (r - min r (-52)).toNat : Nat) : Int) = ((4503599627370496 * 2 ^ (-52 - min r (-52)).toNat : Nat) : Int) then Ordering.eq else Ordering.gt) := by
    show FP.Core.order (FP.Core.decode FP.Core.b64 (FP.ddiv (FP.i2d (nI m)) (FP.i2d (nI n))).toNat) (FP.Core.decode FP.Core.b64 FP.dconst1.toNat) = _
    rw [e, show FP.Core.decode FP.Core.b64 FP.dconst1.toNat = .fin false 4503599627370496 (-52) by decide +kernel]
    rfl
  rw [k]
  by_cases z : D * 2 ^ (r - min r (-52)).toNat < 4503599627370496 * 2 ^ (-52 - min r (-52)).toNat
  · left
    rw [if_pos (by omega)]
  · right
    rw [if_neg (by omega), if_pos (by omega)]
theorem pf_00 : Op.cmpValue (FP.dcmp FP.dconst0 FP.dconst0) .l = 0 := by decide +kernel
