/-! ===== a quotient of two counts is a number ===== -/
def pd_fin (nz : Bool) : FP.Core.Datum → Bool
  | .fin _ c _ => !nz || decide (c ≠ 0)
  | _ => false
theorem pd_all : (List.range 601).all (fun m => pd_fin (decide (m ≠ 0)) (FP.Core.decode FP.Core.b64 (FP.i2d (nI m)).toNat)) = true := by decide +kernel
theorem pd_in {m : Nat} (hm : m ≤ 600) : ∃ s c q, FP.Core.decode FP.Core.b64 (FP.i2d (nI m)).toNat = .fin s c q ∧ (m ≠ 0 → c ≠ 0) := by
  have h := List.all_eq_true.mp pd_all m (List.mem_range.mpr (by omega))
  generalize FP.Core.decode FP.Core.b64 (FP.i2d (nI m)).toNat = d at h
  match d, h with
  | .fin s c q, h =>
    refine ⟨s, c, q, rfl, fun hz => ?_⟩
    have h : (!decide (m ≠ 0) || decide (c ≠ 0)) = true := h
    rw [decide_eq_true hz] at h
    exact of_decide_eq_true h
/-- what a rounded number is -/
def pd_is (d : FP.Core.Datum) : Prop := (∃ s, d = .inf s) ∨ ∃ s c q, d = .fin s c q ∧ c < 2 ^ 53 ∧ q ≤ 971
theorem pd_bound {s : Bool} {c : Nat} {q : Int} (hc : c < 2 ^ 53) : pd_is (FP.Core.bound FP.Core.b64 s c q) := by
  unfold FP.Core.bound
  by_cases h : q ≤ FP.Core.b64.qmax
  · rw [if_pos h]
    exact Or.inr ⟨s, c, q, rfl, hc, h⟩
  · rw [if_neg h]
    exact Or.inl ⟨s, rfl⟩
theorem pd_settle {s : Bool} {c : Nat} {q : Int} : pd_is (FP.Core.settle FP.Core.b64 s c q) := by
  unfold FP.Core.settle
  by_cases h : c < 2 ^ FP.Core.b64.p
  · rw [if_pos h]
    exact pd_bound h
  · rw [if_neg h]
    exact pd_bound (show (2 : Nat) ^ 52 < 2 ^ 53 by decide)
theorem pd_round {s : Bool} {a b : Nat} {e : Int} : pd_is (FP.Core.roundRatio FP.Core.b64 s a b e) := by
  unfold FP.Core.roundRatio
  by_cases h : a = 0
  · rw [if_pos h]
    exact Or.inr ⟨s, 0, _, rfl, by decide, by decide⟩
  · rw [if_neg h]
    exact pd_settle
theorem pd_asm (s : Bool) (e t : Nat) : FP.Core.assemble FP.Core.b64 s e t = (s.toNat * 2048 + e) * 4503599627370496 + t := rfl
theorem pd_enc {d : FP.Core.Datum} (h : pd_is d) : FP.Core.encode FP.Core.b64 d < 2 ^ 64 ∧ FP.Core.encode FP.Core.b64 d % 9223372036854775808 ≤ 9218868437227405312 := by
  rcases h with ⟨s, rfl⟩ | ⟨s, c, q, rfl, hc, hq⟩
  · rw [show FP.Core.encode FP.Core.b64 (.inf s) = (s.toNat * 2048 + 2047) * 4503599627370496 + 0 from rfl]
    cases s <;> decide
  · show (if c < 4503599627370496 then FP.Core.assemble FP.Core.b64 s 0 c else FP.Core.assemble FP.Core.b64 s ((q - (-1074)).toNat + 1) (c - 4503599627370496)) < 2 ^ 64 ∧ (if c < 4503599627370496 then FP.Core.assemble FP.Core.b64 s 0 c else FP.Core.assemble FP.Core.b64 s ((q - (-1074)).toNat + 1) (c - 4503599627370496)) % 9223372036854775808 ≤ 9218868437227405312
    rw [pd_asm, pd_asm]
    have hs : s.toNat ≤ 1 := by cases s <;> decide
    have hs2 : s.toNat = 0 ∨ s.toNat = 1 := by omega
    by_cases h : c < 4503599627370496
    · rw [if_pos h]
      rcases hs2 with e | e <;> rw [e] <;> omega
    · rw [if_neg h]
      rcases hs2 with e | e <;> rw [e] <;> omega
theorem pd_n64 {n : Nat} (h : n < 2 ^ 64) (h2 : n % 9223372036854775808 ≤ 9218868437227405312) : vf_n64 (UInt64.ofNat n) := by
  unfold vf_n64
  rw [UInt64.le_iff_toNat_le, UInt64.toNat_and, UInt64.toNat_ofNat_of_lt' h]
  rw [show (0x7fffffffffffffff : UInt64).toNat = 2 ^ 63 - 1 by decide, show (0x7ff0000000000000 : UInt64).toNat = 9218868437227405312 by decide, Nat.and_two_pow_sub_one_eq_mod]
  exact h2
theorem pd_ok {m n : Nat} (hm : m ≤ 600) (hn : n ≤ 600) (h0 : 0 < n) : vf_n64 (FP.ddiv (FP.i2d (nI m)) (FP.i2d (nI n))) := by
  obtain ⟨s, c, q, e1, -⟩ := pd_in hm
  obtain ⟨t, d, r, e2, d0⟩ := pd_in hn
  have : FP.Core.quotient FP.Core.b64 (.fin s c q) (.fin t d r) = FP.Core.roundRatio FP.Core.b64 (s != t) c d (q - r) := if_neg (d0 (by omega))
  have h : pd_is (FP.Core.quotient FP.Core.b64 (FP.Core.decode FP.Core.b64 (FP.i2d (nI m)).toNat) (FP.Core.decode FP.Core.b64 (FP.i2d (nI n)).toNat)) := by
    rw [e1, e2, this]
    exact pd_round
  exact pd_n64 (pd_enc h).1 (pd_enc h).2
