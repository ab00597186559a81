/-! ===== the reference: what writes ===== -/
theorem mm_up_up {M : mm_M} {j : Nat} {f f' : Nat → Int32} : mm_up (mm_up M j f) j f' = mm_up M j f' := by
  unfold mm_up
  congr 1
  funext q
  simp only [va_up]
  split <;> rfl
theorem mm_up_at {M : mm_M} {j : Nat} {f : Nat → Int32} : (mm_up M j f).1 j = f := by simp [mm_up, va_up]
theorem mm_up_ne {M : mm_M} {i j : Nat} {f : Nat → Int32} (h : i ≠ j) : (mm_up M j f).1 i = M.1 i := by simp [mm_up, va_up, h]
theorem mm_up_self {M : mm_M} {j : Nat} : mm_up M j (M.1 j) = M := by
  obtain ⟨a, b⟩ := M
  unfold mm_up
  congr 1
  funext q
  simp only [va_up]
  split
  · next e => rw [e]
  · rfl
/-- nothing of another counter has changed -/
def pm_fr (k : Nat) (M M' : mm_M) : Prop := M'.2 = M.2 ∧ (∀ i, i < 3 → ∀ j, j ≠ k → M'.1 i j = M.1 i j) ∧ ∀ i, 3 ≤ i → i < 7 → ∀ q, (q < 600 * k ∨ 600 * k + 600 ≤ q) → M'.1 i q = M.1 i q
theorem pm_fr.rf {k : Nat} {M : mm_M} : pm_fr k M M := ⟨rfl, fun _ _ _ _ => rfl, fun _ _ _ _ _ => rfl⟩
theorem pm_fr.tr {k : Nat} {M M' M'' : mm_M} (a : pm_fr k M M') (b : pm_fr k M' M'') : pm_fr k M M'' := ⟨b.1.trans a.1, fun i hi j hj => (b.2.1 i hi j hj).trans (a.2.1 i hi j hj), fun i h1 h2 q hq => (b.2.2 i h1 h2 q hq).trans (a.2.2 i h1 h2 q hq)⟩
theorem pm_fr.small {k i : Nat} {M : mm_M} {v : Int32} (hi : i < 3) : pm_fr k M (mm_up M i (upd (M.1 i) k v)) := by
  refine ⟨rfl, fun j _ q hq => ?_, fun j h1 _ q _ => ?_⟩
  · by_cases e : j = i
    · subst e
      rw [mm_up_at, pk_un hq]
    · rw [mm_up_ne e]
  · rw [mm_up_ne (by omega)]
theorem pm_fr.big {k i : Nat} {M : mm_M} {f : Nat → Int32} (hi : 3 ≤ i) (hf : ∀ q, (q < 600 * k ∨ 600 * k + 600 ≤ q) → f q = M.1 i q) : pm_fr k M (mm_up M i f) := by
  refine ⟨rfl, fun j h _ _ => ?_, fun j h1 _ q hq => ?_⟩
  · rw [mm_up_ne (by omega)]
  · by_cases e : j = i
    · subst e
      rw [mm_up_at, hf q hq]
    · rw [mm_up_ne e]
theorem pm_R.fr {M M' : mm_M} {k j n m : Nat} {V : Nat → Int32} {g : Nat → Nat} {p N : Nat → Int32} {th : Int32} (h : pm_R M j n m V g p N th) (hf : pm_fr k M M') (hjk : j ≠ k) (hn : n ≤ 600) (hm : m ≤ 600) : pm_R M' j n m V g p N th := by
  have hq : ∀ i, i < 600 → 600 * j + i < 600 * k ∨ 600 * k + 600 ≤ 600 * j + i := fun i hi => by omega
  refine ⟨⟨?_, ?_, ?_⟩, fun i hi => ?_, fun i hi => ?_, fun i hi => ?_, fun i hi => ?_⟩
  · rw [hf.2.1 0 (by omega) j hjk]; exact h.1.1
  · rw [hf.2.1 1 (by omega) j hjk]; exact h.1.2.1
  · rw [hf.2.1 2 (by omega) j hjk]; exact h.1.2.2
  · rw [hf.2.2 3 (by omega) (by omega) _ (hq i (by omega))]; exact h.2.1 i hi
  · rw [hf.2.2 4 (by omega) (by omega) _ (hq i (by omega))]; exact h.2.2.1 i hi
  · rw [hf.2.2 5 (by omega) (by omega) _ (hq i (by omega))]; exact h.2.2.2.1 i hi
  · rw [hf.2.2 6 (by omega) (by omega) _ (hq i (by omega))]; exact h.2.2.2.2 i hi
theorem pm_R.congr {M : mm_M} {k n m : Nat} {V V' : Nat → Int32} {g g' : Nat → Nat} {p p' N N' : Nat → Int32} {th : Int32} (h : pm_R M k n m V g p N th) (a : ∀ j, j < m → V j = V' j) (b : ∀ j, j < m → g j = g' j) (c : ∀ j, j < m → p j = p' j) (d : ∀ j, j < n → N j = N' j) : pm_R M k n m V' g' p' N' th :=
  ⟨h.1, fun j hj => (h.2.1 j hj).trans (d j hj), fun j hj => (h.2.2.1 j hj).trans (a j hj), fun j hj => (h.2.2.2.1 j hj).trans (by rw [pu_ns_congr (fun i hi => b i (by omega))]), fun j hj => (h.2.2.2.2 j hj).trans (by rw [pu_ns_congr (fun i hi => b i (by omega)), c j hj])⟩
section PmShow
variable {k n m : Nat} {V : Nat → Int32} {g : Nat → Nat} {p N : Nat → Int32} {th : Int32}
/-- the numbers' loop: from the back until what is ahead isn't greater -/
theorem pm_rem_L {M : mm_M} (hk : k < 4) (hn : n < 600) {x : Int32} : ∀ (a fuel : Nat) (f : Nat → Int32), a < fuel → a ≤ n → (∀ j, j < a → f (600 * k + j) = N j) → (∀ j, a < j → j ≤ n → f (600 * k + j) = N (j - 1)) → (∀ j, a ≤ j → j < n → x < N j) → (∀ q, (q < 600 * k ∨ 600 * k + 600 ≤ q) → f q = M.1 3 q) →
    ∃ (c : Nat) (f' : Nat → Int32), fX7_remembers_L13 (nI k) x fuel (nI (600 * k + a)) (mm_up M 3 f) = some (nI (600 * k + c), mm_up M 3 f') ∧ c ≤ n ∧ (c = 0 ∨ N (c - 1) ≤ x) ∧ (∀ j, c ≤ j → j < n → x < N j) ∧ (∀ j, j < c → f' (600 * k + j) = N j) ∧ (∀ j, c < j → j ≤ n → f' (600 * k + j) = N (j - 1)) ∧ ∀ q, (q < 600 * k ∨ 600 * k + 600 ≤ q) → f' q = M.1 3 q := by
  intro a
  induction a with
  | zero =>
    intro fuel f h1 h2 h3 h4 h5 h6
    obtain ⟨fu, rfl⟩ : ∃ q, fuel = q + 1 := ⟨fuel - 1, by omega⟩
    rw [fX7_remembers_L13, pu_6k, if_pos (nI_le (by omega) (by omega))]
    exact ⟨0, f, rfl, by omega, Or.inl rfl, h5, fun j hj => absurd hj (by omega), h4, h6⟩
  | succ a ih =>
    intro fuel f h1 h2 h3 h4 h5 h6
    obtain ⟨fu, rfl⟩ : ∃ q, fuel = q + 1 := ⟨fuel - 1, by omega⟩
    rw [fX7_remembers_L13, pu_6k, if_neg (nI_ge (by omega) (by omega)), pu_sub1, pu_m1is (by omega), show 600 * k + (a + 1) - 1 = 600 * k + a by omega, qm_gd_of (vp_in_nI (by omega) (by omega)), qm_gd_of (vp_in_nI (by omega) (by omega)), qm_gd_of (vp_in_nI (by omega) (by omega)), mm_up_at, mm_up_up, pu_cl (by omega), pu_cl (by omega), h3 a (by omega)]
    by_cases c : N a ≤ x
    · rw [if_pos c]
      exact ⟨a + 1, f, rfl, h2, Or.inr c, h5, h3, h4, h6⟩
    · rw [if_neg c]
      refine ih fu _ (by omega) (by omega) (fun j hj => ?_) (fun j h7 h8 => ?_) (fun j h7 h8 => ?_) (fun q hq => ?_)
      · rw [pk_un (by omega)]; exact h3 j (by omega)
      · by_cases e : j = a + 1
        · subst e
          rw [pk_us]; rfl
        · rw [pk_un (by omega)]; exact h4 j (by omega) h8
      · by_cases e : j = a
        · subst e; exact pu_not_le.mp c
        · exact h5 j (by omega) h8
      · rw [pk_un (by omega)]; exact h6 q hq
theorem pm_remembers {M : mm_M} (hk : k < 4) (h1 : M.1 1 k = nI n) (hN : ∀ j, j < n → M.1 3 (600 * k + j) = N j) (hn : n < 600) (hu : pu_up N n) (x : Int32) :
    ∃ f', fX7_remembers M (nI k) x = some (mm_up (mm_up M 3 f') 1 (upd (M.1 1) k (nI (n + 1)))) ∧ (∀ j, j < n + 1 → f' (600 * k + j) = pu_ins N (pu_cnt N x n) x j) ∧ ∀ q, (q < 600 * k ∨ 600 * k + 600 ≤ q) → f' q = M.1 3 q := by
  obtain ⟨c, f', e1, e2, e3, e4, e5, e6, e7⟩ := pm_rem_L (M := M) hk hn (x := x) n qm_F (M.1 3) (by rw [qm_F_big]; omega) (Nat.le_refl _) hN (fun j a b => by omega) (fun j a b => by omega) (fun _ _ => rfl)
  rw [mm_up_self] at e1
  have hc : pu_cnt N x n = c := pu_cnt_is e2 (fun j hj => by
    rcases e3 with q | q
    · omega
    · exact pu_le_trans (hu j (c - 1) (by omega) (by omega)) q) e4
  unfold fX7_remembers
  rw [qm_gd_of (pu_v4 hk), pu_cl (show k < 2 ^ 31 by omega), h1, pu_6k, nI_add, e1]
  simp only [Option.bind_some]
  rw [qm_gd_of (vp_in_nI (by omega) (by omega)), qm_gd_of (pu_v4 hk), qm_gd_of (pu_v4 hk), pu_cl (by omega), mm_up_at, mm_up_up, mm_up_ne (show 1 ≠ 3 by omega), h1, nI_1]
  refine ⟨upd f' (600 * k + c) x, rfl, fun j hj => ?_, fun q hq => ?_⟩
  · rw [hc]
    unfold pu_ins
    by_cases a : j < c
    · rw [if_pos a, pk_un (by omega), e5 j a]
    · rw [if_neg a]
      by_cases b : j = c
      · rw [if_pos b, b, pk_us]
      · rw [if_neg b, pk_un (by omega), e6 j (by omega) (by omega)]
  · rw [pk_un (by omega)]; exact e7 q hq
/-- three rows anew -/
def mm_u3 (M : mm_M) (a b c : Nat → Int32) : mm_M := mm_up (mm_up (mm_up M 4 a) 5 b) 6 c
theorem mm_u3_u3 {M : mm_M} {a b c a' b' c' : Nat → Int32} : mm_up (mm_up (mm_up (mm_u3 M a b c) 4 a') 5 b') 6 c' = mm_u3 M a' b' c' := by
  unfold mm_u3 mm_up
  congr 1
  funext q
  simp only [va_up]
  split
  · rfl
  · split
    · rfl
    · split <;> rfl
theorem mm_u3_4 {M : mm_M} {a b c : Nat → Int32} : (mm_u3 M a b c).1 4 = a := by unfold mm_u3; rw [mm_up_ne (by omega), mm_up_ne (by omega), mm_up_at]
theorem mm_u3_5 {M : mm_M} {a b c : Nat → Int32} : (mm_u3 M a b c).1 5 = b := by unfold mm_u3; rw [mm_up_ne (by omega), mm_up_at]
theorem mm_u3_6 {M : mm_M} {a b c : Nat → Int32} : (mm_u3 M a b c).1 6 = c := by unfold mm_u3; rw [mm_up_at]
theorem mm_u3_ne {M : mm_M} {a b c : Nat → Int32} {i : Nat} (h4 : i ≠ 4) (h5 : i ≠ 5) (h6 : i ≠ 6) : (mm_u3 M a b c).1 i = M.1 i := by unfold mm_u3; rw [mm_up_ne h6, mm_up_ne h5, mm_up_ne h4]
theorem mm_u3_self {M : mm_M} : mm_u3 M (M.1 4) (M.1 5) (M.1 6) = M := by unfold mm_u3; rw [mm_up_self, mm_up_self, mm_up_self]
theorem mm_u3_fr {M : mm_M} {a b c : Nat → Int32} (h4 : ∀ q, (q < 600 * k ∨ 600 * k + 600 ≤ q) → a q = M.1 4 q) (h5 : ∀ q, (q < 600 * k ∨ 600 * k + 600 ≤ q) → b q = M.1 5 q) (h6 : ∀ q, (q < 600 * k ∨ 600 * k + 600 ≤ q) → c q = M.1 6 q) : pm_fr k M (mm_u3 M a b c) := by
  unfold mm_u3
  exact ((pm_fr.big (by omega) h4).tr (pm_fr.big (by omega) (fun q hq => by rw [mm_up_ne (by omega)]; exact h5 q hq))).tr (pm_fr.big (by omega) (fun q hq => by rw [mm_up_ne (by omega), mm_up_ne (by omega)]; exact h6 q hq))
/-- the marks' loop -/
theorem pm_sh_L {M : mm_M} (hk : k < 4) (hm : m < 600) {x : Int32} : ∀ (a fuel : Nat) (fv fl fh : Nat → Int32), a < fuel → a ≤ m →
    (∀ j, j < a → fv (600 * k + j) = V j ∧ fl (600 * k + j) = nI (pu_ns g (j + 1)) ∧ fh (600 * k + j) = nI (pu_ns g (j + 1)) + p j) →
    (∀ j, a < j → j ≤ m → fv (600 * k + j) = V (j - 1) ∧ fl (600 * k + j) = nI (pu_ns g j) + 1 ∧ fh (600 * k + j) = nI (pu_ns g j) + p (j - 1) + 1) → (∀ j, a ≤ j → j < m → x < V j) →
    (∀ q, (q < 600 * k ∨ 600 * k + 600 ≤ q) → fv q = M.1 4 q ∧ fl q = M.1 5 q ∧ fh q = M.1 6 q) →
    ∃ (c : Nat) (fv' fl' fh' : Nat → Int32), fX7_shows_L22 (nI k) x (nI (600 * k)) fuel (nI (600 * k + a)) (mm_u3 M fv fl fh) = some (nI (600 * k + c), mm_u3 M fv' fl' fh') ∧ c ≤ m ∧ (c = 0 ∨ V (c - 1) ≤ x) ∧ (∀ j, c ≤ j → j < m → x < V j) ∧
      (∀ j, j < c → fv' (600 * k + j) = V j ∧ fl' (600 * k + j) = nI (pu_ns g (j + 1)) ∧ fh' (600 * k + j) = nI (pu_ns g (j + 1)) + p j) ∧
      (∀ j, c < j → j ≤ m → fv' (600 * k + j) = V (j - 1) ∧ fl' (600 * k + j) = nI (pu_ns g j) + 1 ∧ fh' (600 * k + j) = nI (pu_ns g j) + p (j - 1) + 1) ∧
      ∀ q, (q < 600 * k ∨ 600 * k + 600 ≤ q) → fv' q = M.1 4 q ∧ fl' q = M.1 5 q ∧ fh' q = M.1 6 q := by
  intro a
  induction a with
  | zero =>
    intro fuel fv fl fh h1 h2 h3 h4 h5 h6
    obtain ⟨fu, rfl⟩ : ∃ q, fuel = q + 1 := ⟨fuel - 1, by omega⟩
    rw [fX7_shows_L22, if_pos (nI_le (by omega) (by omega))]
    exact ⟨0, fv, fl, fh, rfl, by omega, Or.inl rfl, h5, fun j hj => absurd hj (by omega), h4, h6⟩
  | succ a ih =>
    intro fuel fv fl fh h1 h2 h3 h4 h5 h6
    obtain ⟨fu, rfl⟩ : ∃ q, fuel = q + 1 := ⟨fuel - 1, by omega⟩
    rw [fX7_shows_L22, if_neg (nI_ge (by omega) (by omega)), pu_sub1, pu_m1is (by omega), show 600 * k + (a + 1) - 1 = 600 * k + a by omega]
    rw [qm_gd_of (vp_in_nI (show 600 * k + a < 2400 by omega) (by omega)), qm_gd_of (vp_in_nI (show 600 * k + a < 2400 by omega) (by omega)), qm_gd_of (vp_in_nI (show 600 * k + (a + 1) < 2400 by omega) (by omega)), qm_gd_of (vp_in_nI (show 600 * k + a < 2400 by omega) (by omega)), qm_gd_of (vp_in_nI (show 600 * k + (a + 1) < 2400 by omega) (by omega)), qm_gd_of (vp_in_nI (show 600 * k + a < 2400 by omega) (by omega)), qm_gd_of (vp_in_nI (show 600 * k + (a + 1) < 2400 by omega) (by omega))]
    rw [pu_cl (show 600 * k + a < 2 ^ 31 by omega), pu_cl (show 600 * k + (a + 1) < 2 ^ 31 by omega), mm_up_ne (show 5 ≠ 4 by omega), mm_up_ne (show 6 ≠ 5 by omega), mm_up_ne (show 6 ≠ 4 by omega), mm_u3_4, mm_u3_5, mm_u3_6, mm_u3_u3]
    obtain ⟨a1, a2, a3⟩ := h3 a (by omega)
    rw [a1, a2, a3]
    by_cases c : V a ≤ x
    · rw [if_pos c]
      exact ⟨a + 1, fv, fl, fh, rfl, h2, Or.inr c, h5, h3, h4, h6⟩
    · rw [if_neg c]
      refine ih fu _ _ _ (by omega) (by omega) (fun j hj => ?_) (fun j h7 h8 => ?_) (fun j h7 h8 => ?_) (fun q hq => ?_)
      · rw [pk_un (by omega), pk_un (by omega), pk_un (by omega)]; exact h3 j (by omega)
      · by_cases e : j = a + 1
        · subst e
          rw [pk_us, pk_us, pk_us]
          exact ⟨rfl, rfl, rfl⟩
        · rw [pk_un (by omega), pk_un (by omega), pk_un (by omega)]; exact h4 j (by omega) h8
      · by_cases e : j = a
        · subst e; exact pu_not_le.mp c
        · exact h5 j (by omega) h8
      · rw [pk_un (by omega), pk_un (by omega), pk_un (by omega)]; exact h6 q hq
theorem i3_a (a : Int32) : a + 0 = a := Int32.add_zero a
theorem i3_b (a p : Int32) : a + p + 1 = a + 1 + p := by ac_rfl
theorem i3_c (a b p : Int32) : a + b + p + 1 - 1 = a + 1 + (b + p - 1) := by grind
theorem pm_shows {M : mm_M} (hk : k < 4) (h : pm_R M k n m V g p N th) (hI : pu_I n m V g N) (hn : n < 600) (x : Int32) :
    ∃ M', fX7_shows M (nI k) x = some M' ∧ pm_R M' k (n + 1) (m + 1) (pu_ins V (pu_cnt V x m) x) (pu_ins g (pu_cnt V x m) 1) (pu_ins p (pu_cnt V x m) (if pu_cnt V x m < m then nI (g (pu_cnt V x m)) + p (pu_cnt V x m) - 1 else 0)) (pu_ins N (pu_cnt N x n) x) th ∧ pm_fr k M M' := by
  have hmn := hI.2.1
  obtain ⟨f3, r1, r2, r3⟩ := pm_remembers hk h.1.2.1 h.2.1 hn hI.2.2.2.2.2.1 x
  unfold fX7_shows
  rw [r1]
  simp only [Option.bind_some]
  rw [qm_gd_of (pu_v4 hk), pu_cl (show k < 2 ^ 31 by omega), mm_up_ne (show 2 ≠ 1 by omega), mm_up_ne (show 2 ≠ 3 by omega), h.1.2.2, pu_6k, nI_add]
  have f1 : pm_fr k M (mm_up (mm_up M 3 f3) 1 (upd (M.1 1) k (nI (n + 1)))) := by
    have a : pm_fr k M (mm_up M 3 f3) := pm_fr.big (by omega) r3
    have b : pm_fr k (mm_up M 3 f3) (mm_up (mm_up M 3 f3) 1 (upd ((mm_up M 3 f3).1 1) k (nI (n + 1)))) := pm_fr.small (by omega)
    rw [mm_up_ne (show 1 ≠ 3 by omega)] at b
    exact a.tr b
  have g3 : (mm_up (mm_up M 3 f3) 1 (upd (M.1 1) k (nI (n + 1)))).1 3 = f3 := by rw [mm_up_ne (by omega), mm_up_at]
  have g1 : (mm_up (mm_up M 3 f3) 1 (upd (M.1 1) k (nI (n + 1)))).1 1 k = nI (n + 1) := by rw [mm_up_at, pk_us]
  have g0 : (mm_up (mm_up M 3 f3) 1 (upd (M.1 1) k (nI (n + 1)))).1 0 = M.1 0 := by rw [mm_up_ne (by omega), mm_up_ne (by omega)]
  have g2 : (mm_up (mm_up M 3 f3) 1 (upd (M.1 1) k (nI (n + 1)))).1 2 = M.1 2 := by rw [mm_up_ne (by omega), mm_up_ne (by omega)]
  have g4 : (mm_up (mm_up M 3 f3) 1 (upd (M.1 1) k (nI (n + 1)))).1 4 = M.1 4 := by rw [mm_up_ne (by omega), mm_up_ne (by omega)]
  have g5 : (mm_up (mm_up M 3 f3) 1 (upd (M.1 1) k (nI (n + 1)))).1 5 = M.1 5 := by rw [mm_up_ne (by omega), mm_up_ne (by omega)]
  have g6 : (mm_up (mm_up M 3 f3) 1 (upd (M.1 1) k (nI (n + 1)))).1 6 = M.1 6 := by rw [mm_up_ne (by omega), mm_up_ne (by omega)]
  generalize (mm_up (mm_up M 3 f3) 1 (upd (M.1 1) k (nI (n + 1)))) = M1 at f1 g0 g1 g2 g3 g4 g5 g6 ⊢
  obtain ⟨c, fv, fl, fh, e1, e2, e3, e4, e5, e6, e7⟩ := pm_sh_L (V := V) (g := g) (p := p) (M := M1) hk (m := m) (by omega) (x := x) m qm_F (M1.1 4) (M1.1 5) (M1.1 6) (by rw [qm_F_big]; omega) (Nat.le_refl _) (fun j hj => by rw [g4, g5, g6]; exact ⟨h.2.2.1 j hj, h.2.2.2.1 j hj, h.2.2.2.2 j hj⟩) (fun j a b => by omega) (fun j a b => by omega) (fun _ _ => ⟨rfl, rfl, rfl⟩)
  rw [mm_u3_self] at e1
  rw [e1]
  simp only [Option.bind_some]
  have hc : pu_cnt V x m = c := pu_cnt_is e2 (fun j hj => by
    rcases e3 with q | q
    · omega
    · exact pu_le_trans (hI.2.2.1 j (c - 1) (by omega) (by omega)) q) e4
  rw [hc, qm_gd_of (pu_v4 hk), mm_u3_ne (show 2 ≠ 4 by omega) (show 2 ≠ 5 by omega) (show 2 ≠ 6 by omega), g2, h.1.2.2]
  -- the new mark's three numbers, and the end
  have fin : ∀ w : Int32, w = nI (pu_ns g c) + 1 + (if c < m then nI (g c) + p c - 1 else 0) →
      pm_R (mm_up (mm_u3 M1 (upd fv (600 * k + c) x) (upd fl (600 * k + c) (nI (pu_ns g c) + 1)) (upd fh (600 * k + c) w)) 2 (upd (M.1 2) k (nI (m + 1)))) k (n + 1) (m + 1) (pu_ins V c x) (pu_ins g c 1) (pu_ins p c (if c < m then nI (g c) + p c - 1 else 0)) (pu_ins N (pu_cnt N x n) x) th ∧
      pm_fr k M (mm_up (mm_u3 M1 (upd fv (600 * k + c) x) (upd fl (600 * k + c) (nI (pu_ns g c) + 1)) (upd fh (600 * k + c) w)) 2 (upd (M.1 2) k (nI (m + 1)))) := by
    intro w hw
    have nsin : ∀ j, pu_ns (pu_ins g c 1) (j + 1) = if j < c then pu_ns g (j + 1) else pu_ns g j + 1 := fun j => by
      rw [pu_ns_ins]
      by_cases a : j < c
      · rw [if_pos (by omega), if_pos a]
      · rw [if_neg (by omega), if_neg a, show j + 1 - 1 = j by omega]
    refine ⟨⟨⟨?_, ?_, ?_⟩, fun j hj => ?_, fun j hj => ?_, fun j hj => ?_, fun j hj => ?_⟩, ?_⟩
    · rw [mm_up_ne (by omega), mm_u3_ne (by omega) (by omega) (by omega), g0]; exact h.1.1
    · rw [mm_up_ne (by omega), mm_u3_ne (by omega) (by omega) (by omega), g1]
    · rw [mm_up_at, pk_us]
    · rw [mm_up_ne (by omega), mm_u3_ne (by omega) (by omega) (by omega), g3]; exact r2 j hj
    · rw [mm_up_ne (by omega), mm_u3_4]
      unfold pu_ins
      by_cases a : j < c
      · rw [if_pos a, pk_un (by omega)]; exact (e5 j a).1
      · rw [if_neg a]
        by_cases b : j = c
        · rw [if_pos b, b, pk_us]
        · rw [if_neg b, pk_un (by omega)]; exact (e6 j (by omega) (by omega)).1
    · rw [mm_up_ne (by omega), mm_u3_5, nsin]
      by_cases a : j < c
      · rw [if_pos a, pk_un (by omega)]; exact (e5 j a).2.1
      · rw [if_neg a, ← nI_1]
        by_cases b : j = c
        · rw [b, pk_us]
        · rw [pk_un (by omega)]; exact (e6 j (by omega) (by omega)).2.1
    · rw [mm_up_ne (by omega), mm_u3_6, nsin]
      unfold pu_ins
      by_cases a : j < c
      · rw [if_pos a, if_pos a, pk_un (by omega)]; exact (e5 j a).2.2
      · rw [if_neg a, if_neg a, ← nI_1]
        by_cases b : j = c
        · rw [if_pos b, b, pk_us, hw]
        · rw [if_neg b, pk_un (by omega), (e6 j (by omega) (by omega)).2.2, i3_b]
    · have fa : pm_fr k M1 (mm_u3 M1 (upd fv (600 * k + c) x) (upd fl (600 * k + c) (nI (pu_ns g c) + 1)) (upd fh (600 * k + c) w)) := by
        refine mm_u3_fr (fun q hq => ?_) (fun q hq => ?_) (fun q hq => ?_)
        · rw [pk_un (by omega)]; exact (e7 q hq).1
        · rw [pk_un (by omega)]; exact (e7 q hq).2.1
        · rw [pk_un (by omega)]; exact (e7 q hq).2.2
      have fb := pm_fr.small (k := k) (i := 2) (M := mm_u3 M1 (upd fv (600 * k + c) x) (upd fl (600 * k + c) (nI (pu_ns g c) + 1)) (upd fh (600 * k + c) w)) (v := nI (m + 1)) (by omega)
      rw [mm_u3_ne (by omega) (by omega) (by omega), g2] at fb
      exact (f1.tr fa).tr fb
  have gi : ∀ {α : Type} (z : Option α), qm_gd (vp_in (nI (600 * k + c)) 2400) z = z := fun z => qm_gd_of (vp_in_nI (by omega) (by omega))
  have low : (if nI (600 * k + c) = nI (600 * k) then (0 : Int32) else fl (600 * k + (c - 1))) = nI (pu_ns g c) := by
    by_cases c0 : c = 0
    · subst c0; rw [if_pos (show nI (600 * k + 0) = nI (600 * k) from rfl)]; rfl
    · rw [if_neg (fun q => by rw [nI_eq (by omega) (by omega)] at q; omega), (e5 (c - 1) (by omega)).2.1, show c - 1 + 1 = c by omega]
  by_cases cm : c = m
  · -- behind all marks
    rw [if_pos (by rw [cm, nI_add])]
    have w0 : nI (pu_ns g c) + 1 = nI (pu_ns g c) + 1 + (if c < m then nI (g c) + p c - 1 else 0) := by rw [if_neg (by omega), i3_a]
    have F := fin _ w0
    by_cases c0 : c = 0
    · rw [gi, if_pos (by subst c0; rfl), gi, gi, gi, qm_gd_of (pu_v4 hk), qm_gd_of (pu_v4 hk)]
      have lw : nI (pu_ns g c) = 0 := by subst c0; rfl
      simp only [mm_u3_4, mm_u3_5, mm_u3_6, mm_up_at, mm_up_ne (show 5 ≠ 4 by omega), mm_up_ne (show 6 ≠ 5 by omega), mm_up_ne (show 6 ≠ 4 by omega), mm_up_ne (show 2 ≠ 6 by omega), mm_up_ne (show 2 ≠ 5 by omega), mm_up_ne (show 2 ≠ 4 by omega), mm_u3_ne (show 2 ≠ 4 by omega) (show 2 ≠ 5 by omega) (show 2 ≠ 6 by omega), mm_u3_u3, g2, h.1.2.2, nI_1, pu_cl (show 600 * k + c < 2 ^ 31 by omega), pk_us]
      rw [lw] at F
      exact ⟨_, rfl, F⟩
    · rw [gi, if_neg (fun q => by rw [nI_eq (by omega) (by omega)] at q; omega), pu_m1is (show 0 < 600 * k + c by omega), show 600 * k + c - 1 = 600 * k + (c - 1) by omega, qm_gd_of (vp_in_nI (by omega) (by omega)), gi, gi, gi, qm_gd_of (pu_v4 hk), qm_gd_of (pu_v4 hk)]
      have lw : fl (600 * k + (c - 1)) = nI (pu_ns g c) := by rw [(e5 (c - 1) (by omega)).2.1, show c - 1 + 1 = c by omega]
      simp only [mm_u3_4, mm_u3_5, mm_u3_6, mm_up_at, mm_up_ne (show 5 ≠ 4 by omega), mm_up_ne (show 6 ≠ 5 by omega), mm_up_ne (show 6 ≠ 4 by omega), mm_up_ne (show 2 ≠ 6 by omega), mm_up_ne (show 2 ≠ 5 by omega), mm_up_ne (show 2 ≠ 4 by omega), mm_u3_ne (show 2 ≠ 4 by omega) (show 2 ≠ 5 by omega) (show 2 ≠ 6 by omega), mm_u3_u3, g2, h.1.2.2, nI_1, pu_cl (show 600 * k + c < 2 ^ 31 by omega), pu_cl (show 600 * k + (c - 1) < 2 ^ 31 by omega), pk_us, lw]
      rw [nI_1] at F
      exact ⟨_, rfl, F⟩
  · rw [if_neg (fun q => by rw [nI_add, nI_eq (by omega) (by omega)] at q; omega)]
    have nx : fh (600 * k + (c + 1)) = nI (pu_ns g c) + nI (g c) + p c + 1 := by
      rw [(e6 (c + 1) (by omega) (by omega)).2.2, show c + 1 - 1 = c by omega, nI_add]
      rfl
    have w1 : nI (pu_ns g c) + nI (g c) + p c + 1 - 1 = nI (pu_ns g c) + 1 + (if c < m then nI (g c) + p c - 1 else 0) := by rw [if_pos (by omega), i3_c]
    have F := fin _ w1
    by_cases c0 : c = 0
    · rw [gi, if_pos (by subst c0; rfl), gi, nI_1, show 600 * k + c + 1 = 600 * k + (c + 1) by omega, qm_gd_of (vp_in_nI (by omega) (by omega)), gi, qm_gd_of (pu_v4 hk), qm_gd_of (pu_v4 hk)]
      have lw : nI (pu_ns g c) = 0 := by subst c0; rfl
      simp only [mm_u3_4, mm_u3_5, mm_u3_6, mm_up_at, mm_up_ne (show 5 ≠ 4 by omega), mm_up_ne (show 6 ≠ 5 by omega), mm_up_ne (show 6 ≠ 4 by omega), mm_up_ne (show 2 ≠ 6 by omega), mm_up_ne (show 2 ≠ 5 by omega), mm_up_ne (show 2 ≠ 4 by omega), mm_u3_ne (show 2 ≠ 4 by omega) (show 2 ≠ 5 by omega) (show 2 ≠ 6 by omega), mm_u3_u3, g2, h.1.2.2, nI_1, pu_cl (show 600 * k + c < 2 ^ 31 by omega), pu_cl (show 600 * k + (c + 1) < 2 ^ 31 by omega), pk_us, nx]
      rw [lw] at F ⊢
      exact ⟨_, rfl, F⟩
    · rw [gi, if_neg (fun q => by rw [nI_eq (by omega) (by omega)] at q; omega), pu_m1is (show 0 < 600 * k + c by omega), show 600 * k + c - 1 = 600 * k + (c - 1) by omega, qm_gd_of (vp_in_nI (by omega) (by omega)), gi, nI_1, show 600 * k + c + 1 = 600 * k + (c + 1) by omega, qm_gd_of (vp_in_nI (by omega) (by omega)), gi, qm_gd_of (pu_v4 hk), qm_gd_of (pu_v4 hk)]
      have lw : fl (600 * k + (c - 1)) = nI (pu_ns g c) := by rw [(e5 (c - 1) (by omega)).2.1, show c - 1 + 1 = c by omega]
      simp only [mm_u3_4, mm_u3_5, mm_u3_6, mm_up_at, mm_up_ne (show 5 ≠ 4 by omega), mm_up_ne (show 6 ≠ 5 by omega), mm_up_ne (show 6 ≠ 4 by omega), mm_up_ne (show 2 ≠ 6 by omega), mm_up_ne (show 2 ≠ 5 by omega), mm_up_ne (show 2 ≠ 4 by omega), mm_u3_ne (show 2 ≠ 4 by omega) (show 2 ≠ 5 by omega) (show 2 ≠ 6 by omega), mm_u3_u3, g2, h.1.2.2, nI_1, pu_cl (show 600 * k + c < 2 ^ 31 by omega), pu_cl (show 600 * k + (c - 1) < 2 ^ 31 by omega), pu_cl (show 600 * k + (c + 1) < 2 ^ 31 by omega), pk_us, lw, nx]
      rw [nI_1] at F
      exact ⟨_, rfl, F⟩
end PmShow
