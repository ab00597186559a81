theorem nI_toInt9 {n : Nat} (h : n < 2 ^ 31) : (nI n).toInt = n := by
  rw [show nI n = Int32.ofNat n from rfl, Int32.toInt_ofNat_of_lt h]
theorem la_ngt {i L : Nat} (h : 5 * i + 5 ≤ L) (hL : L ≤ 2560) : ¬ Int32.ofNat L - 5 < nI (5 * i) := by
  rw [show Int32.ofNat L = nI L from rfl, show (5 : Int32) = nI 5 from rfl, pk_sub (by omega)]
  exact nI_nlt (by omega) (by omega)
theorem la_gt {i L : Nat} (h : L < 5 * i + 5) (hL : L ≤ 2560) (hi : i ≤ 2560) : Int32.ofNat L - 5 < nI (5 * i) := by
  rw [show Int32.ofNat L = nI L from rfl]
  by_cases c : 5 ≤ L
  · rw [show (5 : Int32) = nI 5 from rfl, pk_sub c]
    exact nI_lt (by omega) (by omega)
  · have neg : nI L - 5 < 0 := by
      rcases (show L = 0 ∨ L = 1 ∨ L = 2 ∨ L = 3 ∨ L = 4 by omega) with rfl | rfl | rfl | rfl | rfl <;> decide
    exact pu_lt_le neg (show (0 : Int32) ≤ nI (5 * i) from nI_le (Nat.zero_le _) (by omega))
theorem la_inc (i : Nat) : nI (5 * i) + Int32.ofInt 5 = nI (5 * (i + 1)) := by
  rw [show Int32.ofInt 5 = nI 5 from rfl, nI_add, show 5 * (i + 1) = 5 * i + 5 by omega]
theorem la_31 (x : Int32) : ∃ j : Nat, j < 32 ∧ x &&& 31 = nI j := by
  have h : (x &&& 31).toBitVec.toNat < 32 := by
    show (x.toBitVec &&& (31 : Int32).toBitVec).toNat < 32
    rw [BitVec.toNat_and]
    have := @Nat.and_le_right x.toBitVec.toNat (31 : Int32).toBitVec.toNat
    rw [show (31 : Int32).toBitVec.toNat = 31 from rfl] at this ⊢
    omega
  refine ⟨(x &&& 31).toBitVec.toNat, h, ?_⟩
  apply Int32.toBitVec_inj.mp
  show (x &&& 31).toBitVec = BitVec.ofNat 32 (x &&& 31).toBitVec.toNat
  rw [BitVec.ofNat_toNat, BitVec.setWidth_eq]
theorem la_ti {j : Nat} (h : j < 32) : (nI j).toInt = j := by
  have := nI_toInt9 (n := j) (by omega)
  exact this
set_option maxHeartbeats 4000000 in
set_option maxRecDepth 100000 in
theorem lc_loop {p : Program} {l : Launch} {e : Env} {s : State} {m : MethodId} {below : List Frame} {meth : Method} {c : Code} {b L : Nat} {xs : Nat → Int32} {Q : State → Prop} {D : va_G} {A : Nat → Prop} {cI cQ cL cD : ClassId} {aL aD : Nat} {ad am : Nat → Nat} (hhalt : ∀ (H : Heap) (locs : List Loc) (ls : Array Slot) (cells slots : Nat), va_S A s.heap H locs → cells ≤ 601024 → slots ≤ 7293034 → W p l e room_1 s m #[Value.ref b] below meth c H locs cells slots Q (F0 m 1587 ls [])) (G : la_H l p s m c b L xs D A cI cQ cL cD) : ∀ (q i : Nat) (S : qm_S) (M : mm_M) (o : Nat → Int64) (d : Nat → UInt64) (H : Heap) (locs : List Loc) (ls : Array Slot) (cells slots : Nat), L < 5 * (i + q) + 5 → st_R S M → va_P D vwCl (la_v ad am cI cQ cL cD aL aD S o d M) H → va_D A (la_v ad am cI cQ cL cD aL aD S o d M) → va_S A s.heap H locs → lv_has ls 9 (la_l i b ad am aL aD) → cells + 5 * q ≤ 601000 → slots + 30 * q ≤ 7293000 → i ≤ 2560 → W p l e room_1 s m #[Value.ref b] below meth c H locs cells slots Q (F0 m 28 ls []) := by
  have G2 := G
  obtain ⟨⟨hx, hb, hml, hown⟩, hts, ⟨hX, hbl, hbA, hL⟩, ⟨hA, hK, hZ⟩, hst⟩ := G2
  intro q
  induction q with
  | zero =>
    intro i S M o d H locs ls cells slots h1 hR hP hD hS hl h2 h3 h4
    refine lv_iload hx hb dL_law_28 (lv_at hl 0 rfl) ?_
    refine lv_aload_n hx hb dL_law_30 rfl (lv_at hl 5 rfl) ?_
    refine va_slen hx hb hX hbl hbA hS dL_law_31 ?_
    refine lv_iconst (v := (5 : Int32)) hx hb dL_law_32 (by decide) ?_
    refine lv_isub hx hb dL_law_33 ?_
    exact lv_icmp_gt (tgt := 1587) hx hb dL_law_34 (by decide) (fun _ => hhalt H locs ls cells slots hS (by omega) (by omega)) (fun q9 => absurd (la_gt (L := L) (i := i) (by omega) hL (by omega)) q9)
  | succ q ih =>
    intro i S M o d H locs ls cells slots h1 hR hP hD hS hl h2 h3 h4
    refine lv_iload hx hb dL_law_28 (lv_at hl 0 rfl) ?_
    refine lv_aload_n hx hb dL_law_30 rfl (lv_at hl 5 rfl) ?_
    refine va_slen hx hb hX hbl hbA hS dL_law_31 ?_
    refine lv_iconst (v := (5 : Int32)) hx hb dL_law_32 (by decide) ?_
    refine lv_isub hx hb dL_law_33 ?_
    by_cases hi : 5 * i + 5 ≤ L
    · refine lv_icmp_gt (tgt := 1587) hx hb dL_law_34 (by decide) (fun q9 => absurd q9 (la_ngt hi hL)) (fun _ => ?_)
      refine lv_aload_n hx hb dL_law_37 rfl (lv_at hl 5 rfl) ?_
      refine lv_iload hx hb dL_law_38 (lv_at hl 0 rfl) ?_
      refine va_sld hx hb hX hbl hbA hS (vp_in_nI (show 5 * i < L by omega) (by omega)) dL_law_40 ?_
      refine lv_bipush (v := (31 : Int32)) hx hb dL_law_41 (by decide) ?_
      refine lv_iand hx hb dL_law_43 ?_
      obtain ⟨j, hj, ej⟩ := la_31 (xs (nI (5 * i)).toNatClampNeg)
      rw [ej]
      have next : ∀ (S' : qm_S) (M' : mm_M) (o' : Nat → Int64) (d' : Nat → UInt64) (H : Heap) (locs : List Loc) (ls : Array Slot) (k n : Nat), k ≤ 5 → n ≤ 30 → st_R S' M' → va_P D vwCl (la_v ad am cI cQ cL cD aL aD S' o' d' M') H → va_D A (la_v ad am cI cQ cL cD aL aD S' o' d' M') → va_S A s.heap H locs → lv_has ls 9 (la_l i b ad am aL aD) → W p l e room_1 s m #[Value.ref b] below meth c H locs (cells + k) (slots + n) Q (F0 m 1581 ls []) := by
        intro S' M' o' d' H locs ls k n hk hn hR hP hD hS hl
        refine lv_iinc (v := nI (5 * (i + 1))) (lv' := la_l (i + 1) b ad am aL aD) hx hb dL_law_1581 hl (k := 0) rfl (la_inc i) (by decide) rfl (fun ls hl => ?_)
        refine lv_goto (tgt := 28) hx hb dL_law_1584 (by decide) ?_
        exact ih (i + 1) S' M' o' d' H locs ls (cells + k) (slots + n) (by omega) hR hP hD hS hl (by omega) (by omega) (by omega)
      by_cases h22 : j < 22
      · rcases (show j = 0 ∨ j = 1 ∨ j = 2 ∨ j = 3 ∨ j = 4 ∨ j = 5 ∨ j = 6 ∨ j = 7 ∨ j = 8 ∨ j = 9 ∨ j = 10 ∨ j = 11 ∨ j = 12 ∨ j = 13 ∨ j = 14 ∨ j = 15 ∨ j = 16 ∨ j = 17 ∨ j = 18 ∨ j = 19 ∨ j = 20 ∨ j = 21 by omega) with rfl | rfl | rfl | rfl | rfl | rfl | rfl | rfl | rfl | rfl | rfl | rfl | rfl | rfl | rfl | rfl | rfl | rfl | rfl | rfl | rfl | rfl
        · refine lv_tableIn (off := 104) (tgt := 148) hx hb dL_law_44 (by rw [la_ti (by omega)]; omega) (by rw [la_ti (by omega)]; omega) (by rw [la_ti (by omega)]; rfl) (by decide) ?_
          exact lc_begin G hi hR hP hD hS hl (by omega) (by omega) (fun S' M' o' d' H locs ls hR hP hD hS hl => next S' M' o' d' H locs ls 2 12 (by omega) (by omega) hR hP hD hS hl)
        · refine lv_tableIn (off := 172) (tgt := 216) hx hb dL_law_44 (by rw [la_ti (by omega)]; omega) (by rw [la_ti (by omega)]; omega) (by rw [la_ti (by omega)]; rfl) (by decide) ?_
          exact lc_show G hi hR hP hD hS hl (by omega) (by omega) (fun S' M' o' d' H locs ls hR hP hD hS hl => next S' M' o' d' H locs ls 3 18 (by omega) (by omega) hR hP hD hS hl)
        · refine lv_tableIn (off := 240) (tgt := 284) hx hb dL_law_44 (by rw [la_ti (by omega)]; omega) (by rw [la_ti (by omega)]; omega) (by rw [la_ti (by omega)]; rfl) (by decide) ?_
          exact lc_showRow G hi hR hP hD hS hl (by omega) (by omega) (fun S' M' o' d' H locs ls hR hP hD hS hl => next S' M' o' d' H locs ls 5 30 (by omega) (by omega) hR hP hD hS hl)
        · refine lv_tableIn (off := 332) (tgt := 376) hx hb dL_law_44 (by rw [la_ti (by omega)]; omega) (by rw [la_ti (by omega)]; omega) (by rw [la_ti (by omega)]; rfl) (by decide) ?_
          exact lc_thinOut G hi hR hP hD hS hl (by omega) (by omega) (fun S' M' o' d' H locs ls hR hP hD hS hl => next S' M' o' d' H locs ls 1 6 (by omega) (by omega) hR hP hD hS hl)
        · refine lv_tableIn (off := 388) (tgt := 432) hx hb dL_law_44 (by rw [la_ti (by omega)]; omega) (by rw [la_ti (by omega)]; omega) (by rw [la_ti (by omega)]; rfl) (by decide) ?_
          exact lc_pour G hi hR hP hD hS hl (by omega) (by omega) (fun S' M' o' d' H locs ls hR hP hD hS hl => next S' M' o' d' H locs ls 3 18 (by omega) (by omega) hR hP hD hS hl)
        · refine lv_tableIn (off := 456) (tgt := 500) hx hb dL_law_44 (by rw [la_ti (by omega)]; omega) (by rw [la_ti (by omega)]; omega) (by rw [la_ti (by omega)]; rfl) (by decide) ?_
          exact lc_count G hi hR hP hD hS hl (by omega) (by omega) (fun S' M' o' d' H locs ls hR hP hD hS hl => next S' M' o' d' H locs ls 1 6 (by omega) (by omega) hR hP hD hS hl)
        · refine lv_tableIn (off := 512) (tgt := 556) hx hb dL_law_44 (by rw [la_ti (by omega)]; omega) (by rw [la_ti (by omega)]; omega) (by rw [la_ti (by omega)]; rfl) (by decide) ?_
          exact lc_bound G hi hR hP hD hS hl (by omega) (by omega) (fun S' M' o' d' H locs ls hR hP hD hS hl => next S' M' o' d' H locs ls 1 6 (by omega) (by omega) hR hP hD hS hl)
        · refine lv_tableIn (off := 568) (tgt := 612) hx hb dL_law_44 (by rw [la_ti (by omega)]; omega) (by rw [la_ti (by omega)]; omega) (by rw [la_ti (by omega)]; rfl) (by decide) ?_
          exact lc_allowance G hi hR hP hD hS hl (by omega) (by omega) (fun S' M' o' d' H locs ls hR hP hD hS hl => next S' M' o' d' H locs ls 1 6 (by omega) (by omega) hR hP hD hS hl)
        · refine lv_tableIn (off := 624) (tgt := 668) hx hb dL_law_44 (by rw [la_ti (by omega)]; omega) (by rw [la_ti (by omega)]; omega) (by rw [la_ti (by omega)]; rfl) (by decide) ?_
          exact lc_marks G hi hR hP hD hS hl (by omega) (by omega) (fun S' M' o' d' H locs ls hR hP hD hS hl => next S' M' o' d' H locs ls 1 6 (by omega) (by omega) hR hP hD hS hl)
        · refine lv_tableIn (off := 680) (tgt := 724) hx hb dL_law_44 (by rw [la_ti (by omega)]; omega) (by rw [la_ti (by omega)]; omega) (by rw [la_ti (by omega)]; rfl) (by decide) ?_
          exact lc_value G hi hR hP hD hS hl (by omega) (by omega) (fun S' M' o' d' H locs ls hR hP hD hS hl => next S' M' o' d' H locs ls 2 12 (by omega) (by omega) hR hP hD hS hl)
        · refine lv_tableIn (off := 748) (tgt := 792) hx hb dL_law_44 (by rw [la_ti (by omega)]; omega) (by rw [la_ti (by omega)]; omega) (by rw [la_ti (by omega)]; rfl) (by decide) ?_
          exact lc_lowestRank G hi hR hP hD hS hl (by omega) (by omega) (fun S' M' o' d' H locs ls hR hP hD hS hl => next S' M' o' d' H locs ls 2 12 (by omega) (by omega) hR hP hD hS hl)
        · refine lv_tableIn (off := 816) (tgt := 860) hx hb dL_law_44 (by rw [la_ti (by omega)]; omega) (by rw [la_ti (by omega)]; omega) (by rw [la_ti (by omega)]; rfl) (by decide) ?_
          exact lc_highestRank G hi hR hP hD hS hl (by omega) (by omega) (fun S' M' o' d' H locs ls hR hP hD hS hl => next S' M' o' d' H locs ls 2 12 (by omega) (by omega) hR hP hD hS hl)
        · refine lv_tableIn (off := 884) (tgt := 928) hx hb dL_law_44 (by rw [la_ti (by omega)]; omega) (by rw [la_ti (by omega)]; omega) (by rw [la_ti (by omega)]; rfl) (by decide) ?_
          exact lc_widest G hi hR hP hD hS hl (by omega) (by omega) (fun S' M' o' d' H locs ls hR hP hD hS hl => next S' M' o' d' H locs ls 1 6 (by omega) (by omega) hR hP hD hS hl)
        · refine lv_tableIn (off := 940) (tgt := 984) hx hb dL_law_44 (by rw [la_ti (by omega)]; omega) (by rw [la_ti (by omega)]; omega) (by rw [la_ti (by omega)]; rfl) (by decide) ?_
          exact lc_ask G hi hR hP hD hS hl (by omega) (by omega) (fun S' M' o' d' H locs ls hR hP hD hS hl => next S' M' o' d' H locs ls 3 18 (by omega) (by omega) hR hP hD hS hl)
        · refine lv_tableIn (off := 1008) (tgt := 1052) hx hb dL_law_44 (by rw [la_ti (by omega)]; omega) (by rw [la_ti (by omega)]; omega) (by rw [la_ti (by omega)]; rfl) (by decide) ?_
          exact lc_off G hi hR hP hD hS hl (by omega) (by omega) (fun S' M' o' d' H locs ls hR hP hD hS hl => next S' M' o' d' H locs ls 3 18 (by omega) (by omega) hR hP hD hS hl)
        · refine lv_tableIn (off := 1076) (tgt := 1120) hx hb dL_law_44 (by rw [la_ti (by omega)]; omega) (by rw [la_ti (by omega)]; omega) (by rw [la_ti (by omega)]; rfl) (by decide) ?_
          exact lc_reallyOff G hi hR hP hD hS hl (by omega) (by omega) (fun S' M' o' d' H locs ls hR hP hD hS hl => next S' M' o' d' H locs ls 3 18 (by omega) (by omega) hR hP hD hS hl)
        · refine lv_tableIn (off := 1144) (tgt := 1188) hx hb dL_law_44 (by rw [la_ti (by omega)]; omega) (by rw [la_ti (by omega)]; omega) (by rw [la_ti (by omega)]; rfl) (by decide) ?_
          exact lc_atLeastUpTo G hi hR hP hD hS hl (by omega) (by omega) (fun S' M' o' d' H locs ls hR hP hD hS hl => next S' M' o' d' H locs ls 1 6 (by omega) (by omega) hR hP hD hS hl)
        · refine lv_tableIn (off := 1212) (tgt := 1256) hx hb dL_law_44 (by rw [la_ti (by omega)]; omega) (by rw [la_ti (by omega)]; omega) (by rw [la_ti (by omega)]; rfl) (by decide) ?_
          exact lc_atMostUpTo G hi hR hP hD hS hl (by omega) (by omega) (fun S' M' o' d' H locs ls hR hP hD hS hl => next S' M' o' d' H locs ls 1 6 (by omega) (by omega) hR hP hD hS hl)
        · refine lv_tableIn (off := 1280) (tgt := 1324) hx hb dL_law_44 (by rw [la_ti (by omega)]; omega) (by rw [la_ti (by omega)]; omega) (by rw [la_ti (by omega)]; rfl) (by decide) ?_
          exact lc_reallyUpTo G hi hR hP hD hS hl (by omega) (by omega) (fun S' M' o' d' H locs ls hR hP hD hS hl => next S' M' o' d' H locs ls 1 6 (by omega) (by omega) hR hP hD hS hl)
        · refine lv_tableIn (off := 1348) (tgt := 1392) hx hb dL_law_44 (by rw [la_ti (by omega)]; omega) (by rw [la_ti (by omega)]; omega) (by rw [la_ti (by omega)]; rfl) (by decide) ?_
          exact lc_middle G hi hR hP hD hS hl (by omega) (by omega) (fun S' M' o' d' H locs ls hR hP hD hS hl => next S' M' o' d' H locs ls 2 12 (by omega) (by omega) hR hP hD hS hl)
        · refine lv_tableIn (off := 1404) (tgt := 1448) hx hb dL_law_44 (by rw [la_ti (by omega)]; omega) (by rw [la_ti (by omega)]; omega) (by rw [la_ti (by omega)]; rfl) (by decide) ?_
          exact lc_middleByHeaps G hi hR hP hD hS hl (by omega) (by omega) (fun S' M' o' d' H locs ls hR hP hD hS hl => next S' M' o' d' H locs ls 2 12 (by omega) (by omega) hR hP hD hS hl)
        · refine lv_tableIn (off := 1460) (tgt := 1504) hx hb dL_law_44 (by rw [la_ti (by omega)]; omega) (by rw [la_ti (by omega)]; omega) (by rw [la_ti (by omega)]; rfl) (by decide) ?_
          exact lc_part G hi hR hP hD hS hl (by omega) (by omega) (fun S' M' o' d' H locs ls hR hP hD hS hl => next S' M' o' d' H locs ls 1 6 (by omega) (by omega) hR hP hD hS hl)
      · refine lv_tableOut (tgt := 1581) hx hb dL_law_44 (Or.inr (by rw [la_ti (by omega)]; omega)) (by decide) ?_
        exact next S M o d H locs ls 0 0 (by omega) (by omega) hR hP hD hS hl
    · exact lv_icmp_gt (tgt := 1587) hx hb dL_law_34 (by decide) (fun _ => hhalt H locs ls cells slots hS (by omega) (by omega)) (fun q9 => absurd (la_gt (L := L) (i := i) (by omega) hL (by omega)) q9)
