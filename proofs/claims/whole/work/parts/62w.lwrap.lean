/-! ===== the law's own two rows; its helpers ===== -/
def la_r (aL aD : Nat) (cL cD : ClassId) (o : Nat → Int64) (d : Nat → UInt64) (tl : va_W) : va_W := (aL, .inl (cL, 1, .inr (.inl o))) :: (aD, .inl (cD, 1, .inr (.inr (.inr (.inl d))))) :: tl
abbrev la_T (cI cQ cL cD : ClassId) : List (ClassId × FieldType) := [(cI, .int), (cQ, .object "QueueMiddles$Counter"), (cL, .long), (cD, .double)]
abbrev la_uo (o : Nat → Int64) (v : Int32) : Nat → Int64 := vp_updL o (0 : Int32).toNatClampNeg v.toInt64
abbrev la_ud (d : Nat → UInt64) (v : UInt64) : Nat → UInt64 := vf_upd d (0 : Int32).toNatClampNeg v
theorem la_in0 : vp_in (0 : Int32) 1 := vp_in_nI (n := 0) (N := 1) (by omega) (by omega)
section LaLook
variable {ad : Nat → Nat} {cI cQ cL cD : ClassId} {aL aD : Nat} {o o' : Nat → Int64} {d d' : Nat → UInt64} {tl : va_W} {S : qm_S}
theorem lg_L : (qm_W ad cI cQ (la_r aL aD cL cD o d tl) S)[82]? = some (aL, .inl (cL, 1, .inr (.inl o))) := by
  unfold qm_W
  rw [List.getElem?_append_right (by rw [qm_w_len]; exact Nat.le_refl _), qm_w_len]
  rfl
theorem lg_D : (qm_W ad cI cQ (la_r aL aD cL cD o d tl) S)[83]? = some (aD, .inl (cD, 1, .inr (.inr (.inr (.inl d))))) := by
  unfold qm_W
  rw [List.getElem?_append_right (by rw [qm_w_len]; omega), qm_w_len]
  rfl
theorem ls_L : (qm_W ad cI cQ (la_r aL aD cL cD o d tl) S).set 82 (aL, .inl (cL, 1, .inr (.inl o'))) = qm_W ad cI cQ (la_r aL aD cL cD o' d tl) S := by
  unfold qm_W
  rw [List.set_append_right _ _ (by rw [qm_w_len]; exact Nat.le_refl _), qm_w_len]
  rfl
theorem ls_D : (qm_W ad cI cQ (la_r aL aD cL cD o d tl) S).set 83 (aD, .inl (cD, 1, .inr (.inr (.inr (.inl d'))))) = qm_W ad cI cQ (la_r aL aD cL cD o d' tl) S := by
  unfold qm_W
  rw [List.set_append_right _ _ (by rw [qm_w_len]; omega), qm_w_len]
  rfl
end LaLook
/-- what a helper answers and writes, of what the call answers or throws -/
def la_w (ts : List String) (z : (Int32 × qm_S) ⊕ String) (S : qm_S) (o : Nat → Int64) (k : Int32) (S' : qm_S) (o' : Nat → Int64) : Prop :=
  (∃ v, z = .inl (v, S') ∧ k = 0 ∧ o' = la_uo o v) ∨ ∃ (i : Nat) (E : String), ts[i]? = some E ∧ z = .inr E ∧ k = nI (i + 1) ∧ S' = S ∧ o' = o
def la_p (ts : List String) (z : Int32 ⊕ String) (o : Nat → Int64) (k : Int32) (o' : Nat → Int64) : Prop :=
  (∃ v, z = .inl v ∧ k = 0 ∧ o' = la_uo o v) ∨ ∃ (i : Nat) (E : String), ts[i]? = some E ∧ z = .inr E ∧ k = nI (i + 1) ∧ o' = o
def la_d (ts : List String) (z : UInt64 ⊕ String) (d : Nat → UInt64) (k : Int32) (d' : Nat → UInt64) : Prop :=
  (∃ v, z = .inl v ∧ k = 0 ∧ d' = la_ud d v) ∨ ∃ (i : Nat) (E : String), ts[i]? = some E ∧ z = .inr E ∧ k = nI (i + 1) ∧ d' = d
theorem la_wE {ts : List String} {z : (Int32 × qm_S) ⊕ String} {S S' : qm_S} {o o' : Nat → Int64} {k : Int32} {E : String} (hE : z = .inr E) (h : la_w ts z S o k S' o') : ∃ i : Nat, S' = S ∧ o' = o ∧ k = nI (i + 1) ∧ ts[i]? = some E := by
  rcases h with ⟨v, e, _⟩ | ⟨i, E', e1, e2, e3, e4, e5⟩
  · rw [hE] at e; cases e
  · rw [hE] at e2; cases e2; exact ⟨i, e4, e5, e3, e1⟩
theorem la_pE {ts : List String} {z : Int32 ⊕ String} {o o' : Nat → Int64} {k : Int32} {E : String} (hE : z = .inr E) (h : la_p ts z o k o') : ∃ i : Nat, o' = o ∧ k = nI (i + 1) ∧ ts[i]? = some E := by
  rcases h with ⟨v, e, _⟩ | ⟨i, E', e1, e2, e3, e4⟩
  · rw [hE] at e; cases e
  · rw [hE] at e2; cases e2; exact ⟨i, e4, e3, e1⟩
theorem la_dE {ts : List String} {z : UInt64 ⊕ String} {d d' : Nat → UInt64} {k : Int32} {E : String} (hE : z = .inr E) (h : la_d ts z d k d') : ∃ i : Nat, d' = d ∧ k = nI (i + 1) ∧ ts[i]? = some E := by
  rcases h with ⟨v, e, _⟩ | ⟨i, E', e1, e2, e3, e4⟩
  · rw [hE] at e; cases e
  · rw [hE] at e2; cases e2; exact ⟨i, e4, e3, e1⟩
theorem la_wV {ts : List String} {z : (Int32 × qm_S) ⊕ String} {S S' u : qm_S} {o o' : Nat → Int64} {k v : Int32} (hE : z = .inl (v, u)) (h : la_w ts z S o k S' o') : k = 0 ∧ S' = u ∧ o' = la_uo o v := by
  rcases h with ⟨v', e, e1, e2⟩ | ⟨i, E', _, e, _⟩
  · rw [hE] at e; cases e; exact ⟨e1, rfl, e2⟩
  · rw [hE] at e; cases e
theorem la_pV {ts : List String} {z : Int32 ⊕ String} {o o' : Nat → Int64} {k v : Int32} (hE : z = .inl v) (h : la_p ts z o k o') : k = 0 ∧ o' = la_uo o v := by
  rcases h with ⟨v', e, e1, e2⟩ | ⟨i, E', _, e, _⟩
  · rw [hE] at e; cases e; exact ⟨e1, e2⟩
  · rw [hE] at e; cases e
theorem la_dV {ts : List String} {z : UInt64 ⊕ String} {d d' : Nat → UInt64} {k : Int32} {v : UInt64} (hE : z = .inl v) (h : la_d ts z d k d') : k = 0 ∧ d' = la_ud d v := by
  rcases h with ⟨v', e, e1, e2⟩ | ⟨i, E', _, e, _⟩
  · rw [hE] at e; cases e; exact ⟨e1, e2⟩
  · rw [hE] at e; cases e
theorem la_st_1 {i : Nat} {E : String} (h : st_1[i]? = some E) : (i = 0 ∧ "java/lang/IndexOutOfBoundsException" = E) := by
  match i, h with
  | 0, h => exact ⟨rfl, Option.some.inj h⟩
  | i + 1, h => cases h
theorem la_st_2 {i : Nat} {E : String} (h : st_2[i]? = some E) : (i = 0 ∧ "java/lang/IndexOutOfBoundsException" = E) ∨ (i = 1 ∧ "java/lang/IllegalStateException" = E) := by
  match i, h with
  | 0, h => exact Or.inl ⟨rfl, Option.some.inj h⟩
  | 1, h => exact Or.inr ⟨rfl, Option.some.inj h⟩
  | i + 2, h => cases h
theorem la_st_b {i : Nat} {E : String} (h : st_b[i]? = some E) : (i = 0 ∧ "java/lang/IndexOutOfBoundsException" = E) ∨ (i = 1 ∧ "java/lang/IllegalArgumentException" = E) := by
  match i, h with
  | 0, h => exact Or.inl ⟨rfl, Option.some.inj h⟩
  | 1, h => exact Or.inr ⟨rfl, Option.some.inj h⟩
  | i + 2, h => cases h
theorem la_st_3 {i : Nat} {E : String} (h : st_3[i]? = some E) : (i = 0 ∧ "java/lang/IndexOutOfBoundsException" = E) ∨ (i = 1 ∧ "java/lang/IllegalArgumentException" = E) ∨ (i = 2 ∧ "java/lang/IllegalStateException" = E) := by
  match i, h with
  | 0, h => exact Or.inl ⟨rfl, Option.some.inj h⟩
  | 1, h => exact Or.inr (Or.inl ⟨rfl, Option.some.inj h⟩)
  | 2, h => exact Or.inr (Or.inr ⟨rfl, Option.some.inj h⟩)
  | i + 3, h => cases h
set_option maxHeartbeats 4000000 in
set_option maxRecDepth 100000 in
theorem wL_begin {l : Launch} (hst : l.stackTraces = false) (D : va_G) (A : Nat → Prop) (ad : Nat → Nat) (cI cQ cL cD : ClassId) (aL aD : Nat) (tl : va_W) (S : qm_S) (o : Nat → Int64) (d : Nat → UInt64) (p0 : Int32) (p1 : Int32) (z : (Int32 × qm_S) ⊕ String) (h : fX6_begin S p0 p1 = some z) (k : Int32) (S' : qm_S) (o' : Nat → Int64) (hz : la_w st_b z S o k S' o') : vx_Met l yL_begin wsL_begin ({ frames := 8, cells := 2, slots := 12, locals := 135 }) (va_Pc [.ref (ad 0), .int p0, .int p1, .ref aL] (qm_BZ D A (la_T cI cQ cL cD) (qm_W ad cI cQ (la_r aL aD cL cD o d tl) S))) (qm_Qi D A (fun (u : qm_S × (Nat → Int64)) => qm_W ad cI cQ (la_r aL aD cL cD u.2 d tl) u.1) (k, (S', o'))) (vx_X (fun (_ : Unit) => False) (fun _ _ _ => True) A) 2 12 A := by
  refine vx_ofWH (cc := cL_begin) (maxL := 5) (ret := some .int) (hh := [(0, 10, 13, 13), (0, 10, 17, 15)]) (by decide) rfl ?_
  intro p e s m args below meth c s₁ B hml hv
  obtain ⟨rfl, ⟨hA, hP, hK, hD⟩, hZ⟩ := hv
  have hK2 : va_K D vwCl (qm_T cI cQ) s := hK.sub [0, 1] rfl
  have hx := B.exec
  have hb := B.bytes
  have hr := B.returns
  have hts := atoms_spec (ws := wsL_begin) B.pre
  have hown : s.vm.findClass RL = some m.cls := findClass_of_methodNamed B.named
  have hlocks := B.notSynchronized
  have htab : c.exceptionTable.toList = [⟨0, 10, 13, 13⟩, ⟨0, 10, 17, 15⟩] := vx_table (x := yL_begin) B (hts _ List.mem_cons_self)
  have hS : va_S A s.heap s.heap [] := va_S.rf
  have hl := lv_entry ([.ref (ad 0), .int p0, .int p1, .ref aL]) (n := 5) (Nat.le_of_ble_eq_true rfl)
  rw [lg_entry_eq]
  generalize (lg_sl ([.ref (ad 0), .int p0, .int p1, .ref aL]) ++ List.replicate (5 - (lg_sl ([.ref (ad 0), .int p0, .int p1, .ref aL])).length) Slot.unset).toArray = ls at hl ⊢
  have hl : lv_has ls 5 [(0, .ref (ad 0)), (1, .int p0), (2, .int p1), (3, .ref aL)] := hl
  refine lv_aload_n hx hb dL_begin_0 rfl (lv_at hl 3 rfl) ?_
  refine lv_iconst (v := (0 : Int32)) hx hb dL_begin_1 (by decide) ?_
  refine lv_aload_n hx hb dL_begin_2 rfl (lv_at hl 0 rfl) ?_
  refine lv_iload_n hx hb dL_begin_3 rfl (lv_at hl 1 rfl) ?_
  refine lv_iload_n hx hb dL_begin_4 rfl (lv_at hl 2 rfl) ?_
  refine vx_calli (vx_runV (As := [.int p0, .int p1]) (rest := [.int (0 : Int32), .ref aL]) ⟨hx, hb, hml, hown, hts⟩ (kX6_begin hst l D A ad cI cQ (la_r aL aD cL cD o d tl) S p0 p1 z h) (cwV 2 hts gL_begin_X6_begin rfl rfl rfl (by decide +kernel) ⟨Nat.le_of_ble_eq_true rfl, Nat.le_of_ble_eq_true rfl⟩) ⟨qm_blindZ, va_recv hK2 hP (ci := 6) (q0 := 0) rfl qg_Q, fun U hU hW => ⟨rfl, qm_go hA hS hP hK2 hD hU hW, qm_Zgo hZ hS hU hW⟩⟩ rfl rfl hl.1 rfl (lv_room (Nat.le_of_ble_eq_true rfl)) dL_begin_5 ⟨Nat.le_of_ble_eq_true rfl, Nat.le_of_ble_eq_true rfl⟩) hS (fun _ _ h9 => h9) (fun _ h9 => h9) (fun _ _ h9 => h9) (fun E ce q9 u9 t H1 locs1 ht hvm hw hB hz1 hk1 hS hce hcv hcl => ?_) (fun v u t H1 locs1 ht hvm hw hB hz1 hk1 hS => ?_)
  · obtain ⟨hE1, hE2⟩ := hB
    obtain ⟨hP, hD⟩ := qm_bk ht hE2
    obtain ⟨i, rfl, rfl, rfl, hi⟩ := la_wE hE1 hz
    rcases la_st_b hi with ⟨rfl, rfl⟩ | ⟨rfl, rfl⟩
    · refine vx_catch hown [] ⟨0, 10, 13, 13⟩ [⟨0, 10, 17, 15⟩] htab (fun _ h9 => absurd h9 List.not_mem_nil) (by decide) (by decide) (hts (.classLink RL 13 "java/lang/IndexOutOfBoundsException") (by decide +kernel)) (va_Nw.use rfl (qz_c0 hZ)) hce hcv hcl ?_
      refine W.eq (g2 := F0 m 13 ls [.ref q9]) rfl ?_
      refine lv_astore (lv' := [(4, .ref q9), (0, .ref (ad 0)), (1, .int p0), (2, .int p1), (3, .ref aL)]) hx hb dL_begin_13 hl (by decide) rfl (fun ls hl => ?_)
      refine lv_iconst (v := (1 : Int32)) hx hb dL_begin_15 (by decide) ?_
      refine vx_ret ?_
      refine W.widen (k := 2) (n := 12) (Nat.le_of_ble_eq_true rfl) (Nat.le_of_ble_eq_true rfl) ?_
      exact W.iret (v := (1 : Int32)) hx hb hr (fun t ht hW => ⟨⟨1, (S', o'), rfl, ⟨rfl, rfl⟩, qm_en ht hP hD⟩, hS.F ht⟩) hS.2.2 dL_begin_16
    · refine vx_catch hown [⟨0, 10, 13, 13⟩] ⟨0, 10, 17, 15⟩ [] htab (List.forall_mem_cons.mpr ⟨Or.inr ⟨by decide, "java/lang/IndexOutOfBoundsException", hts (.classLink RL 13 "java/lang/IndexOutOfBoundsException") (by decide +kernel), qz_x0 hZ⟩, fun _ h9 => absurd h9 List.not_mem_nil⟩) (by decide) (by decide) (hts (.classLink RL 15 "java/lang/IllegalArgumentException") (by decide +kernel)) (va_Nw.use rfl (qz_c1 hZ)) hce hcv hcl ?_
      refine W.eq (g2 := F0 m 17 ls [.ref q9]) rfl ?_
      refine lv_astore (lv' := [(4, .ref q9), (0, .ref (ad 0)), (1, .int p0), (2, .int p1), (3, .ref aL)]) hx hb dL_begin_17 hl (by decide) rfl (fun ls hl => ?_)
      refine lv_iconst (v := (2 : Int32)) hx hb dL_begin_19 (by decide) ?_
      refine vx_ret ?_
      refine W.widen (k := 2) (n := 12) (Nat.le_of_ble_eq_true rfl) (Nat.le_of_ble_eq_true rfl) ?_
      exact W.iret (v := (2 : Int32)) hx hb hr (fun t ht hW => ⟨⟨2, (S', o'), rfl, ⟨rfl, rfl⟩, qm_en ht hP hD⟩, hS.F ht⟩) hS.2.2 dL_begin_20
  · obtain ⟨rfl, rfl, rfl⟩ := la_wV hw hz
    obtain ⟨hP, hD⟩ := qm_bk ht hB
    refine lv_i2l (v := v.toInt64) hx hb dL_begin_8 rfl ?_
    refine va_last hx hb hK hP hD hS 82 2 lg_L rfl (i := (0 : Int32)) la_in0 dL_begin_9 (fun H locs hP hD hS => ?_)
    rw [ls_L] at hP hD
    refine lv_goto (tgt := 21) hx hb dL_begin_10 (by decide) ?_
    refine lv_iconst (v := (0 : Int32)) hx hb dL_begin_21 (by decide) ?_
    refine vx_ret ?_
    refine W.widen (k := 2) (n := 12) (Nat.le_of_ble_eq_true rfl) (Nat.le_of_ble_eq_true rfl) ?_
    exact W.iret (v := (0 : Int32)) hx hb hr (fun t ht hW => ⟨⟨0, (S', la_uo o v), rfl, ⟨rfl, rfl⟩, qm_en ht hP hD⟩, hS.F ht⟩) hS.2.2 dL_begin_22
set_option maxHeartbeats 4000000 in
set_option maxRecDepth 100000 in
theorem wL_show {l : Launch} (hst : l.stackTraces = false) (D : va_G) (A : Nat → Prop) (ad : Nat → Nat) (cI cQ cL cD : ClassId) (aL aD : Nat) (tl : va_W) (S : qm_S) (o : Nat → Int64) (d : Nat → UInt64) (p0 : Int32) (p1 : Int32) (z : (Int32 × qm_S) ⊕ String) (h : fX6_show S p0 p1 = some z) (k : Int32) (S' : qm_S) (o' : Nat → Int64) (hz : la_w st_3 z S o k S' o') : vx_Met l yL_show wsL_show ({ frames := 8, cells := 3, slots := 18, locals := 170 }) (va_Pc [.ref (ad 0), .int p0, .int p1, .ref aL] (qm_BZ D A (la_T cI cQ cL cD) (qm_W ad cI cQ (la_r aL aD cL cD o d tl) S))) (qm_Qi D A (fun (u : qm_S × (Nat → Int64)) => qm_W ad cI cQ (la_r aL aD cL cD u.2 d tl) u.1) (k, (S', o'))) (vx_X (fun (_ : Unit) => False) (fun _ _ _ => True) A) 3 18 A := by
  refine vx_ofWH (cc := cL_show) (maxL := 5) (ret := some .int) (hh := [(0, 10, 13, 13), (0, 10, 17, 15), (0, 10, 21, 20)]) (by decide) rfl ?_
  intro p e s m args below meth c s₁ B hml hv
  obtain ⟨rfl, ⟨hA, hP, hK, hD⟩, hZ⟩ := hv
  have hK2 : va_K D vwCl (qm_T cI cQ) s := hK.sub [0, 1] rfl
  have hx := B.exec
  have hb := B.bytes
  have hr := B.returns
  have hts := atoms_spec (ws := wsL_show) B.pre
  have hown : s.vm.findClass RL = some m.cls := findClass_of_methodNamed B.named
  have hlocks := B.notSynchronized
  have htab : c.exceptionTable.toList = [⟨0, 10, 13, 13⟩, ⟨0, 10, 17, 15⟩, ⟨0, 10, 21, 20⟩] := vx_table (x := yL_show) B (hts _ List.mem_cons_self)
  have hS : va_S A s.heap s.heap [] := va_S.rf
  have hl := lv_entry ([.ref (ad 0), .int p0, .int p1, .ref aL]) (n := 5) (Nat.le_of_ble_eq_true rfl)
  rw [lg_entry_eq]
  generalize (lg_sl ([.ref (ad 0), .int p0, .int p1, .ref aL]) ++ List.replicate (5 - (lg_sl ([.ref (ad 0), .int p0, .int p1, .ref aL])).length) Slot.unset).toArray = ls at hl ⊢
  have hl : lv_has ls 5 [(0, .ref (ad 0)), (1, .int p0), (2, .int p1), (3, .ref aL)] := hl
  refine lv_aload_n hx hb dL_show_0 rfl (lv_at hl 3 rfl) ?_
  refine lv_iconst (v := (0 : Int32)) hx hb dL_show_1 (by decide) ?_
  refine lv_aload_n hx hb dL_show_2 rfl (lv_at hl 0 rfl) ?_
  refine lv_iload_n hx hb dL_show_3 rfl (lv_at hl 1 rfl) ?_
  refine lv_iload_n hx hb dL_show_4 rfl (lv_at hl 2 rfl) ?_
  refine vx_calli (vx_runV (As := [.int p0, .int p1]) (rest := [.int (0 : Int32), .ref aL]) ⟨hx, hb, hml, hown, hts⟩ (kX6_show hst l D A ad cI cQ (la_r aL aD cL cD o d tl) S p0 p1 z h) (cwV 2 hts gL_show_X6_show rfl rfl rfl (by decide +kernel) ⟨Nat.le_of_ble_eq_true rfl, Nat.le_of_ble_eq_true rfl⟩) ⟨qm_blindZ, va_recv hK2 hP (ci := 6) (q0 := 0) rfl qg_Q, fun U hU hW => ⟨rfl, qm_go hA hS hP hK2 hD hU hW, qm_Zgo hZ hS hU hW⟩⟩ rfl rfl hl.1 rfl (lv_room (Nat.le_of_ble_eq_true rfl)) dL_show_5 ⟨Nat.le_of_ble_eq_true rfl, Nat.le_of_ble_eq_true rfl⟩) hS (fun _ _ h9 => h9) (fun _ h9 => h9) (fun _ _ h9 => h9) (fun E ce q9 u9 t H1 locs1 ht hvm hw hB hz1 hk1 hS hce hcv hcl => ?_) (fun v u t H1 locs1 ht hvm hw hB hz1 hk1 hS => ?_)
  · obtain ⟨hE1, hE2⟩ := hB
    obtain ⟨hP, hD⟩ := qm_bk ht hE2
    obtain ⟨i, rfl, rfl, rfl, hi⟩ := la_wE hE1 hz
    rcases la_st_3 hi with ⟨rfl, rfl⟩ | ⟨rfl, rfl⟩ | ⟨rfl, rfl⟩
    · refine vx_catch hown [] ⟨0, 10, 13, 13⟩ [⟨0, 10, 17, 15⟩, ⟨0, 10, 21, 20⟩] htab (fun _ h9 => absurd h9 List.not_mem_nil) (by decide) (by decide) (hts (.classLink RL 13 "java/lang/IndexOutOfBoundsException") (by decide +kernel)) (va_Nw.use rfl (qz_c0 hZ)) hce hcv hcl ?_
      refine W.eq (g2 := F0 m 13 ls [.ref q9]) rfl ?_
      refine lv_astore (lv' := [(4, .ref q9), (0, .ref (ad 0)), (1, .int p0), (2, .int p1), (3, .ref aL)]) hx hb dL_show_13 hl (by decide) rfl (fun ls hl => ?_)
      refine lv_iconst (v := (1 : Int32)) hx hb dL_show_15 (by decide) ?_
      refine vx_ret ?_
      refine W.widen (k := 3) (n := 18) (Nat.le_of_ble_eq_true rfl) (Nat.le_of_ble_eq_true rfl) ?_
      exact W.iret (v := (1 : Int32)) hx hb hr (fun t ht hW => ⟨⟨1, (S', o'), rfl, ⟨rfl, rfl⟩, qm_en ht hP hD⟩, hS.F ht⟩) hS.2.2 dL_show_16
    · refine vx_catch hown [⟨0, 10, 13, 13⟩] ⟨0, 10, 17, 15⟩ [⟨0, 10, 21, 20⟩] htab (List.forall_mem_cons.mpr ⟨Or.inr ⟨by decide, "java/lang/IndexOutOfBoundsException", hts (.classLink RL 13 "java/lang/IndexOutOfBoundsException") (by decide +kernel), qz_x0 hZ⟩, fun _ h9 => absurd h9 List.not_mem_nil⟩) (by decide) (by decide) (hts (.classLink RL 15 "java/lang/IllegalArgumentException") (by decide +kernel)) (va_Nw.use rfl (qz_c1 hZ)) hce hcv hcl ?_
      refine W.eq (g2 := F0 m 17 ls [.ref q9]) rfl ?_
      refine lv_astore (lv' := [(4, .ref q9), (0, .ref (ad 0)), (1, .int p0), (2, .int p1), (3, .ref aL)]) hx hb dL_show_17 hl (by decide) rfl (fun ls hl => ?_)
      refine lv_iconst (v := (2 : Int32)) hx hb dL_show_19 (by decide) ?_
      refine vx_ret ?_
      refine W.widen (k := 3) (n := 18) (Nat.le_of_ble_eq_true rfl) (Nat.le_of_ble_eq_true rfl) ?_
      exact W.iret (v := (2 : Int32)) hx hb hr (fun t ht hW => ⟨⟨2, (S', o'), rfl, ⟨rfl, rfl⟩, qm_en ht hP hD⟩, hS.F ht⟩) hS.2.2 dL_show_20
    · refine vx_catch hown [⟨0, 10, 13, 13⟩, ⟨0, 10, 17, 15⟩] ⟨0, 10, 21, 20⟩ [] htab (List.forall_mem_cons.mpr ⟨Or.inr ⟨by decide, "java/lang/IndexOutOfBoundsException", hts (.classLink RL 13 "java/lang/IndexOutOfBoundsException") (by decide +kernel), qz_x1 hZ⟩, List.forall_mem_cons.mpr ⟨Or.inr ⟨by decide, "java/lang/IllegalArgumentException", hts (.classLink RL 15 "java/lang/IllegalArgumentException") (by decide +kernel), qz_x2 hZ⟩, fun _ h9 => absurd h9 List.not_mem_nil⟩⟩) (by decide) (by decide) (hts (.classLink RL 20 "java/lang/IllegalStateException") (by decide +kernel)) (va_Nw.use rfl (qz_c2 hZ)) hce hcv hcl ?_
      refine W.eq (g2 := F0 m 21 ls [.ref q9]) rfl ?_
      refine lv_astore (lv' := [(4, .ref q9), (0, .ref (ad 0)), (1, .int p0), (2, .int p1), (3, .ref aL)]) hx hb dL_show_21 hl (by decide) rfl (fun ls hl => ?_)
      refine lv_iconst (v := (3 : Int32)) hx hb dL_show_23 (by decide) ?_
      refine vx_ret ?_
      refine W.widen (k := 3) (n := 18) (Nat.le_of_ble_eq_true rfl) (Nat.le_of_ble_eq_true rfl) ?_
      exact W.iret (v := (3 : Int32)) hx hb hr (fun t ht hW => ⟨⟨3, (S', o'), rfl, ⟨rfl, rfl⟩, qm_en ht hP hD⟩, hS.F ht⟩) hS.2.2 dL_show_24
  · obtain ⟨rfl, rfl, rfl⟩ := la_wV hw hz
    obtain ⟨hP, hD⟩ := qm_bk ht hB
    refine lv_i2l (v := v.toInt64) hx hb dL_show_8 rfl ?_
    refine va_last hx hb hK hP hD hS 82 2 lg_L rfl (i := (0 : Int32)) la_in0 dL_show_9 (fun H locs hP hD hS => ?_)
    rw [ls_L] at hP hD
    refine lv_goto (tgt := 25) hx hb dL_show_10 (by decide) ?_
    refine lv_iconst (v := (0 : Int32)) hx hb dL_show_25 (by decide) ?_
    refine vx_ret ?_
    refine W.widen (k := 3) (n := 18) (Nat.le_of_ble_eq_true rfl) (Nat.le_of_ble_eq_true rfl) ?_
    exact W.iret (v := (0 : Int32)) hx hb hr (fun t ht hW => ⟨⟨0, (S', la_uo o v), rfl, ⟨rfl, rfl⟩, qm_en ht hP hD⟩, hS.F ht⟩) hS.2.2 dL_show_26
set_option maxHeartbeats 4000000 in
set_option maxRecDepth 100000 in
theorem wL_showRow {l : Launch} (hst : l.stackTraces = false) (D : va_G) (A : Nat → Prop) (ad : Nat → Nat) (cI cQ cL cD : ClassId) (aL aD : Nat) (tl : va_W) (S : qm_S) (o : Nat → Int64) (d : Nat → UInt64) (p0 : Int32) (p1 : Int32) (p2 : Int32) (p3 : Int32) (z : (Int32 × qm_S) ⊕ String) (h : fX6_showRow S p0 p1 p2 p3 = some z) (k : Int32) (S' : qm_S) (o' : Nat → Int64) (hz : la_w st_3 z S o k S' o') : vx_Met l yL_showRow wsL_showRow ({ frames := 8, cells := 5, slots := 30, locals := 174 }) (va_Pc [.ref (ad 0), .int p0, .int p1, .int p2, .int p3, .ref aL] (qm_BZ D A (la_T cI cQ cL cD) (qm_W ad cI cQ (la_r aL aD cL cD o d tl) S))) (qm_Qi D A (fun (u : qm_S × (Nat → Int64)) => qm_W ad cI cQ (la_r aL aD cL cD u.2 d tl) u.1) (k, (S', o'))) (vx_X (fun (_ : Unit) => False) (fun _ _ _ => True) A) 5 30 A := by
  refine vx_ofWH (cc := cL_showRow) (maxL := 7) (ret := some .int) (hh := [(0, 14, 17, 13), (0, 14, 21, 15), (0, 14, 25, 20)]) (by decide) rfl ?_
  intro p e s m args below meth c s₁ B hml hv
  obtain ⟨rfl, ⟨hA, hP, hK, hD⟩, hZ⟩ := hv
  have hK2 : va_K D vwCl (qm_T cI cQ) s := hK.sub [0, 1] rfl
  have hx := B.exec
  have hb := B.bytes
  have hr := B.returns
  have hts := atoms_spec (ws := wsL_showRow) B.pre
  have hown : s.vm.findClass RL = some m.cls := findClass_of_methodNamed B.named
  have hlocks := B.notSynchronized
  have htab : c.exceptionTable.toList = [⟨0, 14, 17, 13⟩, ⟨0, 14, 21, 15⟩, ⟨0, 14, 25, 20⟩] := vx_table (x := yL_showRow) B (hts _ List.mem_cons_self)
  have hS : va_S A s.heap s.heap [] := va_S.rf
  have hl := lv_entry ([.ref (ad 0), .int p0, .int p1, .int p2, .int p3, .ref aL]) (n := 7) (Nat.le_of_ble_eq_true rfl)
  rw [lg_entry_eq]
  generalize (lg_sl ([.ref (ad 0), .int p0, .int p1, .int p2, .int p3, .ref aL]) ++ List.replicate (7 - (lg_sl ([.ref (ad 0), .int p0, .int p1, .int p2, .int p3, .ref aL])).length) Slot.unset).toArray = ls at hl ⊢
  have hl : lv_has ls 7 [(0, .ref (ad 0)), (1, .int p0), (2, .int p1), (3, .int p2), (4, .int p3), (5, .ref aL)] := hl
  refine lv_aload hx hb dL_showRow_0 (lv_at hl 5 rfl) ?_
  refine lv_iconst (v := (0 : Int32)) hx hb dL_showRow_2 (by decide) ?_
  refine lv_aload_n hx hb dL_showRow_3 rfl (lv_at hl 0 rfl) ?_
  refine lv_iload_n hx hb dL_showRow_4 rfl (lv_at hl 1 rfl) ?_
  refine lv_iload_n hx hb dL_showRow_5 rfl (lv_at hl 2 rfl) ?_
  refine lv_iload_n hx hb dL_showRow_6 rfl (lv_at hl 3 rfl) ?_
  refine lv_iload hx hb dL_showRow_7 (lv_at hl 4 rfl) ?_
  refine vx_calli (vx_runV (As := [.int p0, .int p1, .int p2, .int p3]) (rest := [.int (0 : Int32), .ref aL]) ⟨hx, hb, hml, hown, hts⟩ (kX6_showRow hst l D A ad cI cQ (la_r aL aD cL cD o d tl) S p0 p1 p2 p3 z h) (cwV 4 hts gL_showRow_X6_showRow rfl rfl rfl (by decide +kernel) ⟨Nat.le_of_ble_eq_true rfl, Nat.le_of_ble_eq_true rfl⟩) ⟨qm_blindZ, va_recv hK2 hP (ci := 6) (q0 := 0) rfl qg_Q, fun U hU hW => ⟨rfl, qm_go hA hS hP hK2 hD hU hW, qm_Zgo hZ hS hU hW⟩⟩ rfl rfl hl.1 rfl (lv_room (Nat.le_of_ble_eq_true rfl)) dL_showRow_9 ⟨Nat.le_of_ble_eq_true rfl, Nat.le_of_ble_eq_true rfl⟩) hS (fun _ _ h9 => h9) (fun _ h9 => h9) (fun _ _ h9 => h9) (fun E ce q9 u9 t H1 locs1 ht hvm hw hB hz1 hk1 hS hce hcv hcl => ?_) (fun v u t H1 locs1 ht hvm hw hB hz1 hk1 hS => ?_)
  · obtain ⟨hE1, hE2⟩ := hB
    obtain ⟨hP, hD⟩ := qm_bk ht hE2
    obtain ⟨i, rfl, rfl, rfl, hi⟩ := la_wE hE1 hz
    rcases la_st_3 hi with ⟨rfl, rfl⟩ | ⟨rfl, rfl⟩ | ⟨rfl, rfl⟩
    · refine vx_catch hown [] ⟨0, 14, 17, 13⟩ [⟨0, 14, 21, 15⟩, ⟨0, 14, 25, 20⟩] htab (fun _ h9 => absurd h9 List.not_mem_nil) (by decide) (by decide) (hts (.classLink RL 13 "java/lang/IndexOutOfBoundsException") (by decide +kernel)) (va_Nw.use rfl (qz_c0 hZ)) hce hcv hcl ?_
      refine W.eq (g2 := F0 m 17 ls [.ref q9]) rfl ?_
      refine lv_astore (lv' := [(6, .ref q9), (0, .ref (ad 0)), (1, .int p0), (2, .int p1), (3, .int p2), (4, .int p3), (5, .ref aL)]) hx hb dL_showRow_17 hl (by decide) rfl (fun ls hl => ?_)
      refine lv_iconst (v := (1 : Int32)) hx hb dL_showRow_19 (by decide) ?_
      refine vx_ret ?_
      refine W.widen (k := 5) (n := 30) (Nat.le_of_ble_eq_true rfl) (Nat.le_of_ble_eq_true rfl) ?_
      exact W.iret (v := (1 : Int32)) hx hb hr (fun t ht hW => ⟨⟨1, (S', o'), rfl, ⟨rfl, rfl⟩, qm_en ht hP hD⟩, hS.F ht⟩) hS.2.2 dL_showRow_20
    · refine vx_catch hown [⟨0, 14, 17, 13⟩] ⟨0, 14, 21, 15⟩ [⟨0, 14, 25, 20⟩] htab (List.forall_mem_cons.mpr ⟨Or.inr ⟨by decide, "java/lang/IndexOutOfBoundsException", hts (.classLink RL 13 "java/lang/IndexOutOfBoundsException") (by decide +kernel), qz_x0 hZ⟩, fun _ h9 => absurd h9 List.not_mem_nil⟩) (by decide) (by decide) (hts (.classLink RL 15 "java/lang/IllegalArgumentException") (by decide +kernel)) (va_Nw.use rfl (qz_c1 hZ)) hce hcv hcl ?_
      refine W.eq (g2 := F0 m 21 ls [.ref q9]) rfl ?_
      refine lv_astore (lv' := [(6, .ref q9), (0, .ref (ad 0)), (1, .int p0), (2, .int p1), (3, .int p2), (4, .int p3), (5, .ref aL)]) hx hb dL_showRow_21 hl (by decide) rfl (fun ls hl => ?_)
      refine lv_iconst (v := (2 : Int32)) hx hb dL_showRow_23 (by decide) ?_
      refine vx_ret ?_
      refine W.widen (k := 5) (n := 30) (Nat.le_of_ble_eq_true rfl) (Nat.le_of_ble_eq_true rfl) ?_
      exact W.iret (v := (2 : Int32)) hx hb hr (fun t ht hW => ⟨⟨2, (S', o'), rfl, ⟨rfl, rfl⟩, qm_en ht hP hD⟩, hS.F ht⟩) hS.2.2 dL_showRow_24
    · refine vx_catch hown [⟨0, 14, 17, 13⟩, ⟨0, 14, 21, 15⟩] ⟨0, 14, 25, 20⟩ [] htab (List.forall_mem_cons.mpr ⟨Or.inr ⟨by decide, "java/lang/IndexOutOfBoundsException", hts (.classLink RL 13 "java/lang/IndexOutOfBoundsException") (by decide +kernel), qz_x1 hZ⟩, List.forall_mem_cons.mpr ⟨Or.inr ⟨by decide, "java/lang/IllegalArgumentException", hts (.classLink RL 15 "java/lang/IllegalArgumentException") (by decide +kernel), qz_x2 hZ⟩, fun _ h9 => absurd h9 List.not_mem_nil⟩⟩) (by decide) (by decide) (hts (.classLink RL 20 "java/lang/IllegalStateException") (by decide +kernel)) (va_Nw.use rfl (qz_c2 hZ)) hce hcv hcl ?_
      refine W.eq (g2 := F0 m 25 ls [.ref q9]) rfl ?_
      refine lv_astore (lv' := [(6, .ref q9), (0, .ref (ad 0)), (1, .int p0), (2, .int p1), (3, .int p2), (4, .int p3), (5, .ref aL)]) hx hb dL_showRow_25 hl (by decide) rfl (fun ls hl => ?_)
      refine lv_iconst (v := (3 : Int32)) hx hb dL_showRow_27 (by decide) ?_
      refine vx_ret ?_
      refine W.widen (k := 5) (n := 30) (Nat.le_of_ble_eq_true rfl) (Nat.le_of_ble_eq_true rfl) ?_
      exact W.iret (v := (3 : Int32)) hx hb hr (fun t ht hW => ⟨⟨3, (S', o'), rfl, ⟨rfl, rfl⟩, qm_en ht hP hD⟩, hS.F ht⟩) hS.2.2 dL_showRow_28
  · obtain ⟨rfl, rfl, rfl⟩ := la_wV hw hz
    obtain ⟨hP, hD⟩ := qm_bk ht hB
    refine lv_i2l (v := v.toInt64) hx hb dL_showRow_12 rfl ?_
    refine va_last hx hb hK hP hD hS 82 2 lg_L rfl (i := (0 : Int32)) la_in0 dL_showRow_13 (fun H locs hP hD hS => ?_)
    rw [ls_L] at hP hD
    refine lv_goto (tgt := 29) hx hb dL_showRow_14 (by decide) ?_
    refine lv_iconst (v := (0 : Int32)) hx hb dL_showRow_29 (by decide) ?_
    refine vx_ret ?_
    refine W.widen (k := 5) (n := 30) (Nat.le_of_ble_eq_true rfl) (Nat.le_of_ble_eq_true rfl) ?_
    exact W.iret (v := (0 : Int32)) hx hb hr (fun t ht hW => ⟨⟨0, (S', la_uo o v), rfl, ⟨rfl, rfl⟩, qm_en ht hP hD⟩, hS.F ht⟩) hS.2.2 dL_showRow_30
set_option maxHeartbeats 4000000 in
set_option maxRecDepth 100000 in
theorem wL_thinOut {l : Launch} (hst : l.stackTraces = false) (D : va_G) (A : Nat → Prop) (ad : Nat → Nat) (cI cQ cL cD : ClassId) (aL aD : Nat) (tl : va_W) (S : qm_S) (o : Nat → Int64) (d : Nat → UInt64) (p0 : Int32) (z : (Int32 × qm_S) ⊕ String) (h : fX6_thinOut S p0 = some z) (k : Int32) (S' : qm_S) (o' : Nat → Int64) (hz : la_w st_1 z S o k S' o') : vx_Met l yL_thinOut wsL_thinOut ({ frames := 8, cells := 1, slots := 6, locals := 135 }) (va_Pc [.ref (ad 0), .int p0, .ref aL] (qm_BZ D A (la_T cI cQ cL cD) (qm_W ad cI cQ (la_r aL aD cL cD o d tl) S))) (qm_Qi D A (fun (u : qm_S × (Nat → Int64)) => qm_W ad cI cQ (la_r aL aD cL cD u.2 d tl) u.1) (k, (S', o'))) (vx_X (fun (_ : Unit) => False) (fun _ _ _ => True) A) 1 6 A := by
  refine vx_ofWH (cc := cL_thinOut) (maxL := 4) (ret := some .int) (hh := [(0, 9, 12, 13)]) (by decide) rfl ?_
  intro p e s m args below meth c s₁ B hml hv
  obtain ⟨rfl, ⟨hA, hP, hK, hD⟩, hZ⟩ := hv
  have hK2 : va_K D vwCl (qm_T cI cQ) s := hK.sub [0, 1] rfl
  have hx := B.exec
  have hb := B.bytes
  have hr := B.returns
  have hts := atoms_spec (ws := wsL_thinOut) B.pre
  have hown : s.vm.findClass RL = some m.cls := findClass_of_methodNamed B.named
  have hlocks := B.notSynchronized
  have htab : c.exceptionTable.toList = [⟨0, 9, 12, 13⟩] := vx_table (x := yL_thinOut) B (hts _ List.mem_cons_self)
  have hS : va_S A s.heap s.heap [] := va_S.rf
  have hl := lv_entry ([.ref (ad 0), .int p0, .ref aL]) (n := 4) (Nat.le_of_ble_eq_true rfl)
  rw [lg_entry_eq]
  generalize (lg_sl ([.ref (ad 0), .int p0, .ref aL]) ++ List.replicate (4 - (lg_sl ([.ref (ad 0), .int p0, .ref aL])).length) Slot.unset).toArray = ls at hl ⊢
  have hl : lv_has ls 4 [(0, .ref (ad 0)), (1, .int p0), (2, .ref aL)] := hl
  refine lv_aload_n hx hb dL_thinOut_0 rfl (lv_at hl 2 rfl) ?_
  refine lv_iconst (v := (0 : Int32)) hx hb dL_thinOut_1 (by decide) ?_
  refine lv_aload_n hx hb dL_thinOut_2 rfl (lv_at hl 0 rfl) ?_
  refine lv_iload_n hx hb dL_thinOut_3 rfl (lv_at hl 1 rfl) ?_
  refine vx_calli (vx_runV (As := [.int p0]) (rest := [.int (0 : Int32), .ref aL]) ⟨hx, hb, hml, hown, hts⟩ (kX6_thinOut hst l D A ad cI cQ (la_r aL aD cL cD o d tl) S p0 z h) (cwV 1 hts gL_thinOut_X6_thinOut rfl rfl rfl (by decide +kernel) ⟨Nat.le_of_ble_eq_true rfl, Nat.le_of_ble_eq_true rfl⟩) ⟨qm_blindZ, va_recv hK2 hP (ci := 6) (q0 := 0) rfl qg_Q, fun U hU hW => ⟨rfl, qm_go hA hS hP hK2 hD hU hW, qm_Zgo hZ hS hU hW⟩⟩ rfl rfl hl.1 rfl (lv_room (Nat.le_of_ble_eq_true rfl)) dL_thinOut_4 ⟨Nat.le_of_ble_eq_true rfl, Nat.le_of_ble_eq_true rfl⟩) hS (fun _ _ h9 => h9) (fun _ h9 => h9) (fun _ _ h9 => h9) (fun E ce q9 u9 t H1 locs1 ht hvm hw hB hz1 hk1 hS hce hcv hcl => ?_) (fun v u t H1 locs1 ht hvm hw hB hz1 hk1 hS => ?_)
  · obtain ⟨hE1, hE2⟩ := hB
    obtain ⟨hP, hD⟩ := qm_bk ht hE2
    obtain ⟨i, rfl, rfl, rfl, hi⟩ := la_wE hE1 hz
    rcases la_st_1 hi with ⟨rfl, rfl⟩
    · refine vx_catch hown [] ⟨0, 9, 12, 13⟩ [] htab (fun _ h9 => absurd h9 List.not_mem_nil) (by decide) (by decide) (hts (.classLink RL 13 "java/lang/IndexOutOfBoundsException") (by decide +kernel)) (va_Nw.use rfl (qz_c0 hZ)) hce hcv hcl ?_
      refine W.eq (g2 := F0 m 12 ls [.ref q9]) rfl ?_
      refine lv_astore_n (lv' := [(3, .ref q9), (0, .ref (ad 0)), (1, .int p0), (2, .ref aL)]) hx hb dL_thinOut_12 rfl hl (by decide) rfl (fun ls hl => ?_)
      refine lv_iconst (v := (1 : Int32)) hx hb dL_thinOut_13 (by decide) ?_
      refine vx_ret ?_
      refine W.widen (k := 1) (n := 6) (Nat.le_of_ble_eq_true rfl) (Nat.le_of_ble_eq_true rfl) ?_
      exact W.iret (v := (1 : Int32)) hx hb hr (fun t ht hW => ⟨⟨1, (S', o'), rfl, ⟨rfl, rfl⟩, qm_en ht hP hD⟩, hS.F ht⟩) hS.2.2 dL_thinOut_14
  · obtain ⟨rfl, rfl, rfl⟩ := la_wV hw hz
    obtain ⟨hP, hD⟩ := qm_bk ht hB
    refine lv_i2l (v := v.toInt64) hx hb dL_thinOut_7 rfl ?_
    refine va_last hx hb hK hP hD hS 82 2 lg_L rfl (i := (0 : Int32)) la_in0 dL_thinOut_8 (fun H locs hP hD hS => ?_)
    rw [ls_L] at hP hD
    refine lv_goto (tgt := 15) hx hb dL_thinOut_9 (by decide) ?_
    refine lv_iconst (v := (0 : Int32)) hx hb dL_thinOut_15 (by decide) ?_
    refine vx_ret ?_
    refine W.widen (k := 1) (n := 6) (Nat.le_of_ble_eq_true rfl) (Nat.le_of_ble_eq_true rfl) ?_
    exact W.iret (v := (0 : Int32)) hx hb hr (fun t ht hW => ⟨⟨0, (S', la_uo o v), rfl, ⟨rfl, rfl⟩, qm_en ht hP hD⟩, hS.F ht⟩) hS.2.2 dL_thinOut_16
set_option maxHeartbeats 4000000 in
set_option maxRecDepth 100000 in
theorem wL_pour {l : Launch} (hst : l.stackTraces = false) (D : va_G) (A : Nat → Prop) (ad : Nat → Nat) (cI cQ cL cD : ClassId) (aL aD : Nat) (tl : va_W) (S : qm_S) (o : Nat → Int64) (d : Nat → UInt64) (p0 : Int32) (p1 : Int32) (z : (Int32 × qm_S) ⊕ String) (h : fX6_pour S p0 p1 = some z) (k : Int32) (S' : qm_S) (o' : Nat → Int64) (hz : la_w st_3 z S o k S' o') : vx_Met l yL_pour wsL_pour ({ frames := 8, cells := 3, slots := 18, locals := 175 }) (va_Pc [.ref (ad 0), .int p0, .int p1, .ref aL] (qm_BZ D A (la_T cI cQ cL cD) (qm_W ad cI cQ (la_r aL aD cL cD o d tl) S))) (qm_Qi D A (fun (u : qm_S × (Nat → Int64)) => qm_W ad cI cQ (la_r aL aD cL cD u.2 d tl) u.1) (k, (S', o'))) (vx_X (fun (_ : Unit) => False) (fun _ _ _ => True) A) 3 18 A := by
  refine vx_ofWH (cc := cL_pour) (maxL := 5) (ret := some .int) (hh := [(0, 10, 13, 13), (0, 10, 17, 15), (0, 10, 21, 20)]) (by decide) rfl ?_
  intro p e s m args below meth c s₁ B hml hv
  obtain ⟨rfl, ⟨hA, hP, hK, hD⟩, hZ⟩ := hv
  have hK2 : va_K D vwCl (qm_T cI cQ) s := hK.sub [0, 1] rfl
  have hx := B.exec
  have hb := B.bytes
  have hr := B.returns
  have hts := atoms_spec (ws := wsL_pour) B.pre
  have hown : s.vm.findClass RL = some m.cls := findClass_of_methodNamed B.named
  have hlocks := B.notSynchronized
  have htab : c.exceptionTable.toList = [⟨0, 10, 13, 13⟩, ⟨0, 10, 17, 15⟩, ⟨0, 10, 21, 20⟩] := vx_table (x := yL_pour) B (hts _ List.mem_cons_self)
  have hS : va_S A s.heap s.heap [] := va_S.rf
  have hl := lv_entry ([.ref (ad 0), .int p0, .int p1, .ref aL]) (n := 5) (Nat.le_of_ble_eq_true rfl)
  rw [lg_entry_eq]
  generalize (lg_sl ([.ref (ad 0), .int p0, .int p1, .ref aL]) ++ List.replicate (5 - (lg_sl ([.ref (ad 0), .int p0, .int p1, .ref aL])).length) Slot.unset).toArray = ls at hl ⊢
  have hl : lv_has ls 5 [(0, .ref (ad 0)), (1, .int p0), (2, .int p1), (3, .ref aL)] := hl
  refine lv_aload_n hx hb dL_pour_0 rfl (lv_at hl 3 rfl) ?_
  refine lv_iconst (v := (0 : Int32)) hx hb dL_pour_1 (by decide) ?_
  refine lv_aload_n hx hb dL_pour_2 rfl (lv_at hl 0 rfl) ?_
  refine lv_iload_n hx hb dL_pour_3 rfl (lv_at hl 1 rfl) ?_
  refine lv_iload_n hx hb dL_pour_4 rfl (lv_at hl 2 rfl) ?_
  refine vx_calli (vx_runV (As := [.int p0, .int p1]) (rest := [.int (0 : Int32), .ref aL]) ⟨hx, hb, hml, hown, hts⟩ (kX6_pour hst l D A ad cI cQ (la_r aL aD cL cD o d tl) S p0 p1 z h) (cwV 2 hts gL_pour_X6_pour rfl rfl rfl (by decide +kernel) ⟨Nat.le_of_ble_eq_true rfl, Nat.le_of_ble_eq_true rfl⟩) ⟨qm_blindZ, va_recv hK2 hP (ci := 6) (q0 := 0) rfl qg_Q, fun U hU hW => ⟨rfl, qm_go hA hS hP hK2 hD hU hW, qm_Zgo hZ hS hU hW⟩⟩ rfl rfl hl.1 rfl (lv_room (Nat.le_of_ble_eq_true rfl)) dL_pour_5 ⟨Nat.le_of_ble_eq_true rfl, Nat.le_of_ble_eq_true rfl⟩) hS (fun _ _ h9 => h9) (fun _ h9 => h9) (fun _ _ h9 => h9) (fun E ce q9 u9 t H1 locs1 ht hvm hw hB hz1 hk1 hS hce hcv hcl => ?_) (fun v u t H1 locs1 ht hvm hw hB hz1 hk1 hS => ?_)
  · obtain ⟨hE1, hE2⟩ := hB
    obtain ⟨hP, hD⟩ := qm_bk ht hE2
    obtain ⟨i, rfl, rfl, rfl, hi⟩ := la_wE hE1 hz
    rcases la_st_3 hi with ⟨rfl, rfl⟩ | ⟨rfl, rfl⟩ | ⟨rfl, rfl⟩
    · refine vx_catch hown [] ⟨0, 10, 13, 13⟩ [⟨0, 10, 17, 15⟩, ⟨0, 10, 21, 20⟩] htab (fun _ h9 => absurd h9 List.not_mem_nil) (by decide) (by decide) (hts (.classLink RL 13 "java/lang/IndexOutOfBoundsException") (by decide +kernel)) (va_Nw.use rfl (qz_c0 hZ)) hce hcv hcl ?_
      refine W.eq (g2 := F0 m 13 ls [.ref q9]) rfl ?_
      refine lv_astore (lv' := [(4, .ref q9), (0, .ref (ad 0)), (1, .int p0), (2, .int p1), (3, .ref aL)]) hx hb dL_pour_13 hl (by decide) rfl (fun ls hl => ?_)
      refine lv_iconst (v := (1 : Int32)) hx hb dL_pour_15 (by decide) ?_
      refine vx_ret ?_
      refine W.widen (k := 3) (n := 18) (Nat.le_of_ble_eq_true rfl) (Nat.le_of_ble_eq_true rfl) ?_
      exact W.iret (v := (1 : Int32)) hx hb hr (fun t ht hW => ⟨⟨1, (S', o'), rfl, ⟨rfl, rfl⟩, qm_en ht hP hD⟩, hS.F ht⟩) hS.2.2 dL_pour_16
    · refine vx_catch hown [⟨0, 10, 13, 13⟩] ⟨0, 10, 17, 15⟩ [⟨0, 10, 21, 20⟩] htab (List.forall_mem_cons.mpr ⟨Or.inr ⟨by decide, "java/lang/IndexOutOfBoundsException", hts (.classLink RL 13 "java/lang/IndexOutOfBoundsException") (by decide +kernel), qz_x0 hZ⟩, fun _ h9 => absurd h9 List.not_mem_nil⟩) (by decide) (by decide) (hts (.classLink RL 15 "java/lang/IllegalArgumentException") (by decide +kernel)) (va_Nw.use rfl (qz_c1 hZ)) hce hcv hcl ?_
      refine W.eq (g2 := F0 m 17 ls [.ref q9]) rfl ?_
      refine lv_astore (lv' := [(4, .ref q9), (0, .ref (ad 0)), (1, .int p0), (2, .int p1), (3, .ref aL)]) hx hb dL_pour_17 hl (by decide) rfl (fun ls hl => ?_)
      refine lv_iconst (v := (2 : Int32)) hx hb dL_pour_19 (by decide) ?_
      refine vx_ret ?_
      refine W.widen (k := 3) (n := 18) (Nat.le_of_ble_eq_true rfl) (Nat.le_of_ble_eq_true rfl) ?_
      exact W.iret (v := (2 : Int32)) hx hb hr (fun t ht hW => ⟨⟨2, (S', o'), rfl, ⟨rfl, rfl⟩, qm_en ht hP hD⟩, hS.F ht⟩) hS.2.2 dL_pour_20
    · refine vx_catch hown [⟨0, 10, 13, 13⟩, ⟨0, 10, 17, 15⟩] ⟨0, 10, 21, 20⟩ [] htab (List.forall_mem_cons.mpr ⟨Or.inr ⟨by decide, "java/lang/IndexOutOfBoundsException", hts (.classLink RL 13 "java/lang/IndexOutOfBoundsException") (by decide +kernel), qz_x1 hZ⟩, List.forall_mem_cons.mpr ⟨Or.inr ⟨by decide, "java/lang/IllegalArgumentException", hts (.classLink RL 15 "java/lang/IllegalArgumentException") (by decide +kernel), qz_x2 hZ⟩, fun _ h9 => absurd h9 List.not_mem_nil⟩⟩) (by decide) (by decide) (hts (.classLink RL 20 "java/lang/IllegalStateException") (by decide +kernel)) (va_Nw.use rfl (qz_c2 hZ)) hce hcv hcl ?_
      refine W.eq (g2 := F0 m 21 ls [.ref q9]) rfl ?_
      refine lv_astore (lv' := [(4, .ref q9), (0, .ref (ad 0)), (1, .int p0), (2, .int p1), (3, .ref aL)]) hx hb dL_pour_21 hl (by decide) rfl (fun ls hl => ?_)
      refine lv_iconst (v := (3 : Int32)) hx hb dL_pour_23 (by decide) ?_
      refine vx_ret ?_
      refine W.widen (k := 3) (n := 18) (Nat.le_of_ble_eq_true rfl) (Nat.le_of_ble_eq_true rfl) ?_
      exact W.iret (v := (3 : Int32)) hx hb hr (fun t ht hW => ⟨⟨3, (S', o'), rfl, ⟨rfl, rfl⟩, qm_en ht hP hD⟩, hS.F ht⟩) hS.2.2 dL_pour_24
  · obtain ⟨rfl, rfl, rfl⟩ := la_wV hw hz
    obtain ⟨hP, hD⟩ := qm_bk ht hB
    refine lv_i2l (v := v.toInt64) hx hb dL_pour_8 rfl ?_
    refine va_last hx hb hK hP hD hS 82 2 lg_L rfl (i := (0 : Int32)) la_in0 dL_pour_9 (fun H locs hP hD hS => ?_)
    rw [ls_L] at hP hD
    refine lv_goto (tgt := 25) hx hb dL_pour_10 (by decide) ?_
    refine lv_iconst (v := (0 : Int32)) hx hb dL_pour_25 (by decide) ?_
    refine vx_ret ?_
    refine W.widen (k := 3) (n := 18) (Nat.le_of_ble_eq_true rfl) (Nat.le_of_ble_eq_true rfl) ?_
    exact W.iret (v := (0 : Int32)) hx hb hr (fun t ht hW => ⟨⟨0, (S', la_uo o v), rfl, ⟨rfl, rfl⟩, qm_en ht hP hD⟩, hS.F ht⟩) hS.2.2 dL_pour_26
set_option maxHeartbeats 4000000 in
set_option maxRecDepth 100000 in
theorem wL_count {l : Launch} (hst : l.stackTraces = false) (D : va_G) (A : Nat → Prop) (ad : Nat → Nat) (cI cQ cL cD : ClassId) (aL aD : Nat) (tl : va_W) (S : qm_S) (o : Nat → Int64) (d : Nat → UInt64) (p0 : Int32) (z : Int32 ⊕ String) (h : fX6_count S p0 = some z) (k : Int32) (o' : Nat → Int64) (hz : la_p st_1 z o k o') : vx_Met l yL_count wsL_count ({ frames := 8, cells := 1, slots := 6, locals := 132 }) (va_Pc [.ref (ad 0), .int p0, .ref aL] (qm_BZ D A (la_T cI cQ cL cD) (qm_W ad cI cQ (la_r aL aD cL cD o d tl) S))) (qm_Qi D A (fun o => qm_W ad cI cQ (la_r aL aD cL cD o d tl) S) (k, o')) (vx_X (fun (_ : Unit) => False) (fun _ _ _ => True) A) 1 6 A := by
  refine vx_ofWH (cc := cL_count) (maxL := 4) (ret := some .int) (hh := [(0, 9, 12, 13)]) (by decide) rfl ?_
  intro p e s m args below meth c s₁ B hml hv
  obtain ⟨rfl, ⟨hA, hP, hK, hD⟩, hZ⟩ := hv
  have hK2 : va_K D vwCl (qm_T cI cQ) s := hK.sub [0, 1] rfl
  have hx := B.exec
  have hb := B.bytes
  have hr := B.returns
  have hts := atoms_spec (ws := wsL_count) B.pre
  have hown : s.vm.findClass RL = some m.cls := findClass_of_methodNamed B.named
  have hlocks := B.notSynchronized
  have htab : c.exceptionTable.toList = [⟨0, 9, 12, 13⟩] := vx_table (x := yL_count) B (hts _ List.mem_cons_self)
  have hS : va_S A s.heap s.heap [] := va_S.rf
  have hl := lv_entry ([.ref (ad 0), .int p0, .ref aL]) (n := 4) (Nat.le_of_ble_eq_true rfl)
  rw [lg_entry_eq]
  generalize (lg_sl ([.ref (ad 0), .int p0, .ref aL]) ++ List.replicate (4 - (lg_sl ([.ref (ad 0), .int p0, .ref aL])).length) Slot.unset).toArray = ls at hl ⊢
  have hl : lv_has ls 4 [(0, .ref (ad 0)), (1, .int p0), (2, .ref aL)] := hl
  refine lv_aload_n hx hb dL_count_0 rfl (lv_at hl 2 rfl) ?_
  refine lv_iconst (v := (0 : Int32)) hx hb dL_count_1 (by decide) ?_
  refine lv_aload_n hx hb dL_count_2 rfl (lv_at hl 0 rfl) ?_
  refine lv_iload_n hx hb dL_count_3 rfl (lv_at hl 1 rfl) ?_
  refine vx_calli (vx_runV (As := [.int p0]) (rest := [.int (0 : Int32), .ref aL]) ⟨hx, hb, hml, hown, hts⟩ (kX6_count hst l D A ad cI cQ (la_r aL aD cL cD o d tl) S p0 z h) (cwV 1 hts gL_count_X6_count rfl rfl rfl (by decide +kernel) ⟨Nat.le_of_ble_eq_true rfl, Nat.le_of_ble_eq_true rfl⟩) ⟨qm_blindZ, va_recv hK2 hP (ci := 6) (q0 := 0) rfl qg_Q, fun U hU hW => ⟨rfl, qm_go hA hS hP hK2 hD hU hW, qm_Zgo hZ hS hU hW⟩⟩ rfl rfl hl.1 rfl (lv_room (Nat.le_of_ble_eq_true rfl)) dL_count_4 ⟨Nat.le_of_ble_eq_true rfl, Nat.le_of_ble_eq_true rfl⟩) hS (fun _ _ h9 => h9) (fun _ h9 => h9) (fun _ _ h9 => h9) (fun E ce q9 u9 t H1 locs1 ht hvm hw hB hz1 hk1 hS hce hcv hcl => ?_) (fun v u t H1 locs1 ht hvm hw hB hz1 hk1 hS => ?_)
  · obtain ⟨hE1, hE2⟩ := hB
    obtain ⟨hP, hD⟩ := qm_bk ht hE2
    obtain ⟨i, rfl, rfl, hi⟩ := la_pE hE1 hz
    rcases la_st_1 hi with ⟨rfl, rfl⟩
    · refine vx_catch hown [] ⟨0, 9, 12, 13⟩ [] htab (fun _ h9 => absurd h9 List.not_mem_nil) (by decide) (by decide) (hts (.classLink RL 13 "java/lang/IndexOutOfBoundsException") (by decide +kernel)) (va_Nw.use rfl (qz_c0 hZ)) hce hcv hcl ?_
      refine W.eq (g2 := F0 m 12 ls [.ref q9]) rfl ?_
      refine lv_astore_n (lv' := [(3, .ref q9), (0, .ref (ad 0)), (1, .int p0), (2, .ref aL)]) hx hb dL_count_12 rfl hl (by decide) rfl (fun ls hl => ?_)
      refine lv_iconst (v := (1 : Int32)) hx hb dL_count_13 (by decide) ?_
      refine vx_ret ?_
      refine W.widen (k := 1) (n := 6) (Nat.le_of_ble_eq_true rfl) (Nat.le_of_ble_eq_true rfl) ?_
      exact W.iret (v := (1 : Int32)) hx hb hr (fun t ht hW => ⟨⟨1, o', rfl, ⟨rfl, rfl⟩, qm_en ht hP hD⟩, hS.F ht⟩) hS.2.2 dL_count_14
  · obtain ⟨hw1, hw2⟩ := hw
    have hw2 : S = u := hw2.symm
    subst hw2
    obtain ⟨rfl, rfl⟩ := la_pV hw1 hz
    obtain ⟨hP, hD⟩ := qm_bk ht hB
    refine lv_i2l (v := v.toInt64) hx hb dL_count_7 rfl ?_
    refine va_last hx hb hK hP hD hS 82 2 lg_L rfl (i := (0 : Int32)) la_in0 dL_count_8 (fun H locs hP hD hS => ?_)
    rw [ls_L] at hP hD
    refine lv_goto (tgt := 15) hx hb dL_count_9 (by decide) ?_
    refine lv_iconst (v := (0 : Int32)) hx hb dL_count_15 (by decide) ?_
    refine vx_ret ?_
    refine W.widen (k := 1) (n := 6) (Nat.le_of_ble_eq_true rfl) (Nat.le_of_ble_eq_true rfl) ?_
    exact W.iret (v := (0 : Int32)) hx hb hr (fun t ht hW => ⟨⟨0, la_uo o v, rfl, ⟨rfl, rfl⟩, qm_en ht hP hD⟩, hS.F ht⟩) hS.2.2 dL_count_16
set_option maxHeartbeats 4000000 in
set_option maxRecDepth 100000 in
theorem wL_bound {l : Launch} (hst : l.stackTraces = false) (D : va_G) (A : Nat → Prop) (ad : Nat → Nat) (cI cQ cL cD : ClassId) (aL aD : Nat) (tl : va_W) (S : qm_S) (o : Nat → Int64) (d : Nat → UInt64) (p0 : Int32) (z : Int32 ⊕ String) (h : fX6_bound S p0 = some z) (k : Int32) (o' : Nat → Int64) (hz : la_p st_1 z o k o') : vx_Met l yL_bound wsL_bound ({ frames := 8, cells := 1, slots := 6, locals := 132 }) (va_Pc [.ref (ad 0), .int p0, .ref aL] (qm_BZ D A (la_T cI cQ cL cD) (qm_W ad cI cQ (la_r aL aD cL cD o d tl) S))) (qm_Qi D A (fun o => qm_W ad cI cQ (la_r aL aD cL cD o d tl) S) (k, o')) (vx_X (fun (_ : Unit) => False) (fun _ _ _ => True) A) 1 6 A := by
  refine vx_ofWH (cc := cL_bound) (maxL := 4) (ret := some .int) (hh := [(0, 9, 12, 13)]) (by decide) rfl ?_
  intro p e s m args below meth c s₁ B hml hv
  obtain ⟨rfl, ⟨hA, hP, hK, hD⟩, hZ⟩ := hv
  have hK2 : va_K D vwCl (qm_T cI cQ) s := hK.sub [0, 1] rfl
  have hx := B.exec
  have hb := B.bytes
  have hr := B.returns
  have hts := atoms_spec (ws := wsL_bound) B.pre
  have hown : s.vm.findClass RL = some m.cls := findClass_of_methodNamed B.named
  have hlocks := B.notSynchronized
  have htab : c.exceptionTable.toList = [⟨0, 9, 12, 13⟩] := vx_table (x := yL_bound) B (hts _ List.mem_cons_self)
  have hS : va_S A s.heap s.heap [] := va_S.rf
  have hl := lv_entry ([.ref (ad 0), .int p0, .ref aL]) (n := 4) (Nat.le_of_ble_eq_true rfl)
  rw [lg_entry_eq]
  generalize (lg_sl ([.ref (ad 0), .int p0, .ref aL]) ++ List.replicate (4 - (lg_sl ([.ref (ad 0), .int p0, .ref aL])).length) Slot.unset).toArray = ls at hl ⊢
  have hl : lv_has ls 4 [(0, .ref (ad 0)), (1, .int p0), (2, .ref aL)] := hl
  refine lv_aload_n hx hb dL_bound_0 rfl (lv_at hl 2 rfl) ?_
  refine lv_iconst (v := (0 : Int32)) hx hb dL_bound_1 (by decide) ?_
  refine lv_aload_n hx hb dL_bound_2 rfl (lv_at hl 0 rfl) ?_
  refine lv_iload_n hx hb dL_bound_3 rfl (lv_at hl 1 rfl) ?_
  refine vx_calli (vx_runV (As := [.int p0]) (rest := [.int (0 : Int32), .ref aL]) ⟨hx, hb, hml, hown, hts⟩ (kX6_bound hst l D A ad cI cQ (la_r aL aD cL cD o d tl) S p0 z h) (cwV 1 hts gL_bound_X6_bound rfl rfl rfl (by decide +kernel) ⟨Nat.le_of_ble_eq_true rfl, Nat.le_of_ble_eq_true rfl⟩) ⟨qm_blindZ, va_recv hK2 hP (ci := 6) (q0 := 0) rfl qg_Q, fun U hU hW => ⟨rfl, qm_go hA hS hP hK2 hD hU hW, qm_Zgo hZ hS hU hW⟩⟩ rfl rfl hl.1 rfl (lv_room (Nat.le_of_ble_eq_true rfl)) dL_bound_4 ⟨Nat.le_of_ble_eq_true rfl, Nat.le_of_ble_eq_true rfl⟩) hS (fun _ _ h9 => h9) (fun _ h9 => h9) (fun _ _ h9 => h9) (fun E ce q9 u9 t H1 locs1 ht hvm hw hB hz1 hk1 hS hce hcv hcl => ?_) (fun v u t H1 locs1 ht hvm hw hB hz1 hk1 hS => ?_)
  · obtain ⟨hE1, hE2⟩ := hB
    obtain ⟨hP, hD⟩ := qm_bk ht hE2
    obtain ⟨i, rfl, rfl, hi⟩ := la_pE hE1 hz
    rcases la_st_1 hi with ⟨rfl, rfl⟩
    · refine vx_catch hown [] ⟨0, 9, 12, 13⟩ [] htab (fun _ h9 => absurd h9 List.not_mem_nil) (by decide) (by decide) (hts (.classLink RL 13 "java/lang/IndexOutOfBoundsException") (by decide +kernel)) (va_Nw.use rfl (qz_c0 hZ)) hce hcv hcl ?_
      refine W.eq (g2 := F0 m 12 ls [.ref q9]) rfl ?_
      refine lv_astore_n (lv' := [(3, .ref q9), (0, .ref (ad 0)), (1, .int p0), (2, .ref aL)]) hx hb dL_bound_12 rfl hl (by decide) rfl (fun ls hl => ?_)
      refine lv_iconst (v := (1 : Int32)) hx hb dL_bound_13 (by decide) ?_
      refine vx_ret ?_
      refine W.widen (k := 1) (n := 6) (Nat.le_of_ble_eq_true rfl) (Nat.le_of_ble_eq_true rfl) ?_
      exact W.iret (v := (1 : Int32)) hx hb hr (fun t ht hW => ⟨⟨1, o', rfl, ⟨rfl, rfl⟩, qm_en ht hP hD⟩, hS.F ht⟩) hS.2.2 dL_bound_14
  · obtain ⟨hw1, hw2⟩ := hw
    have hw2 : S = u := hw2.symm
    subst hw2
    obtain ⟨rfl, rfl⟩ := la_pV hw1 hz
    obtain ⟨hP, hD⟩ := qm_bk ht hB
    refine lv_i2l (v := v.toInt64) hx hb dL_bound_7 rfl ?_
    refine va_last hx hb hK hP hD hS 82 2 lg_L rfl (i := (0 : Int32)) la_in0 dL_bound_8 (fun H locs hP hD hS => ?_)
    rw [ls_L] at hP hD
    refine lv_goto (tgt := 15) hx hb dL_bound_9 (by decide) ?_
    refine lv_iconst (v := (0 : Int32)) hx hb dL_bound_15 (by decide) ?_
    refine vx_ret ?_
    refine W.widen (k := 1) (n := 6) (Nat.le_of_ble_eq_true rfl) (Nat.le_of_ble_eq_true rfl) ?_
    exact W.iret (v := (0 : Int32)) hx hb hr (fun t ht hW => ⟨⟨0, la_uo o v, rfl, ⟨rfl, rfl⟩, qm_en ht hP hD⟩, hS.F ht⟩) hS.2.2 dL_bound_16
set_option maxHeartbeats 4000000 in
set_option maxRecDepth 100000 in
theorem wL_allowance {l : Launch} (hst : l.stackTraces = false) (D : va_G) (A : Nat → Prop) (ad : Nat → Nat) (cI cQ cL cD : ClassId) (aL aD : Nat) (tl : va_W) (S : qm_S) (o : Nat → Int64) (d : Nat → UInt64) (p0 : Int32) (z : Int32 ⊕ String) (h : fX6_allowance S p0 = some z) (k : Int32) (o' : Nat → Int64) (hz : la_p st_1 z o k o') : vx_Met l yL_allowance wsL_allowance ({ frames := 8, cells := 1, slots := 6, locals := 132 }) (va_Pc [.ref (ad 0), .int p0, .ref aL] (qm_BZ D A (la_T cI cQ cL cD) (qm_W ad cI cQ (la_r aL aD cL cD o d tl) S))) (qm_Qi D A (fun o => qm_W ad cI cQ (la_r aL aD cL cD o d tl) S) (k, o')) (vx_X (fun (_ : Unit) => False) (fun _ _ _ => True) A) 1 6 A := by
  refine vx_ofWH (cc := cL_allowance) (maxL := 4) (ret := some .int) (hh := [(0, 9, 12, 13)]) (by decide) rfl ?_
  intro p e s m args below meth c s₁ B hml hv
  obtain ⟨rfl, ⟨hA, hP, hK, hD⟩, hZ⟩ := hv
  have hK2 : va_K D vwCl (qm_T cI cQ) s := hK.sub [0, 1] rfl
  have hx := B.exec
  have hb := B.bytes
  have hr := B.returns
  have hts := atoms_spec (ws := wsL_allowance) B.pre
  have hown : s.vm.findClass RL = some m.cls := findClass_of_methodNamed B.named
  have hlocks := B.notSynchronized
  have htab : c.exceptionTable.toList = [⟨0, 9, 12, 13⟩] := vx_table (x := yL_allowance) B (hts _ List.mem_cons_self)
  have hS : va_S A s.heap s.heap [] := va_S.rf
  have hl := lv_entry ([.ref (ad 0), .int p0, .ref aL]) (n := 4) (Nat.le_of_ble_eq_true rfl)
  rw [lg_entry_eq]
  generalize (lg_sl ([.ref (ad 0), .int p0, .ref aL]) ++ List.replicate (4 - (lg_sl ([.ref (ad 0), .int p0, .ref aL])).length) Slot.unset).toArray = ls at hl ⊢
  have hl : lv_has ls 4 [(0, .ref (ad 0)), (1, .int p0), (2, .ref aL)] := hl
  refine lv_aload_n hx hb dL_allowance_0 rfl (lv_at hl 2 rfl) ?_
  refine lv_iconst (v := (0 : Int32)) hx hb dL_allowance_1 (by decide) ?_
  refine lv_aload_n hx hb dL_allowance_2 rfl (lv_at hl 0 rfl) ?_
  refine lv_iload_n hx hb dL_allowance_3 rfl (lv_at hl 1 rfl) ?_
  refine vx_calli (vx_runV (As := [.int p0]) (rest := [.int (0 : Int32), .ref aL]) ⟨hx, hb, hml, hown, hts⟩ (kX6_allowance hst l D A ad cI cQ (la_r aL aD cL cD o d tl) S p0 z h) (cwV 1 hts gL_allowance_X6_allowance rfl rfl rfl (by decide +kernel) ⟨Nat.le_of_ble_eq_true rfl, Nat.le_of_ble_eq_true rfl⟩) ⟨qm_blindZ, va_recv hK2 hP (ci := 6) (q0 := 0) rfl qg_Q, fun U hU hW => ⟨rfl, qm_go hA hS hP hK2 hD hU hW, qm_Zgo hZ hS hU hW⟩⟩ rfl rfl hl.1 rfl (lv_room (Nat.le_of_ble_eq_true rfl)) dL_allowance_4 ⟨Nat.le_of_ble_eq_true rfl, Nat.le_of_ble_eq_true rfl⟩) hS (fun _ _ h9 => h9) (fun _ h9 => h9) (fun _ _ h9 => h9) (fun E ce q9 u9 t H1 locs1 ht hvm hw hB hz1 hk1 hS hce hcv hcl => ?_) (fun v u t H1 locs1 ht hvm hw hB hz1 hk1 hS => ?_)
  · obtain ⟨hE1, hE2⟩ := hB
    obtain ⟨hP, hD⟩ := qm_bk ht hE2
    obtain ⟨i, rfl, rfl, hi⟩ := la_pE hE1 hz
    rcases la_st_1 hi with ⟨rfl, rfl⟩
    · refine vx_catch hown [] ⟨0, 9, 12, 13⟩ [] htab (fun _ h9 => absurd h9 List.not_mem_nil) (by decide) (by decide) (hts (.classLink RL 13 "java/lang/IndexOutOfBoundsException") (by decide +kernel)) (va_Nw.use rfl (qz_c0 hZ)) hce hcv hcl ?_
      refine W.eq (g2 := F0 m 12 ls [.ref q9]) rfl ?_
      refine lv_astore_n (lv' := [(3, .ref q9), (0, .ref (ad 0)), (1, .int p0), (2, .ref aL)]) hx hb dL_allowance_12 rfl hl (by decide) rfl (fun ls hl => ?_)
      refine lv_iconst (v := (1 : Int32)) hx hb dL_allowance_13 (by decide) ?_
      refine vx_ret ?_
      refine W.widen (k := 1) (n := 6) (Nat.le_of_ble_eq_true rfl) (Nat.le_of_ble_eq_true rfl) ?_
      exact W.iret (v := (1 : Int32)) hx hb hr (fun t ht hW => ⟨⟨1, o', rfl, ⟨rfl, rfl⟩, qm_en ht hP hD⟩, hS.F ht⟩) hS.2.2 dL_allowance_14
  · obtain ⟨hw1, hw2⟩ := hw
    have hw2 : S = u := hw2.symm
    subst hw2
    obtain ⟨rfl, rfl⟩ := la_pV hw1 hz
    obtain ⟨hP, hD⟩ := qm_bk ht hB
    refine lv_i2l (v := v.toInt64) hx hb dL_allowance_7 rfl ?_
    refine va_last hx hb hK hP hD hS 82 2 lg_L rfl (i := (0 : Int32)) la_in0 dL_allowance_8 (fun H locs hP hD hS => ?_)
    rw [ls_L] at hP hD
    refine lv_goto (tgt := 15) hx hb dL_allowance_9 (by decide) ?_
    refine lv_iconst (v := (0 : Int32)) hx hb dL_allowance_15 (by decide) ?_
    refine vx_ret ?_
    refine W.widen (k := 1) (n := 6) (Nat.le_of_ble_eq_true rfl) (Nat.le_of_ble_eq_true rfl) ?_
    exact W.iret (v := (0 : Int32)) hx hb hr (fun t ht hW => ⟨⟨0, la_uo o v, rfl, ⟨rfl, rfl⟩, qm_en ht hP hD⟩, hS.F ht⟩) hS.2.2 dL_allowance_16
set_option maxHeartbeats 4000000 in
set_option maxRecDepth 100000 in
theorem wL_marks {l : Launch} (hst : l.stackTraces = false) (D : va_G) (A : Nat → Prop) (ad : Nat → Nat) (cI cQ cL cD : ClassId) (aL aD : Nat) (tl : va_W) (S : qm_S) (o : Nat → Int64) (d : Nat → UInt64) (p0 : Int32) (z : Int32 ⊕ String) (h : fX6_marks S p0 = some z) (k : Int32) (o' : Nat → Int64) (hz : la_p st_1 z o k o') : vx_Met l yL_marks wsL_marks ({ frames := 8, cells := 1, slots := 6, locals := 132 }) (va_Pc [.ref (ad 0), .int p0, .ref aL] (qm_BZ D A (la_T cI cQ cL cD) (qm_W ad cI cQ (la_r aL aD cL cD o d tl) S))) (qm_Qi D A (fun o => qm_W ad cI cQ (la_r aL aD cL cD o d tl) S) (k, o')) (vx_X (fun (_ : Unit) => False) (fun _ _ _ => True) A) 1 6 A := by
  refine vx_ofWH (cc := cL_marks) (maxL := 4) (ret := some .int) (hh := [(0, 9, 12, 13)]) (by decide) rfl ?_
  intro p e s m args below meth c s₁ B hml hv
  obtain ⟨rfl, ⟨hA, hP, hK, hD⟩, hZ⟩ := hv
  have hK2 : va_K D vwCl (qm_T cI cQ) s := hK.sub [0, 1] rfl
  have hx := B.exec
  have hb := B.bytes
  have hr := B.returns
  have hts := atoms_spec (ws := wsL_marks) B.pre
  have hown : s.vm.findClass RL = some m.cls := findClass_of_methodNamed B.named
  have hlocks := B.notSynchronized
  have htab : c.exceptionTable.toList = [⟨0, 9, 12, 13⟩] := vx_table (x := yL_marks) B (hts _ List.mem_cons_self)
  have hS : va_S A s.heap s.heap [] := va_S.rf
  have hl := lv_entry ([.ref (ad 0), .int p0, .ref aL]) (n := 4) (Nat.le_of_ble_eq_true rfl)
  rw [lg_entry_eq]
  generalize (lg_sl ([.ref (ad 0), .int p0, .ref aL]) ++ List.replicate (4 - (lg_sl ([.ref (ad 0), .int p0, .ref aL])).length) Slot.unset).toArray = ls at hl ⊢
  have hl : lv_has ls 4 [(0, .ref (ad 0)), (1, .int p0), (2, .ref aL)] := hl
  refine lv_aload_n hx hb dL_marks_0 rfl (lv_at hl 2 rfl) ?_
  refine lv_iconst (v := (0 : Int32)) hx hb dL_marks_1 (by decide) ?_
  refine lv_aload_n hx hb dL_marks_2 rfl (lv_at hl 0 rfl) ?_
  refine lv_iload_n hx hb dL_marks_3 rfl (lv_at hl 1 rfl) ?_
  refine vx_calli (vx_runV (As := [.int p0]) (rest := [.int (0 : Int32), .ref aL]) ⟨hx, hb, hml, hown, hts⟩ (kX6_marks hst l D A ad cI cQ (la_r aL aD cL cD o d tl) S p0 z h) (cwV 1 hts gL_marks_X6_marks rfl rfl rfl (by decide +kernel) ⟨Nat.le_of_ble_eq_true rfl, Nat.le_of_ble_eq_true rfl⟩) ⟨qm_blindZ, va_recv hK2 hP (ci := 6) (q0 := 0) rfl qg_Q, fun U hU hW => ⟨rfl, qm_go hA hS hP hK2 hD hU hW, qm_Zgo hZ hS hU hW⟩⟩ rfl rfl hl.1 rfl (lv_room (Nat.le_of_ble_eq_true rfl)) dL_marks_4 ⟨Nat.le_of_ble_eq_true rfl, Nat.le_of_ble_eq_true rfl⟩) hS (fun _ _ h9 => h9) (fun _ h9 => h9) (fun _ _ h9 => h9) (fun E ce q9 u9 t H1 locs1 ht hvm hw hB hz1 hk1 hS hce hcv hcl => ?_) (fun v u t H1 locs1 ht hvm hw hB hz1 hk1 hS => ?_)
  · obtain ⟨hE1, hE2⟩ := hB
    obtain ⟨hP, hD⟩ := qm_bk ht hE2
    obtain ⟨i, rfl, rfl, hi⟩ := la_pE hE1 hz
    rcases la_st_1 hi with ⟨rfl, rfl⟩
    · refine vx_catch hown [] ⟨0, 9, 12, 13⟩ [] htab (fun _ h9 => absurd h9 List.not_mem_nil) (by decide) (by decide) (hts (.classLink RL 13 "java/lang/IndexOutOfBoundsException") (by decide +kernel)) (va_Nw.use rfl (qz_c0 hZ)) hce hcv hcl ?_
      refine W.eq (g2 := F0 m 12 ls [.ref q9]) rfl ?_
      refine lv_astore_n (lv' := [(3, .ref q9), (0, .ref (ad 0)), (1, .int p0), (2, .ref aL)]) hx hb dL_marks_12 rfl hl (by decide) rfl (fun ls hl => ?_)
      refine lv_iconst (v := (1 : Int32)) hx hb dL_marks_13 (by decide) ?_
      refine vx_ret ?_
      refine W.widen (k := 1) (n := 6) (Nat.le_of_ble_eq_true rfl) (Nat.le_of_ble_eq_true rfl) ?_
      exact W.iret (v := (1 : Int32)) hx hb hr (fun t ht hW => ⟨⟨1, o', rfl, ⟨rfl, rfl⟩, qm_en ht hP hD⟩, hS.F ht⟩) hS.2.2 dL_marks_14
  · obtain ⟨hw1, hw2⟩ := hw
    have hw2 : S = u := hw2.symm
    subst hw2
    obtain ⟨rfl, rfl⟩ := la_pV hw1 hz
    obtain ⟨hP, hD⟩ := qm_bk ht hB
    refine lv_i2l (v := v.toInt64) hx hb dL_marks_7 rfl ?_
    refine va_last hx hb hK hP hD hS 82 2 lg_L rfl (i := (0 : Int32)) la_in0 dL_marks_8 (fun H locs hP hD hS => ?_)
    rw [ls_L] at hP hD
    refine lv_goto (tgt := 15) hx hb dL_marks_9 (by decide) ?_
    refine lv_iconst (v := (0 : Int32)) hx hb dL_marks_15 (by decide) ?_
    refine vx_ret ?_
    refine W.widen (k := 1) (n := 6) (Nat.le_of_ble_eq_true rfl) (Nat.le_of_ble_eq_true rfl) ?_
    exact W.iret (v := (0 : Int32)) hx hb hr (fun t ht hW => ⟨⟨0, la_uo o v, rfl, ⟨rfl, rfl⟩, qm_en ht hP hD⟩, hS.F ht⟩) hS.2.2 dL_marks_16
set_option maxHeartbeats 4000000 in
set_option maxRecDepth 100000 in
theorem wL_value {l : Launch} (hst : l.stackTraces = false) (D : va_G) (A : Nat → Prop) (ad : Nat → Nat) (cI cQ cL cD : ClassId) (aL aD : Nat) (tl : va_W) (S : qm_S) (o : Nat → Int64) (d : Nat → UInt64) (p0 : Int32) (p1 : Int32) (z : Int32 ⊕ String) (h : fX6_value S p0 p1 = some z) (k : Int32) (o' : Nat → Int64) (hz : la_p st_1 z o k o') : vx_Met l yL_value wsL_value ({ frames := 9, cells := 2, slots := 12, locals := 156 }) (va_Pc [.ref (ad 0), .int p0, .int p1, .ref aL] (qm_BZ D A (la_T cI cQ cL cD) (qm_W ad cI cQ (la_r aL aD cL cD o d tl) S))) (qm_Qi D A (fun o => qm_W ad cI cQ (la_r aL aD cL cD o d tl) S) (k, o')) (vx_X (fun (_ : Unit) => False) (fun _ _ _ => True) A) 2 12 A := by
  refine vx_ofWH (cc := cL_value) (maxL := 5) (ret := some .int) (hh := [(0, 10, 13, 13)]) (by decide) rfl ?_
  intro p e s m args below meth c s₁ B hml hv
  obtain ⟨rfl, ⟨hA, hP, hK, hD⟩, hZ⟩ := hv
  have hK2 : va_K D vwCl (qm_T cI cQ) s := hK.sub [0, 1] rfl
  have hx := B.exec
  have hb := B.bytes
  have hr := B.returns
  have hts := atoms_spec (ws := wsL_value) B.pre
  have hown : s.vm.findClass RL = some m.cls := findClass_of_methodNamed B.named
  have hlocks := B.notSynchronized
  have htab : c.exceptionTable.toList = [⟨0, 10, 13, 13⟩] := vx_table (x := yL_value) B (hts _ List.mem_cons_self)
  have hS : va_S A s.heap s.heap [] := va_S.rf
  have hl := lv_entry ([.ref (ad 0), .int p0, .int p1, .ref aL]) (n := 5) (Nat.le_of_ble_eq_true rfl)
  rw [lg_entry_eq]
  generalize (lg_sl ([.ref (ad 0), .int p0, .int p1, .ref aL]) ++ List.replicate (5 - (lg_sl ([.ref (ad 0), .int p0, .int p1, .ref aL])).length) Slot.unset).toArray = ls at hl ⊢
  have hl : lv_has ls 5 [(0, .ref (ad 0)), (1, .int p0), (2, .int p1), (3, .ref aL)] := hl
  refine lv_aload_n hx hb dL_value_0 rfl (lv_at hl 3 rfl) ?_
  refine lv_iconst (v := (0 : Int32)) hx hb dL_value_1 (by decide) ?_
  refine lv_aload_n hx hb dL_value_2 rfl (lv_at hl 0 rfl) ?_
  refine lv_iload_n hx hb dL_value_3 rfl (lv_at hl 1 rfl) ?_
  refine lv_iload_n hx hb dL_value_4 rfl (lv_at hl 2 rfl) ?_
  refine vx_calli (vx_runV (As := [.int p0, .int p1]) (rest := [.int (0 : Int32), .ref aL]) ⟨hx, hb, hml, hown, hts⟩ (kX6_value hst l D A ad cI cQ (la_r aL aD cL cD o d tl) S p0 p1 z h) (cwV 2 hts gL_value_X6_value rfl rfl rfl (by decide +kernel) ⟨Nat.le_of_ble_eq_true rfl, Nat.le_of_ble_eq_true rfl⟩) ⟨qm_blindZ, va_recv hK2 hP (ci := 6) (q0 := 0) rfl qg_Q, fun U hU hW => ⟨rfl, qm_go hA hS hP hK2 hD hU hW, qm_Zgo hZ hS hU hW⟩⟩ rfl rfl hl.1 rfl (lv_room (Nat.le_of_ble_eq_true rfl)) dL_value_5 ⟨Nat.le_of_ble_eq_true rfl, Nat.le_of_ble_eq_true rfl⟩) hS (fun _ _ h9 => h9) (fun _ h9 => h9) (fun _ _ h9 => h9) (fun E ce q9 u9 t H1 locs1 ht hvm hw hB hz1 hk1 hS hce hcv hcl => ?_) (fun v u t H1 locs1 ht hvm hw hB hz1 hk1 hS => ?_)
  · obtain ⟨hE1, hE2⟩ := hB
    obtain ⟨hP, hD⟩ := qm_bk ht hE2
    obtain ⟨i, rfl, rfl, hi⟩ := la_pE hE1 hz
    rcases la_st_1 hi with ⟨rfl, rfl⟩
    · refine vx_catch hown [] ⟨0, 10, 13, 13⟩ [] htab (fun _ h9 => absurd h9 List.not_mem_nil) (by decide) (by decide) (hts (.classLink RL 13 "java/lang/IndexOutOfBoundsException") (by decide +kernel)) (va_Nw.use rfl (qz_c0 hZ)) hce hcv hcl ?_
      refine W.eq (g2 := F0 m 13 ls [.ref q9]) rfl ?_
      refine lv_astore (lv' := [(4, .ref q9), (0, .ref (ad 0)), (1, .int p0), (2, .int p1), (3, .ref aL)]) hx hb dL_value_13 hl (by decide) rfl (fun ls hl => ?_)
      refine lv_iconst (v := (1 : Int32)) hx hb dL_value_15 (by decide) ?_
      refine vx_ret ?_
      refine W.widen (k := 2) (n := 12) (Nat.le_of_ble_eq_true rfl) (Nat.le_of_ble_eq_true rfl) ?_
      exact W.iret (v := (1 : Int32)) hx hb hr (fun t ht hW => ⟨⟨1, o', rfl, ⟨rfl, rfl⟩, qm_en ht hP hD⟩, hS.F ht⟩) hS.2.2 dL_value_16
  · obtain ⟨hw1, hw2⟩ := hw
    have hw2 : S = u := hw2.symm
    subst hw2
    obtain ⟨rfl, rfl⟩ := la_pV hw1 hz
    obtain ⟨hP, hD⟩ := qm_bk ht hB
    refine lv_i2l (v := v.toInt64) hx hb dL_value_8 rfl ?_
    refine va_last hx hb hK hP hD hS 82 2 lg_L rfl (i := (0 : Int32)) la_in0 dL_value_9 (fun H locs hP hD hS => ?_)
    rw [ls_L] at hP hD
    refine lv_goto (tgt := 17) hx hb dL_value_10 (by decide) ?_
    refine lv_iconst (v := (0 : Int32)) hx hb dL_value_17 (by decide) ?_
    refine vx_ret ?_
    refine W.widen (k := 2) (n := 12) (Nat.le_of_ble_eq_true rfl) (Nat.le_of_ble_eq_true rfl) ?_
    exact W.iret (v := (0 : Int32)) hx hb hr (fun t ht hW => ⟨⟨0, la_uo o v, rfl, ⟨rfl, rfl⟩, qm_en ht hP hD⟩, hS.F ht⟩) hS.2.2 dL_value_18
set_option maxHeartbeats 4000000 in
set_option maxRecDepth 100000 in
theorem wL_lowestRank {l : Launch} (hst : l.stackTraces = false) (D : va_G) (A : Nat → Prop) (ad : Nat → Nat) (cI cQ cL cD : ClassId) (aL aD : Nat) (tl : va_W) (S : qm_S) (o : Nat → Int64) (d : Nat → UInt64) (p0 : Int32) (p1 : Int32) (z : Int32 ⊕ String) (h : fX6_lowestRank S p0 p1 = some z) (k : Int32) (o' : Nat → Int64) (hz : la_p st_1 z o k o') : vx_Met l yL_lowestRank wsL_lowestRank ({ frames := 9, cells := 2, slots := 12, locals := 156 }) (va_Pc [.ref (ad 0), .int p0, .int p1, .ref aL] (qm_BZ D A (la_T cI cQ cL cD) (qm_W ad cI cQ (la_r aL aD cL cD o d tl) S))) (qm_Qi D A (fun o => qm_W ad cI cQ (la_r aL aD cL cD o d tl) S) (k, o')) (vx_X (fun (_ : Unit) => False) (fun _ _ _ => True) A) 2 12 A := by
  refine vx_ofWH (cc := cL_lowestRank) (maxL := 5) (ret := some .int) (hh := [(0, 10, 13, 13)]) (by decide) rfl ?_
  intro p e s m args below meth c s₁ B hml hv
  obtain ⟨rfl, ⟨hA, hP, hK, hD⟩, hZ⟩ := hv
  have hK2 : va_K D vwCl (qm_T cI cQ) s := hK.sub [0, 1] rfl
  have hx := B.exec
  have hb := B.bytes
  have hr := B.returns
  have hts := atoms_spec (ws := wsL_lowestRank) B.pre
  have hown : s.vm.findClass RL = some m.cls := findClass_of_methodNamed B.named
  have hlocks := B.notSynchronized
  have htab : c.exceptionTable.toList = [⟨0, 10, 13, 13⟩] := vx_table (x := yL_lowestRank) B (hts _ List.mem_cons_self)
  have hS : va_S A s.heap s.heap [] := va_S.rf
  have hl := lv_entry ([.ref (ad 0), .int p0, .int p1, .ref aL]) (n := 5) (Nat.le_of_ble_eq_true rfl)
  rw [lg_entry_eq]
  generalize (lg_sl ([.ref (ad 0), .int p0, .int p1, .ref aL]) ++ List.replicate (5 - (lg_sl ([.ref (ad 0), .int p0, .int p1, .ref aL])).length) Slot.unset).toArray = ls at hl ⊢
  have hl : lv_has ls 5 [(0, .ref (ad 0)), (1, .int p0), (2, .int p1), (3, .ref aL)] := hl
  refine lv_aload_n hx hb dL_lowestRank_0 rfl (lv_at hl 3 rfl) ?_
  refine lv_iconst (v := (0 : Int32)) hx hb dL_lowestRank_1 (by decide) ?_
  refine lv_aload_n hx hb dL_lowestRank_2 rfl (lv_at hl 0 rfl) ?_
  refine lv_iload_n hx hb dL_lowestRank_3 rfl (lv_at hl 1 rfl) ?_
  refine lv_iload_n hx hb dL_lowestRank_4 rfl (lv_at hl 2 rfl) ?_
  refine vx_calli (vx_runV (As := [.int p0, .int p1]) (rest := [.int (0 : Int32), .ref aL]) ⟨hx, hb, hml, hown, hts⟩ (kX6_lowestRank hst l D A ad cI cQ (la_r aL aD cL cD o d tl) S p0 p1 z h) (cwV 2 hts gL_lowestRank_X6_lowestRank rfl rfl rfl (by decide +kernel) ⟨Nat.le_of_ble_eq_true rfl, Nat.le_of_ble_eq_true rfl⟩) ⟨qm_blindZ, va_recv hK2 hP (ci := 6) (q0 := 0) rfl qg_Q, fun U hU hW => ⟨rfl, qm_go hA hS hP hK2 hD hU hW, qm_Zgo hZ hS hU hW⟩⟩ rfl rfl hl.1 rfl (lv_room (Nat.le_of_ble_eq_true rfl)) dL_lowestRank_5 ⟨Nat.le_of_ble_eq_true rfl, Nat.le_of_ble_eq_true rfl⟩) hS (fun _ _ h9 => h9) (fun _ h9 => h9) (fun _ _ h9 => h9) (fun E ce q9 u9 t H1 locs1 ht hvm hw hB hz1 hk1 hS hce hcv hcl => ?_) (fun v u t H1 locs1 ht hvm hw hB hz1 hk1 hS => ?_)
  · obtain ⟨hE1, hE2⟩ := hB
    obtain ⟨hP, hD⟩ := qm_bk ht hE2
    obtain ⟨i, rfl, rfl, hi⟩ := la_pE hE1 hz
    rcases la_st_1 hi with ⟨rfl, rfl⟩
    · refine vx_catch hown [] ⟨0, 10, 13, 13⟩ [] htab (fun _ h9 => absurd h9 List.not_mem_nil) (by decide) (by decide) (hts (.classLink RL 13 "java/lang/IndexOutOfBoundsException") (by decide +kernel)) (va_Nw.use rfl (qz_c0 hZ)) hce hcv hcl ?_
      refine W.eq (g2 := F0 m 13 ls [.ref q9]) rfl ?_
      refine lv_astore (lv' := [(4, .ref q9), (0, .ref (ad 0)), (1, .int p0), (2, .int p1), (3, .ref aL)]) hx hb dL_lowestRank_13 hl (by decide) rfl (fun ls hl => ?_)
      refine lv_iconst (v := (1 : Int32)) hx hb dL_lowestRank_15 (by decide) ?_
      refine vx_ret ?_
      refine W.widen (k := 2) (n := 12) (Nat.le_of_ble_eq_true rfl) (Nat.le_of_ble_eq_true rfl) ?_
      exact W.iret (v := (1 : Int32)) hx hb hr (fun t ht hW => ⟨⟨1, o', rfl, ⟨rfl, rfl⟩, qm_en ht hP hD⟩, hS.F ht⟩) hS.2.2 dL_lowestRank_16
  · obtain ⟨hw1, hw2⟩ := hw
    have hw2 : S = u := hw2.symm
    subst hw2
    obtain ⟨rfl, rfl⟩ := la_pV hw1 hz
    obtain ⟨hP, hD⟩ := qm_bk ht hB
    refine lv_i2l (v := v.toInt64) hx hb dL_lowestRank_8 rfl ?_
    refine va_last hx hb hK hP hD hS 82 2 lg_L rfl (i := (0 : Int32)) la_in0 dL_lowestRank_9 (fun H locs hP hD hS => ?_)
    rw [ls_L] at hP hD
    refine lv_goto (tgt := 17) hx hb dL_lowestRank_10 (by decide) ?_
    refine lv_iconst (v := (0 : Int32)) hx hb dL_lowestRank_17 (by decide) ?_
    refine vx_ret ?_
    refine W.widen (k := 2) (n := 12) (Nat.le_of_ble_eq_true rfl) (Nat.le_of_ble_eq_true rfl) ?_
    exact W.iret (v := (0 : Int32)) hx hb hr (fun t ht hW => ⟨⟨0, la_uo o v, rfl, ⟨rfl, rfl⟩, qm_en ht hP hD⟩, hS.F ht⟩) hS.2.2 dL_lowestRank_18
set_option maxHeartbeats 4000000 in
set_option maxRecDepth 100000 in
theorem wL_highestRank {l : Launch} (hst : l.stackTraces = false) (D : va_G) (A : Nat → Prop) (ad : Nat → Nat) (cI cQ cL cD : ClassId) (aL aD : Nat) (tl : va_W) (S : qm_S) (o : Nat → Int64) (d : Nat → UInt64) (p0 : Int32) (p1 : Int32) (z : Int32 ⊕ String) (h : fX6_highestRank S p0 p1 = some z) (k : Int32) (o' : Nat → Int64) (hz : la_p st_1 z o k o') : vx_Met l yL_highestRank wsL_highestRank ({ frames := 9, cells := 2, slots := 12, locals := 156 }) (va_Pc [.ref (ad 0), .int p0, .int p1, .ref aL] (qm_BZ D A (la_T cI cQ cL cD) (qm_W ad cI cQ (la_r aL aD cL cD o d tl) S))) (qm_Qi D A (fun o => qm_W ad cI cQ (la_r aL aD cL cD o d tl) S) (k, o')) (vx_X (fun (_ : Unit) => False) (fun _ _ _ => True) A) 2 12 A := by
  refine vx_ofWH (cc := cL_highestRank) (maxL := 5) (ret := some .int) (hh := [(0, 10, 13, 13)]) (by decide) rfl ?_
  intro p e s m args below meth c s₁ B hml hv
  obtain ⟨rfl, ⟨hA, hP, hK, hD⟩, hZ⟩ := hv
  have hK2 : va_K D vwCl (qm_T cI cQ) s := hK.sub [0, 1] rfl
  have hx := B.exec
  have hb := B.bytes
  have hr := B.returns
  have hts := atoms_spec (ws := wsL_highestRank) B.pre
  have hown : s.vm.findClass RL = some m.cls := findClass_of_methodNamed B.named
  have hlocks := B.notSynchronized
  have htab : c.exceptionTable.toList = [⟨0, 10, 13, 13⟩] := vx_table (x := yL_highestRank) B (hts _ List.mem_cons_self)
  have hS : va_S A s.heap s.heap [] := va_S.rf
  have hl := lv_entry ([.ref (ad 0), .int p0, .int p1, .ref aL]) (n := 5) (Nat.le_of_ble_eq_true rfl)
  rw [lg_entry_eq]
  generalize (lg_sl ([.ref (ad 0), .int p0, .int p1, .ref aL]) ++ List.replicate (5 - (lg_sl ([.ref (ad 0), .int p0, .int p1, .ref aL])).length) Slot.unset).toArray = ls at hl ⊢
  have hl : lv_has ls 5 [(0, .ref (ad 0)), (1, .int p0), (2, .int p1), (3, .ref aL)] := hl
  refine lv_aload_n hx hb dL_highestRank_0 rfl (lv_at hl 3 rfl) ?_
  refine lv_iconst (v := (0 : Int32)) hx hb dL_highestRank_1 (by decide) ?_
  refine lv_aload_n hx hb dL_highestRank_2 rfl (lv_at hl 0 rfl) ?_
  refine lv_iload_n hx hb dL_highestRank_3 rfl (lv_at hl 1 rfl) ?_
  refine lv_iload_n hx hb dL_highestRank_4 rfl (lv_at hl 2 rfl) ?_
  refine vx_calli (vx_runV (As := [.int p0, .int p1]) (rest := [.int (0 : Int32), .ref aL]) ⟨hx, hb, hml, hown, hts⟩ (kX6_highestRank hst l D A ad cI cQ (la_r aL aD cL cD o d tl) S p0 p1 z h) (cwV 2 hts gL_highestRank_X6_highestRank rfl rfl rfl (by decide +kernel) ⟨Nat.le_of_ble_eq_true rfl, Nat.le_of_ble_eq_true rfl⟩) ⟨qm_blindZ, va_recv hK2 hP (ci := 6) (q0 := 0) rfl qg_Q, fun U hU hW => ⟨rfl, qm_go hA hS hP hK2 hD hU hW, qm_Zgo hZ hS hU hW⟩⟩ rfl rfl hl.1 rfl (lv_room (Nat.le_of_ble_eq_true rfl)) dL_highestRank_5 ⟨Nat.le_of_ble_eq_true rfl, Nat.le_of_ble_eq_true rfl⟩) hS (fun _ _ h9 => h9) (fun _ h9 => h9) (fun _ _ h9 => h9) (fun E ce q9 u9 t H1 locs1 ht hvm hw hB hz1 hk1 hS hce hcv hcl => ?_) (fun v u t H1 locs1 ht hvm hw hB hz1 hk1 hS => ?_)
  · obtain ⟨hE1, hE2⟩ := hB
    obtain ⟨hP, hD⟩ := qm_bk ht hE2
    obtain ⟨i, rfl, rfl, hi⟩ := la_pE hE1 hz
    rcases la_st_1 hi with ⟨rfl, rfl⟩
    · refine vx_catch hown [] ⟨0, 10, 13, 13⟩ [] htab (fun _ h9 => absurd h9 List.not_mem_nil) (by decide) (by decide) (hts (.classLink RL 13 "java/lang/IndexOutOfBoundsException") (by decide +kernel)) (va_Nw.use rfl (qz_c0 hZ)) hce hcv hcl ?_
      refine W.eq (g2 := F0 m 13 ls [.ref q9]) rfl ?_
      refine lv_astore (lv' := [(4, .ref q9), (0, .ref (ad 0)), (1, .int p0), (2, .int p1), (3, .ref aL)]) hx hb dL_highestRank_13 hl (by decide) rfl (fun ls hl => ?_)
      refine lv_iconst (v := (1 : Int32)) hx hb dL_highestRank_15 (by decide) ?_
      refine vx_ret ?_
      refine W.widen (k := 2) (n := 12) (Nat.le_of_ble_eq_true rfl) (Nat.le_of_ble_eq_true rfl) ?_
      exact W.iret (v := (1 : Int32)) hx hb hr (fun t ht hW => ⟨⟨1, o', rfl, ⟨rfl, rfl⟩, qm_en ht hP hD⟩, hS.F ht⟩) hS.2.2 dL_highestRank_16
  · obtain ⟨hw1, hw2⟩ := hw
    have hw2 : S = u := hw2.symm
    subst hw2
    obtain ⟨rfl, rfl⟩ := la_pV hw1 hz
    obtain ⟨hP, hD⟩ := qm_bk ht hB
    refine lv_i2l (v := v.toInt64) hx hb dL_highestRank_8 rfl ?_
    refine va_last hx hb hK hP hD hS 82 2 lg_L rfl (i := (0 : Int32)) la_in0 dL_highestRank_9 (fun H locs hP hD hS => ?_)
    rw [ls_L] at hP hD
    refine lv_goto (tgt := 17) hx hb dL_highestRank_10 (by decide) ?_
    refine lv_iconst (v := (0 : Int32)) hx hb dL_highestRank_17 (by decide) ?_
    refine vx_ret ?_
    refine W.widen (k := 2) (n := 12) (Nat.le_of_ble_eq_true rfl) (Nat.le_of_ble_eq_true rfl) ?_
    exact W.iret (v := (0 : Int32)) hx hb hr (fun t ht hW => ⟨⟨0, la_uo o v, rfl, ⟨rfl, rfl⟩, qm_en ht hP hD⟩, hS.F ht⟩) hS.2.2 dL_highestRank_18
set_option maxHeartbeats 4000000 in
set_option maxRecDepth 100000 in
theorem wL_widest {l : Launch} (hst : l.stackTraces = false) (D : va_G) (A : Nat → Prop) (ad : Nat → Nat) (cI cQ cL cD : ClassId) (aL aD : Nat) (tl : va_W) (S : qm_S) (o : Nat → Int64) (d : Nat → UInt64) (p0 : Int32) (z : Int32 ⊕ String) (h : fX6_widest S p0 = some z) (k : Int32) (o' : Nat → Int64) (hz : la_p st_1 z o k o') : vx_Met l yL_widest wsL_widest ({ frames := 8, cells := 1, slots := 6, locals := 132 }) (va_Pc [.ref (ad 0), .int p0, .ref aL] (qm_BZ D A (la_T cI cQ cL cD) (qm_W ad cI cQ (la_r aL aD cL cD o d tl) S))) (qm_Qi D A (fun o => qm_W ad cI cQ (la_r aL aD cL cD o d tl) S) (k, o')) (vx_X (fun (_ : Unit) => False) (fun _ _ _ => True) A) 1 6 A := by
  refine vx_ofWH (cc := cL_widest) (maxL := 4) (ret := some .int) (hh := [(0, 9, 12, 13)]) (by decide) rfl ?_
  intro p e s m args below meth c s₁ B hml hv
  obtain ⟨rfl, ⟨hA, hP, hK, hD⟩, hZ⟩ := hv
  have hK2 : va_K D vwCl (qm_T cI cQ) s := hK.sub [0, 1] rfl
  have hx := B.exec
  have hb := B.bytes
  have hr := B.returns
  have hts := atoms_spec (ws := wsL_widest) B.pre
  have hown : s.vm.findClass RL = some m.cls := findClass_of_methodNamed B.named
  have hlocks := B.notSynchronized
  have htab : c.exceptionTable.toList = [⟨0, 9, 12, 13⟩] := vx_table (x := yL_widest) B (hts _ List.mem_cons_self)
  have hS : va_S A s.heap s.heap [] := va_S.rf
  have hl := lv_entry ([.ref (ad 0), .int p0, .ref aL]) (n := 4) (Nat.le_of_ble_eq_true rfl)
  rw [lg_entry_eq]
  generalize (lg_sl ([.ref (ad 0), .int p0, .ref aL]) ++ List.replicate (4 - (lg_sl ([.ref (ad 0), .int p0, .ref aL])).length) Slot.unset).toArray = ls at hl ⊢
  have hl : lv_has ls 4 [(0, .ref (ad 0)), (1, .int p0), (2, .ref aL)] := hl
  refine lv_aload_n hx hb dL_widest_0 rfl (lv_at hl 2 rfl) ?_
  refine lv_iconst (v := (0 : Int32)) hx hb dL_widest_1 (by decide) ?_
  refine lv_aload_n hx hb dL_widest_2 rfl (lv_at hl 0 rfl) ?_
  refine lv_iload_n hx hb dL_widest_3 rfl (lv_at hl 1 rfl) ?_
  refine vx_calli (vx_runV (As := [.int p0]) (rest := [.int (0 : Int32), .ref aL]) ⟨hx, hb, hml, hown, hts⟩ (kX6_widest hst l D A ad cI cQ (la_r aL aD cL cD o d tl) S p0 z h) (cwV 1 hts gL_widest_X6_widest rfl rfl rfl (by decide +kernel) ⟨Nat.le_of_ble_eq_true rfl, Nat.le_of_ble_eq_true rfl⟩) ⟨qm_blindZ, va_recv hK2 hP (ci := 6) (q0 := 0) rfl qg_Q, fun U hU hW => ⟨rfl, qm_go hA hS hP hK2 hD hU hW, qm_Zgo hZ hS hU hW⟩⟩ rfl rfl hl.1 rfl (lv_room (Nat.le_of_ble_eq_true rfl)) dL_widest_4 ⟨Nat.le_of_ble_eq_true rfl, Nat.le_of_ble_eq_true rfl⟩) hS (fun _ _ h9 => h9) (fun _ h9 => h9) (fun _ _ h9 => h9) (fun E ce q9 u9 t H1 locs1 ht hvm hw hB hz1 hk1 hS hce hcv hcl => ?_) (fun v u t H1 locs1 ht hvm hw hB hz1 hk1 hS => ?_)
  · obtain ⟨hE1, hE2⟩ := hB
    obtain ⟨hP, hD⟩ := qm_bk ht hE2
    obtain ⟨i, rfl, rfl, hi⟩ := la_pE hE1 hz
    rcases la_st_1 hi with ⟨rfl, rfl⟩
    · refine vx_catch hown [] ⟨0, 9, 12, 13⟩ [] htab (fun _ h9 => absurd h9 List.not_mem_nil) (by decide) (by decide) (hts (.classLink RL 13 "java/lang/IndexOutOfBoundsException") (by decide +kernel)) (va_Nw.use rfl (qz_c0 hZ)) hce hcv hcl ?_
      refine W.eq (g2 := F0 m 12 ls [.ref q9]) rfl ?_
      refine lv_astore_n (lv' := [(3, .ref q9), (0, .ref (ad 0)), (1, .int p0), (2, .ref aL)]) hx hb dL_widest_12 rfl hl (by decide) rfl (fun ls hl => ?_)
      refine lv_iconst (v := (1 : Int32)) hx hb dL_widest_13 (by decide) ?_
      refine vx_ret ?_
      refine W.widen (k := 1) (n := 6) (Nat.le_of_ble_eq_true rfl) (Nat.le_of_ble_eq_true rfl) ?_
      exact W.iret (v := (1 : Int32)) hx hb hr (fun t ht hW => ⟨⟨1, o', rfl, ⟨rfl, rfl⟩, qm_en ht hP hD⟩, hS.F ht⟩) hS.2.2 dL_widest_14
  · obtain ⟨hw1, hw2⟩ := hw
    have hw2 : S = u := hw2.symm
    subst hw2
    obtain ⟨rfl, rfl⟩ := la_pV hw1 hz
    obtain ⟨hP, hD⟩ := qm_bk ht hB
    refine lv_i2l (v := v.toInt64) hx hb dL_widest_7 rfl ?_
    refine va_last hx hb hK hP hD hS 82 2 lg_L rfl (i := (0 : Int32)) la_in0 dL_widest_8 (fun H locs hP hD hS => ?_)
    rw [ls_L] at hP hD
    refine lv_goto (tgt := 15) hx hb dL_widest_9 (by decide) ?_
    refine lv_iconst (v := (0 : Int32)) hx hb dL_widest_15 (by decide) ?_
    refine vx_ret ?_
    refine W.widen (k := 1) (n := 6) (Nat.le_of_ble_eq_true rfl) (Nat.le_of_ble_eq_true rfl) ?_
    exact W.iret (v := (0 : Int32)) hx hb hr (fun t ht hW => ⟨⟨0, la_uo o v, rfl, ⟨rfl, rfl⟩, qm_en ht hP hD⟩, hS.F ht⟩) hS.2.2 dL_widest_16
set_option maxHeartbeats 4000000 in
set_option maxRecDepth 100000 in
theorem wL_ask {l : Launch} (hst : l.stackTraces = false) (D : va_G) (A : Nat → Prop) (ad : Nat → Nat) (cI cQ cL cD : ClassId) (aL aD : Nat) (tl : va_W) (S : qm_S) (o : Nat → Int64) (d : Nat → UInt64) (p0 : Int32) (p1 : Int32) (z : Int32 ⊕ String) (h : fX6_ask S p0 p1 = some z) (k : Int32) (o' : Nat → Int64) (hz : la_p st_3 z o k o') : vx_Met l yL_ask wsL_ask ({ frames := 9, cells := 3, slots := 18, locals := 178 }) (va_Pc [.ref (ad 0), .int p0, .int p1, .ref aL] (qm_BZ D A (la_T cI cQ cL cD) (qm_W ad cI cQ (la_r aL aD cL cD o d tl) S))) (qm_Qi D A (fun o => qm_W ad cI cQ (la_r aL aD cL cD o d tl) S) (k, o')) (vx_X (fun (_ : Unit) => False) (fun _ _ _ => True) A) 3 18 A := by
  refine vx_ofWH (cc := cL_ask) (maxL := 5) (ret := some .int) (hh := [(0, 10, 13, 13), (0, 10, 17, 15), (0, 10, 21, 20)]) (by decide) rfl ?_
  intro p e s m args below meth c s₁ B hml hv
  obtain ⟨rfl, ⟨hA, hP, hK, hD⟩, hZ⟩ := hv
  have hK2 : va_K D vwCl (qm_T cI cQ) s := hK.sub [0, 1] rfl
  have hx := B.exec
  have hb := B.bytes
  have hr := B.returns
  have hts := atoms_spec (ws := wsL_ask) B.pre
  have hown : s.vm.findClass RL = some m.cls := findClass_of_methodNamed B.named
  have hlocks := B.notSynchronized
  have htab : c.exceptionTable.toList = [⟨0, 10, 13, 13⟩, ⟨0, 10, 17, 15⟩, ⟨0, 10, 21, 20⟩] := vx_table (x := yL_ask) B (hts _ List.mem_cons_self)
  have hS : va_S A s.heap s.heap [] := va_S.rf
  have hl := lv_entry ([.ref (ad 0), .int p0, .int p1, .ref aL]) (n := 5) (Nat.le_of_ble_eq_true rfl)
  rw [lg_entry_eq]
  generalize (lg_sl ([.ref (ad 0), .int p0, .int p1, .ref aL]) ++ List.replicate (5 - (lg_sl ([.ref (ad 0), .int p0, .int p1, .ref aL])).length) Slot.unset).toArray = ls at hl ⊢
  have hl : lv_has ls 5 [(0, .ref (ad 0)), (1, .int p0), (2, .int p1), (3, .ref aL)] := hl
  refine lv_aload_n hx hb dL_ask_0 rfl (lv_at hl 3 rfl) ?_
  refine lv_iconst (v := (0 : Int32)) hx hb dL_ask_1 (by decide) ?_
  refine lv_aload_n hx hb dL_ask_2 rfl (lv_at hl 0 rfl) ?_
  refine lv_iload_n hx hb dL_ask_3 rfl (lv_at hl 1 rfl) ?_
  refine lv_iload_n hx hb dL_ask_4 rfl (lv_at hl 2 rfl) ?_
  refine vx_calli (vx_runV (As := [.int p0, .int p1]) (rest := [.int (0 : Int32), .ref aL]) ⟨hx, hb, hml, hown, hts⟩ (kX6_ask hst l D A ad cI cQ (la_r aL aD cL cD o d tl) S p0 p1 z h) (cwV 2 hts gL_ask_X6_ask rfl rfl rfl (by decide +kernel) ⟨Nat.le_of_ble_eq_true rfl, Nat.le_of_ble_eq_true rfl⟩) ⟨qm_blindZ, va_recv hK2 hP (ci := 6) (q0 := 0) rfl qg_Q, fun U hU hW => ⟨rfl, qm_go hA hS hP hK2 hD hU hW, qm_Zgo hZ hS hU hW⟩⟩ rfl rfl hl.1 rfl (lv_room (Nat.le_of_ble_eq_true rfl)) dL_ask_5 ⟨Nat.le_of_ble_eq_true rfl, Nat.le_of_ble_eq_true rfl⟩) hS (fun _ _ h9 => h9) (fun _ h9 => h9) (fun _ _ h9 => h9) (fun E ce q9 u9 t H1 locs1 ht hvm hw hB hz1 hk1 hS hce hcv hcl => ?_) (fun v u t H1 locs1 ht hvm hw hB hz1 hk1 hS => ?_)
  · obtain ⟨hE1, hE2⟩ := hB
    obtain ⟨hP, hD⟩ := qm_bk ht hE2
    obtain ⟨i, rfl, rfl, hi⟩ := la_pE hE1 hz
    rcases la_st_3 hi with ⟨rfl, rfl⟩ | ⟨rfl, rfl⟩ | ⟨rfl, rfl⟩
    · refine vx_catch hown [] ⟨0, 10, 13, 13⟩ [⟨0, 10, 17, 15⟩, ⟨0, 10, 21, 20⟩] htab (fun _ h9 => absurd h9 List.not_mem_nil) (by decide) (by decide) (hts (.classLink RL 13 "java/lang/IndexOutOfBoundsException") (by decide +kernel)) (va_Nw.use rfl (qz_c0 hZ)) hce hcv hcl ?_
      refine W.eq (g2 := F0 m 13 ls [.ref q9]) rfl ?_
      refine lv_astore (lv' := [(4, .ref q9), (0, .ref (ad 0)), (1, .int p0), (2, .int p1), (3, .ref aL)]) hx hb dL_ask_13 hl (by decide) rfl (fun ls hl => ?_)
      refine lv_iconst (v := (1 : Int32)) hx hb dL_ask_15 (by decide) ?_
      refine vx_ret ?_
      refine W.widen (k := 3) (n := 18) (Nat.le_of_ble_eq_true rfl) (Nat.le_of_ble_eq_true rfl) ?_
      exact W.iret (v := (1 : Int32)) hx hb hr (fun t ht hW => ⟨⟨1, o', rfl, ⟨rfl, rfl⟩, qm_en ht hP hD⟩, hS.F ht⟩) hS.2.2 dL_ask_16
    · refine vx_catch hown [⟨0, 10, 13, 13⟩] ⟨0, 10, 17, 15⟩ [⟨0, 10, 21, 20⟩] htab (List.forall_mem_cons.mpr ⟨Or.inr ⟨by decide, "java/lang/IndexOutOfBoundsException", hts (.classLink RL 13 "java/lang/IndexOutOfBoundsException") (by decide +kernel), qz_x0 hZ⟩, fun _ h9 => absurd h9 List.not_mem_nil⟩) (by decide) (by decide) (hts (.classLink RL 15 "java/lang/IllegalArgumentException") (by decide +kernel)) (va_Nw.use rfl (qz_c1 hZ)) hce hcv hcl ?_
      refine W.eq (g2 := F0 m 17 ls [.ref q9]) rfl ?_
      refine lv_astore (lv' := [(4, .ref q9), (0, .ref (ad 0)), (1, .int p0), (2, .int p1), (3, .ref aL)]) hx hb dL_ask_17 hl (by decide) rfl (fun ls hl => ?_)
      refine lv_iconst (v := (2 : Int32)) hx hb dL_ask_19 (by decide) ?_
      refine vx_ret ?_
      refine W.widen (k := 3) (n := 18) (Nat.le_of_ble_eq_true rfl) (Nat.le_of_ble_eq_true rfl) ?_
      exact W.iret (v := (2 : Int32)) hx hb hr (fun t ht hW => ⟨⟨2, o', rfl, ⟨rfl, rfl⟩, qm_en ht hP hD⟩, hS.F ht⟩) hS.2.2 dL_ask_20
    · refine vx_catch hown [⟨0, 10, 13, 13⟩, ⟨0, 10, 17, 15⟩] ⟨0, 10, 21, 20⟩ [] htab (List.forall_mem_cons.mpr ⟨Or.inr ⟨by decide, "java/lang/IndexOutOfBoundsException", hts (.classLink RL 13 "java/lang/IndexOutOfBoundsException") (by decide +kernel), qz_x1 hZ⟩, List.forall_mem_cons.mpr ⟨Or.inr ⟨by decide, "java/lang/IllegalArgumentException", hts (.classLink RL 15 "java/lang/IllegalArgumentException") (by decide +kernel), qz_x2 hZ⟩, fun _ h9 => absurd h9 List.not_mem_nil⟩⟩) (by decide) (by decide) (hts (.classLink RL 20 "java/lang/IllegalStateException") (by decide +kernel)) (va_Nw.use rfl (qz_c2 hZ)) hce hcv hcl ?_
      refine W.eq (g2 := F0 m 21 ls [.ref q9]) rfl ?_
      refine lv_astore (lv' := [(4, .ref q9), (0, .ref (ad 0)), (1, .int p0), (2, .int p1), (3, .ref aL)]) hx hb dL_ask_21 hl (by decide) rfl (fun ls hl => ?_)
      refine lv_iconst (v := (3 : Int32)) hx hb dL_ask_23 (by decide) ?_
      refine vx_ret ?_
      refine W.widen (k := 3) (n := 18) (Nat.le_of_ble_eq_true rfl) (Nat.le_of_ble_eq_true rfl) ?_
      exact W.iret (v := (3 : Int32)) hx hb hr (fun t ht hW => ⟨⟨3, o', rfl, ⟨rfl, rfl⟩, qm_en ht hP hD⟩, hS.F ht⟩) hS.2.2 dL_ask_24
  · obtain ⟨hw1, hw2⟩ := hw
    have hw2 : S = u := hw2.symm
    subst hw2
    obtain ⟨rfl, rfl⟩ := la_pV hw1 hz
    obtain ⟨hP, hD⟩ := qm_bk ht hB
    refine lv_i2l (v := v.toInt64) hx hb dL_ask_8 rfl ?_
    refine va_last hx hb hK hP hD hS 82 2 lg_L rfl (i := (0 : Int32)) la_in0 dL_ask_9 (fun H locs hP hD hS => ?_)
    rw [ls_L] at hP hD
    refine lv_goto (tgt := 25) hx hb dL_ask_10 (by decide) ?_
    refine lv_iconst (v := (0 : Int32)) hx hb dL_ask_25 (by decide) ?_
    refine vx_ret ?_
    refine W.widen (k := 3) (n := 18) (Nat.le_of_ble_eq_true rfl) (Nat.le_of_ble_eq_true rfl) ?_
    exact W.iret (v := (0 : Int32)) hx hb hr (fun t ht hW => ⟨⟨0, la_uo o v, rfl, ⟨rfl, rfl⟩, qm_en ht hP hD⟩, hS.F ht⟩) hS.2.2 dL_ask_26
set_option maxHeartbeats 4000000 in
set_option maxRecDepth 100000 in
theorem wL_off {l : Launch} (hst : l.stackTraces = false) (D : va_G) (A : Nat → Prop) (ad : Nat → Nat) (cI cQ cL cD : ClassId) (aL aD : Nat) (tl : va_W) (S : qm_S) (o : Nat → Int64) (d : Nat → UInt64) (p0 : Int32) (p1 : Int32) (z : Int32 ⊕ String) (h : fX6_off S p0 p1 = some z) (k : Int32) (o' : Nat → Int64) (hz : la_p st_3 z o k o') : vx_Met l yL_off wsL_off ({ frames := 9, cells := 3, slots := 18, locals := 179 }) (va_Pc [.ref (ad 0), .int p0, .int p1, .ref aL] (qm_BZ D A (la_T cI cQ cL cD) (qm_W ad cI cQ (la_r aL aD cL cD o d tl) S))) (qm_Qi D A (fun o => qm_W ad cI cQ (la_r aL aD cL cD o d tl) S) (k, o')) (vx_X (fun (_ : Unit) => False) (fun _ _ _ => True) A) 3 18 A := by
  refine vx_ofWH (cc := cL_off) (maxL := 5) (ret := some .int) (hh := [(0, 10, 13, 13), (0, 10, 17, 15), (0, 10, 21, 20)]) (by decide) rfl ?_
  intro p e s m args below meth c s₁ B hml hv
  obtain ⟨rfl, ⟨hA, hP, hK, hD⟩, hZ⟩ := hv
  have hK2 : va_K D vwCl (qm_T cI cQ) s := hK.sub [0, 1] rfl
  have hx := B.exec
  have hb := B.bytes
  have hr := B.returns
  have hts := atoms_spec (ws := wsL_off) B.pre
  have hown : s.vm.findClass RL = some m.cls := findClass_of_methodNamed B.named
  have hlocks := B.notSynchronized
  have htab : c.exceptionTable.toList = [⟨0, 10, 13, 13⟩, ⟨0, 10, 17, 15⟩, ⟨0, 10, 21, 20⟩] := vx_table (x := yL_off) B (hts _ List.mem_cons_self)
  have hS : va_S A s.heap s.heap [] := va_S.rf
  have hl := lv_entry ([.ref (ad 0), .int p0, .int p1, .ref aL]) (n := 5) (Nat.le_of_ble_eq_true rfl)
  rw [lg_entry_eq]
  generalize (lg_sl ([.ref (ad 0), .int p0, .int p1, .ref aL]) ++ List.replicate (5 - (lg_sl ([.ref (ad 0), .int p0, .int p1, .ref aL])).length) Slot.unset).toArray = ls at hl ⊢
  have hl : lv_has ls 5 [(0, .ref (ad 0)), (1, .int p0), (2, .int p1), (3, .ref aL)] := hl
  refine lv_aload_n hx hb dL_off_0 rfl (lv_at hl 3 rfl) ?_
  refine lv_iconst (v := (0 : Int32)) hx hb dL_off_1 (by decide) ?_
  refine lv_aload_n hx hb dL_off_2 rfl (lv_at hl 0 rfl) ?_
  refine lv_iload_n hx hb dL_off_3 rfl (lv_at hl 1 rfl) ?_
  refine lv_iload_n hx hb dL_off_4 rfl (lv_at hl 2 rfl) ?_
  refine vx_calli (vx_runV (As := [.int p0, .int p1]) (rest := [.int (0 : Int32), .ref aL]) ⟨hx, hb, hml, hown, hts⟩ (kX6_off hst l D A ad cI cQ (la_r aL aD cL cD o d tl) S p0 p1 z h) (cwV 2 hts gL_off_X6_off rfl rfl rfl (by decide +kernel) ⟨Nat.le_of_ble_eq_true rfl, Nat.le_of_ble_eq_true rfl⟩) ⟨qm_blindZ, va_recv hK2 hP (ci := 6) (q0 := 0) rfl qg_Q, fun U hU hW => ⟨rfl, qm_go hA hS hP hK2 hD hU hW, qm_Zgo hZ hS hU hW⟩⟩ rfl rfl hl.1 rfl (lv_room (Nat.le_of_ble_eq_true rfl)) dL_off_5 ⟨Nat.le_of_ble_eq_true rfl, Nat.le_of_ble_eq_true rfl⟩) hS (fun _ _ h9 => h9) (fun _ h9 => h9) (fun _ _ h9 => h9) (fun E ce q9 u9 t H1 locs1 ht hvm hw hB hz1 hk1 hS hce hcv hcl => ?_) (fun v u t H1 locs1 ht hvm hw hB hz1 hk1 hS => ?_)
  · obtain ⟨hE1, hE2⟩ := hB
    obtain ⟨hP, hD⟩ := qm_bk ht hE2
    obtain ⟨i, rfl, rfl, hi⟩ := la_pE hE1 hz
    rcases la_st_3 hi with ⟨rfl, rfl⟩ | ⟨rfl, rfl⟩ | ⟨rfl, rfl⟩
    · refine vx_catch hown [] ⟨0, 10, 13, 13⟩ [⟨0, 10, 17, 15⟩, ⟨0, 10, 21, 20⟩] htab (fun _ h9 => absurd h9 List.not_mem_nil) (by decide) (by decide) (hts (.classLink RL 13 "java/lang/IndexOutOfBoundsException") (by decide +kernel)) (va_Nw.use rfl (qz_c0 hZ)) hce hcv hcl ?_
      refine W.eq (g2 := F0 m 13 ls [.ref q9]) rfl ?_
      refine lv_astore (lv' := [(4, .ref q9), (0, .ref (ad 0)), (1, .int p0), (2, .int p1), (3, .ref aL)]) hx hb dL_off_13 hl (by decide) rfl (fun ls hl => ?_)
      refine lv_iconst (v := (1 : Int32)) hx hb dL_off_15 (by decide) ?_
      refine vx_ret ?_
      refine W.widen (k := 3) (n := 18) (Nat.le_of_ble_eq_true rfl) (Nat.le_of_ble_eq_true rfl) ?_
      exact W.iret (v := (1 : Int32)) hx hb hr (fun t ht hW => ⟨⟨1, o', rfl, ⟨rfl, rfl⟩, qm_en ht hP hD⟩, hS.F ht⟩) hS.2.2 dL_off_16
    · refine vx_catch hown [⟨0, 10, 13, 13⟩] ⟨0, 10, 17, 15⟩ [⟨0, 10, 21, 20⟩] htab (List.forall_mem_cons.mpr ⟨Or.inr ⟨by decide, "java/lang/IndexOutOfBoundsException", hts (.classLink RL 13 "java/lang/IndexOutOfBoundsException") (by decide +kernel), qz_x0 hZ⟩, fun _ h9 => absurd h9 List.not_mem_nil⟩) (by decide) (by decide) (hts (.classLink RL 15 "java/lang/IllegalArgumentException") (by decide +kernel)) (va_Nw.use rfl (qz_c1 hZ)) hce hcv hcl ?_
      refine W.eq (g2 := F0 m 17 ls [.ref q9]) rfl ?_
      refine lv_astore (lv' := [(4, .ref q9), (0, .ref (ad 0)), (1, .int p0), (2, .int p1), (3, .ref aL)]) hx hb dL_off_17 hl (by decide) rfl (fun ls hl => ?_)
      refine lv_iconst (v := (2 : Int32)) hx hb dL_off_19 (by decide) ?_
      refine vx_ret ?_
      refine W.widen (k := 3) (n := 18) (Nat.le_of_ble_eq_true rfl) (Nat.le_of_ble_eq_true rfl) ?_
      exact W.iret (v := (2 : Int32)) hx hb hr (fun t ht hW => ⟨⟨2, o', rfl, ⟨rfl, rfl⟩, qm_en ht hP hD⟩, hS.F ht⟩) hS.2.2 dL_off_20
    · refine vx_catch hown [⟨0, 10, 13, 13⟩, ⟨0, 10, 17, 15⟩] ⟨0, 10, 21, 20⟩ [] htab (List.forall_mem_cons.mpr ⟨Or.inr ⟨by decide, "java/lang/IndexOutOfBoundsException", hts (.classLink RL 13 "java/lang/IndexOutOfBoundsException") (by decide +kernel), qz_x1 hZ⟩, List.forall_mem_cons.mpr ⟨Or.inr ⟨by decide, "java/lang/IllegalArgumentException", hts (.classLink RL 15 "java/lang/IllegalArgumentException") (by decide +kernel), qz_x2 hZ⟩, fun _ h9 => absurd h9 List.not_mem_nil⟩⟩) (by decide) (by decide) (hts (.classLink RL 20 "java/lang/IllegalStateException") (by decide +kernel)) (va_Nw.use rfl (qz_c2 hZ)) hce hcv hcl ?_
      refine W.eq (g2 := F0 m 21 ls [.ref q9]) rfl ?_
      refine lv_astore (lv' := [(4, .ref q9), (0, .ref (ad 0)), (1, .int p0), (2, .int p1), (3, .ref aL)]) hx hb dL_off_21 hl (by decide) rfl (fun ls hl => ?_)
      refine lv_iconst (v := (3 : Int32)) hx hb dL_off_23 (by decide) ?_
      refine vx_ret ?_
      refine W.widen (k := 3) (n := 18) (Nat.le_of_ble_eq_true rfl) (Nat.le_of_ble_eq_true rfl) ?_
      exact W.iret (v := (3 : Int32)) hx hb hr (fun t ht hW => ⟨⟨3, o', rfl, ⟨rfl, rfl⟩, qm_en ht hP hD⟩, hS.F ht⟩) hS.2.2 dL_off_24
  · obtain ⟨hw1, hw2⟩ := hw
    have hw2 : S = u := hw2.symm
    subst hw2
    obtain ⟨rfl, rfl⟩ := la_pV hw1 hz
    obtain ⟨hP, hD⟩ := qm_bk ht hB
    refine lv_i2l (v := v.toInt64) hx hb dL_off_8 rfl ?_
    refine va_last hx hb hK hP hD hS 82 2 lg_L rfl (i := (0 : Int32)) la_in0 dL_off_9 (fun H locs hP hD hS => ?_)
    rw [ls_L] at hP hD
    refine lv_goto (tgt := 25) hx hb dL_off_10 (by decide) ?_
    refine lv_iconst (v := (0 : Int32)) hx hb dL_off_25 (by decide) ?_
    refine vx_ret ?_
    refine W.widen (k := 3) (n := 18) (Nat.le_of_ble_eq_true rfl) (Nat.le_of_ble_eq_true rfl) ?_
    exact W.iret (v := (0 : Int32)) hx hb hr (fun t ht hW => ⟨⟨0, la_uo o v, rfl, ⟨rfl, rfl⟩, qm_en ht hP hD⟩, hS.F ht⟩) hS.2.2 dL_off_26
set_option maxHeartbeats 4000000 in
set_option maxRecDepth 100000 in
theorem wL_reallyOff {l : Launch} (hst : l.stackTraces = false) (D : va_G) (A : Nat → Prop) (ad : Nat → Nat) (cI cQ cL cD : ClassId) (aL aD : Nat) (tl : va_W) (S : qm_S) (o : Nat → Int64) (d : Nat → UInt64) (p0 : Int32) (p1 : Int32) (z : Int32 ⊕ String) (h : fX6_reallyOff S p0 p1 = some z) (k : Int32) (o' : Nat → Int64) (hz : la_p st_3 z o k o') : vx_Met l yL_reallyOff wsL_reallyOff ({ frames := 9, cells := 3, slots := 18, locals := 182 }) (va_Pc [.ref (ad 0), .int p0, .int p1, .ref aL] (qm_BZ D A (la_T cI cQ cL cD) (qm_W ad cI cQ (la_r aL aD cL cD o d tl) S))) (qm_Qi D A (fun o => qm_W ad cI cQ (la_r aL aD cL cD o d tl) S) (k, o')) (vx_X (fun (_ : Unit) => False) (fun _ _ _ => True) A) 3 18 A := by
  refine vx_ofWH (cc := cL_reallyOff) (maxL := 5) (ret := some .int) (hh := [(0, 10, 13, 13), (0, 10, 17, 15), (0, 10, 21, 20)]) (by decide) rfl ?_
  intro p e s m args below meth c s₁ B hml hv
  obtain ⟨rfl, ⟨hA, hP, hK, hD⟩, hZ⟩ := hv
  have hK2 : va_K D vwCl (qm_T cI cQ) s := hK.sub [0, 1] rfl
  have hx := B.exec
  have hb := B.bytes
  have hr := B.returns
  have hts := atoms_spec (ws := wsL_reallyOff) B.pre
  have hown : s.vm.findClass RL = some m.cls := findClass_of_methodNamed B.named
  have hlocks := B.notSynchronized
  have htab : c.exceptionTable.toList = [⟨0, 10, 13, 13⟩, ⟨0, 10, 17, 15⟩, ⟨0, 10, 21, 20⟩] := vx_table (x := yL_reallyOff) B (hts _ List.mem_cons_self)
  have hS : va_S A s.heap s.heap [] := va_S.rf
  have hl := lv_entry ([.ref (ad 0), .int p0, .int p1, .ref aL]) (n := 5) (Nat.le_of_ble_eq_true rfl)
  rw [lg_entry_eq]
  generalize (lg_sl ([.ref (ad 0), .int p0, .int p1, .ref aL]) ++ List.replicate (5 - (lg_sl ([.ref (ad 0), .int p0, .int p1, .ref aL])).length) Slot.unset).toArray = ls at hl ⊢
  have hl : lv_has ls 5 [(0, .ref (ad 0)), (1, .int p0), (2, .int p1), (3, .ref aL)] := hl
  refine lv_aload_n hx hb dL_reallyOff_0 rfl (lv_at hl 3 rfl) ?_
  refine lv_iconst (v := (0 : Int32)) hx hb dL_reallyOff_1 (by decide) ?_
  refine lv_aload_n hx hb dL_reallyOff_2 rfl (lv_at hl 0 rfl) ?_
  refine lv_iload_n hx hb dL_reallyOff_3 rfl (lv_at hl 1 rfl) ?_
  refine lv_iload_n hx hb dL_reallyOff_4 rfl (lv_at hl 2 rfl) ?_
  refine vx_calli (vx_runV (As := [.int p0, .int p1]) (rest := [.int (0 : Int32), .ref aL]) ⟨hx, hb, hml, hown, hts⟩ (kX6_reallyOff hst l D A ad cI cQ (la_r aL aD cL cD o d tl) S p0 p1 z h) (cwV 2 hts gL_reallyOff_X6_reallyOff rfl rfl rfl (by decide +kernel) ⟨Nat.le_of_ble_eq_true rfl, Nat.le_of_ble_eq_true rfl⟩) ⟨qm_blindZ, va_recv hK2 hP (ci := 6) (q0 := 0) rfl qg_Q, fun U hU hW => ⟨rfl, qm_go hA hS hP hK2 hD hU hW, qm_Zgo hZ hS hU hW⟩⟩ rfl rfl hl.1 rfl (lv_room (Nat.le_of_ble_eq_true rfl)) dL_reallyOff_5 ⟨Nat.le_of_ble_eq_true rfl, Nat.le_of_ble_eq_true rfl⟩) hS (fun _ _ h9 => h9) (fun _ h9 => h9) (fun _ _ h9 => h9) (fun E ce q9 u9 t H1 locs1 ht hvm hw hB hz1 hk1 hS hce hcv hcl => ?_) (fun v u t H1 locs1 ht hvm hw hB hz1 hk1 hS => ?_)
  · obtain ⟨hE1, hE2⟩ := hB
    obtain ⟨hP, hD⟩ := qm_bk ht hE2
    obtain ⟨i, rfl, rfl, hi⟩ := la_pE hE1 hz
    rcases la_st_3 hi with ⟨rfl, rfl⟩ | ⟨rfl, rfl⟩ | ⟨rfl, rfl⟩
    · refine vx_catch hown [] ⟨0, 10, 13, 13⟩ [⟨0, 10, 17, 15⟩, ⟨0, 10, 21, 20⟩] htab (fun _ h9 => absurd h9 List.not_mem_nil) (by decide) (by decide) (hts (.classLink RL 13 "java/lang/IndexOutOfBoundsException") (by decide +kernel)) (va_Nw.use rfl (qz_c0 hZ)) hce hcv hcl ?_
      refine W.eq (g2 := F0 m 13 ls [.ref q9]) rfl ?_
      refine lv_astore (lv' := [(4, .ref q9), (0, .ref (ad 0)), (1, .int p0), (2, .int p1), (3, .ref aL)]) hx hb dL_reallyOff_13 hl (by decide) rfl (fun ls hl => ?_)
      refine lv_iconst (v := (1 : Int32)) hx hb dL_reallyOff_15 (by decide) ?_
      refine vx_ret ?_
      refine W.widen (k := 3) (n := 18) (Nat.le_of_ble_eq_true rfl) (Nat.le_of_ble_eq_true rfl) ?_
      exact W.iret (v := (1 : Int32)) hx hb hr (fun t ht hW => ⟨⟨1, o', rfl, ⟨rfl, rfl⟩, qm_en ht hP hD⟩, hS.F ht⟩) hS.2.2 dL_reallyOff_16
    · refine vx_catch hown [⟨0, 10, 13, 13⟩] ⟨0, 10, 17, 15⟩ [⟨0, 10, 21, 20⟩] htab (List.forall_mem_cons.mpr ⟨Or.inr ⟨by decide, "java/lang/IndexOutOfBoundsException", hts (.classLink RL 13 "java/lang/IndexOutOfBoundsException") (by decide +kernel), qz_x0 hZ⟩, fun _ h9 => absurd h9 List.not_mem_nil⟩) (by decide) (by decide) (hts (.classLink RL 15 "java/lang/IllegalArgumentException") (by decide +kernel)) (va_Nw.use rfl (qz_c1 hZ)) hce hcv hcl ?_
      refine W.eq (g2 := F0 m 17 ls [.ref q9]) rfl ?_
      refine lv_astore (lv' := [(4, .ref q9), (0, .ref (ad 0)), (1, .int p0), (2, .int p1), (3, .ref aL)]) hx hb dL_reallyOff_17 hl (by decide) rfl (fun ls hl => ?_)
      refine lv_iconst (v := (2 : Int32)) hx hb dL_reallyOff_19 (by decide) ?_
      refine vx_ret ?_
      refine W.widen (k := 3) (n := 18) (Nat.le_of_ble_eq_true rfl) (Nat.le_of_ble_eq_true rfl) ?_
      exact W.iret (v := (2 : Int32)) hx hb hr (fun t ht hW => ⟨⟨2, o', rfl, ⟨rfl, rfl⟩, qm_en ht hP hD⟩, hS.F ht⟩) hS.2.2 dL_reallyOff_20
    · refine vx_catch hown [⟨0, 10, 13, 13⟩, ⟨0, 10, 17, 15⟩] ⟨0, 10, 21, 20⟩ [] htab (List.forall_mem_cons.mpr ⟨Or.inr ⟨by decide, "java/lang/IndexOutOfBoundsException", hts (.classLink RL 13 "java/lang/IndexOutOfBoundsException") (by decide +kernel), qz_x1 hZ⟩, List.forall_mem_cons.mpr ⟨Or.inr ⟨by decide, "java/lang/IllegalArgumentException", hts (.classLink RL 15 "java/lang/IllegalArgumentException") (by decide +kernel), qz_x2 hZ⟩, fun _ h9 => absurd h9 List.not_mem_nil⟩⟩) (by decide) (by decide) (hts (.classLink RL 20 "java/lang/IllegalStateException") (by decide +kernel)) (va_Nw.use rfl (qz_c2 hZ)) hce hcv hcl ?_
      refine W.eq (g2 := F0 m 21 ls [.ref q9]) rfl ?_
      refine lv_astore (lv' := [(4, .ref q9), (0, .ref (ad 0)), (1, .int p0), (2, .int p1), (3, .ref aL)]) hx hb dL_reallyOff_21 hl (by decide) rfl (fun ls hl => ?_)
      refine lv_iconst (v := (3 : Int32)) hx hb dL_reallyOff_23 (by decide) ?_
      refine vx_ret ?_
      refine W.widen (k := 3) (n := 18) (Nat.le_of_ble_eq_true rfl) (Nat.le_of_ble_eq_true rfl) ?_
      exact W.iret (v := (3 : Int32)) hx hb hr (fun t ht hW => ⟨⟨3, o', rfl, ⟨rfl, rfl⟩, qm_en ht hP hD⟩, hS.F ht⟩) hS.2.2 dL_reallyOff_24
  · obtain ⟨hw1, hw2⟩ := hw
    have hw2 : S = u := hw2.symm
    subst hw2
    obtain ⟨rfl, rfl⟩ := la_pV hw1 hz
    obtain ⟨hP, hD⟩ := qm_bk ht hB
    refine lv_i2l (v := v.toInt64) hx hb dL_reallyOff_8 rfl ?_
    refine va_last hx hb hK hP hD hS 82 2 lg_L rfl (i := (0 : Int32)) la_in0 dL_reallyOff_9 (fun H locs hP hD hS => ?_)
    rw [ls_L] at hP hD
    refine lv_goto (tgt := 25) hx hb dL_reallyOff_10 (by decide) ?_
    refine lv_iconst (v := (0 : Int32)) hx hb dL_reallyOff_25 (by decide) ?_
    refine vx_ret ?_
    refine W.widen (k := 3) (n := 18) (Nat.le_of_ble_eq_true rfl) (Nat.le_of_ble_eq_true rfl) ?_
    exact W.iret (v := (0 : Int32)) hx hb hr (fun t ht hW => ⟨⟨0, la_uo o v, rfl, ⟨rfl, rfl⟩, qm_en ht hP hD⟩, hS.F ht⟩) hS.2.2 dL_reallyOff_26
set_option maxHeartbeats 4000000 in
set_option maxRecDepth 100000 in
theorem wL_atLeastUpTo {l : Launch} (hst : l.stackTraces = false) (D : va_G) (A : Nat → Prop) (ad : Nat → Nat) (cI cQ cL cD : ClassId) (aL aD : Nat) (tl : va_W) (S : qm_S) (o : Nat → Int64) (d : Nat → UInt64) (p0 : Int32) (p1 : Int32) (z : Int32 ⊕ String) (h : fX6_atLeastUpTo S p0 p1 = some z) (k : Int32) (o' : Nat → Int64) (hz : la_p st_1 z o k o') : vx_Met l yL_atLeastUpTo wsL_atLeastUpTo ({ frames := 8, cells := 1, slots := 6, locals := 133 }) (va_Pc [.ref (ad 0), .int p0, .int p1, .ref aL] (qm_BZ D A (la_T cI cQ cL cD) (qm_W ad cI cQ (la_r aL aD cL cD o d tl) S))) (qm_Qi D A (fun o => qm_W ad cI cQ (la_r aL aD cL cD o d tl) S) (k, o')) (vx_X (fun (_ : Unit) => False) (fun _ _ _ => True) A) 1 6 A := by
  refine vx_ofWH (cc := cL_atLeastUpTo) (maxL := 5) (ret := some .int) (hh := [(0, 10, 13, 13)]) (by decide) rfl ?_
  intro p e s m args below meth c s₁ B hml hv
  obtain ⟨rfl, ⟨hA, hP, hK, hD⟩, hZ⟩ := hv
  have hK2 : va_K D vwCl (qm_T cI cQ) s := hK.sub [0, 1] rfl
  have hx := B.exec
  have hb := B.bytes
  have hr := B.returns
  have hts := atoms_spec (ws := wsL_atLeastUpTo) B.pre
  have hown : s.vm.findClass RL = some m.cls := findClass_of_methodNamed B.named
  have hlocks := B.notSynchronized
  have htab : c.exceptionTable.toList = [⟨0, 10, 13, 13⟩] := vx_table (x := yL_atLeastUpTo) B (hts _ List.mem_cons_self)
  have hS : va_S A s.heap s.heap [] := va_S.rf
  have hl := lv_entry ([.ref (ad 0), .int p0, .int p1, .ref aL]) (n := 5) (Nat.le_of_ble_eq_true rfl)
  rw [lg_entry_eq]
  generalize (lg_sl ([.ref (ad 0), .int p0, .int p1, .ref aL]) ++ List.replicate (5 - (lg_sl ([.ref (ad 0), .int p0, .int p1, .ref aL])).length) Slot.unset).toArray = ls at hl ⊢
  have hl : lv_has ls 5 [(0, .ref (ad 0)), (1, .int p0), (2, .int p1), (3, .ref aL)] := hl
  refine lv_aload_n hx hb dL_atLeastUpTo_0 rfl (lv_at hl 3 rfl) ?_
  refine lv_iconst (v := (0 : Int32)) hx hb dL_atLeastUpTo_1 (by decide) ?_
  refine lv_aload_n hx hb dL_atLeastUpTo_2 rfl (lv_at hl 0 rfl) ?_
  refine lv_iload_n hx hb dL_atLeastUpTo_3 rfl (lv_at hl 1 rfl) ?_
  refine lv_iload_n hx hb dL_atLeastUpTo_4 rfl (lv_at hl 2 rfl) ?_
  refine vx_calli (vx_runV (As := [.int p0, .int p1]) (rest := [.int (0 : Int32), .ref aL]) ⟨hx, hb, hml, hown, hts⟩ (kX6_atLeastUpTo hst l D A ad cI cQ (la_r aL aD cL cD o d tl) S p0 p1 z h) (cwV 2 hts gL_atLeastUpTo_X6_atLeastUpTo rfl rfl rfl (by decide +kernel) ⟨Nat.le_of_ble_eq_true rfl, Nat.le_of_ble_eq_true rfl⟩) ⟨qm_blindZ, va_recv hK2 hP (ci := 6) (q0 := 0) rfl qg_Q, fun U hU hW => ⟨rfl, qm_go hA hS hP hK2 hD hU hW, qm_Zgo hZ hS hU hW⟩⟩ rfl rfl hl.1 rfl (lv_room (Nat.le_of_ble_eq_true rfl)) dL_atLeastUpTo_5 ⟨Nat.le_of_ble_eq_true rfl, Nat.le_of_ble_eq_true rfl⟩) hS (fun _ _ h9 => h9) (fun _ h9 => h9) (fun _ _ h9 => h9) (fun E ce q9 u9 t H1 locs1 ht hvm hw hB hz1 hk1 hS hce hcv hcl => ?_) (fun v u t H1 locs1 ht hvm hw hB hz1 hk1 hS => ?_)
  · obtain ⟨hE1, hE2⟩ := hB
    obtain ⟨hP, hD⟩ := qm_bk ht hE2
    obtain ⟨i, rfl, rfl, hi⟩ := la_pE hE1 hz
    rcases la_st_1 hi with ⟨rfl, rfl⟩
    · refine vx_catch hown [] ⟨0, 10, 13, 13⟩ [] htab (fun _ h9 => absurd h9 List.not_mem_nil) (by decide) (by decide) (hts (.classLink RL 13 "java/lang/IndexOutOfBoundsException") (by decide +kernel)) (va_Nw.use rfl (qz_c0 hZ)) hce hcv hcl ?_
      refine W.eq (g2 := F0 m 13 ls [.ref q9]) rfl ?_
      refine lv_astore (lv' := [(4, .ref q9), (0, .ref (ad 0)), (1, .int p0), (2, .int p1), (3, .ref aL)]) hx hb dL_atLeastUpTo_13 hl (by decide) rfl (fun ls hl => ?_)
      refine lv_iconst (v := (1 : Int32)) hx hb dL_atLeastUpTo_15 (by decide) ?_
      refine vx_ret ?_
      refine W.widen (k := 1) (n := 6) (Nat.le_of_ble_eq_true rfl) (Nat.le_of_ble_eq_true rfl) ?_
      exact W.iret (v := (1 : Int32)) hx hb hr (fun t ht hW => ⟨⟨1, o', rfl, ⟨rfl, rfl⟩, qm_en ht hP hD⟩, hS.F ht⟩) hS.2.2 dL_atLeastUpTo_16
  · obtain ⟨hw1, hw2⟩ := hw
    have hw2 : S = u := hw2.symm
    subst hw2
    obtain ⟨rfl, rfl⟩ := la_pV hw1 hz
    obtain ⟨hP, hD⟩ := qm_bk ht hB
    refine lv_i2l (v := v.toInt64) hx hb dL_atLeastUpTo_8 rfl ?_
    refine va_last hx hb hK hP hD hS 82 2 lg_L rfl (i := (0 : Int32)) la_in0 dL_atLeastUpTo_9 (fun H locs hP hD hS => ?_)
    rw [ls_L] at hP hD
    refine lv_goto (tgt := 17) hx hb dL_atLeastUpTo_10 (by decide) ?_
    refine lv_iconst (v := (0 : Int32)) hx hb dL_atLeastUpTo_17 (by decide) ?_
    refine vx_ret ?_
    refine W.widen (k := 1) (n := 6) (Nat.le_of_ble_eq_true rfl) (Nat.le_of_ble_eq_true rfl) ?_
    exact W.iret (v := (0 : Int32)) hx hb hr (fun t ht hW => ⟨⟨0, la_uo o v, rfl, ⟨rfl, rfl⟩, qm_en ht hP hD⟩, hS.F ht⟩) hS.2.2 dL_atLeastUpTo_18
set_option maxHeartbeats 4000000 in
set_option maxRecDepth 100000 in
theorem wL_atMostUpTo {l : Launch} (hst : l.stackTraces = false) (D : va_G) (A : Nat → Prop) (ad : Nat → Nat) (cI cQ cL cD : ClassId) (aL aD : Nat) (tl : va_W) (S : qm_S) (o : Nat → Int64) (d : Nat → UInt64) (p0 : Int32) (p1 : Int32) (z : Int32 ⊕ String) (h : fX6_atMostUpTo S p0 p1 = some z) (k : Int32) (o' : Nat → Int64) (hz : la_p st_1 z o k o') : vx_Met l yL_atMostUpTo wsL_atMostUpTo ({ frames := 8, cells := 1, slots := 6, locals := 135 }) (va_Pc [.ref (ad 0), .int p0, .int p1, .ref aL] (qm_BZ D A (la_T cI cQ cL cD) (qm_W ad cI cQ (la_r aL aD cL cD o d tl) S))) (qm_Qi D A (fun o => qm_W ad cI cQ (la_r aL aD cL cD o d tl) S) (k, o')) (vx_X (fun (_ : Unit) => False) (fun _ _ _ => True) A) 1 6 A := by
  refine vx_ofWH (cc := cL_atMostUpTo) (maxL := 5) (ret := some .int) (hh := [(0, 10, 13, 13)]) (by decide) rfl ?_
  intro p e s m args below meth c s₁ B hml hv
  obtain ⟨rfl, ⟨hA, hP, hK, hD⟩, hZ⟩ := hv
  have hK2 : va_K D vwCl (qm_T cI cQ) s := hK.sub [0, 1] rfl
  have hx := B.exec
  have hb := B.bytes
  have hr := B.returns
  have hts := atoms_spec (ws := wsL_atMostUpTo) B.pre
  have hown : s.vm.findClass RL = some m.cls := findClass_of_methodNamed B.named
  have hlocks := B.notSynchronized
  have htab : c.exceptionTable.toList = [⟨0, 10, 13, 13⟩] := vx_table (x := yL_atMostUpTo) B (hts _ List.mem_cons_self)
  have hS : va_S A s.heap s.heap [] := va_S.rf
  have hl := lv_entry ([.ref (ad 0), .int p0, .int p1, .ref aL]) (n := 5) (Nat.le_of_ble_eq_true rfl)
  rw [lg_entry_eq]
  generalize (lg_sl ([.ref (ad 0), .int p0, .int p1, .ref aL]) ++ List.replicate (5 - (lg_sl ([.ref (ad 0), .int p0, .int p1, .ref aL])).length) Slot.unset).toArray = ls at hl ⊢
  have hl : lv_has ls 5 [(0, .ref (ad 0)), (1, .int p0), (2, .int p1), (3, .ref aL)] := hl
  refine lv_aload_n hx hb dL_atMostUpTo_0 rfl (lv_at hl 3 rfl) ?_
  refine lv_iconst (v := (0 : Int32)) hx hb dL_atMostUpTo_1 (by decide) ?_
  refine lv_aload_n hx hb dL_atMostUpTo_2 rfl (lv_at hl 0 rfl) ?_
  refine lv_iload_n hx hb dL_atMostUpTo_3 rfl (lv_at hl 1 rfl) ?_
  refine lv_iload_n hx hb dL_atMostUpTo_4 rfl (lv_at hl 2 rfl) ?_
  refine vx_calli (vx_runV (As := [.int p0, .int p1]) (rest := [.int (0 : Int32), .ref aL]) ⟨hx, hb, hml, hown, hts⟩ (kX6_atMostUpTo hst l D A ad cI cQ (la_r aL aD cL cD o d tl) S p0 p1 z h) (cwV 2 hts gL_atMostUpTo_X6_atMostUpTo rfl rfl rfl (by decide +kernel) ⟨Nat.le_of_ble_eq_true rfl, Nat.le_of_ble_eq_true rfl⟩) ⟨qm_blindZ, va_recv hK2 hP (ci := 6) (q0 := 0) rfl qg_Q, fun U hU hW => ⟨rfl, qm_go hA hS hP hK2 hD hU hW, qm_Zgo hZ hS hU hW⟩⟩ rfl rfl hl.1 rfl (lv_room (Nat.le_of_ble_eq_true rfl)) dL_atMostUpTo_5 ⟨Nat.le_of_ble_eq_true rfl, Nat.le_of_ble_eq_true rfl⟩) hS (fun _ _ h9 => h9) (fun _ h9 => h9) (fun _ _ h9 => h9) (fun E ce q9 u9 t H1 locs1 ht hvm hw hB hz1 hk1 hS hce hcv hcl => ?_) (fun v u t H1 locs1 ht hvm hw hB hz1 hk1 hS => ?_)
  · obtain ⟨hE1, hE2⟩ := hB
    obtain ⟨hP, hD⟩ := qm_bk ht hE2
    obtain ⟨i, rfl, rfl, hi⟩ := la_pE hE1 hz
    rcases la_st_1 hi with ⟨rfl, rfl⟩
    · refine vx_catch hown [] ⟨0, 10, 13, 13⟩ [] htab (fun _ h9 => absurd h9 List.not_mem_nil) (by decide) (by decide) (hts (.classLink RL 13 "java/lang/IndexOutOfBoundsException") (by decide +kernel)) (va_Nw.use rfl (qz_c0 hZ)) hce hcv hcl ?_
      refine W.eq (g2 := F0 m 13 ls [.ref q9]) rfl ?_
      refine lv_astore (lv' := [(4, .ref q9), (0, .ref (ad 0)), (1, .int p0), (2, .int p1), (3, .ref aL)]) hx hb dL_atMostUpTo_13 hl (by decide) rfl (fun ls hl => ?_)
      refine lv_iconst (v := (1 : Int32)) hx hb dL_atMostUpTo_15 (by decide) ?_
      refine vx_ret ?_
      refine W.widen (k := 1) (n := 6) (Nat.le_of_ble_eq_true rfl) (Nat.le_of_ble_eq_true rfl) ?_
      exact W.iret (v := (1 : Int32)) hx hb hr (fun t ht hW => ⟨⟨1, o', rfl, ⟨rfl, rfl⟩, qm_en ht hP hD⟩, hS.F ht⟩) hS.2.2 dL_atMostUpTo_16
  · obtain ⟨hw1, hw2⟩ := hw
    have hw2 : S = u := hw2.symm
    subst hw2
    obtain ⟨rfl, rfl⟩ := la_pV hw1 hz
    obtain ⟨hP, hD⟩ := qm_bk ht hB
    refine lv_i2l (v := v.toInt64) hx hb dL_atMostUpTo_8 rfl ?_
    refine va_last hx hb hK hP hD hS 82 2 lg_L rfl (i := (0 : Int32)) la_in0 dL_atMostUpTo_9 (fun H locs hP hD hS => ?_)
    rw [ls_L] at hP hD
    refine lv_goto (tgt := 17) hx hb dL_atMostUpTo_10 (by decide) ?_
    refine lv_iconst (v := (0 : Int32)) hx hb dL_atMostUpTo_17 (by decide) ?_
    refine vx_ret ?_
    refine W.widen (k := 1) (n := 6) (Nat.le_of_ble_eq_true rfl) (Nat.le_of_ble_eq_true rfl) ?_
    exact W.iret (v := (0 : Int32)) hx hb hr (fun t ht hW => ⟨⟨0, la_uo o v, rfl, ⟨rfl, rfl⟩, qm_en ht hP hD⟩, hS.F ht⟩) hS.2.2 dL_atMostUpTo_18
set_option maxHeartbeats 4000000 in
set_option maxRecDepth 100000 in
theorem wL_reallyUpTo {l : Launch} (hst : l.stackTraces = false) (D : va_G) (A : Nat → Prop) (ad : Nat → Nat) (cI cQ cL cD : ClassId) (aL aD : Nat) (tl : va_W) (S : qm_S) (o : Nat → Int64) (d : Nat → UInt64) (p0 : Int32) (p1 : Int32) (z : Int32 ⊕ String) (h : fX6_reallyUpTo S p0 p1 = some z) (k : Int32) (o' : Nat → Int64) (hz : la_p st_1 z o k o') : vx_Met l yL_reallyUpTo wsL_reallyUpTo ({ frames := 8, cells := 1, slots := 6, locals := 133 }) (va_Pc [.ref (ad 0), .int p0, .int p1, .ref aL] (qm_BZ D A (la_T cI cQ cL cD) (qm_W ad cI cQ (la_r aL aD cL cD o d tl) S))) (qm_Qi D A (fun o => qm_W ad cI cQ (la_r aL aD cL cD o d tl) S) (k, o')) (vx_X (fun (_ : Unit) => False) (fun _ _ _ => True) A) 1 6 A := by
  refine vx_ofWH (cc := cL_reallyUpTo) (maxL := 5) (ret := some .int) (hh := [(0, 10, 13, 13)]) (by decide) rfl ?_
  intro p e s m args below meth c s₁ B hml hv
  obtain ⟨rfl, ⟨hA, hP, hK, hD⟩, hZ⟩ := hv
  have hK2 : va_K D vwCl (qm_T cI cQ) s := hK.sub [0, 1] rfl
  have hx := B.exec
  have hb := B.bytes
  have hr := B.returns
  have hts := atoms_spec (ws := wsL_reallyUpTo) B.pre
  have hown : s.vm.findClass RL = some m.cls := findClass_of_methodNamed B.named
  have hlocks := B.notSynchronized
  have htab : c.exceptionTable.toList = [⟨0, 10, 13, 13⟩] := vx_table (x := yL_reallyUpTo) B (hts _ List.mem_cons_self)
  have hS : va_S A s.heap s.heap [] := va_S.rf
  have hl := lv_entry ([.ref (ad 0), .int p0, .int p1, .ref aL]) (n := 5) (Nat.le_of_ble_eq_true rfl)
  rw [lg_entry_eq]
  generalize (lg_sl ([.ref (ad 0), .int p0, .int p1, .ref aL]) ++ List.replicate (5 - (lg_sl ([.ref (ad 0), .int p0, .int p1, .ref aL])).length) Slot.unset).toArray = ls at hl ⊢
  have hl : lv_has ls 5 [(0, .ref (ad 0)), (1, .int p0), (2, .int p1), (3, .ref aL)] := hl
  refine lv_aload_n hx hb dL_reallyUpTo_0 rfl (lv_at hl 3 rfl) ?_
  refine lv_iconst (v := (0 : Int32)) hx hb dL_reallyUpTo_1 (by decide) ?_
  refine lv_aload_n hx hb dL_reallyUpTo_2 rfl (lv_at hl 0 rfl) ?_
  refine lv_iload_n hx hb dL_reallyUpTo_3 rfl (lv_at hl 1 rfl) ?_
  refine lv_iload_n hx hb dL_reallyUpTo_4 rfl (lv_at hl 2 rfl) ?_
  refine vx_calli (vx_runV (As := [.int p0, .int p1]) (rest := [.int (0 : Int32), .ref aL]) ⟨hx, hb, hml, hown, hts⟩ (kX6_reallyUpTo hst l D A ad cI cQ (la_r aL aD cL cD o d tl) S p0 p1 z h) (cwV 2 hts gL_reallyUpTo_X6_reallyUpTo rfl rfl rfl (by decide +kernel) ⟨Nat.le_of_ble_eq_true rfl, Nat.le_of_ble_eq_true rfl⟩) ⟨qm_blindZ, va_recv hK2 hP (ci := 6) (q0 := 0) rfl qg_Q, fun U hU hW => ⟨rfl, qm_go hA hS hP hK2 hD hU hW, qm_Zgo hZ hS hU hW⟩⟩ rfl rfl hl.1 rfl (lv_room (Nat.le_of_ble_eq_true rfl)) dL_reallyUpTo_5 ⟨Nat.le_of_ble_eq_true rfl, Nat.le_of_ble_eq_true rfl⟩) hS (fun _ _ h9 => h9) (fun _ h9 => h9) (fun _ _ h9 => h9) (fun E ce q9 u9 t H1 locs1 ht hvm hw hB hz1 hk1 hS hce hcv hcl => ?_) (fun v u t H1 locs1 ht hvm hw hB hz1 hk1 hS => ?_)
  · obtain ⟨hE1, hE2⟩ := hB
    obtain ⟨hP, hD⟩ := qm_bk ht hE2
    obtain ⟨i, rfl, rfl, hi⟩ := la_pE hE1 hz
    rcases la_st_1 hi with ⟨rfl, rfl⟩
    · refine vx_catch hown [] ⟨0, 10, 13, 13⟩ [] htab (fun _ h9 => absurd h9 List.not_mem_nil) (by decide) (by decide) (hts (.classLink RL 13 "java/lang/IndexOutOfBoundsException") (by decide +kernel)) (va_Nw.use rfl (qz_c0 hZ)) hce hcv hcl ?_
      refine W.eq (g2 := F0 m 13 ls [.ref q9]) rfl ?_
      refine lv_astore (lv' := [(4, .ref q9), (0, .ref (ad 0)), (1, .int p0), (2, .int p1), (3, .ref aL)]) hx hb dL_reallyUpTo_13 hl (by decide) rfl (fun ls hl => ?_)
      refine lv_iconst (v := (1 : Int32)) hx hb dL_reallyUpTo_15 (by decide) ?_
      refine vx_ret ?_
      refine W.widen (k := 1) (n := 6) (Nat.le_of_ble_eq_true rfl) (Nat.le_of_ble_eq_true rfl) ?_
      exact W.iret (v := (1 : Int32)) hx hb hr (fun t ht hW => ⟨⟨1, o', rfl, ⟨rfl, rfl⟩, qm_en ht hP hD⟩, hS.F ht⟩) hS.2.2 dL_reallyUpTo_16
  · obtain ⟨hw1, hw2⟩ := hw
    have hw2 : S = u := hw2.symm
    subst hw2
    obtain ⟨rfl, rfl⟩ := la_pV hw1 hz
    obtain ⟨hP, hD⟩ := qm_bk ht hB
    refine lv_i2l (v := v.toInt64) hx hb dL_reallyUpTo_8 rfl ?_
    refine va_last hx hb hK hP hD hS 82 2 lg_L rfl (i := (0 : Int32)) la_in0 dL_reallyUpTo_9 (fun H locs hP hD hS => ?_)
    rw [ls_L] at hP hD
    refine lv_goto (tgt := 17) hx hb dL_reallyUpTo_10 (by decide) ?_
    refine lv_iconst (v := (0 : Int32)) hx hb dL_reallyUpTo_17 (by decide) ?_
    refine vx_ret ?_
    refine W.widen (k := 1) (n := 6) (Nat.le_of_ble_eq_true rfl) (Nat.le_of_ble_eq_true rfl) ?_
    exact W.iret (v := (0 : Int32)) hx hb hr (fun t ht hW => ⟨⟨0, la_uo o v, rfl, ⟨rfl, rfl⟩, qm_en ht hP hD⟩, hS.F ht⟩) hS.2.2 dL_reallyUpTo_18
set_option maxHeartbeats 4000000 in
set_option maxRecDepth 100000 in
theorem wL_middle {l : Launch} (hst : l.stackTraces = false) (D : va_G) (A : Nat → Prop) (ad : Nat → Nat) (cI cQ cL cD : ClassId) (aL aD : Nat) (tl : va_W) (S : qm_S) (o : Nat → Int64) (d : Nat → UInt64) (p0 : Int32) (z : Int32 ⊕ String) (h : fX6_middle S p0 = some z) (k : Int32) (o' : Nat → Int64) (hz : la_p st_2 z o k o') : vx_Met l yL_middle wsL_middle ({ frames := 8, cells := 2, slots := 12, locals := 133 }) (va_Pc [.ref (ad 0), .int p0, .ref aL] (qm_BZ D A (la_T cI cQ cL cD) (qm_W ad cI cQ (la_r aL aD cL cD o d tl) S))) (qm_Qi D A (fun o => qm_W ad cI cQ (la_r aL aD cL cD o d tl) S) (k, o')) (vx_X (fun (_ : Unit) => False) (fun _ _ _ => True) A) 2 12 A := by
  refine vx_ofWH (cc := cL_middle) (maxL := 4) (ret := some .int) (hh := [(0, 9, 12, 13), (0, 9, 15, 20)]) (by decide) rfl ?_
  intro p e s m args below meth c s₁ B hml hv
  obtain ⟨rfl, ⟨hA, hP, hK, hD⟩, hZ⟩ := hv
  have hK2 : va_K D vwCl (qm_T cI cQ) s := hK.sub [0, 1] rfl
  have hx := B.exec
  have hb := B.bytes
  have hr := B.returns
  have hts := atoms_spec (ws := wsL_middle) B.pre
  have hown : s.vm.findClass RL = some m.cls := findClass_of_methodNamed B.named
  have hlocks := B.notSynchronized
  have htab : c.exceptionTable.toList = [⟨0, 9, 12, 13⟩, ⟨0, 9, 15, 20⟩] := vx_table (x := yL_middle) B (hts _ List.mem_cons_self)
  have hS : va_S A s.heap s.heap [] := va_S.rf
  have hl := lv_entry ([.ref (ad 0), .int p0, .ref aL]) (n := 4) (Nat.le_of_ble_eq_true rfl)
  rw [lg_entry_eq]
  generalize (lg_sl ([.ref (ad 0), .int p0, .ref aL]) ++ List.replicate (4 - (lg_sl ([.ref (ad 0), .int p0, .ref aL])).length) Slot.unset).toArray = ls at hl ⊢
  have hl : lv_has ls 4 [(0, .ref (ad 0)), (1, .int p0), (2, .ref aL)] := hl
  refine lv_aload_n hx hb dL_middle_0 rfl (lv_at hl 2 rfl) ?_
  refine lv_iconst (v := (0 : Int32)) hx hb dL_middle_1 (by decide) ?_
  refine lv_aload_n hx hb dL_middle_2 rfl (lv_at hl 0 rfl) ?_
  refine lv_iload_n hx hb dL_middle_3 rfl (lv_at hl 1 rfl) ?_
  refine vx_calli (vx_runV (As := [.int p0]) (rest := [.int (0 : Int32), .ref aL]) ⟨hx, hb, hml, hown, hts⟩ (kX6_middle hst l D A ad cI cQ (la_r aL aD cL cD o d tl) S p0 z h) (cwV 1 hts gL_middle_X6_middle rfl rfl rfl (by decide +kernel) ⟨Nat.le_of_ble_eq_true rfl, Nat.le_of_ble_eq_true rfl⟩) ⟨qm_blindZ, va_recv hK2 hP (ci := 6) (q0 := 0) rfl qg_Q, fun U hU hW => ⟨rfl, qm_go hA hS hP hK2 hD hU hW, qm_Zgo hZ hS hU hW⟩⟩ rfl rfl hl.1 rfl (lv_room (Nat.le_of_ble_eq_true rfl)) dL_middle_4 ⟨Nat.le_of_ble_eq_true rfl, Nat.le_of_ble_eq_true rfl⟩) hS (fun _ _ h9 => h9) (fun _ h9 => h9) (fun _ _ h9 => h9) (fun E ce q9 u9 t H1 locs1 ht hvm hw hB hz1 hk1 hS hce hcv hcl => ?_) (fun v u t H1 locs1 ht hvm hw hB hz1 hk1 hS => ?_)
  · obtain ⟨hE1, hE2⟩ := hB
    obtain ⟨hP, hD⟩ := qm_bk ht hE2
    obtain ⟨i, rfl, rfl, hi⟩ := la_pE hE1 hz
    rcases la_st_2 hi with ⟨rfl, rfl⟩ | ⟨rfl, rfl⟩
    · refine vx_catch hown [] ⟨0, 9, 12, 13⟩ [⟨0, 9, 15, 20⟩] htab (fun _ h9 => absurd h9 List.not_mem_nil) (by decide) (by decide) (hts (.classLink RL 13 "java/lang/IndexOutOfBoundsException") (by decide +kernel)) (va_Nw.use rfl (qz_c0 hZ)) hce hcv hcl ?_
      refine W.eq (g2 := F0 m 12 ls [.ref q9]) rfl ?_
      refine lv_astore_n (lv' := [(3, .ref q9), (0, .ref (ad 0)), (1, .int p0), (2, .ref aL)]) hx hb dL_middle_12 rfl hl (by decide) rfl (fun ls hl => ?_)
      refine lv_iconst (v := (1 : Int32)) hx hb dL_middle_13 (by decide) ?_
      refine vx_ret ?_
      refine W.widen (k := 2) (n := 12) (Nat.le_of_ble_eq_true rfl) (Nat.le_of_ble_eq_true rfl) ?_
      exact W.iret (v := (1 : Int32)) hx hb hr (fun t ht hW => ⟨⟨1, o', rfl, ⟨rfl, rfl⟩, qm_en ht hP hD⟩, hS.F ht⟩) hS.2.2 dL_middle_14
    · refine vx_catch hown [⟨0, 9, 12, 13⟩] ⟨0, 9, 15, 20⟩ [] htab (List.forall_mem_cons.mpr ⟨Or.inr ⟨by decide, "java/lang/IndexOutOfBoundsException", hts (.classLink RL 13 "java/lang/IndexOutOfBoundsException") (by decide +kernel), qz_x1 hZ⟩, fun _ h9 => absurd h9 List.not_mem_nil⟩) (by decide) (by decide) (hts (.classLink RL 20 "java/lang/IllegalStateException") (by decide +kernel)) (va_Nw.use rfl (qz_c2 hZ)) hce hcv hcl ?_
      refine W.eq (g2 := F0 m 15 ls [.ref q9]) rfl ?_
      refine lv_astore_n (lv' := [(3, .ref q9), (0, .ref (ad 0)), (1, .int p0), (2, .ref aL)]) hx hb dL_middle_15 rfl hl (by decide) rfl (fun ls hl => ?_)
      refine lv_iconst (v := (2 : Int32)) hx hb dL_middle_16 (by decide) ?_
      refine vx_ret ?_
      refine W.widen (k := 2) (n := 12) (Nat.le_of_ble_eq_true rfl) (Nat.le_of_ble_eq_true rfl) ?_
      exact W.iret (v := (2 : Int32)) hx hb hr (fun t ht hW => ⟨⟨2, o', rfl, ⟨rfl, rfl⟩, qm_en ht hP hD⟩, hS.F ht⟩) hS.2.2 dL_middle_17
  · obtain ⟨hw1, hw2⟩ := hw
    have hw2 : S = u := hw2.symm
    subst hw2
    obtain ⟨rfl, rfl⟩ := la_pV hw1 hz
    obtain ⟨hP, hD⟩ := qm_bk ht hB
    refine lv_i2l (v := v.toInt64) hx hb dL_middle_7 rfl ?_
    refine va_last hx hb hK hP hD hS 82 2 lg_L rfl (i := (0 : Int32)) la_in0 dL_middle_8 (fun H locs hP hD hS => ?_)
    rw [ls_L] at hP hD
    refine lv_goto (tgt := 18) hx hb dL_middle_9 (by decide) ?_
    refine lv_iconst (v := (0 : Int32)) hx hb dL_middle_18 (by decide) ?_
    refine vx_ret ?_
    refine W.widen (k := 2) (n := 12) (Nat.le_of_ble_eq_true rfl) (Nat.le_of_ble_eq_true rfl) ?_
    exact W.iret (v := (0 : Int32)) hx hb hr (fun t ht hW => ⟨⟨0, la_uo o v, rfl, ⟨rfl, rfl⟩, qm_en ht hP hD⟩, hS.F ht⟩) hS.2.2 dL_middle_19
set_option maxHeartbeats 4000000 in
set_option maxRecDepth 100000 in
theorem wL_middleByHeaps {l : Launch} (hst : l.stackTraces = false) (D : va_G) (A : Nat → Prop) (ad : Nat → Nat) (cI cQ cL cD : ClassId) (aL aD : Nat) (tl : va_W) (S : qm_S) (o : Nat → Int64) (d : Nat → UInt64) (p0 : Int32) (z : Int32 ⊕ String) (h : fX6_middleByHeaps S p0 = some z) (k : Int32) (o' : Nat → Int64) (hz : la_p st_2 z o k o') : vx_Met l yL_middleByHeaps wsL_middleByHeaps ({ frames := 8, cells := 2, slots := 12, locals := 133 }) (va_Pc [.ref (ad 0), .int p0, .ref aL] (qm_BZ D A (la_T cI cQ cL cD) (qm_W ad cI cQ (la_r aL aD cL cD o d tl) S))) (qm_Qi D A (fun o => qm_W ad cI cQ (la_r aL aD cL cD o d tl) S) (k, o')) (vx_X (fun (_ : Unit) => False) (fun _ _ _ => True) A) 2 12 A := by
  refine vx_ofWH (cc := cL_middleByHeaps) (maxL := 4) (ret := some .int) (hh := [(0, 9, 12, 13), (0, 9, 15, 20)]) (by decide) rfl ?_
  intro p e s m args below meth c s₁ B hml hv
  obtain ⟨rfl, ⟨hA, hP, hK, hD⟩, hZ⟩ := hv
  have hK2 : va_K D vwCl (qm_T cI cQ) s := hK.sub [0, 1] rfl
  have hx := B.exec
  have hb := B.bytes
  have hr := B.returns
  have hts := atoms_spec (ws := wsL_middleByHeaps) B.pre
  have hown : s.vm.findClass RL = some m.cls := findClass_of_methodNamed B.named
  have hlocks := B.notSynchronized
  have htab : c.exceptionTable.toList = [⟨0, 9, 12, 13⟩, ⟨0, 9, 15, 20⟩] := vx_table (x := yL_middleByHeaps) B (hts _ List.mem_cons_self)
  have hS : va_S A s.heap s.heap [] := va_S.rf
  have hl := lv_entry ([.ref (ad 0), .int p0, .ref aL]) (n := 4) (Nat.le_of_ble_eq_true rfl)
  rw [lg_entry_eq]
  generalize (lg_sl ([.ref (ad 0), .int p0, .ref aL]) ++ List.replicate (4 - (lg_sl ([.ref (ad 0), .int p0, .ref aL])).length) Slot.unset).toArray = ls at hl ⊢
  have hl : lv_has ls 4 [(0, .ref (ad 0)), (1, .int p0), (2, .ref aL)] := hl
  refine lv_aload_n hx hb dL_middleByHeaps_0 rfl (lv_at hl 2 rfl) ?_
  refine lv_iconst (v := (0 : Int32)) hx hb dL_middleByHeaps_1 (by decide) ?_
  refine lv_aload_n hx hb dL_middleByHeaps_2 rfl (lv_at hl 0 rfl) ?_
  refine lv_iload_n hx hb dL_middleByHeaps_3 rfl (lv_at hl 1 rfl) ?_
  refine vx_calli (vx_runV (As := [.int p0]) (rest := [.int (0 : Int32), .ref aL]) ⟨hx, hb, hml, hown, hts⟩ (kX6_middleByHeaps hst l D A ad cI cQ (la_r aL aD cL cD o d tl) S p0 z h) (cwV 1 hts gL_middleByHeaps_X6_middleByHeaps rfl rfl rfl (by decide +kernel) ⟨Nat.le_of_ble_eq_true rfl, Nat.le_of_ble_eq_true rfl⟩) ⟨qm_blindZ, va_recv hK2 hP (ci := 6) (q0 := 0) rfl qg_Q, fun U hU hW => ⟨rfl, qm_go hA hS hP hK2 hD hU hW, qm_Zgo hZ hS hU hW⟩⟩ rfl rfl hl.1 rfl (lv_room (Nat.le_of_ble_eq_true rfl)) dL_middleByHeaps_4 ⟨Nat.le_of_ble_eq_true rfl, Nat.le_of_ble_eq_true rfl⟩) hS (fun _ _ h9 => h9) (fun _ h9 => h9) (fun _ _ h9 => h9) (fun E ce q9 u9 t H1 locs1 ht hvm hw hB hz1 hk1 hS hce hcv hcl => ?_) (fun v u t H1 locs1 ht hvm hw hB hz1 hk1 hS => ?_)
  · obtain ⟨hE1, hE2⟩ := hB
    obtain ⟨hP, hD⟩ := qm_bk ht hE2
    obtain ⟨i, rfl, rfl, hi⟩ := la_pE hE1 hz
    rcases la_st_2 hi with ⟨rfl, rfl⟩ | ⟨rfl, rfl⟩
    · refine vx_catch hown [] ⟨0, 9, 12, 13⟩ [⟨0, 9, 15, 20⟩] htab (fun _ h9 => absurd h9 List.not_mem_nil) (by decide) (by decide) (hts (.classLink RL 13 "java/lang/IndexOutOfBoundsException") (by decide +kernel)) (va_Nw.use rfl (qz_c0 hZ)) hce hcv hcl ?_
      refine W.eq (g2 := F0 m 12 ls [.ref q9]) rfl ?_
      refine lv_astore_n (lv' := [(3, .ref q9), (0, .ref (ad 0)), (1, .int p0), (2, .ref aL)]) hx hb dL_middleByHeaps_12 rfl hl (by decide) rfl (fun ls hl => ?_)
      refine lv_iconst (v := (1 : Int32)) hx hb dL_middleByHeaps_13 (by decide) ?_
      refine vx_ret ?_
      refine W.widen (k := 2) (n := 12) (Nat.le_of_ble_eq_true rfl) (Nat.le_of_ble_eq_true rfl) ?_
      exact W.iret (v := (1 : Int32)) hx hb hr (fun t ht hW => ⟨⟨1, o', rfl, ⟨rfl, rfl⟩, qm_en ht hP hD⟩, hS.F ht⟩) hS.2.2 dL_middleByHeaps_14
    · refine vx_catch hown [⟨0, 9, 12, 13⟩] ⟨0, 9, 15, 20⟩ [] htab (List.forall_mem_cons.mpr ⟨Or.inr ⟨by decide, "java/lang/IndexOutOfBoundsException", hts (.classLink RL 13 "java/lang/IndexOutOfBoundsException") (by decide +kernel), qz_x1 hZ⟩, fun _ h9 => absurd h9 List.not_mem_nil⟩) (by decide) (by decide) (hts (.classLink RL 20 "java/lang/IllegalStateException") (by decide +kernel)) (va_Nw.use rfl (qz_c2 hZ)) hce hcv hcl ?_
      refine W.eq (g2 := F0 m 15 ls [.ref q9]) rfl ?_
      refine lv_astore_n (lv' := [(3, .ref q9), (0, .ref (ad 0)), (1, .int p0), (2, .ref aL)]) hx hb dL_middleByHeaps_15 rfl hl (by decide) rfl (fun ls hl => ?_)
      refine lv_iconst (v := (2 : Int32)) hx hb dL_middleByHeaps_16 (by decide) ?_
      refine vx_ret ?_
      refine W.widen (k := 2) (n := 12) (Nat.le_of_ble_eq_true rfl) (Nat.le_of_ble_eq_true rfl) ?_
      exact W.iret (v := (2 : Int32)) hx hb hr (fun t ht hW => ⟨⟨2, o', rfl, ⟨rfl, rfl⟩, qm_en ht hP hD⟩, hS.F ht⟩) hS.2.2 dL_middleByHeaps_17
  · obtain ⟨hw1, hw2⟩ := hw
    have hw2 : S = u := hw2.symm
    subst hw2
    obtain ⟨rfl, rfl⟩ := la_pV hw1 hz
    obtain ⟨hP, hD⟩ := qm_bk ht hB
    refine lv_i2l (v := v.toInt64) hx hb dL_middleByHeaps_7 rfl ?_
    refine va_last hx hb hK hP hD hS 82 2 lg_L rfl (i := (0 : Int32)) la_in0 dL_middleByHeaps_8 (fun H locs hP hD hS => ?_)
    rw [ls_L] at hP hD
    refine lv_goto (tgt := 18) hx hb dL_middleByHeaps_9 (by decide) ?_
    refine lv_iconst (v := (0 : Int32)) hx hb dL_middleByHeaps_18 (by decide) ?_
    refine vx_ret ?_
    refine W.widen (k := 2) (n := 12) (Nat.le_of_ble_eq_true rfl) (Nat.le_of_ble_eq_true rfl) ?_
    exact W.iret (v := (0 : Int32)) hx hb hr (fun t ht hW => ⟨⟨0, la_uo o v, rfl, ⟨rfl, rfl⟩, qm_en ht hP hD⟩, hS.F ht⟩) hS.2.2 dL_middleByHeaps_19
set_option maxHeartbeats 4000000 in
set_option maxRecDepth 100000 in
theorem wL_part {l : Launch} (hst : l.stackTraces = false) (D : va_G) (A : Nat → Prop) (ad : Nat → Nat) (cI cQ cL cD : ClassId) (aL aD : Nat) (tl : va_W) (S : qm_S) (o : Nat → Int64) (d : Nat → UInt64) (p0 : Int32) (z : UInt64 ⊕ String) (h : fX6_part S p0 = some z) (k : Int32) (d' : Nat → UInt64) (hz : la_d st_1 z d k d') : vx_Met l yL_part wsL_part ({ frames := 8, cells := 1, slots := 6, locals := 134 }) (va_Pc [.ref (ad 0), .int p0, .ref aD] (qm_BZ D A (la_T cI cQ cL cD) (qm_W ad cI cQ (la_r aL aD cL cD o d tl) S))) (qm_Qi D A (fun d => qm_W ad cI cQ (la_r aL aD cL cD o d tl) S) (k, d')) (vx_X (fun (_ : Unit) => False) (fun _ _ _ => True) A) 1 6 A := by
  refine vx_ofWH (cc := cL_part) (maxL := 4) (ret := some .int) (hh := [(0, 8, 11, 13)]) (by decide) rfl ?_
  intro p e s m args below meth c s₁ B hml hv
  obtain ⟨rfl, ⟨hA, hP, hK, hD⟩, hZ⟩ := hv
  have hK2 : va_K D vwCl (qm_T cI cQ) s := hK.sub [0, 1] rfl
  have hx := B.exec
  have hb := B.bytes
  have hr := B.returns
  have hts := atoms_spec (ws := wsL_part) B.pre
  have hown : s.vm.findClass RL = some m.cls := findClass_of_methodNamed B.named
  have hlocks := B.notSynchronized
  have htab : c.exceptionTable.toList = [⟨0, 8, 11, 13⟩] := vx_table (x := yL_part) B (hts _ List.mem_cons_self)
  have hS : va_S A s.heap s.heap [] := va_S.rf
  have hl := lv_entry ([.ref (ad 0), .int p0, .ref aD]) (n := 4) (Nat.le_of_ble_eq_true rfl)
  rw [lg_entry_eq]
  generalize (lg_sl ([.ref (ad 0), .int p0, .ref aD]) ++ List.replicate (4 - (lg_sl ([.ref (ad 0), .int p0, .ref aD])).length) Slot.unset).toArray = ls at hl ⊢
  have hl : lv_has ls 4 [(0, .ref (ad 0)), (1, .int p0), (2, .ref aD)] := hl
  refine lv_aload_n hx hb dL_part_0 rfl (lv_at hl 2 rfl) ?_
  refine lv_iconst (v := (0 : Int32)) hx hb dL_part_1 (by decide) ?_
  refine lv_aload_n hx hb dL_part_2 rfl (lv_at hl 0 rfl) ?_
  refine lv_iload_n hx hb dL_part_3 rfl (lv_at hl 1 rfl) ?_
  refine vx_calld (vx_runV (As := [.int p0]) (rest := [.int (0 : Int32), .ref aD]) ⟨hx, hb, hml, hown, hts⟩ (kX6_part hst l D A ad cI cQ (la_r aL aD cL cD o d tl) S p0 z h) (cwV 1 hts gL_part_X6_part rfl rfl rfl (by decide +kernel) ⟨Nat.le_of_ble_eq_true rfl, Nat.le_of_ble_eq_true rfl⟩) ⟨qm_blindZ, va_recv hK2 hP (ci := 6) (q0 := 0) rfl qg_Q, fun U hU hW => ⟨rfl, qm_go hA hS hP hK2 hD hU hW, qm_Zgo hZ hS hU hW⟩⟩ rfl rfl hl.1 rfl (lv_room (Nat.le_of_ble_eq_true rfl)) dL_part_4 ⟨Nat.le_of_ble_eq_true rfl, Nat.le_of_ble_eq_true rfl⟩) hS (fun _ _ h9 => h9) (fun _ h9 => h9) (fun _ _ h9 => h9) (fun E ce q9 u9 t H1 locs1 ht hvm hw hB hz1 hk1 hS hce hcv hcl => ?_) (fun v u t H1 locs1 ht hvm hw hB hz1 hk1 hS => ?_)
  · obtain ⟨hE1, hE2⟩ := hB
    obtain ⟨hP, hD⟩ := qm_bk ht hE2
    obtain ⟨i, rfl, rfl, hi⟩ := la_dE hE1 hz
    rcases la_st_1 hi with ⟨rfl, rfl⟩
    · refine vx_catch hown [] ⟨0, 8, 11, 13⟩ [] htab (fun _ h9 => absurd h9 List.not_mem_nil) (by decide) (by decide) (hts (.classLink RL 13 "java/lang/IndexOutOfBoundsException") (by decide +kernel)) (va_Nw.use rfl (qz_c0 hZ)) hce hcv hcl ?_
      refine W.eq (g2 := F0 m 11 ls [.ref q9]) rfl ?_
      refine lv_astore_n (lv' := [(3, .ref q9), (0, .ref (ad 0)), (1, .int p0), (2, .ref aD)]) hx hb dL_part_11 rfl hl (by decide) rfl (fun ls hl => ?_)
      refine lv_iconst (v := (1 : Int32)) hx hb dL_part_12 (by decide) ?_
      refine vx_ret ?_
      refine W.widen (k := 1) (n := 6) (Nat.le_of_ble_eq_true rfl) (Nat.le_of_ble_eq_true rfl) ?_
      exact W.iret (v := (1 : Int32)) hx hb hr (fun t ht hW => ⟨⟨1, d', rfl, ⟨rfl, rfl⟩, qm_en ht hP hD⟩, hS.F ht⟩) hS.2.2 dL_part_13
  · obtain ⟨hw1, hw2⟩ := hw
    have hw2 : S = u := hw2.symm
    subst hw2
    obtain ⟨rfl, rfl⟩ := la_dV hw1 hz
    obtain ⟨hP, hD⟩ := qm_bk ht hB
    refine va_dast hx hb hK hP hD hS 83 3 lg_D rfl (i := (0 : Int32)) la_in0 dL_part_7 (fun H locs hP hD hS => ?_)
    rw [ls_D] at hP hD
    refine lv_goto (tgt := 14) hx hb dL_part_8 (by decide) ?_
    refine lv_iconst (v := (0 : Int32)) hx hb dL_part_14 (by decide) ?_
    refine vx_ret ?_
    refine W.widen (k := 1) (n := 6) (Nat.le_of_ble_eq_true rfl) (Nat.le_of_ble_eq_true rfl) ?_
    exact W.iret (v := (0 : Int32)) hx hb hr (fun t ht hW => ⟨⟨0, la_ud d v, rfl, ⟨rfl, rfl⟩, qm_en ht hP hD⟩, hS.F ht⟩) hS.2.2 dL_part_15
