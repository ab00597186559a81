set_option maxHeartbeats 4000000 in
set_option maxRecDepth 100000 in
theorem lc_begin {p : Program} {l : Launch} {e : Env} {s : State} {m : MethodId} {below : List Frame} {meth : Method} {c : Code} {b L : Nat} {xs : Nat → Int32} {Q : State → Prop} {D : va_G} {A : Nat → Prop} {cI cQ cL cD : ClassId} {aL aD : Nat} {ad am : Nat → Nat} (G : la_H l p s m c b L xs D A cI cQ cL cD) {i : Nat} (hi : 5 * i + 5 ≤ L) {S : qm_S} {M : mm_M} (hR : st_R S M) {o : Nat → Int64} {d : Nat → UInt64} {H : Heap} {locs : List Loc} {ls : Array Slot} {cells slots : Nat} (hP : va_P D vwCl (la_v ad am cI cQ cL cD aL aD S o d M) H) (hD : va_D A (la_v ad am cI cQ cL cD aL aD S o d M)) (hS : va_S A s.heap H locs) (hl : lv_has ls 9 (la_l i b ad am aL aD)) (hc : cells + 5 ≤ 601024) (hsl : slots + 30 ≤ 7293034)
    (kk : ∀ (S' : qm_S) (M' : mm_M) (o' : Nat → Int64) (d' : Nat → UInt64) (H : Heap) (locs : List Loc) (ls : Array Slot), st_R S' M' → va_P D vwCl (la_v ad am cI cQ cL cD aL aD S' o' d' M') H → va_D A (la_v ad am cI cQ cL cD aL aD S' o' d' M') → va_S A s.heap H locs → lv_has ls 9 (la_l i b ad am aL aD) → W p l e room_1 s m #[Value.ref b] below meth c H locs (cells + 2) (slots + 12) Q (F0 m 1581 ls [])) : W p l e room_1 s m #[Value.ref b] below meth c H locs cells slots Q (F0 m 148 ls []) := by
  obtain ⟨⟨hx, hb, hml, hown⟩, hts, ⟨hX, hbl, hbA, hL⟩, ⟨hA, hK, hZ⟩, hst⟩ := G
  have hKm : va_K D vwCl (mm_T cI) s := hK.sub [0] rfl
  have hi1 : vp_in (nI (5 * i) + (1 : Int32)) L := la_ix 1 (by omega) hL
  have hi2 : vp_in (nI (5 * i) + (2 : Int32)) L := la_ix 2 (by omega) hL
  obtain ⟨z, v, M', k, S', o', hz, hy, hw1, hw2, hw3, hw4⟩ := la_of_w o (st_begin hR (xs (nI (5 * i) + (1 : Int32)).toNatClampNeg) (xs (nI (5 * i) + (2 : Int32)).toNatClampNeg)) (by decide)
  refine lv_aload_n hx hb dL_law_148 rfl (lv_at hl 4 rfl) ?_
  refine lv_aload_n hx hb dL_law_149 rfl (lv_at hl 5 rfl) ?_
  refine lv_iload hx hb dL_law_150 (lv_at hl 0 rfl) ?_
  refine lv_iconst (v := (1 : Int32)) hx hb dL_law_152 (by decide) ?_
  refine lv_iadd hx hb dL_law_153 ?_
  refine va_sld hx hb hX hbl hbA hS hi1 dL_law_154 ?_
  refine lv_aload_n hx hb dL_law_155 rfl (lv_at hl 5 rfl) ?_
  refine lv_iload hx hb dL_law_156 (lv_at hl 0 rfl) ?_
  refine lv_iconst (v := (2 : Int32)) hx hb dL_law_158 (by decide) ?_
  refine lv_iadd hx hb dL_law_159 ?_
  refine va_sld hx hb hX hbl hbA hS hi2 dL_law_160 ?_
  refine lv_aload_n hx hb dL_law_161 rfl (lv_at hl 2 rfl) ?_
  refine vx_calli (vx_runSX (As := [.ref (ad 0), .int (xs (nI (5 * i) + (1 : Int32)).toNatClampNeg), .int (xs (nI (5 * i) + (2 : Int32)).toNatClampNeg), .ref aL]) (rest := []) ⟨hx, hb, hml, hown, hts⟩ (wL_begin hst D A ad cI cQ cL cD aL aD (mm_w am cI M) S o d (xs (nI (5 * i) + (1 : Int32)).toNatClampNeg) (xs (nI (5 * i) + (2 : Int32)).toNatClampNeg) z hz k S' o' hw1) (vx_cwSW 4 hts gL_law_L_begin rfl rfl rfl (by decide +kernel) ⟨Nat.le_of_ble_eq_true rfl, Nat.le_of_ble_eq_true rfl⟩) ⟨qm_blindZ, fun U hU hW => ⟨rfl, qm_go hA hS hP hK hD hU hW, qm_Zgo hZ hS hU hW⟩⟩ rfl rfl hl.1 rfl (lv_room (Nat.le_of_ble_eq_true rfl)) dL_law_162 ⟨by show cells + 2 ≤ 601024; omega, by show slots + 12 ≤ 7293034; omega⟩) hS (fun _ _ h9 => h9) (fun _ h9 => h9) (fun _ _ h9 => h9) (fun E ce q9 u9 t H1 locs1 ht hvm hw hB hz1 hk1 hS hce hcv hcl => hw.elim) (fun r w9 t H locs ht hvm hw hB hz1 hk1 hS => ?_)
  obtain ⟨hr1, hr2⟩ := hw
  have hr1 : r = k := hr1
  have hr2 : w9 = (S', o') := hr2
  subst hr1
  subst hr2
  obtain ⟨hP, hD⟩ := qm_bk ht hB
  clear hB
  have hP : va_P D vwCl (la_v ad am cI cQ cL cD aL aD S' o' d M) H := hP
  have hD : va_D A (la_v ad am cI cQ cL cD aL aD S' o' d M) := hD
  rw [la_W] at hP hD
  refine lv_istore (lv' := [(6, .int r), (5, .int (nI (5 * i))), (4, .ref aD), (3, .ref aL), (2, .ref (am 0)), (1, .ref (ad 0)), (0, .ref b)]) hx hb dL_law_165 hl (by decide) rfl (fun ls hl => ?_)
  refine lv_aload_n hx hb dL_law_167 rfl (lv_at hl 4 rfl) ?_
  refine lv_aload_n hx hb dL_law_168 rfl (lv_at hl 6 rfl) ?_
  refine lv_iload hx hb dL_law_169 (lv_at hl 1 rfl) ?_
  refine lv_iconst (v := (1 : Int32)) hx hb dL_law_171 (by decide) ?_
  refine lv_iadd hx hb dL_law_172 ?_
  refine va_sld hx hb hX hbl hbA hS hi1 dL_law_173 ?_
  refine lv_aload_n hx hb dL_law_174 rfl (lv_at hl 6 rfl) ?_
  refine lv_iload hx hb dL_law_175 (lv_at hl 1 rfl) ?_
  refine lv_iconst (v := (2 : Int32)) hx hb dL_law_177 (by decide) ?_
  refine lv_iadd hx hb dL_law_178 ?_
  refine va_sld hx hb hX hbl hbA hS hi2 dL_law_179 ?_
  refine va_calli (va_runV (As := [.int (xs (nI (5 * i) + (1 : Int32)).toNatClampNeg), .int (xs (nI (5 * i) + (2 : Int32)).toNatClampNeg)]) (rest := []) ⟨hx, hb, hml, hown, hts⟩ (kX7_begin l D A (la_pre ad cI cQ cL cD aL aD S' o' d) am cI M (xs (nI (5 * i) + (1 : Int32)).toNatClampNeg) (xs (nI (5 * i) + (2 : Int32)).toNatClampNeg) _ hy) (cwV 2 hts gL_law_X7_begin rfl rfl rfl (by decide +kernel) ⟨Nat.le_of_ble_eq_true rfl, Nat.le_of_ble_eq_true rfl⟩) ⟨qm_blind, va_recv hKm hP (ci := 7) (q0 := ((la_pre ad cI cQ cL cD aL aD S' o' d).length + 0)) rfl mg_0, fun U hU hW => ⟨rfl, qm_go hA hS hP hKm hD hU hW⟩⟩ rfl rfl hl.1 rfl (lv_room (Nat.le_of_ble_eq_true rfl)) dL_law_180 ⟨by show cells + 2 + 0 ≤ 601024; omega, by show slots + 12 + 0 ≤ 7293034; omega⟩) hS (fun _ _ h9 => h9) (fun _ h9 => h9) (fun r2 u t H locs ht hvm hw hB hz1 hk1 hS => ?_)
  obtain ⟨hr1, hr2⟩ := hw
  have hr1 : r2 = v := hr1
  have hr2 : u = M' := hr2
  subst hr1
  subst hr2
  obtain ⟨hP, hD⟩ := qm_bk ht hB
  clear hB
  refine lv_istore (lv' := [(7, .int r2), (6, .int r), (5, .int (nI (5 * i))), (4, .ref aD), (3, .ref aL), (2, .ref (am 0)), (1, .ref (ad 0)), (0, .ref b)]) hx hb dL_law_183 hl (by decide) rfl (fun ls hl => ?_)
  refine lv_aload_n hx hb dL_law_185 rfl (lv_at hl 5 rfl) ?_
  refine va_calli (va_runV (As := []) (rest := []) ⟨hx, hb, hml, hown, hts⟩ (nX7_thrown l D A (la_pre ad cI cQ cL cD aL aD S' o' d) am cI u) (cwV 0 hts gL_law_X7_thrown rfl rfl rfl (by decide +kernel) ⟨Nat.le_of_ble_eq_true rfl, Nat.le_of_ble_eq_true rfl⟩) ⟨qm_blind, va_recv hKm hP (ci := 7) (q0 := ((la_pre ad cI cQ cL cD aL aD S' o' d).length + 0)) rfl mg_0, fun U hU hW => ⟨rfl, qm_go hA hS hP hKm hD hU hW⟩⟩ rfl rfl hl.1 rfl (lv_room (Nat.le_of_ble_eq_true rfl)) dL_law_186 ⟨by show cells + 2 + 0 + 0 ≤ 601024; omega, by show slots + 12 + 0 + 0 ≤ 7293034; omega⟩) hS (fun _ _ h9 => h9) (fun _ h9 => h9) (fun r3 u2 t H locs ht hvm hw hB hz1 hk1 hS => ?_)
  obtain ⟨hr1, hr2⟩ := hw
  have hr1 : r3 = u.2 := hr1
  have hr2 : u2 = u := hr2
  subst hr1
  subst hr2
  obtain ⟨hP, hD⟩ := qm_bk ht hB
  clear hB
  have hP : va_P D vwCl (mm_W (la_pre ad cI cQ cL cD aL aD S' o' d) am cI u2) H := hP
  have hD : va_D A (mm_W (la_pre ad cI cQ cL cD aL aD S' o' d) am cI u2) := hD
  rw [← la_W] at hP hD
  refine lv_iload hx hb dL_law_189 (lv_at hl 1 rfl) ?_
  refine lv_icmp_eq (tgt := 196) hx hb dL_law_191 (by decide) (fun _ => ?_) (fun q9 => absurd hw2 q9)
  have fin : W p l e room_1 s m #[Value.ref b] below meth c H locs (cells + 2) (slots + 12) Q (F0 m 213 ls []) := by
    refine lv_goto (tgt := 1581) hx hb dL_law_213 (by decide) ?_
    exact kk _ _ _ _ H locs ls hw3 hP hD hS (lv_sub hl [2, 3, 4, 5, 6, 7] rfl)
  refine lv_iload hx hb dL_law_196 (lv_at hl 1 rfl) ?_
  refine lv_if_ne (tgt := 213) hx hb dL_law_198 (by decide) (fun _ => fin) (fun hk0 => ?_)
  refine lv_aload_n hx hb dL_law_201 rfl (lv_at hl 4 rfl) ?_
  refine lv_iconst (v := (0 : Int32)) hx hb dL_law_202 (by decide) ?_
  refine va_lald hx hb hK hP 82 2 lg_L rfl (i := (0 : Int32)) la_in0 dL_law_203 ?_
  refine lv_iload hx hb dL_law_204 (lv_at hl 0 rfl) ?_
  refine lv_i2l (v := r2.toInt64) hx hb dL_law_206 rfl ?_
  refine W.lcmp hx hb dL_law_207 ?_
  exact lv_if_eq (tgt := 213) hx hb dL_law_208 (by decide) (fun _ => fin) (fun q9 => absurd (la_cmp (hw4 hk0)) q9)
set_option maxHeartbeats 4000000 in
set_option maxRecDepth 100000 in
theorem lc_show {p : Program} {l : Launch} {e : Env} {s : State} {m : MethodId} {below : List Frame} {meth : Method} {c : Code} {b L : Nat} {xs : Nat → Int32} {Q : State → Prop} {D : va_G} {A : Nat → Prop} {cI cQ cL cD : ClassId} {aL aD : Nat} {ad am : Nat → Nat} (G : la_H l p s m c b L xs D A cI cQ cL cD) {i : Nat} (hi : 5 * i + 5 ≤ L) {S : qm_S} {M : mm_M} (hR : st_R S M) {o : Nat → Int64} {d : Nat → UInt64} {H : Heap} {locs : List Loc} {ls : Array Slot} {cells slots : Nat} (hP : va_P D vwCl (la_v ad am cI cQ cL cD aL aD S o d M) H) (hD : va_D A (la_v ad am cI cQ cL cD aL aD S o d M)) (hS : va_S A s.heap H locs) (hl : lv_has ls 9 (la_l i b ad am aL aD)) (hc : cells + 5 ≤ 601024) (hsl : slots + 30 ≤ 7293034)
    (kk : ∀ (S' : qm_S) (M' : mm_M) (o' : Nat → Int64) (d' : Nat → UInt64) (H : Heap) (locs : List Loc) (ls : Array Slot), st_R S' M' → va_P D vwCl (la_v ad am cI cQ cL cD aL aD S' o' d' M') H → va_D A (la_v ad am cI cQ cL cD aL aD S' o' d' M') → va_S A s.heap H locs → lv_has ls 9 (la_l i b ad am aL aD) → W p l e room_1 s m #[Value.ref b] below meth c H locs (cells + 3) (slots + 18) Q (F0 m 1581 ls [])) : W p l e room_1 s m #[Value.ref b] below meth c H locs cells slots Q (F0 m 216 ls []) := by
  obtain ⟨⟨hx, hb, hml, hown⟩, hts, ⟨hX, hbl, hbA, hL⟩, ⟨hA, hK, hZ⟩, hst⟩ := G
  have hKm : va_K D vwCl (mm_T cI) s := hK.sub [0] rfl
  have hi1 : vp_in (nI (5 * i) + (1 : Int32)) L := la_ix 1 (by omega) hL
  have hi2 : vp_in (nI (5 * i) + (2 : Int32)) L := la_ix 2 (by omega) hL
  obtain ⟨z, v, M', k, S', o', hz, hy, hw1, hw2, hw3, hw4⟩ := la_of_w o (st_show hR (xs (nI (5 * i) + (1 : Int32)).toNatClampNeg) (xs (nI (5 * i) + (2 : Int32)).toNatClampNeg)) (by decide)
  refine lv_aload_n hx hb dL_law_216 rfl (lv_at hl 4 rfl) ?_
  refine lv_aload_n hx hb dL_law_217 rfl (lv_at hl 5 rfl) ?_
  refine lv_iload hx hb dL_law_218 (lv_at hl 0 rfl) ?_
  refine lv_iconst (v := (1 : Int32)) hx hb dL_law_220 (by decide) ?_
  refine lv_iadd hx hb dL_law_221 ?_
  refine va_sld hx hb hX hbl hbA hS hi1 dL_law_222 ?_
  refine lv_aload_n hx hb dL_law_223 rfl (lv_at hl 5 rfl) ?_
  refine lv_iload hx hb dL_law_224 (lv_at hl 0 rfl) ?_
  refine lv_iconst (v := (2 : Int32)) hx hb dL_law_226 (by decide) ?_
  refine lv_iadd hx hb dL_law_227 ?_
  refine va_sld hx hb hX hbl hbA hS hi2 dL_law_228 ?_
  refine lv_aload_n hx hb dL_law_229 rfl (lv_at hl 2 rfl) ?_
  refine vx_calli (vx_runSX (As := [.ref (ad 0), .int (xs (nI (5 * i) + (1 : Int32)).toNatClampNeg), .int (xs (nI (5 * i) + (2 : Int32)).toNatClampNeg), .ref aL]) (rest := []) ⟨hx, hb, hml, hown, hts⟩ (wL_show hst D A ad cI cQ cL cD aL aD (mm_w am cI M) S o d (xs (nI (5 * i) + (1 : Int32)).toNatClampNeg) (xs (nI (5 * i) + (2 : Int32)).toNatClampNeg) z hz k S' o' hw1) (vx_cwSW 4 hts gL_law_L_show rfl rfl rfl (by decide +kernel) ⟨Nat.le_of_ble_eq_true rfl, Nat.le_of_ble_eq_true rfl⟩) ⟨qm_blindZ, fun U hU hW => ⟨rfl, qm_go hA hS hP hK hD hU hW, qm_Zgo hZ hS hU hW⟩⟩ rfl rfl hl.1 rfl (lv_room (Nat.le_of_ble_eq_true rfl)) dL_law_230 ⟨by show cells + 3 ≤ 601024; omega, by show slots + 18 ≤ 7293034; omega⟩) hS (fun _ _ h9 => h9) (fun _ h9 => h9) (fun _ _ h9 => h9) (fun E ce q9 u9 t H1 locs1 ht hvm hw hB hz1 hk1 hS hce hcv hcl => hw.elim) (fun r w9 t H locs ht hvm hw hB hz1 hk1 hS => ?_)
  obtain ⟨hr1, hr2⟩ := hw
  have hr1 : r = k := hr1
  have hr2 : w9 = (S', o') := hr2
  subst hr1
  subst hr2
  obtain ⟨hP, hD⟩ := qm_bk ht hB
  clear hB
  have hP : va_P D vwCl (la_v ad am cI cQ cL cD aL aD S' o' d M) H := hP
  have hD : va_D A (la_v ad am cI cQ cL cD aL aD S' o' d M) := hD
  rw [la_W] at hP hD
  refine lv_istore (lv' := [(6, .int r), (5, .int (nI (5 * i))), (4, .ref aD), (3, .ref aL), (2, .ref (am 0)), (1, .ref (ad 0)), (0, .ref b)]) hx hb dL_law_233 hl (by decide) rfl (fun ls hl => ?_)
  refine lv_aload_n hx hb dL_law_235 rfl (lv_at hl 4 rfl) ?_
  refine lv_aload_n hx hb dL_law_236 rfl (lv_at hl 6 rfl) ?_
  refine lv_iload hx hb dL_law_237 (lv_at hl 1 rfl) ?_
  refine lv_iconst (v := (1 : Int32)) hx hb dL_law_239 (by decide) ?_
  refine lv_iadd hx hb dL_law_240 ?_
  refine va_sld hx hb hX hbl hbA hS hi1 dL_law_241 ?_
  refine lv_aload_n hx hb dL_law_242 rfl (lv_at hl 6 rfl) ?_
  refine lv_iload hx hb dL_law_243 (lv_at hl 1 rfl) ?_
  refine lv_iconst (v := (2 : Int32)) hx hb dL_law_245 (by decide) ?_
  refine lv_iadd hx hb dL_law_246 ?_
  refine va_sld hx hb hX hbl hbA hS hi2 dL_law_247 ?_
  refine va_calli (va_runV (As := [.int (xs (nI (5 * i) + (1 : Int32)).toNatClampNeg), .int (xs (nI (5 * i) + (2 : Int32)).toNatClampNeg)]) (rest := []) ⟨hx, hb, hml, hown, hts⟩ (kX7_show l D A (la_pre ad cI cQ cL cD aL aD S' o' d) am cI M (xs (nI (5 * i) + (1 : Int32)).toNatClampNeg) (xs (nI (5 * i) + (2 : Int32)).toNatClampNeg) _ hy) (cwV 2 hts gL_law_X7_show rfl rfl rfl (by decide +kernel) ⟨Nat.le_of_ble_eq_true rfl, Nat.le_of_ble_eq_true rfl⟩) ⟨qm_blind, va_recv hKm hP (ci := 7) (q0 := ((la_pre ad cI cQ cL cD aL aD S' o' d).length + 0)) rfl mg_0, fun U hU hW => ⟨rfl, qm_go hA hS hP hKm hD hU hW⟩⟩ rfl rfl hl.1 rfl (lv_room (Nat.le_of_ble_eq_true rfl)) dL_law_248 ⟨by show cells + 3 + 0 ≤ 601024; omega, by show slots + 18 + 0 ≤ 7293034; omega⟩) hS (fun _ _ h9 => h9) (fun _ h9 => h9) (fun r2 u t H locs ht hvm hw hB hz1 hk1 hS => ?_)
  obtain ⟨hr1, hr2⟩ := hw
  have hr1 : r2 = v := hr1
  have hr2 : u = M' := hr2
  subst hr1
  subst hr2
  obtain ⟨hP, hD⟩ := qm_bk ht hB
  clear hB
  refine lv_istore (lv' := [(7, .int r2), (6, .int r), (5, .int (nI (5 * i))), (4, .ref aD), (3, .ref aL), (2, .ref (am 0)), (1, .ref (ad 0)), (0, .ref b)]) hx hb dL_law_251 hl (by decide) rfl (fun ls hl => ?_)
  refine lv_aload_n hx hb dL_law_253 rfl (lv_at hl 5 rfl) ?_
  refine va_calli (va_runV (As := []) (rest := []) ⟨hx, hb, hml, hown, hts⟩ (nX7_thrown l D A (la_pre ad cI cQ cL cD aL aD S' o' d) am cI u) (cwV 0 hts gL_law_X7_thrown rfl rfl rfl (by decide +kernel) ⟨Nat.le_of_ble_eq_true rfl, Nat.le_of_ble_eq_true rfl⟩) ⟨qm_blind, va_recv hKm hP (ci := 7) (q0 := ((la_pre ad cI cQ cL cD aL aD S' o' d).length + 0)) rfl mg_0, fun U hU hW => ⟨rfl, qm_go hA hS hP hKm hD hU hW⟩⟩ rfl rfl hl.1 rfl (lv_room (Nat.le_of_ble_eq_true rfl)) dL_law_254 ⟨by show cells + 3 + 0 + 0 ≤ 601024; omega, by show slots + 18 + 0 + 0 ≤ 7293034; omega⟩) hS (fun _ _ h9 => h9) (fun _ h9 => h9) (fun r3 u2 t H locs ht hvm hw hB hz1 hk1 hS => ?_)
  obtain ⟨hr1, hr2⟩ := hw
  have hr1 : r3 = u.2 := hr1
  have hr2 : u2 = u := hr2
  subst hr1
  subst hr2
  obtain ⟨hP, hD⟩ := qm_bk ht hB
  clear hB
  have hP : va_P D vwCl (mm_W (la_pre ad cI cQ cL cD aL aD S' o' d) am cI u2) H := hP
  have hD : va_D A (mm_W (la_pre ad cI cQ cL cD aL aD S' o' d) am cI u2) := hD
  rw [← la_W] at hP hD
  refine lv_iload hx hb dL_law_257 (lv_at hl 1 rfl) ?_
  refine lv_icmp_eq (tgt := 264) hx hb dL_law_259 (by decide) (fun _ => ?_) (fun q9 => absurd hw2 q9)
  have fin : W p l e room_1 s m #[Value.ref b] below meth c H locs (cells + 3) (slots + 18) Q (F0 m 281 ls []) := by
    refine lv_goto (tgt := 1581) hx hb dL_law_281 (by decide) ?_
    exact kk _ _ _ _ H locs ls hw3 hP hD hS (lv_sub hl [2, 3, 4, 5, 6, 7] rfl)
  refine lv_iload hx hb dL_law_264 (lv_at hl 1 rfl) ?_
  refine lv_if_ne (tgt := 281) hx hb dL_law_266 (by decide) (fun _ => fin) (fun hk0 => ?_)
  refine lv_aload_n hx hb dL_law_269 rfl (lv_at hl 4 rfl) ?_
  refine lv_iconst (v := (0 : Int32)) hx hb dL_law_270 (by decide) ?_
  refine va_lald hx hb hK hP 82 2 lg_L rfl (i := (0 : Int32)) la_in0 dL_law_271 ?_
  refine lv_iload hx hb dL_law_272 (lv_at hl 0 rfl) ?_
  refine lv_i2l (v := r2.toInt64) hx hb dL_law_274 rfl ?_
  refine W.lcmp hx hb dL_law_275 ?_
  exact lv_if_eq (tgt := 281) hx hb dL_law_276 (by decide) (fun _ => fin) (fun q9 => absurd (la_cmp (hw4 hk0)) q9)
set_option maxHeartbeats 4000000 in
set_option maxRecDepth 100000 in
theorem lc_showRow {p : Program} {l : Launch} {e : Env} {s : State} {m : MethodId} {below : List Frame} {meth : Method} {c : Code} {b L : Nat} {xs : Nat → Int32} {Q : State → Prop} {D : va_G} {A : Nat → Prop} {cI cQ cL cD : ClassId} {aL aD : Nat} {ad am : Nat → Nat} (G : la_H l p s m c b L xs D A cI cQ cL cD) {i : Nat} (hi : 5 * i + 5 ≤ L) {S : qm_S} {M : mm_M} (hR : st_R S M) {o : Nat → Int64} {d : Nat → UInt64} {H : Heap} {locs : List Loc} {ls : Array Slot} {cells slots : Nat} (hP : va_P D vwCl (la_v ad am cI cQ cL cD aL aD S o d M) H) (hD : va_D A (la_v ad am cI cQ cL cD aL aD S o d M)) (hS : va_S A s.heap H locs) (hl : lv_has ls 9 (la_l i b ad am aL aD)) (hc : cells + 5 ≤ 601024) (hsl : slots + 30 ≤ 7293034)
    (kk : ∀ (S' : qm_S) (M' : mm_M) (o' : Nat → Int64) (d' : Nat → UInt64) (H : Heap) (locs : List Loc) (ls : Array Slot), st_R S' M' → va_P D vwCl (la_v ad am cI cQ cL cD aL aD S' o' d' M') H → va_D A (la_v ad am cI cQ cL cD aL aD S' o' d' M') → va_S A s.heap H locs → lv_has ls 9 (la_l i b ad am aL aD) → W p l e room_1 s m #[Value.ref b] below meth c H locs (cells + 5) (slots + 30) Q (F0 m 1581 ls [])) : W p l e room_1 s m #[Value.ref b] below meth c H locs cells slots Q (F0 m 284 ls []) := by
  obtain ⟨⟨hx, hb, hml, hown⟩, hts, ⟨hX, hbl, hbA, hL⟩, ⟨hA, hK, hZ⟩, hst⟩ := G
  have hKm : va_K D vwCl (mm_T cI) s := hK.sub [0] rfl
  have hi1 : vp_in (nI (5 * i) + (1 : Int32)) L := la_ix 1 (by omega) hL
  have hi2 : vp_in (nI (5 * i) + (2 : Int32)) L := la_ix 2 (by omega) hL
  have hi3 : vp_in (nI (5 * i) + (3 : Int32)) L := la_ix 3 (by omega) hL
  have hi4 : vp_in (nI (5 * i) + (4 : Int32)) L := la_ix 4 (by omega) hL
  obtain ⟨z, v, M', k, S', o', hz, hy, hw1, hw2, hw3, hw4⟩ := la_of_w o (st_showRow hR (xs (nI (5 * i) + (1 : Int32)).toNatClampNeg) (xs (nI (5 * i) + (2 : Int32)).toNatClampNeg) (xs (nI (5 * i) + (3 : Int32)).toNatClampNeg) (xs (nI (5 * i) + (4 : Int32)).toNatClampNeg)) (by decide)
  refine lv_aload_n hx hb dL_law_284 rfl (lv_at hl 4 rfl) ?_
  refine lv_aload_n hx hb dL_law_285 rfl (lv_at hl 5 rfl) ?_
  refine lv_iload hx hb dL_law_286 (lv_at hl 0 rfl) ?_
  refine lv_iconst (v := (1 : Int32)) hx hb dL_law_288 (by decide) ?_
  refine lv_iadd hx hb dL_law_289 ?_
  refine va_sld hx hb hX hbl hbA hS hi1 dL_law_290 ?_
  refine lv_aload_n hx hb dL_law_291 rfl (lv_at hl 5 rfl) ?_
  refine lv_iload hx hb dL_law_292 (lv_at hl 0 rfl) ?_
  refine lv_iconst (v := (2 : Int32)) hx hb dL_law_294 (by decide) ?_
  refine lv_iadd hx hb dL_law_295 ?_
  refine va_sld hx hb hX hbl hbA hS hi2 dL_law_296 ?_
  refine lv_aload_n hx hb dL_law_297 rfl (lv_at hl 5 rfl) ?_
  refine lv_iload hx hb dL_law_298 (lv_at hl 0 rfl) ?_
  refine lv_iconst (v := (3 : Int32)) hx hb dL_law_300 (by decide) ?_
  refine lv_iadd hx hb dL_law_301 ?_
  refine va_sld hx hb hX hbl hbA hS hi3 dL_law_302 ?_
  refine lv_aload_n hx hb dL_law_303 rfl (lv_at hl 5 rfl) ?_
  refine lv_iload hx hb dL_law_304 (lv_at hl 0 rfl) ?_
  refine lv_iconst (v := (4 : Int32)) hx hb dL_law_306 (by decide) ?_
  refine lv_iadd hx hb dL_law_307 ?_
  refine va_sld hx hb hX hbl hbA hS hi4 dL_law_308 ?_
  refine lv_aload_n hx hb dL_law_309 rfl (lv_at hl 2 rfl) ?_
  refine vx_calli (vx_runSX (As := [.ref (ad 0), .int (xs (nI (5 * i) + (1 : Int32)).toNatClampNeg), .int (xs (nI (5 * i) + (2 : Int32)).toNatClampNeg), .int (xs (nI (5 * i) + (3 : Int32)).toNatClampNeg), .int (xs (nI (5 * i) + (4 : Int32)).toNatClampNeg), .ref aL]) (rest := []) ⟨hx, hb, hml, hown, hts⟩ (wL_showRow hst D A ad cI cQ cL cD aL aD (mm_w am cI M) S o d (xs (nI (5 * i) + (1 : Int32)).toNatClampNeg) (xs (nI (5 * i) + (2 : Int32)).toNatClampNeg) (xs (nI (5 * i) + (3 : Int32)).toNatClampNeg) (xs (nI (5 * i) + (4 : Int32)).toNatClampNeg) z hz k S' o' hw1) (vx_cwSW 6 hts gL_law_L_showRow rfl rfl rfl (by decide +kernel) ⟨Nat.le_of_ble_eq_true rfl, Nat.le_of_ble_eq_true rfl⟩) ⟨qm_blindZ, fun U hU hW => ⟨rfl, qm_go hA hS hP hK hD hU hW, qm_Zgo hZ hS hU hW⟩⟩ rfl rfl hl.1 rfl (lv_room (Nat.le_of_ble_eq_true rfl)) dL_law_310 ⟨by show cells + 5 ≤ 601024; omega, by show slots + 30 ≤ 7293034; omega⟩) hS (fun _ _ h9 => h9) (fun _ h9 => h9) (fun _ _ h9 => h9) (fun E ce q9 u9 t H1 locs1 ht hvm hw hB hz1 hk1 hS hce hcv hcl => hw.elim) (fun r w9 t H locs ht hvm hw hB hz1 hk1 hS => ?_)
  obtain ⟨hr1, hr2⟩ := hw
  have hr1 : r = k := hr1
  have hr2 : w9 = (S', o') := hr2
  subst hr1
  subst hr2
  obtain ⟨hP, hD⟩ := qm_bk ht hB
  clear hB
  have hP : va_P D vwCl (la_v ad am cI cQ cL cD aL aD S' o' d M) H := hP
  have hD : va_D A (la_v ad am cI cQ cL cD aL aD S' o' d M) := hD
  rw [la_W] at hP hD
  refine lv_istore (lv' := [(6, .int r), (5, .int (nI (5 * i))), (4, .ref aD), (3, .ref aL), (2, .ref (am 0)), (1, .ref (ad 0)), (0, .ref b)]) hx hb dL_law_313 hl (by decide) rfl (fun ls hl => ?_)
  refine lv_aload_n hx hb dL_law_315 rfl (lv_at hl 4 rfl) ?_
  refine lv_aload_n hx hb dL_law_316 rfl (lv_at hl 6 rfl) ?_
  refine lv_iload hx hb dL_law_317 (lv_at hl 1 rfl) ?_
  refine lv_iconst (v := (1 : Int32)) hx hb dL_law_319 (by decide) ?_
  refine lv_iadd hx hb dL_law_320 ?_
  refine va_sld hx hb hX hbl hbA hS hi1 dL_law_321 ?_
  refine lv_aload_n hx hb dL_law_322 rfl (lv_at hl 6 rfl) ?_
  refine lv_iload hx hb dL_law_323 (lv_at hl 1 rfl) ?_
  refine lv_iconst (v := (2 : Int32)) hx hb dL_law_325 (by decide) ?_
  refine lv_iadd hx hb dL_law_326 ?_
  refine va_sld hx hb hX hbl hbA hS hi2 dL_law_327 ?_
  refine lv_aload_n hx hb dL_law_328 rfl (lv_at hl 6 rfl) ?_
  refine lv_iload hx hb dL_law_329 (lv_at hl 1 rfl) ?_
  refine lv_iconst (v := (3 : Int32)) hx hb dL_law_331 (by decide) ?_
  refine lv_iadd hx hb dL_law_332 ?_
  refine va_sld hx hb hX hbl hbA hS hi3 dL_law_333 ?_
  refine lv_aload_n hx hb dL_law_334 rfl (lv_at hl 6 rfl) ?_
  refine lv_iload hx hb dL_law_335 (lv_at hl 1 rfl) ?_
  refine lv_iconst (v := (4 : Int32)) hx hb dL_law_337 (by decide) ?_
  refine lv_iadd hx hb dL_law_338 ?_
  refine va_sld hx hb hX hbl hbA hS hi4 dL_law_339 ?_
  refine va_calli (va_runV (As := [.int (xs (nI (5 * i) + (1 : Int32)).toNatClampNeg), .int (xs (nI (5 * i) + (2 : Int32)).toNatClampNeg), .int (xs (nI (5 * i) + (3 : Int32)).toNatClampNeg), .int (xs (nI (5 * i) + (4 : Int32)).toNatClampNeg)]) (rest := []) ⟨hx, hb, hml, hown, hts⟩ (kX7_showRow l D A (la_pre ad cI cQ cL cD aL aD S' o' d) am cI M (xs (nI (5 * i) + (1 : Int32)).toNatClampNeg) (xs (nI (5 * i) + (2 : Int32)).toNatClampNeg) (xs (nI (5 * i) + (3 : Int32)).toNatClampNeg) (xs (nI (5 * i) + (4 : Int32)).toNatClampNeg) _ hy) (cwV 4 hts gL_law_X7_showRow rfl rfl rfl (by decide +kernel) ⟨Nat.le_of_ble_eq_true rfl, Nat.le_of_ble_eq_true rfl⟩) ⟨qm_blind, va_recv hKm hP (ci := 7) (q0 := ((la_pre ad cI cQ cL cD aL aD S' o' d).length + 0)) rfl mg_0, fun U hU hW => ⟨rfl, qm_go hA hS hP hKm hD hU hW⟩⟩ rfl rfl hl.1 rfl (lv_room (Nat.le_of_ble_eq_true rfl)) dL_law_340 ⟨by show cells + 5 + 0 ≤ 601024; omega, by show slots + 30 + 0 ≤ 7293034; omega⟩) hS (fun _ _ h9 => h9) (fun _ h9 => h9) (fun r2 u t H locs ht hvm hw hB hz1 hk1 hS => ?_)
  obtain ⟨hr1, hr2⟩ := hw
  have hr1 : r2 = v := hr1
  have hr2 : u = M' := hr2
  subst hr1
  subst hr2
  obtain ⟨hP, hD⟩ := qm_bk ht hB
  clear hB
  refine lv_istore (lv' := [(7, .int r2), (6, .int r), (5, .int (nI (5 * i))), (4, .ref aD), (3, .ref aL), (2, .ref (am 0)), (1, .ref (ad 0)), (0, .ref b)]) hx hb dL_law_343 hl (by decide) rfl (fun ls hl => ?_)
  refine lv_aload_n hx hb dL_law_345 rfl (lv_at hl 5 rfl) ?_
  refine va_calli (va_runV (As := []) (rest := []) ⟨hx, hb, hml, hown, hts⟩ (nX7_thrown l D A (la_pre ad cI cQ cL cD aL aD S' o' d) am cI u) (cwV 0 hts gL_law_X7_thrown rfl rfl rfl (by decide +kernel) ⟨Nat.le_of_ble_eq_true rfl, Nat.le_of_ble_eq_true rfl⟩) ⟨qm_blind, va_recv hKm hP (ci := 7) (q0 := ((la_pre ad cI cQ cL cD aL aD S' o' d).length + 0)) rfl mg_0, fun U hU hW => ⟨rfl, qm_go hA hS hP hKm hD hU hW⟩⟩ rfl rfl hl.1 rfl (lv_room (Nat.le_of_ble_eq_true rfl)) dL_law_346 ⟨by show cells + 5 + 0 + 0 ≤ 601024; omega, by show slots + 30 + 0 + 0 ≤ 7293034; omega⟩) hS (fun _ _ h9 => h9) (fun _ h9 => h9) (fun r3 u2 t H locs ht hvm hw hB hz1 hk1 hS => ?_)
  obtain ⟨hr1, hr2⟩ := hw
  have hr1 : r3 = u.2 := hr1
  have hr2 : u2 = u := hr2
  subst hr1
  subst hr2
  obtain ⟨hP, hD⟩ := qm_bk ht hB
  clear hB
  have hP : va_P D vwCl (mm_W (la_pre ad cI cQ cL cD aL aD S' o' d) am cI u2) H := hP
  have hD : va_D A (mm_W (la_pre ad cI cQ cL cD aL aD S' o' d) am cI u2) := hD
  rw [← la_W] at hP hD
  refine lv_iload hx hb dL_law_349 (lv_at hl 1 rfl) ?_
  refine lv_icmp_eq (tgt := 356) hx hb dL_law_351 (by decide) (fun _ => ?_) (fun q9 => absurd hw2 q9)
  have fin : W p l e room_1 s m #[Value.ref b] below meth c H locs (cells + 5) (slots + 30) Q (F0 m 373 ls []) := by
    refine lv_goto (tgt := 1581) hx hb dL_law_373 (by decide) ?_
    exact kk _ _ _ _ H locs ls hw3 hP hD hS (lv_sub hl [2, 3, 4, 5, 6, 7] rfl)
  refine lv_iload hx hb dL_law_356 (lv_at hl 1 rfl) ?_
  refine lv_if_ne (tgt := 373) hx hb dL_law_358 (by decide) (fun _ => fin) (fun hk0 => ?_)
  refine lv_aload_n hx hb dL_law_361 rfl (lv_at hl 4 rfl) ?_
  refine lv_iconst (v := (0 : Int32)) hx hb dL_law_362 (by decide) ?_
  refine va_lald hx hb hK hP 82 2 lg_L rfl (i := (0 : Int32)) la_in0 dL_law_363 ?_
  refine lv_iload hx hb dL_law_364 (lv_at hl 0 rfl) ?_
  refine lv_i2l (v := r2.toInt64) hx hb dL_law_366 rfl ?_
  refine W.lcmp hx hb dL_law_367 ?_
  exact lv_if_eq (tgt := 373) hx hb dL_law_368 (by decide) (fun _ => fin) (fun q9 => absurd (la_cmp (hw4 hk0)) q9)
set_option maxHeartbeats 4000000 in
set_option maxRecDepth 100000 in
theorem lc_thinOut {p : Program} {l : Launch} {e : Env} {s : State} {m : MethodId} {below : List Frame} {meth : Method} {c : Code} {b L : Nat} {xs : Nat → Int32} {Q : State → Prop} {D : va_G} {A : Nat → Prop} {cI cQ cL cD : ClassId} {aL aD : Nat} {ad am : Nat → Nat} (G : la_H l p s m c b L xs D A cI cQ cL cD) {i : Nat} (hi : 5 * i + 5 ≤ L) {S : qm_S} {M : mm_M} (hR : st_R S M) {o : Nat → Int64} {d : Nat → UInt64} {H : Heap} {locs : List Loc} {ls : Array Slot} {cells slots : Nat} (hP : va_P D vwCl (la_v ad am cI cQ cL cD aL aD S o d M) H) (hD : va_D A (la_v ad am cI cQ cL cD aL aD S o d M)) (hS : va_S A s.heap H locs) (hl : lv_has ls 9 (la_l i b ad am aL aD)) (hc : cells + 5 ≤ 601024) (hsl : slots + 30 ≤ 7293034)
    (kk : ∀ (S' : qm_S) (M' : mm_M) (o' : Nat → Int64) (d' : Nat → UInt64) (H : Heap) (locs : List Loc) (ls : Array Slot), st_R S' M' → va_P D vwCl (la_v ad am cI cQ cL cD aL aD S' o' d' M') H → va_D A (la_v ad am cI cQ cL cD aL aD S' o' d' M') → va_S A s.heap H locs → lv_has ls 9 (la_l i b ad am aL aD) → W p l e room_1 s m #[Value.ref b] below meth c H locs (cells + 1) (slots + 6) Q (F0 m 1581 ls [])) : W p l e room_1 s m #[Value.ref b] below meth c H locs cells slots Q (F0 m 376 ls []) := by
  obtain ⟨⟨hx, hb, hml, hown⟩, hts, ⟨hX, hbl, hbA, hL⟩, ⟨hA, hK, hZ⟩, hst⟩ := G
  have hKm : va_K D vwCl (mm_T cI) s := hK.sub [0] rfl
  have hi1 : vp_in (nI (5 * i) + (1 : Int32)) L := la_ix 1 (by omega) hL
  obtain ⟨z, v, M', k, S', o', hz, hy, hw1, hw2, hw3, hw4⟩ := la_of_w o (st_thinOut hR (xs (nI (5 * i) + (1 : Int32)).toNatClampNeg)) (by decide)
  refine lv_aload_n hx hb dL_law_376 rfl (lv_at hl 4 rfl) ?_
  refine lv_aload_n hx hb dL_law_377 rfl (lv_at hl 5 rfl) ?_
  refine lv_iload hx hb dL_law_378 (lv_at hl 0 rfl) ?_
  refine lv_iconst (v := (1 : Int32)) hx hb dL_law_380 (by decide) ?_
  refine lv_iadd hx hb dL_law_381 ?_
  refine va_sld hx hb hX hbl hbA hS hi1 dL_law_382 ?_
  refine lv_aload_n hx hb dL_law_383 rfl (lv_at hl 2 rfl) ?_
  refine vx_calli (vx_runSX (As := [.ref (ad 0), .int (xs (nI (5 * i) + (1 : Int32)).toNatClampNeg), .ref aL]) (rest := []) ⟨hx, hb, hml, hown, hts⟩ (wL_thinOut hst D A ad cI cQ cL cD aL aD (mm_w am cI M) S o d (xs (nI (5 * i) + (1 : Int32)).toNatClampNeg) z hz k S' o' hw1) (vx_cwSW 3 hts gL_law_L_thinOut rfl rfl rfl (by decide +kernel) ⟨Nat.le_of_ble_eq_true rfl, Nat.le_of_ble_eq_true rfl⟩) ⟨qm_blindZ, fun U hU hW => ⟨rfl, qm_go hA hS hP hK hD hU hW, qm_Zgo hZ hS hU hW⟩⟩ rfl rfl hl.1 rfl (lv_room (Nat.le_of_ble_eq_true rfl)) dL_law_384 ⟨by show cells + 1 ≤ 601024; omega, by show slots + 6 ≤ 7293034; omega⟩) hS (fun _ _ h9 => h9) (fun _ h9 => h9) (fun _ _ h9 => h9) (fun E ce q9 u9 t H1 locs1 ht hvm hw hB hz1 hk1 hS hce hcv hcl => hw.elim) (fun r w9 t H locs ht hvm hw hB hz1 hk1 hS => ?_)
  obtain ⟨hr1, hr2⟩ := hw
  have hr1 : r = k := hr1
  have hr2 : w9 = (S', o') := hr2
  subst hr1
  subst hr2
  obtain ⟨hP, hD⟩ := qm_bk ht hB
  clear hB
  have hP : va_P D vwCl (la_v ad am cI cQ cL cD aL aD S' o' d M) H := hP
  have hD : va_D A (la_v ad am cI cQ cL cD aL aD S' o' d M) := hD
  rw [la_W] at hP hD
  refine lv_istore (lv' := [(6, .int r), (5, .int (nI (5 * i))), (4, .ref aD), (3, .ref aL), (2, .ref (am 0)), (1, .ref (ad 0)), (0, .ref b)]) hx hb dL_law_387 hl (by decide) rfl (fun ls hl => ?_)
  refine lv_aload_n hx hb dL_law_389 rfl (lv_at hl 4 rfl) ?_
  refine lv_aload_n hx hb dL_law_390 rfl (lv_at hl 6 rfl) ?_
  refine lv_iload hx hb dL_law_391 (lv_at hl 1 rfl) ?_
  refine lv_iconst (v := (1 : Int32)) hx hb dL_law_393 (by decide) ?_
  refine lv_iadd hx hb dL_law_394 ?_
  refine va_sld hx hb hX hbl hbA hS hi1 dL_law_395 ?_
  refine va_calli (va_runV (As := [.int (xs (nI (5 * i) + (1 : Int32)).toNatClampNeg)]) (rest := []) ⟨hx, hb, hml, hown, hts⟩ (kX7_thinOut l D A (la_pre ad cI cQ cL cD aL aD S' o' d) am cI M (xs (nI (5 * i) + (1 : Int32)).toNatClampNeg) _ hy) (cwV 1 hts gL_law_X7_thinOut rfl rfl rfl (by decide +kernel) ⟨Nat.le_of_ble_eq_true rfl, Nat.le_of_ble_eq_true rfl⟩) ⟨qm_blind, va_recv hKm hP (ci := 7) (q0 := ((la_pre ad cI cQ cL cD aL aD S' o' d).length + 0)) rfl mg_0, fun U hU hW => ⟨rfl, qm_go hA hS hP hKm hD hU hW⟩⟩ rfl rfl hl.1 rfl (lv_room (Nat.le_of_ble_eq_true rfl)) dL_law_396 ⟨by show cells + 1 + 0 ≤ 601024; omega, by show slots + 6 + 0 ≤ 7293034; omega⟩) hS (fun _ _ h9 => h9) (fun _ h9 => h9) (fun r2 u t H locs ht hvm hw hB hz1 hk1 hS => ?_)
  obtain ⟨hr1, hr2⟩ := hw
  have hr1 : r2 = v := hr1
  have hr2 : u = M' := hr2
  subst hr1
  subst hr2
  obtain ⟨hP, hD⟩ := qm_bk ht hB
  clear hB
  refine lv_istore (lv' := [(7, .int r2), (6, .int r), (5, .int (nI (5 * i))), (4, .ref aD), (3, .ref aL), (2, .ref (am 0)), (1, .ref (ad 0)), (0, .ref b)]) hx hb dL_law_399 hl (by decide) rfl (fun ls hl => ?_)
  refine lv_aload_n hx hb dL_law_401 rfl (lv_at hl 5 rfl) ?_
  refine va_calli (va_runV (As := []) (rest := []) ⟨hx, hb, hml, hown, hts⟩ (nX7_thrown l D A (la_pre ad cI cQ cL cD aL aD S' o' d) am cI u) (cwV 0 hts gL_law_X7_thrown rfl rfl rfl (by decide +kernel) ⟨Nat.le_of_ble_eq_true rfl, Nat.le_of_ble_eq_true rfl⟩) ⟨qm_blind, va_recv hKm hP (ci := 7) (q0 := ((la_pre ad cI cQ cL cD aL aD S' o' d).length + 0)) rfl mg_0, fun U hU hW => ⟨rfl, qm_go hA hS hP hKm hD hU hW⟩⟩ rfl rfl hl.1 rfl (lv_room (Nat.le_of_ble_eq_true rfl)) dL_law_402 ⟨by show cells + 1 + 0 + 0 ≤ 601024; omega, by show slots + 6 + 0 + 0 ≤ 7293034; omega⟩) hS (fun _ _ h9 => h9) (fun _ h9 => h9) (fun r3 u2 t H locs ht hvm hw hB hz1 hk1 hS => ?_)
  obtain ⟨hr1, hr2⟩ := hw
  have hr1 : r3 = u.2 := hr1
  have hr2 : u2 = u := hr2
  subst hr1
  subst hr2
  obtain ⟨hP, hD⟩ := qm_bk ht hB
  clear hB
  have hP : va_P D vwCl (mm_W (la_pre ad cI cQ cL cD aL aD S' o' d) am cI u2) H := hP
  have hD : va_D A (mm_W (la_pre ad cI cQ cL cD aL aD S' o' d) am cI u2) := hD
  rw [← la_W] at hP hD
  refine lv_iload hx hb dL_law_405 (lv_at hl 1 rfl) ?_
  refine lv_icmp_eq (tgt := 412) hx hb dL_law_407 (by decide) (fun _ => ?_) (fun q9 => absurd hw2 q9)
  have fin : W p l e room_1 s m #[Value.ref b] below meth c H locs (cells + 1) (slots + 6) Q (F0 m 429 ls []) := by
    refine lv_goto (tgt := 1581) hx hb dL_law_429 (by decide) ?_
    exact kk _ _ _ _ H locs ls hw3 hP hD hS (lv_sub hl [2, 3, 4, 5, 6, 7] rfl)
  refine lv_iload hx hb dL_law_412 (lv_at hl 1 rfl) ?_
  refine lv_if_ne (tgt := 429) hx hb dL_law_414 (by decide) (fun _ => fin) (fun hk0 => ?_)
  refine lv_aload_n hx hb dL_law_417 rfl (lv_at hl 4 rfl) ?_
  refine lv_iconst (v := (0 : Int32)) hx hb dL_law_418 (by decide) ?_
  refine va_lald hx hb hK hP 82 2 lg_L rfl (i := (0 : Int32)) la_in0 dL_law_419 ?_
  refine lv_iload hx hb dL_law_420 (lv_at hl 0 rfl) ?_
  refine lv_i2l (v := r2.toInt64) hx hb dL_law_422 rfl ?_
  refine W.lcmp hx hb dL_law_423 ?_
  exact lv_if_eq (tgt := 429) hx hb dL_law_424 (by decide) (fun _ => fin) (fun q9 => absurd (la_cmp (hw4 hk0)) q9)
set_option maxHeartbeats 4000000 in
set_option maxRecDepth 100000 in
theorem lc_pour {p : Program} {l : Launch} {e : Env} {s : State} {m : MethodId} {below : List Frame} {meth : Method} {c : Code} {b L : Nat} {xs : Nat → Int32} {Q : State → Prop} {D : va_G} {A : Nat → Prop} {cI cQ cL cD : ClassId} {aL aD : Nat} {ad am : Nat → Nat} (G : la_H l p s m c b L xs D A cI cQ cL cD) {i : Nat} (hi : 5 * i + 5 ≤ L) {S : qm_S} {M : mm_M} (hR : st_R S M) {o : Nat → Int64} {d : Nat → UInt64} {H : Heap} {locs : List Loc} {ls : Array Slot} {cells slots : Nat} (hP : va_P D vwCl (la_v ad am cI cQ cL cD aL aD S o d M) H) (hD : va_D A (la_v ad am cI cQ cL cD aL aD S o d M)) (hS : va_S A s.heap H locs) (hl : lv_has ls 9 (la_l i b ad am aL aD)) (hc : cells + 5 ≤ 601024) (hsl : slots + 30 ≤ 7293034)
    (kk : ∀ (S' : qm_S) (M' : mm_M) (o' : Nat → Int64) (d' : Nat → UInt64) (H : Heap) (locs : List Loc) (ls : Array Slot), st_R S' M' → va_P D vwCl (la_v ad am cI cQ cL cD aL aD S' o' d' M') H → va_D A (la_v ad am cI cQ cL cD aL aD S' o' d' M') → va_S A s.heap H locs → lv_has ls 9 (la_l i b ad am aL aD) → W p l e room_1 s m #[Value.ref b] below meth c H locs (cells + 3) (slots + 18) Q (F0 m 1581 ls [])) : W p l e room_1 s m #[Value.ref b] below meth c H locs cells slots Q (F0 m 432 ls []) := by
  obtain ⟨⟨hx, hb, hml, hown⟩, hts, ⟨hX, hbl, hbA, hL⟩, ⟨hA, hK, hZ⟩, hst⟩ := G
  have hKm : va_K D vwCl (mm_T cI) s := hK.sub [0] rfl
  have hi1 : vp_in (nI (5 * i) + (1 : Int32)) L := la_ix 1 (by omega) hL
  have hi2 : vp_in (nI (5 * i) + (2 : Int32)) L := la_ix 2 (by omega) hL
  obtain ⟨z, v, M', k, S', o', hz, hy, hw1, hw2, hw3, hw4⟩ := la_of_w o (st_pour hR (xs (nI (5 * i) + (1 : Int32)).toNatClampNeg) (xs (nI (5 * i) + (2 : Int32)).toNatClampNeg)) (by decide)
  refine lv_aload_n hx hb dL_law_432 rfl (lv_at hl 4 rfl) ?_
  refine lv_aload_n hx hb dL_law_433 rfl (lv_at hl 5 rfl) ?_
  refine lv_iload hx hb dL_law_434 (lv_at hl 0 rfl) ?_
  refine lv_iconst (v := (1 : Int32)) hx hb dL_law_436 (by decide) ?_
  refine lv_iadd hx hb dL_law_437 ?_
  refine va_sld hx hb hX hbl hbA hS hi1 dL_law_438 ?_
  refine lv_aload_n hx hb dL_law_439 rfl (lv_at hl 5 rfl) ?_
  refine lv_iload hx hb dL_law_440 (lv_at hl 0 rfl) ?_
  refine lv_iconst (v := (2 : Int32)) hx hb dL_law_442 (by decide) ?_
  refine lv_iadd hx hb dL_law_443 ?_
  refine va_sld hx hb hX hbl hbA hS hi2 dL_law_444 ?_
  refine lv_aload_n hx hb dL_law_445 rfl (lv_at hl 2 rfl) ?_
  refine vx_calli (vx_runSX (As := [.ref (ad 0), .int (xs (nI (5 * i) + (1 : Int32)).toNatClampNeg), .int (xs (nI (5 * i) + (2 : Int32)).toNatClampNeg), .ref aL]) (rest := []) ⟨hx, hb, hml, hown, hts⟩ (wL_pour hst D A ad cI cQ cL cD aL aD (mm_w am cI M) S o d (xs (nI (5 * i) + (1 : Int32)).toNatClampNeg) (xs (nI (5 * i) + (2 : Int32)).toNatClampNeg) z hz k S' o' hw1) (vx_cwSW 4 hts gL_law_L_pour rfl rfl rfl (by decide +kernel) ⟨Nat.le_of_ble_eq_true rfl, Nat.le_of_ble_eq_true rfl⟩) ⟨qm_blindZ, fun U hU hW => ⟨rfl, qm_go hA hS hP hK hD hU hW, qm_Zgo hZ hS hU hW⟩⟩ rfl rfl hl.1 rfl (lv_room (Nat.le_of_ble_eq_true rfl)) dL_law_446 ⟨by show cells + 3 ≤ 601024; omega, by show slots + 18 ≤ 7293034; omega⟩) hS (fun _ _ h9 => h9) (fun _ h9 => h9) (fun _ _ h9 => h9) (fun E ce q9 u9 t H1 locs1 ht hvm hw hB hz1 hk1 hS hce hcv hcl => hw.elim) (fun r w9 t H locs ht hvm hw hB hz1 hk1 hS => ?_)
  obtain ⟨hr1, hr2⟩ := hw
  have hr1 : r = k := hr1
  have hr2 : w9 = (S', o') := hr2
  subst hr1
  subst hr2
  obtain ⟨hP, hD⟩ := qm_bk ht hB
  clear hB
  have hP : va_P D vwCl (la_v ad am cI cQ cL cD aL aD S' o' d M) H := hP
  have hD : va_D A (la_v ad am cI cQ cL cD aL aD S' o' d M) := hD
  rw [la_W] at hP hD
  refine lv_istore (lv' := [(6, .int r), (5, .int (nI (5 * i))), (4, .ref aD), (3, .ref aL), (2, .ref (am 0)), (1, .ref (ad 0)), (0, .ref b)]) hx hb dL_law_449 hl (by decide) rfl (fun ls hl => ?_)
  refine lv_aload_n hx hb dL_law_451 rfl (lv_at hl 4 rfl) ?_
  refine lv_aload_n hx hb dL_law_452 rfl (lv_at hl 6 rfl) ?_
  refine lv_iload hx hb dL_law_453 (lv_at hl 1 rfl) ?_
  refine lv_iconst (v := (1 : Int32)) hx hb dL_law_455 (by decide) ?_
  refine lv_iadd hx hb dL_law_456 ?_
  refine va_sld hx hb hX hbl hbA hS hi1 dL_law_457 ?_
  refine lv_aload_n hx hb dL_law_458 rfl (lv_at hl 6 rfl) ?_
  refine lv_iload hx hb dL_law_459 (lv_at hl 1 rfl) ?_
  refine lv_iconst (v := (2 : Int32)) hx hb dL_law_461 (by decide) ?_
  refine lv_iadd hx hb dL_law_462 ?_
  refine va_sld hx hb hX hbl hbA hS hi2 dL_law_463 ?_
  refine va_calli (va_runV (As := [.int (xs (nI (5 * i) + (1 : Int32)).toNatClampNeg), .int (xs (nI (5 * i) + (2 : Int32)).toNatClampNeg)]) (rest := []) ⟨hx, hb, hml, hown, hts⟩ (kX7_pour l D A (la_pre ad cI cQ cL cD aL aD S' o' d) am cI M (xs (nI (5 * i) + (1 : Int32)).toNatClampNeg) (xs (nI (5 * i) + (2 : Int32)).toNatClampNeg) _ hy) (cwV 2 hts gL_law_X7_pour rfl rfl rfl (by decide +kernel) ⟨Nat.le_of_ble_eq_true rfl, Nat.le_of_ble_eq_true rfl⟩) ⟨qm_blind, va_recv hKm hP (ci := 7) (q0 := ((la_pre ad cI cQ cL cD aL aD S' o' d).length + 0)) rfl mg_0, fun U hU hW => ⟨rfl, qm_go hA hS hP hKm hD hU hW⟩⟩ rfl rfl hl.1 rfl (lv_room (Nat.le_of_ble_eq_true rfl)) dL_law_464 ⟨by show cells + 3 + 0 ≤ 601024; omega, by show slots + 18 + 0 ≤ 7293034; omega⟩) hS (fun _ _ h9 => h9) (fun _ h9 => h9) (fun r2 u t H locs ht hvm hw hB hz1 hk1 hS => ?_)
  obtain ⟨hr1, hr2⟩ := hw
  have hr1 : r2 = v := hr1
  have hr2 : u = M' := hr2
  subst hr1
  subst hr2
  obtain ⟨hP, hD⟩ := qm_bk ht hB
  clear hB
  refine lv_istore (lv' := [(7, .int r2), (6, .int r), (5, .int (nI (5 * i))), (4, .ref aD), (3, .ref aL), (2, .ref (am 0)), (1, .ref (ad 0)), (0, .ref b)]) hx hb dL_law_467 hl (by decide) rfl (fun ls hl => ?_)
  refine lv_aload_n hx hb dL_law_469 rfl (lv_at hl 5 rfl) ?_
  refine va_calli (va_runV (As := []) (rest := []) ⟨hx, hb, hml, hown, hts⟩ (nX7_thrown l D A (la_pre ad cI cQ cL cD aL aD S' o' d) am cI u) (cwV 0 hts gL_law_X7_thrown rfl rfl rfl (by decide +kernel) ⟨Nat.le_of_ble_eq_true rfl, Nat.le_of_ble_eq_true rfl⟩) ⟨qm_blind, va_recv hKm hP (ci := 7) (q0 := ((la_pre ad cI cQ cL cD aL aD S' o' d).length + 0)) rfl mg_0, fun U hU hW => ⟨rfl, qm_go hA hS hP hKm hD hU hW⟩⟩ rfl rfl hl.1 rfl (lv_room (Nat.le_of_ble_eq_true rfl)) dL_law_470 ⟨by show cells + 3 + 0 + 0 ≤ 601024; omega, by show slots + 18 + 0 + 0 ≤ 7293034; omega⟩) hS (fun _ _ h9 => h9) (fun _ h9 => h9) (fun r3 u2 t H locs ht hvm hw hB hz1 hk1 hS => ?_)
  obtain ⟨hr1, hr2⟩ := hw
  have hr1 : r3 = u.2 := hr1
  have hr2 : u2 = u := hr2
  subst hr1
  subst hr2
  obtain ⟨hP, hD⟩ := qm_bk ht hB
  clear hB
  have hP : va_P D vwCl (mm_W (la_pre ad cI cQ cL cD aL aD S' o' d) am cI u2) H := hP
  have hD : va_D A (mm_W (la_pre ad cI cQ cL cD aL aD S' o' d) am cI u2) := hD
  rw [← la_W] at hP hD
  refine lv_iload hx hb dL_law_473 (lv_at hl 1 rfl) ?_
  refine lv_icmp_eq (tgt := 480) hx hb dL_law_475 (by decide) (fun _ => ?_) (fun q9 => absurd hw2 q9)
  have fin : W p l e room_1 s m #[Value.ref b] below meth c H locs (cells + 3) (slots + 18) Q (F0 m 497 ls []) := by
    refine lv_goto (tgt := 1581) hx hb dL_law_497 (by decide) ?_
    exact kk _ _ _ _ H locs ls hw3 hP hD hS (lv_sub hl [2, 3, 4, 5, 6, 7] rfl)
  refine lv_iload hx hb dL_law_480 (lv_at hl 1 rfl) ?_
  refine lv_if_ne (tgt := 497) hx hb dL_law_482 (by decide) (fun _ => fin) (fun hk0 => ?_)
  refine lv_aload_n hx hb dL_law_485 rfl (lv_at hl 4 rfl) ?_
  refine lv_iconst (v := (0 : Int32)) hx hb dL_law_486 (by decide) ?_
  refine va_lald hx hb hK hP 82 2 lg_L rfl (i := (0 : Int32)) la_in0 dL_law_487 ?_
  refine lv_iload hx hb dL_law_488 (lv_at hl 0 rfl) ?_
  refine lv_i2l (v := r2.toInt64) hx hb dL_law_490 rfl ?_
  refine W.lcmp hx hb dL_law_491 ?_
  exact lv_if_eq (tgt := 497) hx hb dL_law_492 (by decide) (fun _ => fin) (fun q9 => absurd (la_cmp (hw4 hk0)) q9)
set_option maxHeartbeats 4000000 in
set_option maxRecDepth 100000 in
theorem lc_count {p : Program} {l : Launch} {e : Env} {s : State} {m : MethodId} {below : List Frame} {meth : Method} {c : Code} {b L : Nat} {xs : Nat → Int32} {Q : State → Prop} {D : va_G} {A : Nat → Prop} {cI cQ cL cD : ClassId} {aL aD : Nat} {ad am : Nat → Nat} (G : la_H l p s m c b L xs D A cI cQ cL cD) {i : Nat} (hi : 5 * i + 5 ≤ L) {S : qm_S} {M : mm_M} (hR : st_R S M) {o : Nat → Int64} {d : Nat → UInt64} {H : Heap} {locs : List Loc} {ls : Array Slot} {cells slots : Nat} (hP : va_P D vwCl (la_v ad am cI cQ cL cD aL aD S o d M) H) (hD : va_D A (la_v ad am cI cQ cL cD aL aD S o d M)) (hS : va_S A s.heap H locs) (hl : lv_has ls 9 (la_l i b ad am aL aD)) (hc : cells + 5 ≤ 601024) (hsl : slots + 30 ≤ 7293034)
    (kk : ∀ (S' : qm_S) (M' : mm_M) (o' : Nat → Int64) (d' : Nat → UInt64) (H : Heap) (locs : List Loc) (ls : Array Slot), st_R S' M' → va_P D vwCl (la_v ad am cI cQ cL cD aL aD S' o' d' M') H → va_D A (la_v ad am cI cQ cL cD aL aD S' o' d' M') → va_S A s.heap H locs → lv_has ls 9 (la_l i b ad am aL aD) → W p l e room_1 s m #[Value.ref b] below meth c H locs (cells + 1) (slots + 6) Q (F0 m 1581 ls [])) : W p l e room_1 s m #[Value.ref b] below meth c H locs cells slots Q (F0 m 500 ls []) := by
  obtain ⟨⟨hx, hb, hml, hown⟩, hts, ⟨hX, hbl, hbA, hL⟩, ⟨hA, hK, hZ⟩, hst⟩ := G
  have hKm : va_K D vwCl (mm_T cI) s := hK.sub [0] rfl
  have hi1 : vp_in (nI (5 * i) + (1 : Int32)) L := la_ix 1 (by omega) hL
  obtain ⟨z, v, M', k, o', hz, hy, hw1, hw2, hw3, hw4⟩ := la_of_q o hR (st_count hR (xs (nI (5 * i) + (1 : Int32)).toNatClampNeg)) (by decide)
  refine lv_aload_n hx hb dL_law_500 rfl (lv_at hl 4 rfl) ?_
  refine lv_aload_n hx hb dL_law_501 rfl (lv_at hl 5 rfl) ?_
  refine lv_iload hx hb dL_law_502 (lv_at hl 0 rfl) ?_
  refine lv_iconst (v := (1 : Int32)) hx hb dL_law_504 (by decide) ?_
  refine lv_iadd hx hb dL_law_505 ?_
  refine va_sld hx hb hX hbl hbA hS hi1 dL_law_506 ?_
  refine lv_aload_n hx hb dL_law_507 rfl (lv_at hl 2 rfl) ?_
  refine vx_calli (vx_runSX (As := [.ref (ad 0), .int (xs (nI (5 * i) + (1 : Int32)).toNatClampNeg), .ref aL]) (rest := []) ⟨hx, hb, hml, hown, hts⟩ (wL_count hst D A ad cI cQ cL cD aL aD (mm_w am cI M) S o d (xs (nI (5 * i) + (1 : Int32)).toNatClampNeg) z hz k o' hw1) (vx_cwSW 3 hts gL_law_L_count rfl rfl rfl (by decide +kernel) ⟨Nat.le_of_ble_eq_true rfl, Nat.le_of_ble_eq_true rfl⟩) ⟨qm_blindZ, fun U hU hW => ⟨rfl, qm_go hA hS hP hK hD hU hW, qm_Zgo hZ hS hU hW⟩⟩ rfl rfl hl.1 rfl (lv_room (Nat.le_of_ble_eq_true rfl)) dL_law_508 ⟨by show cells + 1 ≤ 601024; omega, by show slots + 6 ≤ 7293034; omega⟩) hS (fun _ _ h9 => h9) (fun _ h9 => h9) (fun _ _ h9 => h9) (fun E ce q9 u9 t H1 locs1 ht hvm hw hB hz1 hk1 hS hce hcv hcl => hw.elim) (fun r w9 t H locs ht hvm hw hB hz1 hk1 hS => ?_)
  obtain ⟨hr1, hr2⟩ := hw
  have hr1 : r = k := hr1
  have hr2 : w9 = o' := hr2
  subst hr1
  subst hr2
  obtain ⟨hP, hD⟩ := qm_bk ht hB
  clear hB
  have hP : va_P D vwCl (la_v ad am cI cQ cL cD aL aD S w9 d M) H := hP
  have hD : va_D A (la_v ad am cI cQ cL cD aL aD S w9 d M) := hD
  rw [la_W] at hP hD
  refine lv_istore (lv' := [(6, .int r), (5, .int (nI (5 * i))), (4, .ref aD), (3, .ref aL), (2, .ref (am 0)), (1, .ref (ad 0)), (0, .ref b)]) hx hb dL_law_511 hl (by decide) rfl (fun ls hl => ?_)
  refine lv_aload_n hx hb dL_law_513 rfl (lv_at hl 4 rfl) ?_
  refine lv_aload_n hx hb dL_law_514 rfl (lv_at hl 6 rfl) ?_
  refine lv_iload hx hb dL_law_515 (lv_at hl 1 rfl) ?_
  refine lv_iconst (v := (1 : Int32)) hx hb dL_law_517 (by decide) ?_
  refine lv_iadd hx hb dL_law_518 ?_
  refine va_sld hx hb hX hbl hbA hS hi1 dL_law_519 ?_
  refine va_calli (va_runV (As := [.int (xs (nI (5 * i) + (1 : Int32)).toNatClampNeg)]) (rest := []) ⟨hx, hb, hml, hown, hts⟩ (kX7_count l D A (la_pre ad cI cQ cL cD aL aD S w9 d) am cI M (xs (nI (5 * i) + (1 : Int32)).toNatClampNeg) _ hy) (cwV 1 hts gL_law_X7_count rfl rfl rfl (by decide +kernel) ⟨Nat.le_of_ble_eq_true rfl, Nat.le_of_ble_eq_true rfl⟩) ⟨qm_blind, va_recv hKm hP (ci := 7) (q0 := ((la_pre ad cI cQ cL cD aL aD S w9 d).length + 0)) rfl mg_0, fun U hU hW => ⟨rfl, qm_go hA hS hP hKm hD hU hW⟩⟩ rfl rfl hl.1 rfl (lv_room (Nat.le_of_ble_eq_true rfl)) dL_law_520 ⟨by show cells + 1 + 0 ≤ 601024; omega, by show slots + 6 + 0 ≤ 7293034; omega⟩) hS (fun _ _ h9 => h9) (fun _ h9 => h9) (fun r2 u t H locs ht hvm hw hB hz1 hk1 hS => ?_)
  obtain ⟨hr1, hr2⟩ := hw
  have hr1 : r2 = v := hr1
  have hr2 : u = M' := hr2
  subst hr1
  subst hr2
  obtain ⟨hP, hD⟩ := qm_bk ht hB
  clear hB
  refine lv_istore (lv' := [(7, .int r2), (6, .int r), (5, .int (nI (5 * i))), (4, .ref aD), (3, .ref aL), (2, .ref (am 0)), (1, .ref (ad 0)), (0, .ref b)]) hx hb dL_law_523 hl (by decide) rfl (fun ls hl => ?_)
  refine lv_aload_n hx hb dL_law_525 rfl (lv_at hl 5 rfl) ?_
  refine va_calli (va_runV (As := []) (rest := []) ⟨hx, hb, hml, hown, hts⟩ (nX7_thrown l D A (la_pre ad cI cQ cL cD aL aD S w9 d) am cI u) (cwV 0 hts gL_law_X7_thrown rfl rfl rfl (by decide +kernel) ⟨Nat.le_of_ble_eq_true rfl, Nat.le_of_ble_eq_true rfl⟩) ⟨qm_blind, va_recv hKm hP (ci := 7) (q0 := ((la_pre ad cI cQ cL cD aL aD S w9 d).length + 0)) rfl mg_0, fun U hU hW => ⟨rfl, qm_go hA hS hP hKm hD hU hW⟩⟩ rfl rfl hl.1 rfl (lv_room (Nat.le_of_ble_eq_true rfl)) dL_law_526 ⟨by show cells + 1 + 0 + 0 ≤ 601024; omega, by show slots + 6 + 0 + 0 ≤ 7293034; omega⟩) hS (fun _ _ h9 => h9) (fun _ h9 => h9) (fun r3 u2 t H locs ht hvm hw hB hz1 hk1 hS => ?_)
  obtain ⟨hr1, hr2⟩ := hw
  have hr1 : r3 = u.2 := hr1
  have hr2 : u2 = u := hr2
  subst hr1
  subst hr2
  obtain ⟨hP, hD⟩ := qm_bk ht hB
  clear hB
  have hP : va_P D vwCl (mm_W (la_pre ad cI cQ cL cD aL aD S w9 d) am cI u2) H := hP
  have hD : va_D A (mm_W (la_pre ad cI cQ cL cD aL aD S w9 d) am cI u2) := hD
  rw [← la_W] at hP hD
  refine lv_iload hx hb dL_law_529 (lv_at hl 1 rfl) ?_
  refine lv_icmp_eq (tgt := 536) hx hb dL_law_531 (by decide) (fun _ => ?_) (fun q9 => absurd hw2 q9)
  have fin : W p l e room_1 s m #[Value.ref b] below meth c H locs (cells + 1) (slots + 6) Q (F0 m 553 ls []) := by
    refine lv_goto (tgt := 1581) hx hb dL_law_553 (by decide) ?_
    exact kk _ _ _ _ H locs ls hw3 hP hD hS (lv_sub hl [2, 3, 4, 5, 6, 7] rfl)
  refine lv_iload hx hb dL_law_536 (lv_at hl 1 rfl) ?_
  refine lv_if_ne (tgt := 553) hx hb dL_law_538 (by decide) (fun _ => fin) (fun hk0 => ?_)
  refine lv_aload_n hx hb dL_law_541 rfl (lv_at hl 4 rfl) ?_
  refine lv_iconst (v := (0 : Int32)) hx hb dL_law_542 (by decide) ?_
  refine va_lald hx hb hK hP 82 2 lg_L rfl (i := (0 : Int32)) la_in0 dL_law_543 ?_
  refine lv_iload hx hb dL_law_544 (lv_at hl 0 rfl) ?_
  refine lv_i2l (v := r2.toInt64) hx hb dL_law_546 rfl ?_
  refine W.lcmp hx hb dL_law_547 ?_
  exact lv_if_eq (tgt := 553) hx hb dL_law_548 (by decide) (fun _ => fin) (fun q9 => absurd (la_cmp (hw4 hk0)) q9)
set_option maxHeartbeats 4000000 in
set_option maxRecDepth 100000 in
theorem lc_bound {p : Program} {l : Launch} {e : Env} {s : State} {m : MethodId} {below : List Frame} {meth : Method} {c : Code} {b L : Nat} {xs : Nat → Int32} {Q : State → Prop} {D : va_G} {A : Nat → Prop} {cI cQ cL cD : ClassId} {aL aD : Nat} {ad am : Nat → Nat} (G : la_H l p s m c b L xs D A cI cQ cL cD) {i : Nat} (hi : 5 * i + 5 ≤ L) {S : qm_S} {M : mm_M} (hR : st_R S M) {o : Nat → Int64} {d : Nat → UInt64} {H : Heap} {locs : List Loc} {ls : Array Slot} {cells slots : Nat} (hP : va_P D vwCl (la_v ad am cI cQ cL cD aL aD S o d M) H) (hD : va_D A (la_v ad am cI cQ cL cD aL aD S o d M)) (hS : va_S A s.heap H locs) (hl : lv_has ls 9 (la_l i b ad am aL aD)) (hc : cells + 5 ≤ 601024) (hsl : slots + 30 ≤ 7293034)
    (kk : ∀ (S' : qm_S) (M' : mm_M) (o' : Nat → Int64) (d' : Nat → UInt64) (H : Heap) (locs : List Loc) (ls : Array Slot), st_R S' M' → va_P D vwCl (la_v ad am cI cQ cL cD aL aD S' o' d' M') H → va_D A (la_v ad am cI cQ cL cD aL aD S' o' d' M') → va_S A s.heap H locs → lv_has ls 9 (la_l i b ad am aL aD) → W p l e room_1 s m #[Value.ref b] below meth c H locs (cells + 1) (slots + 6) Q (F0 m 1581 ls [])) : W p l e room_1 s m #[Value.ref b] below meth c H locs cells slots Q (F0 m 556 ls []) := by
  obtain ⟨⟨hx, hb, hml, hown⟩, hts, ⟨hX, hbl, hbA, hL⟩, ⟨hA, hK, hZ⟩, hst⟩ := G
  have hKm : va_K D vwCl (mm_T cI) s := hK.sub [0] rfl
  have hi1 : vp_in (nI (5 * i) + (1 : Int32)) L := la_ix 1 (by omega) hL
  obtain ⟨z, v, M', k, o', hz, hy, hw1, hw2, hw3, hw4⟩ := la_of_q o hR (st_bound hR (xs (nI (5 * i) + (1 : Int32)).toNatClampNeg)) (by decide)
  refine lv_aload_n hx hb dL_law_556 rfl (lv_at hl 4 rfl) ?_
  refine lv_aload_n hx hb dL_law_557 rfl (lv_at hl 5 rfl) ?_
  refine lv_iload hx hb dL_law_558 (lv_at hl 0 rfl) ?_
  refine lv_iconst (v := (1 : Int32)) hx hb dL_law_560 (by decide) ?_
  refine lv_iadd hx hb dL_law_561 ?_
  refine va_sld hx hb hX hbl hbA hS hi1 dL_law_562 ?_
  refine lv_aload_n hx hb dL_law_563 rfl (lv_at hl 2 rfl) ?_
  refine vx_calli (vx_runSX (As := [.ref (ad 0), .int (xs (nI (5 * i) + (1 : Int32)).toNatClampNeg), .ref aL]) (rest := []) ⟨hx, hb, hml, hown, hts⟩ (wL_bound hst D A ad cI cQ cL cD aL aD (mm_w am cI M) S o d (xs (nI (5 * i) + (1 : Int32)).toNatClampNeg) z hz k o' hw1) (vx_cwSW 3 hts gL_law_L_bound rfl rfl rfl (by decide +kernel) ⟨Nat.le_of_ble_eq_true rfl, Nat.le_of_ble_eq_true rfl⟩) ⟨qm_blindZ, fun U hU hW => ⟨rfl, qm_go hA hS hP hK hD hU hW, qm_Zgo hZ hS hU hW⟩⟩ rfl rfl hl.1 rfl (lv_room (Nat.le_of_ble_eq_true rfl)) dL_law_564 ⟨by show cells + 1 ≤ 601024; omega, by show slots + 6 ≤ 7293034; omega⟩) hS (fun _ _ h9 => h9) (fun _ h9 => h9) (fun _ _ h9 => h9) (fun E ce q9 u9 t H1 locs1 ht hvm hw hB hz1 hk1 hS hce hcv hcl => hw.elim) (fun r w9 t H locs ht hvm hw hB hz1 hk1 hS => ?_)
  obtain ⟨hr1, hr2⟩ := hw
  have hr1 : r = k := hr1
  have hr2 : w9 = o' := hr2
  subst hr1
  subst hr2
  obtain ⟨hP, hD⟩ := qm_bk ht hB
  clear hB
  have hP : va_P D vwCl (la_v ad am cI cQ cL cD aL aD S w9 d M) H := hP
  have hD : va_D A (la_v ad am cI cQ cL cD aL aD S w9 d M) := hD
  rw [la_W] at hP hD
  refine lv_istore (lv' := [(6, .int r), (5, .int (nI (5 * i))), (4, .ref aD), (3, .ref aL), (2, .ref (am 0)), (1, .ref (ad 0)), (0, .ref b)]) hx hb dL_law_567 hl (by decide) rfl (fun ls hl => ?_)
  refine lv_aload_n hx hb dL_law_569 rfl (lv_at hl 4 rfl) ?_
  refine lv_aload_n hx hb dL_law_570 rfl (lv_at hl 6 rfl) ?_
  refine lv_iload hx hb dL_law_571 (lv_at hl 1 rfl) ?_
  refine lv_iconst (v := (1 : Int32)) hx hb dL_law_573 (by decide) ?_
  refine lv_iadd hx hb dL_law_574 ?_
  refine va_sld hx hb hX hbl hbA hS hi1 dL_law_575 ?_
  refine va_calli (va_runV (As := [.int (xs (nI (5 * i) + (1 : Int32)).toNatClampNeg)]) (rest := []) ⟨hx, hb, hml, hown, hts⟩ (kX7_bound l D A (la_pre ad cI cQ cL cD aL aD S w9 d) am cI M (xs (nI (5 * i) + (1 : Int32)).toNatClampNeg) _ hy) (cwV 1 hts gL_law_X7_bound rfl rfl rfl (by decide +kernel) ⟨Nat.le_of_ble_eq_true rfl, Nat.le_of_ble_eq_true rfl⟩) ⟨qm_blind, va_recv hKm hP (ci := 7) (q0 := ((la_pre ad cI cQ cL cD aL aD S w9 d).length + 0)) rfl mg_0, fun U hU hW => ⟨rfl, qm_go hA hS hP hKm hD hU hW⟩⟩ rfl rfl hl.1 rfl (lv_room (Nat.le_of_ble_eq_true rfl)) dL_law_576 ⟨by show cells + 1 + 0 ≤ 601024; omega, by show slots + 6 + 0 ≤ 7293034; omega⟩) hS (fun _ _ h9 => h9) (fun _ h9 => h9) (fun r2 u t H locs ht hvm hw hB hz1 hk1 hS => ?_)
  obtain ⟨hr1, hr2⟩ := hw
  have hr1 : r2 = v := hr1
  have hr2 : u = M' := hr2
  subst hr1
  subst hr2
  obtain ⟨hP, hD⟩ := qm_bk ht hB
  clear hB
  refine lv_istore (lv' := [(7, .int r2), (6, .int r), (5, .int (nI (5 * i))), (4, .ref aD), (3, .ref aL), (2, .ref (am 0)), (1, .ref (ad 0)), (0, .ref b)]) hx hb dL_law_579 hl (by decide) rfl (fun ls hl => ?_)
  refine lv_aload_n hx hb dL_law_581 rfl (lv_at hl 5 rfl) ?_
  refine va_calli (va_runV (As := []) (rest := []) ⟨hx, hb, hml, hown, hts⟩ (nX7_thrown l D A (la_pre ad cI cQ cL cD aL aD S w9 d) am cI u) (cwV 0 hts gL_law_X7_thrown rfl rfl rfl (by decide +kernel) ⟨Nat.le_of_ble_eq_true rfl, Nat.le_of_ble_eq_true rfl⟩) ⟨qm_blind, va_recv hKm hP (ci := 7) (q0 := ((la_pre ad cI cQ cL cD aL aD S w9 d).length + 0)) rfl mg_0, fun U hU hW => ⟨rfl, qm_go hA hS hP hKm hD hU hW⟩⟩ rfl rfl hl.1 rfl (lv_room (Nat.le_of_ble_eq_true rfl)) dL_law_582 ⟨by show cells + 1 + 0 + 0 ≤ 601024; omega, by show slots + 6 + 0 + 0 ≤ 7293034; omega⟩) hS (fun _ _ h9 => h9) (fun _ h9 => h9) (fun r3 u2 t H locs ht hvm hw hB hz1 hk1 hS => ?_)
  obtain ⟨hr1, hr2⟩ := hw
  have hr1 : r3 = u.2 := hr1
  have hr2 : u2 = u := hr2
  subst hr1
  subst hr2
  obtain ⟨hP, hD⟩ := qm_bk ht hB
  clear hB
  have hP : va_P D vwCl (mm_W (la_pre ad cI cQ cL cD aL aD S w9 d) am cI u2) H := hP
  have hD : va_D A (mm_W (la_pre ad cI cQ cL cD aL aD S w9 d) am cI u2) := hD
  rw [← la_W] at hP hD
  refine lv_iload hx hb dL_law_585 (lv_at hl 1 rfl) ?_
  refine lv_icmp_eq (tgt := 592) hx hb dL_law_587 (by decide) (fun _ => ?_) (fun q9 => absurd hw2 q9)
  have fin : W p l e room_1 s m #[Value.ref b] below meth c H locs (cells + 1) (slots + 6) Q (F0 m 609 ls []) := by
    refine lv_goto (tgt := 1581) hx hb dL_law_609 (by decide) ?_
    exact kk _ _ _ _ H locs ls hw3 hP hD hS (lv_sub hl [2, 3, 4, 5, 6, 7] rfl)
  refine lv_iload hx hb dL_law_592 (lv_at hl 1 rfl) ?_
  refine lv_if_ne (tgt := 609) hx hb dL_law_594 (by decide) (fun _ => fin) (fun hk0 => ?_)
  refine lv_aload_n hx hb dL_law_597 rfl (lv_at hl 4 rfl) ?_
  refine lv_iconst (v := (0 : Int32)) hx hb dL_law_598 (by decide) ?_
  refine va_lald hx hb hK hP 82 2 lg_L rfl (i := (0 : Int32)) la_in0 dL_law_599 ?_
  refine lv_iload hx hb dL_law_600 (lv_at hl 0 rfl) ?_
  refine lv_i2l (v := r2.toInt64) hx hb dL_law_602 rfl ?_
  refine W.lcmp hx hb dL_law_603 ?_
  exact lv_if_eq (tgt := 609) hx hb dL_law_604 (by decide) (fun _ => fin) (fun q9 => absurd (la_cmp (hw4 hk0)) q9)
set_option maxHeartbeats 4000000 in
set_option maxRecDepth 100000 in
theorem lc_allowance {p : Program} {l : Launch} {e : Env} {s : State} {m : MethodId} {below : List Frame} {meth : Method} {c : Code} {b L : Nat} {xs : Nat → Int32} {Q : State → Prop} {D : va_G} {A : Nat → Prop} {cI cQ cL cD : ClassId} {aL aD : Nat} {ad am : Nat → Nat} (G : la_H l p s m c b L xs D A cI cQ cL cD) {i : Nat} (hi : 5 * i + 5 ≤ L) {S : qm_S} {M : mm_M} (hR : st_R S M) {o : Nat → Int64} {d : Nat → UInt64} {H : Heap} {locs : List Loc} {ls : Array Slot} {cells slots : Nat} (hP : va_P D vwCl (la_v ad am cI cQ cL cD aL aD S o d M) H) (hD : va_D A (la_v ad am cI cQ cL cD aL aD S o d M)) (hS : va_S A s.heap H locs) (hl : lv_has ls 9 (la_l i b ad am aL aD)) (hc : cells + 5 ≤ 601024) (hsl : slots + 30 ≤ 7293034)
    (kk : ∀ (S' : qm_S) (M' : mm_M) (o' : Nat → Int64) (d' : Nat → UInt64) (H : Heap) (locs : List Loc) (ls : Array Slot), st_R S' M' → va_P D vwCl (la_v ad am cI cQ cL cD aL aD S' o' d' M') H → va_D A (la_v ad am cI cQ cL cD aL aD S' o' d' M') → va_S A s.heap H locs → lv_has ls 9 (la_l i b ad am aL aD) → W p l e room_1 s m #[Value.ref b] below meth c H locs (cells + 1) (slots + 6) Q (F0 m 1581 ls [])) : W p l e room_1 s m #[Value.ref b] below meth c H locs cells slots Q (F0 m 612 ls []) := by
  obtain ⟨⟨hx, hb, hml, hown⟩, hts, ⟨hX, hbl, hbA, hL⟩, ⟨hA, hK, hZ⟩, hst⟩ := G
  have hKm : va_K D vwCl (mm_T cI) s := hK.sub [0] rfl
  have hi1 : vp_in (nI (5 * i) + (1 : Int32)) L := la_ix 1 (by omega) hL
  obtain ⟨z, v, M', k, o', hz, hy, hw1, hw2, hw3, hw4⟩ := la_of_q o hR (st_allowance hR (xs (nI (5 * i) + (1 : Int32)).toNatClampNeg)) (by decide)
  refine lv_aload_n hx hb dL_law_612 rfl (lv_at hl 4 rfl) ?_
  refine lv_aload_n hx hb dL_law_613 rfl (lv_at hl 5 rfl) ?_
  refine lv_iload hx hb dL_law_614 (lv_at hl 0 rfl) ?_
  refine lv_iconst (v := (1 : Int32)) hx hb dL_law_616 (by decide) ?_
  refine lv_iadd hx hb dL_law_617 ?_
  refine va_sld hx hb hX hbl hbA hS hi1 dL_law_618 ?_
  refine lv_aload_n hx hb dL_law_619 rfl (lv_at hl 2 rfl) ?_
  refine vx_calli (vx_runSX (As := [.ref (ad 0), .int (xs (nI (5 * i) + (1 : Int32)).toNatClampNeg), .ref aL]) (rest := []) ⟨hx, hb, hml, hown, hts⟩ (wL_allowance hst D A ad cI cQ cL cD aL aD (mm_w am cI M) S o d (xs (nI (5 * i) + (1 : Int32)).toNatClampNeg) z hz k o' hw1) (vx_cwSW 3 hts gL_law_L_allowance rfl rfl rfl (by decide +kernel) ⟨Nat.le_of_ble_eq_true rfl, Nat.le_of_ble_eq_true rfl⟩) ⟨qm_blindZ, fun U hU hW => ⟨rfl, qm_go hA hS hP hK hD hU hW, qm_Zgo hZ hS hU hW⟩⟩ rfl rfl hl.1 rfl (lv_room (Nat.le_of_ble_eq_true rfl)) dL_law_620 ⟨by show cells + 1 ≤ 601024; omega, by show slots + 6 ≤ 7293034; omega⟩) hS (fun _ _ h9 => h9) (fun _ h9 => h9) (fun _ _ h9 => h9) (fun E ce q9 u9 t H1 locs1 ht hvm hw hB hz1 hk1 hS hce hcv hcl => hw.elim) (fun r w9 t H locs ht hvm hw hB hz1 hk1 hS => ?_)
  obtain ⟨hr1, hr2⟩ := hw
  have hr1 : r = k := hr1
  have hr2 : w9 = o' := hr2
  subst hr1
  subst hr2
  obtain ⟨hP, hD⟩ := qm_bk ht hB
  clear hB
  have hP : va_P D vwCl (la_v ad am cI cQ cL cD aL aD S w9 d M) H := hP
  have hD : va_D A (la_v ad am cI cQ cL cD aL aD S w9 d M) := hD
  rw [la_W] at hP hD
  refine lv_istore (lv' := [(6, .int r), (5, .int (nI (5 * i))), (4, .ref aD), (3, .ref aL), (2, .ref (am 0)), (1, .ref (ad 0)), (0, .ref b)]) hx hb dL_law_623 hl (by decide) rfl (fun ls hl => ?_)
  refine lv_aload_n hx hb dL_law_625 rfl (lv_at hl 4 rfl) ?_
  refine lv_aload_n hx hb dL_law_626 rfl (lv_at hl 6 rfl) ?_
  refine lv_iload hx hb dL_law_627 (lv_at hl 1 rfl) ?_
  refine lv_iconst (v := (1 : Int32)) hx hb dL_law_629 (by decide) ?_
  refine lv_iadd hx hb dL_law_630 ?_
  refine va_sld hx hb hX hbl hbA hS hi1 dL_law_631 ?_
  refine va_calli (va_runV (As := [.int (xs (nI (5 * i) + (1 : Int32)).toNatClampNeg)]) (rest := []) ⟨hx, hb, hml, hown, hts⟩ (kX7_allowance l D A (la_pre ad cI cQ cL cD aL aD S w9 d) am cI M (xs (nI (5 * i) + (1 : Int32)).toNatClampNeg) _ hy) (cwV 1 hts gL_law_X7_allowance rfl rfl rfl (by decide +kernel) ⟨Nat.le_of_ble_eq_true rfl, Nat.le_of_ble_eq_true rfl⟩) ⟨qm_blind, va_recv hKm hP (ci := 7) (q0 := ((la_pre ad cI cQ cL cD aL aD S w9 d).length + 0)) rfl mg_0, fun U hU hW => ⟨rfl, qm_go hA hS hP hKm hD hU hW⟩⟩ rfl rfl hl.1 rfl (lv_room (Nat.le_of_ble_eq_true rfl)) dL_law_632 ⟨by show cells + 1 + 0 ≤ 601024; omega, by show slots + 6 + 0 ≤ 7293034; omega⟩) hS (fun _ _ h9 => h9) (fun _ h9 => h9) (fun r2 u t H locs ht hvm hw hB hz1 hk1 hS => ?_)
  obtain ⟨hr1, hr2⟩ := hw
  have hr1 : r2 = v := hr1
  have hr2 : u = M' := hr2
  subst hr1
  subst hr2
  obtain ⟨hP, hD⟩ := qm_bk ht hB
  clear hB
  refine lv_istore (lv' := [(7, .int r2), (6, .int r), (5, .int (nI (5 * i))), (4, .ref aD), (3, .ref aL), (2, .ref (am 0)), (1, .ref (ad 0)), (0, .ref b)]) hx hb dL_law_635 hl (by decide) rfl (fun ls hl => ?_)
  refine lv_aload_n hx hb dL_law_637 rfl (lv_at hl 5 rfl) ?_
  refine va_calli (va_runV (As := []) (rest := []) ⟨hx, hb, hml, hown, hts⟩ (nX7_thrown l D A (la_pre ad cI cQ cL cD aL aD S w9 d) am cI u) (cwV 0 hts gL_law_X7_thrown rfl rfl rfl (by decide +kernel) ⟨Nat.le_of_ble_eq_true rfl, Nat.le_of_ble_eq_true rfl⟩) ⟨qm_blind, va_recv hKm hP (ci := 7) (q0 := ((la_pre ad cI cQ cL cD aL aD S w9 d).length + 0)) rfl mg_0, fun U hU hW => ⟨rfl, qm_go hA hS hP hKm hD hU hW⟩⟩ rfl rfl hl.1 rfl (lv_room (Nat.le_of_ble_eq_true rfl)) dL_law_638 ⟨by show cells + 1 + 0 + 0 ≤ 601024; omega, by show slots + 6 + 0 + 0 ≤ 7293034; omega⟩) hS (fun _ _ h9 => h9) (fun _ h9 => h9) (fun r3 u2 t H locs ht hvm hw hB hz1 hk1 hS => ?_)
  obtain ⟨hr1, hr2⟩ := hw
  have hr1 : r3 = u.2 := hr1
  have hr2 : u2 = u := hr2
  subst hr1
  subst hr2
  obtain ⟨hP, hD⟩ := qm_bk ht hB
  clear hB
  have hP : va_P D vwCl (mm_W (la_pre ad cI cQ cL cD aL aD S w9 d) am cI u2) H := hP
  have hD : va_D A (mm_W (la_pre ad cI cQ cL cD aL aD S w9 d) am cI u2) := hD
  rw [← la_W] at hP hD
  refine lv_iload hx hb dL_law_641 (lv_at hl 1 rfl) ?_
  refine lv_icmp_eq (tgt := 648) hx hb dL_law_643 (by decide) (fun _ => ?_) (fun q9 => absurd hw2 q9)
  have fin : W p l e room_1 s m #[Value.ref b] below meth c H locs (cells + 1) (slots + 6) Q (F0 m 665 ls []) := by
    refine lv_goto (tgt := 1581) hx hb dL_law_665 (by decide) ?_
    exact kk _ _ _ _ H locs ls hw3 hP hD hS (lv_sub hl [2, 3, 4, 5, 6, 7] rfl)
  refine lv_iload hx hb dL_law_648 (lv_at hl 1 rfl) ?_
  refine lv_if_ne (tgt := 665) hx hb dL_law_650 (by decide) (fun _ => fin) (fun hk0 => ?_)
  refine lv_aload_n hx hb dL_law_653 rfl (lv_at hl 4 rfl) ?_
  refine lv_iconst (v := (0 : Int32)) hx hb dL_law_654 (by decide) ?_
  refine va_lald hx hb hK hP 82 2 lg_L rfl (i := (0 : Int32)) la_in0 dL_law_655 ?_
  refine lv_iload hx hb dL_law_656 (lv_at hl 0 rfl) ?_
  refine lv_i2l (v := r2.toInt64) hx hb dL_law_658 rfl ?_
  refine W.lcmp hx hb dL_law_659 ?_
  exact lv_if_eq (tgt := 665) hx hb dL_law_660 (by decide) (fun _ => fin) (fun q9 => absurd (la_cmp (hw4 hk0)) q9)
set_option maxHeartbeats 4000000 in
set_option maxRecDepth 100000 in
theorem lc_marks {p : Program} {l : Launch} {e : Env} {s : State} {m : MethodId} {below : List Frame} {meth : Method} {c : Code} {b L : Nat} {xs : Nat → Int32} {Q : State → Prop} {D : va_G} {A : Nat → Prop} {cI cQ cL cD : ClassId} {aL aD : Nat} {ad am : Nat → Nat} (G : la_H l p s m c b L xs D A cI cQ cL cD) {i : Nat} (hi : 5 * i + 5 ≤ L) {S : qm_S} {M : mm_M} (hR : st_R S M) {o : Nat → Int64} {d : Nat → UInt64} {H : Heap} {locs : List Loc} {ls : Array Slot} {cells slots : Nat} (hP : va_P D vwCl (la_v ad am cI cQ cL cD aL aD S o d M) H) (hD : va_D A (la_v ad am cI cQ cL cD aL aD S o d M)) (hS : va_S A s.heap H locs) (hl : lv_has ls 9 (la_l i b ad am aL aD)) (hc : cells + 5 ≤ 601024) (hsl : slots + 30 ≤ 7293034)
    (kk : ∀ (S' : qm_S) (M' : mm_M) (o' : Nat → Int64) (d' : Nat → UInt64) (H : Heap) (locs : List Loc) (ls : Array Slot), st_R S' M' → va_P D vwCl (la_v ad am cI cQ cL cD aL aD S' o' d' M') H → va_D A (la_v ad am cI cQ cL cD aL aD S' o' d' M') → va_S A s.heap H locs → lv_has ls 9 (la_l i b ad am aL aD) → W p l e room_1 s m #[Value.ref b] below meth c H locs (cells + 1) (slots + 6) Q (F0 m 1581 ls [])) : W p l e room_1 s m #[Value.ref b] below meth c H locs cells slots Q (F0 m 668 ls []) := by
  obtain ⟨⟨hx, hb, hml, hown⟩, hts, ⟨hX, hbl, hbA, hL⟩, ⟨hA, hK, hZ⟩, hst⟩ := G
  have hKm : va_K D vwCl (mm_T cI) s := hK.sub [0] rfl
  have hi1 : vp_in (nI (5 * i) + (1 : Int32)) L := la_ix 1 (by omega) hL
  obtain ⟨z, v, M', k, o', hz, hy, hw1, hw2, hw3, hw4⟩ := la_of_q o hR (st_marks hR (xs (nI (5 * i) + (1 : Int32)).toNatClampNeg)) (by decide)
  refine lv_aload_n hx hb dL_law_668 rfl (lv_at hl 4 rfl) ?_
  refine lv_aload_n hx hb dL_law_669 rfl (lv_at hl 5 rfl) ?_
  refine lv_iload hx hb dL_law_670 (lv_at hl 0 rfl) ?_
  refine lv_iconst (v := (1 : Int32)) hx hb dL_law_672 (by decide) ?_
  refine lv_iadd hx hb dL_law_673 ?_
  refine va_sld hx hb hX hbl hbA hS hi1 dL_law_674 ?_
  refine lv_aload_n hx hb dL_law_675 rfl (lv_at hl 2 rfl) ?_
  refine vx_calli (vx_runSX (As := [.ref (ad 0), .int (xs (nI (5 * i) + (1 : Int32)).toNatClampNeg), .ref aL]) (rest := []) ⟨hx, hb, hml, hown, hts⟩ (wL_marks hst D A ad cI cQ cL cD aL aD (mm_w am cI M) S o d (xs (nI (5 * i) + (1 : Int32)).toNatClampNeg) z hz k o' hw1) (vx_cwSW 3 hts gL_law_L_marks rfl rfl rfl (by decide +kernel) ⟨Nat.le_of_ble_eq_true rfl, Nat.le_of_ble_eq_true rfl⟩) ⟨qm_blindZ, fun U hU hW => ⟨rfl, qm_go hA hS hP hK hD hU hW, qm_Zgo hZ hS hU hW⟩⟩ rfl rfl hl.1 rfl (lv_room (Nat.le_of_ble_eq_true rfl)) dL_law_676 ⟨by show cells + 1 ≤ 601024; omega, by show slots + 6 ≤ 7293034; omega⟩) hS (fun _ _ h9 => h9) (fun _ h9 => h9) (fun _ _ h9 => h9) (fun E ce q9 u9 t H1 locs1 ht hvm hw hB hz1 hk1 hS hce hcv hcl => hw.elim) (fun r w9 t H locs ht hvm hw hB hz1 hk1 hS => ?_)
  obtain ⟨hr1, hr2⟩ := hw
  have hr1 : r = k := hr1
  have hr2 : w9 = o' := hr2
  subst hr1
  subst hr2
  obtain ⟨hP, hD⟩ := qm_bk ht hB
  clear hB
  have hP : va_P D vwCl (la_v ad am cI cQ cL cD aL aD S w9 d M) H := hP
  have hD : va_D A (la_v ad am cI cQ cL cD aL aD S w9 d M) := hD
  rw [la_W] at hP hD
  refine lv_istore (lv' := [(6, .int r), (5, .int (nI (5 * i))), (4, .ref aD), (3, .ref aL), (2, .ref (am 0)), (1, .ref (ad 0)), (0, .ref b)]) hx hb dL_law_679 hl (by decide) rfl (fun ls hl => ?_)
  refine lv_aload_n hx hb dL_law_681 rfl (lv_at hl 4 rfl) ?_
  refine lv_aload_n hx hb dL_law_682 rfl (lv_at hl 6 rfl) ?_
  refine lv_iload hx hb dL_law_683 (lv_at hl 1 rfl) ?_
  refine lv_iconst (v := (1 : Int32)) hx hb dL_law_685 (by decide) ?_
  refine lv_iadd hx hb dL_law_686 ?_
  refine va_sld hx hb hX hbl hbA hS hi1 dL_law_687 ?_
  refine va_calli (va_runV (As := [.int (xs (nI (5 * i) + (1 : Int32)).toNatClampNeg)]) (rest := []) ⟨hx, hb, hml, hown, hts⟩ (kX7_marks l D A (la_pre ad cI cQ cL cD aL aD S w9 d) am cI M (xs (nI (5 * i) + (1 : Int32)).toNatClampNeg) _ hy) (cwV 1 hts gL_law_X7_marks rfl rfl rfl (by decide +kernel) ⟨Nat.le_of_ble_eq_true rfl, Nat.le_of_ble_eq_true rfl⟩) ⟨qm_blind, va_recv hKm hP (ci := 7) (q0 := ((la_pre ad cI cQ cL cD aL aD S w9 d).length + 0)) rfl mg_0, fun U hU hW => ⟨rfl, qm_go hA hS hP hKm hD hU hW⟩⟩ rfl rfl hl.1 rfl (lv_room (Nat.le_of_ble_eq_true rfl)) dL_law_688 ⟨by show cells + 1 + 0 ≤ 601024; omega, by show slots + 6 + 0 ≤ 7293034; omega⟩) hS (fun _ _ h9 => h9) (fun _ h9 => h9) (fun r2 u t H locs ht hvm hw hB hz1 hk1 hS => ?_)
  obtain ⟨hr1, hr2⟩ := hw
  have hr1 : r2 = v := hr1
  have hr2 : u = M' := hr2
  subst hr1
  subst hr2
  obtain ⟨hP, hD⟩ := qm_bk ht hB
  clear hB
  refine lv_istore (lv' := [(7, .int r2), (6, .int r), (5, .int (nI (5 * i))), (4, .ref aD), (3, .ref aL), (2, .ref (am 0)), (1, .ref (ad 0)), (0, .ref b)]) hx hb dL_law_691 hl (by decide) rfl (fun ls hl => ?_)
  refine lv_aload_n hx hb dL_law_693 rfl (lv_at hl 5 rfl) ?_
  refine va_calli (va_runV (As := []) (rest := []) ⟨hx, hb, hml, hown, hts⟩ (nX7_thrown l D A (la_pre ad cI cQ cL cD aL aD S w9 d) am cI u) (cwV 0 hts gL_law_X7_thrown rfl rfl rfl (by decide +kernel) ⟨Nat.le_of_ble_eq_true rfl, Nat.le_of_ble_eq_true rfl⟩) ⟨qm_blind, va_recv hKm hP (ci := 7) (q0 := ((la_pre ad cI cQ cL cD aL aD S w9 d).length + 0)) rfl mg_0, fun U hU hW => ⟨rfl, qm_go hA hS hP hKm hD hU hW⟩⟩ rfl rfl hl.1 rfl (lv_room (Nat.le_of_ble_eq_true rfl)) dL_law_694 ⟨by show cells + 1 + 0 + 0 ≤ 601024; omega, by show slots + 6 + 0 + 0 ≤ 7293034; omega⟩) hS (fun _ _ h9 => h9) (fun _ h9 => h9) (fun r3 u2 t H locs ht hvm hw hB hz1 hk1 hS => ?_)
  obtain ⟨hr1, hr2⟩ := hw
  have hr1 : r3 = u.2 := hr1
  have hr2 : u2 = u := hr2
  subst hr1
  subst hr2
  obtain ⟨hP, hD⟩ := qm_bk ht hB
  clear hB
  have hP : va_P D vwCl (mm_W (la_pre ad cI cQ cL cD aL aD S w9 d) am cI u2) H := hP
  have hD : va_D A (mm_W (la_pre ad cI cQ cL cD aL aD S w9 d) am cI u2) := hD
  rw [← la_W] at hP hD
  refine lv_iload hx hb dL_law_697 (lv_at hl 1 rfl) ?_
  refine lv_icmp_eq (tgt := 704) hx hb dL_law_699 (by decide) (fun _ => ?_) (fun q9 => absurd hw2 q9)
  have fin : W p l e room_1 s m #[Value.ref b] below meth c H locs (cells + 1) (slots + 6) Q (F0 m 721 ls []) := by
    refine lv_goto (tgt := 1581) hx hb dL_law_721 (by decide) ?_
    exact kk _ _ _ _ H locs ls hw3 hP hD hS (lv_sub hl [2, 3, 4, 5, 6, 7] rfl)
  refine lv_iload hx hb dL_law_704 (lv_at hl 1 rfl) ?_
  refine lv_if_ne (tgt := 721) hx hb dL_law_706 (by decide) (fun _ => fin) (fun hk0 => ?_)
  refine lv_aload_n hx hb dL_law_709 rfl (lv_at hl 4 rfl) ?_
  refine lv_iconst (v := (0 : Int32)) hx hb dL_law_710 (by decide) ?_
  refine va_lald hx hb hK hP 82 2 lg_L rfl (i := (0 : Int32)) la_in0 dL_law_711 ?_
  refine lv_iload hx hb dL_law_712 (lv_at hl 0 rfl) ?_
  refine lv_i2l (v := r2.toInt64) hx hb dL_law_714 rfl ?_
  refine W.lcmp hx hb dL_law_715 ?_
  exact lv_if_eq (tgt := 721) hx hb dL_law_716 (by decide) (fun _ => fin) (fun q9 => absurd (la_cmp (hw4 hk0)) q9)
set_option maxHeartbeats 4000000 in
set_option maxRecDepth 100000 in
theorem lc_value {p : Program} {l : Launch} {e : Env} {s : State} {m : MethodId} {below : List Frame} {meth : Method} {c : Code} {b L : Nat} {xs : Nat → Int32} {Q : State → Prop} {D : va_G} {A : Nat → Prop} {cI cQ cL cD : ClassId} {aL aD : Nat} {ad am : Nat → Nat} (G : la_H l p s m c b L xs D A cI cQ cL cD) {i : Nat} (hi : 5 * i + 5 ≤ L) {S : qm_S} {M : mm_M} (hR : st_R S M) {o : Nat → Int64} {d : Nat → UInt64} {H : Heap} {locs : List Loc} {ls : Array Slot} {cells slots : Nat} (hP : va_P D vwCl (la_v ad am cI cQ cL cD aL aD S o d M) H) (hD : va_D A (la_v ad am cI cQ cL cD aL aD S o d M)) (hS : va_S A s.heap H locs) (hl : lv_has ls 9 (la_l i b ad am aL aD)) (hc : cells + 5 ≤ 601024) (hsl : slots + 30 ≤ 7293034)
    (kk : ∀ (S' : qm_S) (M' : mm_M) (o' : Nat → Int64) (d' : Nat → UInt64) (H : Heap) (locs : List Loc) (ls : Array Slot), st_R S' M' → va_P D vwCl (la_v ad am cI cQ cL cD aL aD S' o' d' M') H → va_D A (la_v ad am cI cQ cL cD aL aD S' o' d' M') → va_S A s.heap H locs → lv_has ls 9 (la_l i b ad am aL aD) → W p l e room_1 s m #[Value.ref b] below meth c H locs (cells + 2) (slots + 12) Q (F0 m 1581 ls [])) : W p l e room_1 s m #[Value.ref b] below meth c H locs cells slots Q (F0 m 724 ls []) := by
  obtain ⟨⟨hx, hb, hml, hown⟩, hts, ⟨hX, hbl, hbA, hL⟩, ⟨hA, hK, hZ⟩, hst⟩ := G
  have hKm : va_K D vwCl (mm_T cI) s := hK.sub [0] rfl
  have hi1 : vp_in (nI (5 * i) + (1 : Int32)) L := la_ix 1 (by omega) hL
  have hi2 : vp_in (nI (5 * i) + (2 : Int32)) L := la_ix 2 (by omega) hL
  obtain ⟨z, v, M', k, o', hz, hy, hw1, hw2, hw3, hw4⟩ := la_of_q o hR (st_value hR (xs (nI (5 * i) + (1 : Int32)).toNatClampNeg) (xs (nI (5 * i) + (2 : Int32)).toNatClampNeg)) (by decide)
  refine lv_aload_n hx hb dL_law_724 rfl (lv_at hl 4 rfl) ?_
  refine lv_aload_n hx hb dL_law_725 rfl (lv_at hl 5 rfl) ?_
  refine lv_iload hx hb dL_law_726 (lv_at hl 0 rfl) ?_
  refine lv_iconst (v := (1 : Int32)) hx hb dL_law_728 (by decide) ?_
  refine lv_iadd hx hb dL_law_729 ?_
  refine va_sld hx hb hX hbl hbA hS hi1 dL_law_730 ?_
  refine lv_aload_n hx hb dL_law_731 rfl (lv_at hl 5 rfl) ?_
  refine lv_iload hx hb dL_law_732 (lv_at hl 0 rfl) ?_
  refine lv_iconst (v := (2 : Int32)) hx hb dL_law_734 (by decide) ?_
  refine lv_iadd hx hb dL_law_735 ?_
  refine va_sld hx hb hX hbl hbA hS hi2 dL_law_736 ?_
  refine lv_aload_n hx hb dL_law_737 rfl (lv_at hl 2 rfl) ?_
  refine vx_calli (vx_runSX (As := [.ref (ad 0), .int (xs (nI (5 * i) + (1 : Int32)).toNatClampNeg), .int (xs (nI (5 * i) + (2 : Int32)).toNatClampNeg), .ref aL]) (rest := []) ⟨hx, hb, hml, hown, hts⟩ (wL_value hst D A ad cI cQ cL cD aL aD (mm_w am cI M) S o d (xs (nI (5 * i) + (1 : Int32)).toNatClampNeg) (xs (nI (5 * i) + (2 : Int32)).toNatClampNeg) z hz k o' hw1) (vx_cwSW 4 hts gL_law_L_value rfl rfl rfl (by decide +kernel) ⟨Nat.le_of_ble_eq_true rfl, Nat.le_of_ble_eq_true rfl⟩) ⟨qm_blindZ, fun U hU hW => ⟨rfl, qm_go hA hS hP hK hD hU hW, qm_Zgo hZ hS hU hW⟩⟩ rfl rfl hl.1 rfl (lv_room (Nat.le_of_ble_eq_true rfl)) dL_law_738 ⟨by show cells + 2 ≤ 601024; omega, by show slots + 12 ≤ 7293034; omega⟩) hS (fun _ _ h9 => h9) (fun _ h9 => h9) (fun _ _ h9 => h9) (fun E ce q9 u9 t H1 locs1 ht hvm hw hB hz1 hk1 hS hce hcv hcl => hw.elim) (fun r w9 t H locs ht hvm hw hB hz1 hk1 hS => ?_)
  obtain ⟨hr1, hr2⟩ := hw
  have hr1 : r = k := hr1
  have hr2 : w9 = o' := hr2
  subst hr1
  subst hr2
  obtain ⟨hP, hD⟩ := qm_bk ht hB
  clear hB
  have hP : va_P D vwCl (la_v ad am cI cQ cL cD aL aD S w9 d M) H := hP
  have hD : va_D A (la_v ad am cI cQ cL cD aL aD S w9 d M) := hD
  rw [la_W] at hP hD
  refine lv_istore (lv' := [(6, .int r), (5, .int (nI (5 * i))), (4, .ref aD), (3, .ref aL), (2, .ref (am 0)), (1, .ref (ad 0)), (0, .ref b)]) hx hb dL_law_741 hl (by decide) rfl (fun ls hl => ?_)
  refine lv_aload_n hx hb dL_law_743 rfl (lv_at hl 4 rfl) ?_
  refine lv_aload_n hx hb dL_law_744 rfl (lv_at hl 6 rfl) ?_
  refine lv_iload hx hb dL_law_745 (lv_at hl 1 rfl) ?_
  refine lv_iconst (v := (1 : Int32)) hx hb dL_law_747 (by decide) ?_
  refine lv_iadd hx hb dL_law_748 ?_
  refine va_sld hx hb hX hbl hbA hS hi1 dL_law_749 ?_
  refine lv_aload_n hx hb dL_law_750 rfl (lv_at hl 6 rfl) ?_
  refine lv_iload hx hb dL_law_751 (lv_at hl 1 rfl) ?_
  refine lv_iconst (v := (2 : Int32)) hx hb dL_law_753 (by decide) ?_
  refine lv_iadd hx hb dL_law_754 ?_
  refine va_sld hx hb hX hbl hbA hS hi2 dL_law_755 ?_
  refine va_calli (va_runV (As := [.int (xs (nI (5 * i) + (1 : Int32)).toNatClampNeg), .int (xs (nI (5 * i) + (2 : Int32)).toNatClampNeg)]) (rest := []) ⟨hx, hb, hml, hown, hts⟩ (kX7_value l D A (la_pre ad cI cQ cL cD aL aD S w9 d) am cI M (xs (nI (5 * i) + (1 : Int32)).toNatClampNeg) (xs (nI (5 * i) + (2 : Int32)).toNatClampNeg) _ hy) (cwV 2 hts gL_law_X7_value rfl rfl rfl (by decide +kernel) ⟨Nat.le_of_ble_eq_true rfl, Nat.le_of_ble_eq_true rfl⟩) ⟨qm_blind, va_recv hKm hP (ci := 7) (q0 := ((la_pre ad cI cQ cL cD aL aD S w9 d).length + 0)) rfl mg_0, fun U hU hW => ⟨rfl, qm_go hA hS hP hKm hD hU hW⟩⟩ rfl rfl hl.1 rfl (lv_room (Nat.le_of_ble_eq_true rfl)) dL_law_756 ⟨by show cells + 2 + 0 ≤ 601024; omega, by show slots + 12 + 0 ≤ 7293034; omega⟩) hS (fun _ _ h9 => h9) (fun _ h9 => h9) (fun r2 u t H locs ht hvm hw hB hz1 hk1 hS => ?_)
  obtain ⟨hr1, hr2⟩ := hw
  have hr1 : r2 = v := hr1
  have hr2 : u = M' := hr2
  subst hr1
  subst hr2
  obtain ⟨hP, hD⟩ := qm_bk ht hB
  clear hB
  refine lv_istore (lv' := [(7, .int r2), (6, .int r), (5, .int (nI (5 * i))), (4, .ref aD), (3, .ref aL), (2, .ref (am 0)), (1, .ref (ad 0)), (0, .ref b)]) hx hb dL_law_759 hl (by decide) rfl (fun ls hl => ?_)
  refine lv_aload_n hx hb dL_law_761 rfl (lv_at hl 5 rfl) ?_
  refine va_calli (va_runV (As := []) (rest := []) ⟨hx, hb, hml, hown, hts⟩ (nX7_thrown l D A (la_pre ad cI cQ cL cD aL aD S w9 d) am cI u) (cwV 0 hts gL_law_X7_thrown rfl rfl rfl (by decide +kernel) ⟨Nat.le_of_ble_eq_true rfl, Nat.le_of_ble_eq_true rfl⟩) ⟨qm_blind, va_recv hKm hP (ci := 7) (q0 := ((la_pre ad cI cQ cL cD aL aD S w9 d).length + 0)) rfl mg_0, fun U hU hW => ⟨rfl, qm_go hA hS hP hKm hD hU hW⟩⟩ rfl rfl hl.1 rfl (lv_room (Nat.le_of_ble_eq_true rfl)) dL_law_762 ⟨by show cells + 2 + 0 + 0 ≤ 601024; omega, by show slots + 12 + 0 + 0 ≤ 7293034; omega⟩) hS (fun _ _ h9 => h9) (fun _ h9 => h9) (fun r3 u2 t H locs ht hvm hw hB hz1 hk1 hS => ?_)
  obtain ⟨hr1, hr2⟩ := hw
  have hr1 : r3 = u.2 := hr1
  have hr2 : u2 = u := hr2
  subst hr1
  subst hr2
  obtain ⟨hP, hD⟩ := qm_bk ht hB
  clear hB
  have hP : va_P D vwCl (mm_W (la_pre ad cI cQ cL cD aL aD S w9 d) am cI u2) H := hP
  have hD : va_D A (mm_W (la_pre ad cI cQ cL cD aL aD S w9 d) am cI u2) := hD
  rw [← la_W] at hP hD
  refine lv_iload hx hb dL_law_765 (lv_at hl 1 rfl) ?_
  refine lv_icmp_eq (tgt := 772) hx hb dL_law_767 (by decide) (fun _ => ?_) (fun q9 => absurd hw2 q9)
  have fin : W p l e room_1 s m #[Value.ref b] below meth c H locs (cells + 2) (slots + 12) Q (F0 m 789 ls []) := by
    refine lv_goto (tgt := 1581) hx hb dL_law_789 (by decide) ?_
    exact kk _ _ _ _ H locs ls hw3 hP hD hS (lv_sub hl [2, 3, 4, 5, 6, 7] rfl)
  refine lv_iload hx hb dL_law_772 (lv_at hl 1 rfl) ?_
  refine lv_if_ne (tgt := 789) hx hb dL_law_774 (by decide) (fun _ => fin) (fun hk0 => ?_)
  refine lv_aload_n hx hb dL_law_777 rfl (lv_at hl 4 rfl) ?_
  refine lv_iconst (v := (0 : Int32)) hx hb dL_law_778 (by decide) ?_
  refine va_lald hx hb hK hP 82 2 lg_L rfl (i := (0 : Int32)) la_in0 dL_law_779 ?_
  refine lv_iload hx hb dL_law_780 (lv_at hl 0 rfl) ?_
  refine lv_i2l (v := r2.toInt64) hx hb dL_law_782 rfl ?_
  refine W.lcmp hx hb dL_law_783 ?_
  exact lv_if_eq (tgt := 789) hx hb dL_law_784 (by decide) (fun _ => fin) (fun q9 => absurd (la_cmp (hw4 hk0)) q9)
set_option maxHeartbeats 4000000 in
set_option maxRecDepth 100000 in
theorem lc_lowestRank {p : Program} {l : Launch} {e : Env} {s : State} {m : MethodId} {below : List Frame} {meth : Method} {c : Code} {b L : Nat} {xs : Nat → Int32} {Q : State → Prop} {D : va_G} {A : Nat → Prop} {cI cQ cL cD : ClassId} {aL aD : Nat} {ad am : Nat → Nat} (G : la_H l p s m c b L xs D A cI cQ cL cD) {i : Nat} (hi : 5 * i + 5 ≤ L) {S : qm_S} {M : mm_M} (hR : st_R S M) {o : Nat → Int64} {d : Nat → UInt64} {H : Heap} {locs : List Loc} {ls : Array Slot} {cells slots : Nat} (hP : va_P D vwCl (la_v ad am cI cQ cL cD aL aD S o d M) H) (hD : va_D A (la_v ad am cI cQ cL cD aL aD S o d M)) (hS : va_S A s.heap H locs) (hl : lv_has ls 9 (la_l i b ad am aL aD)) (hc : cells + 5 ≤ 601024) (hsl : slots + 30 ≤ 7293034)
    (kk : ∀ (S' : qm_S) (M' : mm_M) (o' : Nat → Int64) (d' : Nat → UInt64) (H : Heap) (locs : List Loc) (ls : Array Slot), st_R S' M' → va_P D vwCl (la_v ad am cI cQ cL cD aL aD S' o' d' M') H → va_D A (la_v ad am cI cQ cL cD aL aD S' o' d' M') → va_S A s.heap H locs → lv_has ls 9 (la_l i b ad am aL aD) → W p l e room_1 s m #[Value.ref b] below meth c H locs (cells + 2) (slots + 12) Q (F0 m 1581 ls [])) : W p l e room_1 s m #[Value.ref b] below meth c H locs cells slots Q (F0 m 792 ls []) := by
  obtain ⟨⟨hx, hb, hml, hown⟩, hts, ⟨hX, hbl, hbA, hL⟩, ⟨hA, hK, hZ⟩, hst⟩ := G
  have hKm : va_K D vwCl (mm_T cI) s := hK.sub [0] rfl
  have hi1 : vp_in (nI (5 * i) + (1 : Int32)) L := la_ix 1 (by omega) hL
  have hi2 : vp_in (nI (5 * i) + (2 : Int32)) L := la_ix 2 (by omega) hL
  obtain ⟨z, v, M', k, o', hz, hy, hw1, hw2, hw3, hw4⟩ := la_of_q o hR (st_lowestRank hR (xs (nI (5 * i) + (1 : Int32)).toNatClampNeg) (xs (nI (5 * i) + (2 : Int32)).toNatClampNeg)) (by decide)
  refine lv_aload_n hx hb dL_law_792 rfl (lv_at hl 4 rfl) ?_
  refine lv_aload_n hx hb dL_law_793 rfl (lv_at hl 5 rfl) ?_
  refine lv_iload hx hb dL_law_794 (lv_at hl 0 rfl) ?_
  refine lv_iconst (v := (1 : Int32)) hx hb dL_law_796 (by decide) ?_
  refine lv_iadd hx hb dL_law_797 ?_
  refine va_sld hx hb hX hbl hbA hS hi1 dL_law_798 ?_
  refine lv_aload_n hx hb dL_law_799 rfl (lv_at hl 5 rfl) ?_
  refine lv_iload hx hb dL_law_800 (lv_at hl 0 rfl) ?_
  refine lv_iconst (v := (2 : Int32)) hx hb dL_law_802 (by decide) ?_
  refine lv_iadd hx hb dL_law_803 ?_
  refine va_sld hx hb hX hbl hbA hS hi2 dL_law_804 ?_
  refine lv_aload_n hx hb dL_law_805 rfl (lv_at hl 2 rfl) ?_
  refine vx_calli (vx_runSX (As := [.ref (ad 0), .int (xs (nI (5 * i) + (1 : Int32)).toNatClampNeg), .int (xs (nI (5 * i) + (2 : Int32)).toNatClampNeg), .ref aL]) (rest := []) ⟨hx, hb, hml, hown, hts⟩ (wL_lowestRank hst D A ad cI cQ cL cD aL aD (mm_w am cI M) S o d (xs (nI (5 * i) + (1 : Int32)).toNatClampNeg) (xs (nI (5 * i) + (2 : Int32)).toNatClampNeg) z hz k o' hw1) (vx_cwSW 4 hts gL_law_L_lowestRank rfl rfl rfl (by decide +kernel) ⟨Nat.le_of_ble_eq_true rfl, Nat.le_of_ble_eq_true rfl⟩) ⟨qm_blindZ, fun U hU hW => ⟨rfl, qm_go hA hS hP hK hD hU hW, qm_Zgo hZ hS hU hW⟩⟩ rfl rfl hl.1 rfl (lv_room (Nat.le_of_ble_eq_true rfl)) dL_law_806 ⟨by show cells + 2 ≤ 601024; omega, by show slots + 12 ≤ 7293034; omega⟩) hS (fun _ _ h9 => h9) (fun _ h9 => h9) (fun _ _ h9 => h9) (fun E ce q9 u9 t H1 locs1 ht hvm hw hB hz1 hk1 hS hce hcv hcl => hw.elim) (fun r w9 t H locs ht hvm hw hB hz1 hk1 hS => ?_)
  obtain ⟨hr1, hr2⟩ := hw
  have hr1 : r = k := hr1
  have hr2 : w9 = o' := hr2
  subst hr1
  subst hr2
  obtain ⟨hP, hD⟩ := qm_bk ht hB
  clear hB
  have hP : va_P D vwCl (la_v ad am cI cQ cL cD aL aD S w9 d M) H := hP
  have hD : va_D A (la_v ad am cI cQ cL cD aL aD S w9 d M) := hD
  rw [la_W] at hP hD
  refine lv_istore (lv' := [(6, .int r), (5, .int (nI (5 * i))), (4, .ref aD), (3, .ref aL), (2, .ref (am 0)), (1, .ref (ad 0)), (0, .ref b)]) hx hb dL_law_809 hl (by decide) rfl (fun ls hl => ?_)
  refine lv_aload_n hx hb dL_law_811 rfl (lv_at hl 4 rfl) ?_
  refine lv_aload_n hx hb dL_law_812 rfl (lv_at hl 6 rfl) ?_
  refine lv_iload hx hb dL_law_813 (lv_at hl 1 rfl) ?_
  refine lv_iconst (v := (1 : Int32)) hx hb dL_law_815 (by decide) ?_
  refine lv_iadd hx hb dL_law_816 ?_
  refine va_sld hx hb hX hbl hbA hS hi1 dL_law_817 ?_
  refine lv_aload_n hx hb dL_law_818 rfl (lv_at hl 6 rfl) ?_
  refine lv_iload hx hb dL_law_819 (lv_at hl 1 rfl) ?_
  refine lv_iconst (v := (2 : Int32)) hx hb dL_law_821 (by decide) ?_
  refine lv_iadd hx hb dL_law_822 ?_
  refine va_sld hx hb hX hbl hbA hS hi2 dL_law_823 ?_
  refine va_calli (va_runV (As := [.int (xs (nI (5 * i) + (1 : Int32)).toNatClampNeg), .int (xs (nI (5 * i) + (2 : Int32)).toNatClampNeg)]) (rest := []) ⟨hx, hb, hml, hown, hts⟩ (kX7_lowestRank l D A (la_pre ad cI cQ cL cD aL aD S w9 d) am cI M (xs (nI (5 * i) + (1 : Int32)).toNatClampNeg) (xs (nI (5 * i) + (2 : Int32)).toNatClampNeg) _ hy) (cwV 2 hts gL_law_X7_lowestRank rfl rfl rfl (by decide +kernel) ⟨Nat.le_of_ble_eq_true rfl, Nat.le_of_ble_eq_true rfl⟩) ⟨qm_blind, va_recv hKm hP (ci := 7) (q0 := ((la_pre ad cI cQ cL cD aL aD S w9 d).length + 0)) rfl mg_0, fun U hU hW => ⟨rfl, qm_go hA hS hP hKm hD hU hW⟩⟩ rfl rfl hl.1 rfl (lv_room (Nat.le_of_ble_eq_true rfl)) dL_law_824 ⟨by show cells + 2 + 0 ≤ 601024; omega, by show slots + 12 + 0 ≤ 7293034; omega⟩) hS (fun _ _ h9 => h9) (fun _ h9 => h9) (fun r2 u t H locs ht hvm hw hB hz1 hk1 hS => ?_)
  obtain ⟨hr1, hr2⟩ := hw
  have hr1 : r2 = v := hr1
  have hr2 : u = M' := hr2
  subst hr1
  subst hr2
  obtain ⟨hP, hD⟩ := qm_bk ht hB
  clear hB
  refine lv_istore (lv' := [(7, .int r2), (6, .int r), (5, .int (nI (5 * i))), (4, .ref aD), (3, .ref aL), (2, .ref (am 0)), (1, .ref (ad 0)), (0, .ref b)]) hx hb dL_law_827 hl (by decide) rfl (fun ls hl => ?_)
  refine lv_aload_n hx hb dL_law_829 rfl (lv_at hl 5 rfl) ?_
  refine va_calli (va_runV (As := []) (rest := []) ⟨hx, hb, hml, hown, hts⟩ (nX7_thrown l D A (la_pre ad cI cQ cL cD aL aD S w9 d) am cI u) (cwV 0 hts gL_law_X7_thrown rfl rfl rfl (by decide +kernel) ⟨Nat.le_of_ble_eq_true rfl, Nat.le_of_ble_eq_true rfl⟩) ⟨qm_blind, va_recv hKm hP (ci := 7) (q0 := ((la_pre ad cI cQ cL cD aL aD S w9 d).length + 0)) rfl mg_0, fun U hU hW => ⟨rfl, qm_go hA hS hP hKm hD hU hW⟩⟩ rfl rfl hl.1 rfl (lv_room (Nat.le_of_ble_eq_true rfl)) dL_law_830 ⟨by show cells + 2 + 0 + 0 ≤ 601024; omega, by show slots + 12 + 0 + 0 ≤ 7293034; omega⟩) hS (fun _ _ h9 => h9) (fun _ h9 => h9) (fun r3 u2 t H locs ht hvm hw hB hz1 hk1 hS => ?_)
  obtain ⟨hr1, hr2⟩ := hw
  have hr1 : r3 = u.2 := hr1
  have hr2 : u2 = u := hr2
  subst hr1
  subst hr2
  obtain ⟨hP, hD⟩ := qm_bk ht hB
  clear hB
  have hP : va_P D vwCl (mm_W (la_pre ad cI cQ cL cD aL aD S w9 d) am cI u2) H := hP
  have hD : va_D A (mm_W (la_pre ad cI cQ cL cD aL aD S w9 d) am cI u2) := hD
  rw [← la_W] at hP hD
  refine lv_iload hx hb dL_law_833 (lv_at hl 1 rfl) ?_
  refine lv_icmp_eq (tgt := 840) hx hb dL_law_835 (by decide) (fun _ => ?_) (fun q9 => absurd hw2 q9)
  have fin : W p l e room_1 s m #[Value.ref b] below meth c H locs (cells + 2) (slots + 12) Q (F0 m 857 ls []) := by
    refine lv_goto (tgt := 1581) hx hb dL_law_857 (by decide) ?_
    exact kk _ _ _ _ H locs ls hw3 hP hD hS (lv_sub hl [2, 3, 4, 5, 6, 7] rfl)
  refine lv_iload hx hb dL_law_840 (lv_at hl 1 rfl) ?_
  refine lv_if_ne (tgt := 857) hx hb dL_law_842 (by decide) (fun _ => fin) (fun hk0 => ?_)
  refine lv_aload_n hx hb dL_law_845 rfl (lv_at hl 4 rfl) ?_
  refine lv_iconst (v := (0 : Int32)) hx hb dL_law_846 (by decide) ?_
  refine va_lald hx hb hK hP 82 2 lg_L rfl (i := (0 : Int32)) la_in0 dL_law_847 ?_
  refine lv_iload hx hb dL_law_848 (lv_at hl 0 rfl) ?_
  refine lv_i2l (v := r2.toInt64) hx hb dL_law_850 rfl ?_
  refine W.lcmp hx hb dL_law_851 ?_
  exact lv_if_eq (tgt := 857) hx hb dL_law_852 (by decide) (fun _ => fin) (fun q9 => absurd (la_cmp (hw4 hk0)) q9)
set_option maxHeartbeats 4000000 in
set_option maxRecDepth 100000 in
theorem lc_highestRank {p : Program} {l : Launch} {e : Env} {s : State} {m : MethodId} {below : List Frame} {meth : Method} {c : Code} {b L : Nat} {xs : Nat → Int32} {Q : State → Prop} {D : va_G} {A : Nat → Prop} {cI cQ cL cD : ClassId} {aL aD : Nat} {ad am : Nat → Nat} (G : la_H l p s m c b L xs D A cI cQ cL cD) {i : Nat} (hi : 5 * i + 5 ≤ L) {S : qm_S} {M : mm_M} (hR : st_R S M) {o : Nat → Int64} {d : Nat → UInt64} {H : Heap} {locs : List Loc} {ls : Array Slot} {cells slots : Nat} (hP : va_P D vwCl (la_v ad am cI cQ cL cD aL aD S o d M) H) (hD : va_D A (la_v ad am cI cQ cL cD aL aD S o d M)) (hS : va_S A s.heap H locs) (hl : lv_has ls 9 (la_l i b ad am aL aD)) (hc : cells + 5 ≤ 601024) (hsl : slots + 30 ≤ 7293034)
    (kk : ∀ (S' : qm_S) (M' : mm_M) (o' : Nat → Int64) (d' : Nat → UInt64) (H : Heap) (locs : List Loc) (ls : Array Slot), st_R S' M' → va_P D vwCl (la_v ad am cI cQ cL cD aL aD S' o' d' M') H → va_D A (la_v ad am cI cQ cL cD aL aD S' o' d' M') → va_S A s.heap H locs → lv_has ls 9 (la_l i b ad am aL aD) → W p l e room_1 s m #[Value.ref b] below meth c H locs (cells + 2) (slots + 12) Q (F0 m 1581 ls [])) : W p l e room_1 s m #[Value.ref b] below meth c H locs cells slots Q (F0 m 860 ls []) := by
  obtain ⟨⟨hx, hb, hml, hown⟩, hts, ⟨hX, hbl, hbA, hL⟩, ⟨hA, hK, hZ⟩, hst⟩ := G
  have hKm : va_K D vwCl (mm_T cI) s := hK.sub [0] rfl
  have hi1 : vp_in (nI (5 * i) + (1 : Int32)) L := la_ix 1 (by omega) hL
  have hi2 : vp_in (nI (5 * i) + (2 : Int32)) L := la_ix 2 (by omega) hL
  obtain ⟨z, v, M', k, o', hz, hy, hw1, hw2, hw3, hw4⟩ := la_of_q o hR (st_highestRank hR (xs (nI (5 * i) + (1 : Int32)).toNatClampNeg) (xs (nI (5 * i) + (2 : Int32)).toNatClampNeg)) (by decide)
  refine lv_aload_n hx hb dL_law_860 rfl (lv_at hl 4 rfl) ?_
  refine lv_aload_n hx hb dL_law_861 rfl (lv_at hl 5 rfl) ?_
  refine lv_iload hx hb dL_law_862 (lv_at hl 0 rfl) ?_
  refine lv_iconst (v := (1 : Int32)) hx hb dL_law_864 (by decide) ?_
  refine lv_iadd hx hb dL_law_865 ?_
  refine va_sld hx hb hX hbl hbA hS hi1 dL_law_866 ?_
  refine lv_aload_n hx hb dL_law_867 rfl (lv_at hl 5 rfl) ?_
  refine lv_iload hx hb dL_law_868 (lv_at hl 0 rfl) ?_
  refine lv_iconst (v := (2 : Int32)) hx hb dL_law_870 (by decide) ?_
  refine lv_iadd hx hb dL_law_871 ?_
  refine va_sld hx hb hX hbl hbA hS hi2 dL_law_872 ?_
  refine lv_aload_n hx hb dL_law_873 rfl (lv_at hl 2 rfl) ?_
  refine vx_calli (vx_runSX (As := [.ref (ad 0), .int (xs (nI (5 * i) + (1 : Int32)).toNatClampNeg), .int (xs (nI (5 * i) + (2 : Int32)).toNatClampNeg), .ref aL]) (rest := []) ⟨hx, hb, hml, hown, hts⟩ (wL_highestRank hst D A ad cI cQ cL cD aL aD (mm_w am cI M) S o d (xs (nI (5 * i) + (1 : Int32)).toNatClampNeg) (xs (nI (5 * i) + (2 : Int32)).toNatClampNeg) z hz k o' hw1) (vx_cwSW 4 hts gL_law_L_highestRank rfl rfl rfl (by decide +kernel) ⟨Nat.le_of_ble_eq_true rfl, Nat.le_of_ble_eq_true rfl⟩) ⟨qm_blindZ, fun U hU hW => ⟨rfl, qm_go hA hS hP hK hD hU hW, qm_Zgo hZ hS hU hW⟩⟩ rfl rfl hl.1 rfl (lv_room (Nat.le_of_ble_eq_true rfl)) dL_law_874 ⟨by show cells + 2 ≤ 601024; omega, by show slots + 12 ≤ 7293034; omega⟩) hS (fun _ _ h9 => h9) (fun _ h9 => h9) (fun _ _ h9 => h9) (fun E ce q9 u9 t H1 locs1 ht hvm hw hB hz1 hk1 hS hce hcv hcl => hw.elim) (fun r w9 t H locs ht hvm hw hB hz1 hk1 hS => ?_)
  obtain ⟨hr1, hr2⟩ := hw
  have hr1 : r = k := hr1
  have hr2 : w9 = o' := hr2
  subst hr1
  subst hr2
  obtain ⟨hP, hD⟩ := qm_bk ht hB
  clear hB
  have hP : va_P D vwCl (la_v ad am cI cQ cL cD aL aD S w9 d M) H := hP
  have hD : va_D A (la_v ad am cI cQ cL cD aL aD S w9 d M) := hD
  rw [la_W] at hP hD
  refine lv_istore (lv' := [(6, .int r), (5, .int (nI (5 * i))), (4, .ref aD), (3, .ref aL), (2, .ref (am 0)), (1, .ref (ad 0)), (0, .ref b)]) hx hb dL_law_877 hl (by decide) rfl (fun ls hl => ?_)
  refine lv_aload_n hx hb dL_law_879 rfl (lv_at hl 4 rfl) ?_
  refine lv_aload_n hx hb dL_law_880 rfl (lv_at hl 6 rfl) ?_
  refine lv_iload hx hb dL_law_881 (lv_at hl 1 rfl) ?_
  refine lv_iconst (v := (1 : Int32)) hx hb dL_law_883 (by decide) ?_
  refine lv_iadd hx hb dL_law_884 ?_
  refine va_sld hx hb hX hbl hbA hS hi1 dL_law_885 ?_
  refine lv_aload_n hx hb dL_law_886 rfl (lv_at hl 6 rfl) ?_
  refine lv_iload hx hb dL_law_887 (lv_at hl 1 rfl) ?_
  refine lv_iconst (v := (2 : Int32)) hx hb dL_law_889 (by decide) ?_
  refine lv_iadd hx hb dL_law_890 ?_
  refine va_sld hx hb hX hbl hbA hS hi2 dL_law_891 ?_
  refine va_calli (va_runV (As := [.int (xs (nI (5 * i) + (1 : Int32)).toNatClampNeg), .int (xs (nI (5 * i) + (2 : Int32)).toNatClampNeg)]) (rest := []) ⟨hx, hb, hml, hown, hts⟩ (kX7_highestRank l D A (la_pre ad cI cQ cL cD aL aD S w9 d) am cI M (xs (nI (5 * i) + (1 : Int32)).toNatClampNeg) (xs (nI (5 * i) + (2 : Int32)).toNatClampNeg) _ hy) (cwV 2 hts gL_law_X7_highestRank rfl rfl rfl (by decide +kernel) ⟨Nat.le_of_ble_eq_true rfl, Nat.le_of_ble_eq_true rfl⟩) ⟨qm_blind, va_recv hKm hP (ci := 7) (q0 := ((la_pre ad cI cQ cL cD aL aD S w9 d).length + 0)) rfl mg_0, fun U hU hW => ⟨rfl, qm_go hA hS hP hKm hD hU hW⟩⟩ rfl rfl hl.1 rfl (lv_room (Nat.le_of_ble_eq_true rfl)) dL_law_892 ⟨by show cells + 2 + 0 ≤ 601024; omega, by show slots + 12 + 0 ≤ 7293034; omega⟩) hS (fun _ _ h9 => h9) (fun _ h9 => h9) (fun r2 u t H locs ht hvm hw hB hz1 hk1 hS => ?_)
  obtain ⟨hr1, hr2⟩ := hw
  have hr1 : r2 = v := hr1
  have hr2 : u = M' := hr2
  subst hr1
  subst hr2
  obtain ⟨hP, hD⟩ := qm_bk ht hB
  clear hB
  refine lv_istore (lv' := [(7, .int r2), (6, .int r), (5, .int (nI (5 * i))), (4, .ref aD), (3, .ref aL), (2, .ref (am 0)), (1, .ref (ad 0)), (0, .ref b)]) hx hb dL_law_895 hl (by decide) rfl (fun ls hl => ?_)
  refine lv_aload_n hx hb dL_law_897 rfl (lv_at hl 5 rfl) ?_
  refine va_calli (va_runV (As := []) (rest := []) ⟨hx, hb, hml, hown, hts⟩ (nX7_thrown l D A (la_pre ad cI cQ cL cD aL aD S w9 d) am cI u) (cwV 0 hts gL_law_X7_thrown rfl rfl rfl (by decide +kernel) ⟨Nat.le_of_ble_eq_true rfl, Nat.le_of_ble_eq_true rfl⟩) ⟨qm_blind, va_recv hKm hP (ci := 7) (q0 := ((la_pre ad cI cQ cL cD aL aD S w9 d).length + 0)) rfl mg_0, fun U hU hW => ⟨rfl, qm_go hA hS hP hKm hD hU hW⟩⟩ rfl rfl hl.1 rfl (lv_room (Nat.le_of_ble_eq_true rfl)) dL_law_898 ⟨by show cells + 2 + 0 + 0 ≤ 601024; omega, by show slots + 12 + 0 + 0 ≤ 7293034; omega⟩) hS (fun _ _ h9 => h9) (fun _ h9 => h9) (fun r3 u2 t H locs ht hvm hw hB hz1 hk1 hS => ?_)
  obtain ⟨hr1, hr2⟩ := hw
  have hr1 : r3 = u.2 := hr1
  have hr2 : u2 = u := hr2
  subst hr1
  subst hr2
  obtain ⟨hP, hD⟩ := qm_bk ht hB
  clear hB
  have hP : va_P D vwCl (mm_W (la_pre ad cI cQ cL cD aL aD S w9 d) am cI u2) H := hP
  have hD : va_D A (mm_W (la_pre ad cI cQ cL cD aL aD S w9 d) am cI u2) := hD
  rw [← la_W] at hP hD
  refine lv_iload hx hb dL_law_901 (lv_at hl 1 rfl) ?_
  refine lv_icmp_eq (tgt := 908) hx hb dL_law_903 (by decide) (fun _ => ?_) (fun q9 => absurd hw2 q9)
  have fin : W p l e room_1 s m #[Value.ref b] below meth c H locs (cells + 2) (slots + 12) Q (F0 m 925 ls []) := by
    refine lv_goto (tgt := 1581) hx hb dL_law_925 (by decide) ?_
    exact kk _ _ _ _ H locs ls hw3 hP hD hS (lv_sub hl [2, 3, 4, 5, 6, 7] rfl)
  refine lv_iload hx hb dL_law_908 (lv_at hl 1 rfl) ?_
  refine lv_if_ne (tgt := 925) hx hb dL_law_910 (by decide) (fun _ => fin) (fun hk0 => ?_)
  refine lv_aload_n hx hb dL_law_913 rfl (lv_at hl 4 rfl) ?_
  refine lv_iconst (v := (0 : Int32)) hx hb dL_law_914 (by decide) ?_
  refine va_lald hx hb hK hP 82 2 lg_L rfl (i := (0 : Int32)) la_in0 dL_law_915 ?_
  refine lv_iload hx hb dL_law_916 (lv_at hl 0 rfl) ?_
  refine lv_i2l (v := r2.toInt64) hx hb dL_law_918 rfl ?_
  refine W.lcmp hx hb dL_law_919 ?_
  exact lv_if_eq (tgt := 925) hx hb dL_law_920 (by decide) (fun _ => fin) (fun q9 => absurd (la_cmp (hw4 hk0)) q9)
set_option maxHeartbeats 4000000 in
set_option maxRecDepth 100000 in
theorem lc_widest {p : Program} {l : Launch} {e : Env} {s : State} {m : MethodId} {below : List Frame} {meth : Method} {c : Code} {b L : Nat} {xs : Nat → Int32} {Q : State → Prop} {D : va_G} {A : Nat → Prop} {cI cQ cL cD : ClassId} {aL aD : Nat} {ad am : Nat → Nat} (G : la_H l p s m c b L xs D A cI cQ cL cD) {i : Nat} (hi : 5 * i + 5 ≤ L) {S : qm_S} {M : mm_M} (hR : st_R S M) {o : Nat → Int64} {d : Nat → UInt64} {H : Heap} {locs : List Loc} {ls : Array Slot} {cells slots : Nat} (hP : va_P D vwCl (la_v ad am cI cQ cL cD aL aD S o d M) H) (hD : va_D A (la_v ad am cI cQ cL cD aL aD S o d M)) (hS : va_S A s.heap H locs) (hl : lv_has ls 9 (la_l i b ad am aL aD)) (hc : cells + 5 ≤ 601024) (hsl : slots + 30 ≤ 7293034)
    (kk : ∀ (S' : qm_S) (M' : mm_M) (o' : Nat → Int64) (d' : Nat → UInt64) (H : Heap) (locs : List Loc) (ls : Array Slot), st_R S' M' → va_P D vwCl (la_v ad am cI cQ cL cD aL aD S' o' d' M') H → va_D A (la_v ad am cI cQ cL cD aL aD S' o' d' M') → va_S A s.heap H locs → lv_has ls 9 (la_l i b ad am aL aD) → W p l e room_1 s m #[Value.ref b] below meth c H locs (cells + 1) (slots + 6) Q (F0 m 1581 ls [])) : W p l e room_1 s m #[Value.ref b] below meth c H locs cells slots Q (F0 m 928 ls []) := by
  obtain ⟨⟨hx, hb, hml, hown⟩, hts, ⟨hX, hbl, hbA, hL⟩, ⟨hA, hK, hZ⟩, hst⟩ := G
  have hKm : va_K D vwCl (mm_T cI) s := hK.sub [0] rfl
  have hi1 : vp_in (nI (5 * i) + (1 : Int32)) L := la_ix 1 (by omega) hL
  obtain ⟨z, v, M', k, o', hz, hy, hw1, hw2, hw3, hw4⟩ := la_of_q o hR (st_widest hR (xs (nI (5 * i) + (1 : Int32)).toNatClampNeg)) (by decide)
  refine lv_aload_n hx hb dL_law_928 rfl (lv_at hl 4 rfl) ?_
  refine lv_aload_n hx hb dL_law_929 rfl (lv_at hl 5 rfl) ?_
  refine lv_iload hx hb dL_law_930 (lv_at hl 0 rfl) ?_
  refine lv_iconst (v := (1 : Int32)) hx hb dL_law_932 (by decide) ?_
  refine lv_iadd hx hb dL_law_933 ?_
  refine va_sld hx hb hX hbl hbA hS hi1 dL_law_934 ?_
  refine lv_aload_n hx hb dL_law_935 rfl (lv_at hl 2 rfl) ?_
  refine vx_calli (vx_runSX (As := [.ref (ad 0), .int (xs (nI (5 * i) + (1 : Int32)).toNatClampNeg), .ref aL]) (rest := []) ⟨hx, hb, hml, hown, hts⟩ (wL_widest hst D A ad cI cQ cL cD aL aD (mm_w am cI M) S o d (xs (nI (5 * i) + (1 : Int32)).toNatClampNeg) z hz k o' hw1) (vx_cwSW 3 hts gL_law_L_widest rfl rfl rfl (by decide +kernel) ⟨Nat.le_of_ble_eq_true rfl, Nat.le_of_ble_eq_true rfl⟩) ⟨qm_blindZ, fun U hU hW => ⟨rfl, qm_go hA hS hP hK hD hU hW, qm_Zgo hZ hS hU hW⟩⟩ rfl rfl hl.1 rfl (lv_room (Nat.le_of_ble_eq_true rfl)) dL_law_936 ⟨by show cells + 1 ≤ 601024; omega, by show slots + 6 ≤ 7293034; omega⟩) hS (fun _ _ h9 => h9) (fun _ h9 => h9) (fun _ _ h9 => h9) (fun E ce q9 u9 t H1 locs1 ht hvm hw hB hz1 hk1 hS hce hcv hcl => hw.elim) (fun r w9 t H locs ht hvm hw hB hz1 hk1 hS => ?_)
  obtain ⟨hr1, hr2⟩ := hw
  have hr1 : r = k := hr1
  have hr2 : w9 = o' := hr2
  subst hr1
  subst hr2
  obtain ⟨hP, hD⟩ := qm_bk ht hB
  clear hB
  have hP : va_P D vwCl (la_v ad am cI cQ cL cD aL aD S w9 d M) H := hP
  have hD : va_D A (la_v ad am cI cQ cL cD aL aD S w9 d M) := hD
  rw [la_W] at hP hD
  refine lv_istore (lv' := [(6, .int r), (5, .int (nI (5 * i))), (4, .ref aD), (3, .ref aL), (2, .ref (am 0)), (1, .ref (ad 0)), (0, .ref b)]) hx hb dL_law_939 hl (by decide) rfl (fun ls hl => ?_)
  refine lv_aload_n hx hb dL_law_941 rfl (lv_at hl 4 rfl) ?_
  refine lv_aload_n hx hb dL_law_942 rfl (lv_at hl 6 rfl) ?_
  refine lv_iload hx hb dL_law_943 (lv_at hl 1 rfl) ?_
  refine lv_iconst (v := (1 : Int32)) hx hb dL_law_945 (by decide) ?_
  refine lv_iadd hx hb dL_law_946 ?_
  refine va_sld hx hb hX hbl hbA hS hi1 dL_law_947 ?_
  refine va_calli (va_runV (As := [.int (xs (nI (5 * i) + (1 : Int32)).toNatClampNeg)]) (rest := []) ⟨hx, hb, hml, hown, hts⟩ (kX7_widest l D A (la_pre ad cI cQ cL cD aL aD S w9 d) am cI M (xs (nI (5 * i) + (1 : Int32)).toNatClampNeg) _ hy) (cwV 1 hts gL_law_X7_widest rfl rfl rfl (by decide +kernel) ⟨Nat.le_of_ble_eq_true rfl, Nat.le_of_ble_eq_true rfl⟩) ⟨qm_blind, va_recv hKm hP (ci := 7) (q0 := ((la_pre ad cI cQ cL cD aL aD S w9 d).length + 0)) rfl mg_0, fun U hU hW => ⟨rfl, qm_go hA hS hP hKm hD hU hW⟩⟩ rfl rfl hl.1 rfl (lv_room (Nat.le_of_ble_eq_true rfl)) dL_law_948 ⟨by show cells + 1 + 0 ≤ 601024; omega, by show slots + 6 + 0 ≤ 7293034; omega⟩) hS (fun _ _ h9 => h9) (fun _ h9 => h9) (fun r2 u t H locs ht hvm hw hB hz1 hk1 hS => ?_)
  obtain ⟨hr1, hr2⟩ := hw
  have hr1 : r2 = v := hr1
  have hr2 : u = M' := hr2
  subst hr1
  subst hr2
  obtain ⟨hP, hD⟩ := qm_bk ht hB
  clear hB
  refine lv_istore (lv' := [(7, .int r2), (6, .int r), (5, .int (nI (5 * i))), (4, .ref aD), (3, .ref aL), (2, .ref (am 0)), (1, .ref (ad 0)), (0, .ref b)]) hx hb dL_law_951 hl (by decide) rfl (fun ls hl => ?_)
  refine lv_aload_n hx hb dL_law_953 rfl (lv_at hl 5 rfl) ?_
  refine va_calli (va_runV (As := []) (rest := []) ⟨hx, hb, hml, hown, hts⟩ (nX7_thrown l D A (la_pre ad cI cQ cL cD aL aD S w9 d) am cI u) (cwV 0 hts gL_law_X7_thrown rfl rfl rfl (by decide +kernel) ⟨Nat.le_of_ble_eq_true rfl, Nat.le_of_ble_eq_true rfl⟩) ⟨qm_blind, va_recv hKm hP (ci := 7) (q0 := ((la_pre ad cI cQ cL cD aL aD S w9 d).length + 0)) rfl mg_0, fun U hU hW => ⟨rfl, qm_go hA hS hP hKm hD hU hW⟩⟩ rfl rfl hl.1 rfl (lv_room (Nat.le_of_ble_eq_true rfl)) dL_law_954 ⟨by show cells + 1 + 0 + 0 ≤ 601024; omega, by show slots + 6 + 0 + 0 ≤ 7293034; omega⟩) hS (fun _ _ h9 => h9) (fun _ h9 => h9) (fun r3 u2 t H locs ht hvm hw hB hz1 hk1 hS => ?_)
  obtain ⟨hr1, hr2⟩ := hw
  have hr1 : r3 = u.2 := hr1
  have hr2 : u2 = u := hr2
  subst hr1
  subst hr2
  obtain ⟨hP, hD⟩ := qm_bk ht hB
  clear hB
  have hP : va_P D vwCl (mm_W (la_pre ad cI cQ cL cD aL aD S w9 d) am cI u2) H := hP
  have hD : va_D A (mm_W (la_pre ad cI cQ cL cD aL aD S w9 d) am cI u2) := hD
  rw [← la_W] at hP hD
  refine lv_iload hx hb dL_law_957 (lv_at hl 1 rfl) ?_
  refine lv_icmp_eq (tgt := 964) hx hb dL_law_959 (by decide) (fun _ => ?_) (fun q9 => absurd hw2 q9)
  have fin : W p l e room_1 s m #[Value.ref b] below meth c H locs (cells + 1) (slots + 6) Q (F0 m 981 ls []) := by
    refine lv_goto (tgt := 1581) hx hb dL_law_981 (by decide) ?_
    exact kk _ _ _ _ H locs ls hw3 hP hD hS (lv_sub hl [2, 3, 4, 5, 6, 7] rfl)
  refine lv_iload hx hb dL_law_964 (lv_at hl 1 rfl) ?_
  refine lv_if_ne (tgt := 981) hx hb dL_law_966 (by decide) (fun _ => fin) (fun hk0 => ?_)
  refine lv_aload_n hx hb dL_law_969 rfl (lv_at hl 4 rfl) ?_
  refine lv_iconst (v := (0 : Int32)) hx hb dL_law_970 (by decide) ?_
  refine va_lald hx hb hK hP 82 2 lg_L rfl (i := (0 : Int32)) la_in0 dL_law_971 ?_
  refine lv_iload hx hb dL_law_972 (lv_at hl 0 rfl) ?_
  refine lv_i2l (v := r2.toInt64) hx hb dL_law_974 rfl ?_
  refine W.lcmp hx hb dL_law_975 ?_
  exact lv_if_eq (tgt := 981) hx hb dL_law_976 (by decide) (fun _ => fin) (fun q9 => absurd (la_cmp (hw4 hk0)) q9)
set_option maxHeartbeats 4000000 in
set_option maxRecDepth 100000 in
theorem lc_ask {p : Program} {l : Launch} {e : Env} {s : State} {m : MethodId} {below : List Frame} {meth : Method} {c : Code} {b L : Nat} {xs : Nat → Int32} {Q : State → Prop} {D : va_G} {A : Nat → Prop} {cI cQ cL cD : ClassId} {aL aD : Nat} {ad am : Nat → Nat} (G : la_H l p s m c b L xs D A cI cQ cL cD) {i : Nat} (hi : 5 * i + 5 ≤ L) {S : qm_S} {M : mm_M} (hR : st_R S M) {o : Nat → Int64} {d : Nat → UInt64} {H : Heap} {locs : List Loc} {ls : Array Slot} {cells slots : Nat} (hP : va_P D vwCl (la_v ad am cI cQ cL cD aL aD S o d M) H) (hD : va_D A (la_v ad am cI cQ cL cD aL aD S o d M)) (hS : va_S A s.heap H locs) (hl : lv_has ls 9 (la_l i b ad am aL aD)) (hc : cells + 5 ≤ 601024) (hsl : slots + 30 ≤ 7293034)
    (kk : ∀ (S' : qm_S) (M' : mm_M) (o' : Nat → Int64) (d' : Nat → UInt64) (H : Heap) (locs : List Loc) (ls : Array Slot), st_R S' M' → va_P D vwCl (la_v ad am cI cQ cL cD aL aD S' o' d' M') H → va_D A (la_v ad am cI cQ cL cD aL aD S' o' d' M') → va_S A s.heap H locs → lv_has ls 9 (la_l i b ad am aL aD) → W p l e room_1 s m #[Value.ref b] below meth c H locs (cells + 3) (slots + 18) Q (F0 m 1581 ls [])) : W p l e room_1 s m #[Value.ref b] below meth c H locs cells slots Q (F0 m 984 ls []) := by
  obtain ⟨⟨hx, hb, hml, hown⟩, hts, ⟨hX, hbl, hbA, hL⟩, ⟨hA, hK, hZ⟩, hst⟩ := G
  have hKm : va_K D vwCl (mm_T cI) s := hK.sub [0] rfl
  have hi1 : vp_in (nI (5 * i) + (1 : Int32)) L := la_ix 1 (by omega) hL
  have hi2 : vp_in (nI (5 * i) + (2 : Int32)) L := la_ix 2 (by omega) hL
  obtain ⟨z, v, M', k, o', hz, hy, hw1, hw2, hw3, hw4⟩ := la_of_q o hR (st_ask hR (xs (nI (5 * i) + (1 : Int32)).toNatClampNeg) (xs (nI (5 * i) + (2 : Int32)).toNatClampNeg)) (by decide)
  refine lv_aload_n hx hb dL_law_984 rfl (lv_at hl 4 rfl) ?_
  refine lv_aload_n hx hb dL_law_985 rfl (lv_at hl 5 rfl) ?_
  refine lv_iload hx hb dL_law_986 (lv_at hl 0 rfl) ?_
  refine lv_iconst (v := (1 : Int32)) hx hb dL_law_988 (by decide) ?_
  refine lv_iadd hx hb dL_law_989 ?_
  refine va_sld hx hb hX hbl hbA hS hi1 dL_law_990 ?_
  refine lv_aload_n hx hb dL_law_991 rfl (lv_at hl 5 rfl) ?_
  refine lv_iload hx hb dL_law_992 (lv_at hl 0 rfl) ?_
  refine lv_iconst (v := (2 : Int32)) hx hb dL_law_994 (by decide) ?_
  refine lv_iadd hx hb dL_law_995 ?_
  refine va_sld hx hb hX hbl hbA hS hi2 dL_law_996 ?_
  refine lv_aload_n hx hb dL_law_997 rfl (lv_at hl 2 rfl) ?_
  refine vx_calli (vx_runSX (As := [.ref (ad 0), .int (xs (nI (5 * i) + (1 : Int32)).toNatClampNeg), .int (xs (nI (5 * i) + (2 : Int32)).toNatClampNeg), .ref aL]) (rest := []) ⟨hx, hb, hml, hown, hts⟩ (wL_ask hst D A ad cI cQ cL cD aL aD (mm_w am cI M) S o d (xs (nI (5 * i) + (1 : Int32)).toNatClampNeg) (xs (nI (5 * i) + (2 : Int32)).toNatClampNeg) z hz k o' hw1) (vx_cwSW 4 hts gL_law_L_ask rfl rfl rfl (by decide +kernel) ⟨Nat.le_of_ble_eq_true rfl, Nat.le_of_ble_eq_true rfl⟩) ⟨qm_blindZ, fun U hU hW => ⟨rfl, qm_go hA hS hP hK hD hU hW, qm_Zgo hZ hS hU hW⟩⟩ rfl rfl hl.1 rfl (lv_room (Nat.le_of_ble_eq_true rfl)) dL_law_998 ⟨by show cells + 3 ≤ 601024; omega, by show slots + 18 ≤ 7293034; omega⟩) hS (fun _ _ h9 => h9) (fun _ h9 => h9) (fun _ _ h9 => h9) (fun E ce q9 u9 t H1 locs1 ht hvm hw hB hz1 hk1 hS hce hcv hcl => hw.elim) (fun r w9 t H locs ht hvm hw hB hz1 hk1 hS => ?_)
  obtain ⟨hr1, hr2⟩ := hw
  have hr1 : r = k := hr1
  have hr2 : w9 = o' := hr2
  subst hr1
  subst hr2
  obtain ⟨hP, hD⟩ := qm_bk ht hB
  clear hB
  have hP : va_P D vwCl (la_v ad am cI cQ cL cD aL aD S w9 d M) H := hP
  have hD : va_D A (la_v ad am cI cQ cL cD aL aD S w9 d M) := hD
  rw [la_W] at hP hD
  refine lv_istore (lv' := [(6, .int r), (5, .int (nI (5 * i))), (4, .ref aD), (3, .ref aL), (2, .ref (am 0)), (1, .ref (ad 0)), (0, .ref b)]) hx hb dL_law_1001 hl (by decide) rfl (fun ls hl => ?_)
  refine lv_aload_n hx hb dL_law_1003 rfl (lv_at hl 4 rfl) ?_
  refine lv_aload_n hx hb dL_law_1004 rfl (lv_at hl 6 rfl) ?_
  refine lv_iload hx hb dL_law_1005 (lv_at hl 1 rfl) ?_
  refine lv_iconst (v := (1 : Int32)) hx hb dL_law_1007 (by decide) ?_
  refine lv_iadd hx hb dL_law_1008 ?_
  refine va_sld hx hb hX hbl hbA hS hi1 dL_law_1009 ?_
  refine lv_aload_n hx hb dL_law_1010 rfl (lv_at hl 6 rfl) ?_
  refine lv_iload hx hb dL_law_1011 (lv_at hl 1 rfl) ?_
  refine lv_iconst (v := (2 : Int32)) hx hb dL_law_1013 (by decide) ?_
  refine lv_iadd hx hb dL_law_1014 ?_
  refine va_sld hx hb hX hbl hbA hS hi2 dL_law_1015 ?_
  refine va_calli (va_runV (As := [.int (xs (nI (5 * i) + (1 : Int32)).toNatClampNeg), .int (xs (nI (5 * i) + (2 : Int32)).toNatClampNeg)]) (rest := []) ⟨hx, hb, hml, hown, hts⟩ (kX7_ask l D A (la_pre ad cI cQ cL cD aL aD S w9 d) am cI M (xs (nI (5 * i) + (1 : Int32)).toNatClampNeg) (xs (nI (5 * i) + (2 : Int32)).toNatClampNeg) _ hy) (cwV 2 hts gL_law_X7_ask rfl rfl rfl (by decide +kernel) ⟨Nat.le_of_ble_eq_true rfl, Nat.le_of_ble_eq_true rfl⟩) ⟨qm_blind, va_recv hKm hP (ci := 7) (q0 := ((la_pre ad cI cQ cL cD aL aD S w9 d).length + 0)) rfl mg_0, fun U hU hW => ⟨rfl, qm_go hA hS hP hKm hD hU hW⟩⟩ rfl rfl hl.1 rfl (lv_room (Nat.le_of_ble_eq_true rfl)) dL_law_1016 ⟨by show cells + 3 + 0 ≤ 601024; omega, by show slots + 18 + 0 ≤ 7293034; omega⟩) hS (fun _ _ h9 => h9) (fun _ h9 => h9) (fun r2 u t H locs ht hvm hw hB hz1 hk1 hS => ?_)
  obtain ⟨hr1, hr2⟩ := hw
  have hr1 : r2 = v := hr1
  have hr2 : u = M' := hr2
  subst hr1
  subst hr2
  obtain ⟨hP, hD⟩ := qm_bk ht hB
  clear hB
  refine lv_istore (lv' := [(7, .int r2), (6, .int r), (5, .int (nI (5 * i))), (4, .ref aD), (3, .ref aL), (2, .ref (am 0)), (1, .ref (ad 0)), (0, .ref b)]) hx hb dL_law_1019 hl (by decide) rfl (fun ls hl => ?_)
  refine lv_aload_n hx hb dL_law_1021 rfl (lv_at hl 5 rfl) ?_
  refine va_calli (va_runV (As := []) (rest := []) ⟨hx, hb, hml, hown, hts⟩ (nX7_thrown l D A (la_pre ad cI cQ cL cD aL aD S w9 d) am cI u) (cwV 0 hts gL_law_X7_thrown rfl rfl rfl (by decide +kernel) ⟨Nat.le_of_ble_eq_true rfl, Nat.le_of_ble_eq_true rfl⟩) ⟨qm_blind, va_recv hKm hP (ci := 7) (q0 := ((la_pre ad cI cQ cL cD aL aD S w9 d).length + 0)) rfl mg_0, fun U hU hW => ⟨rfl, qm_go hA hS hP hKm hD hU hW⟩⟩ rfl rfl hl.1 rfl (lv_room (Nat.le_of_ble_eq_true rfl)) dL_law_1022 ⟨by show cells + 3 + 0 + 0 ≤ 601024; omega, by show slots + 18 + 0 + 0 ≤ 7293034; omega⟩) hS (fun _ _ h9 => h9) (fun _ h9 => h9) (fun r3 u2 t H locs ht hvm hw hB hz1 hk1 hS => ?_)
  obtain ⟨hr1, hr2⟩ := hw
  have hr1 : r3 = u.2 := hr1
  have hr2 : u2 = u := hr2
  subst hr1
  subst hr2
  obtain ⟨hP, hD⟩ := qm_bk ht hB
  clear hB
  have hP : va_P D vwCl (mm_W (la_pre ad cI cQ cL cD aL aD S w9 d) am cI u2) H := hP
  have hD : va_D A (mm_W (la_pre ad cI cQ cL cD aL aD S w9 d) am cI u2) := hD
  rw [← la_W] at hP hD
  refine lv_iload hx hb dL_law_1025 (lv_at hl 1 rfl) ?_
  refine lv_icmp_eq (tgt := 1032) hx hb dL_law_1027 (by decide) (fun _ => ?_) (fun q9 => absurd hw2 q9)
  have fin : W p l e room_1 s m #[Value.ref b] below meth c H locs (cells + 3) (slots + 18) Q (F0 m 1049 ls []) := by
    refine lv_goto (tgt := 1581) hx hb dL_law_1049 (by decide) ?_
    exact kk _ _ _ _ H locs ls hw3 hP hD hS (lv_sub hl [2, 3, 4, 5, 6, 7] rfl)
  refine lv_iload hx hb dL_law_1032 (lv_at hl 1 rfl) ?_
  refine lv_if_ne (tgt := 1049) hx hb dL_law_1034 (by decide) (fun _ => fin) (fun hk0 => ?_)
  refine lv_aload_n hx hb dL_law_1037 rfl (lv_at hl 4 rfl) ?_
  refine lv_iconst (v := (0 : Int32)) hx hb dL_law_1038 (by decide) ?_
  refine va_lald hx hb hK hP 82 2 lg_L rfl (i := (0 : Int32)) la_in0 dL_law_1039 ?_
  refine lv_iload hx hb dL_law_1040 (lv_at hl 0 rfl) ?_
  refine lv_i2l (v := r2.toInt64) hx hb dL_law_1042 rfl ?_
  refine W.lcmp hx hb dL_law_1043 ?_
  exact lv_if_eq (tgt := 1049) hx hb dL_law_1044 (by decide) (fun _ => fin) (fun q9 => absurd (la_cmp (hw4 hk0)) q9)
set_option maxHeartbeats 4000000 in
set_option maxRecDepth 100000 in
theorem lc_off {p : Program} {l : Launch} {e : Env} {s : State} {m : MethodId} {below : List Frame} {meth : Method} {c : Code} {b L : Nat} {xs : Nat → Int32} {Q : State → Prop} {D : va_G} {A : Nat → Prop} {cI cQ cL cD : ClassId} {aL aD : Nat} {ad am : Nat → Nat} (G : la_H l p s m c b L xs D A cI cQ cL cD) {i : Nat} (hi : 5 * i + 5 ≤ L) {S : qm_S} {M : mm_M} (hR : st_R S M) {o : Nat → Int64} {d : Nat → UInt64} {H : Heap} {locs : List Loc} {ls : Array Slot} {cells slots : Nat} (hP : va_P D vwCl (la_v ad am cI cQ cL cD aL aD S o d M) H) (hD : va_D A (la_v ad am cI cQ cL cD aL aD S o d M)) (hS : va_S A s.heap H locs) (hl : lv_has ls 9 (la_l i b ad am aL aD)) (hc : cells + 5 ≤ 601024) (hsl : slots + 30 ≤ 7293034)
    (kk : ∀ (S' : qm_S) (M' : mm_M) (o' : Nat → Int64) (d' : Nat → UInt64) (H : Heap) (locs : List Loc) (ls : Array Slot), st_R S' M' → va_P D vwCl (la_v ad am cI cQ cL cD aL aD S' o' d' M') H → va_D A (la_v ad am cI cQ cL cD aL aD S' o' d' M') → va_S A s.heap H locs → lv_has ls 9 (la_l i b ad am aL aD) → W p l e room_1 s m #[Value.ref b] below meth c H locs (cells + 3) (slots + 18) Q (F0 m 1581 ls [])) : W p l e room_1 s m #[Value.ref b] below meth c H locs cells slots Q (F0 m 1052 ls []) := by
  obtain ⟨⟨hx, hb, hml, hown⟩, hts, ⟨hX, hbl, hbA, hL⟩, ⟨hA, hK, hZ⟩, hst⟩ := G
  have hKm : va_K D vwCl (mm_T cI) s := hK.sub [0] rfl
  have hi1 : vp_in (nI (5 * i) + (1 : Int32)) L := la_ix 1 (by omega) hL
  have hi2 : vp_in (nI (5 * i) + (2 : Int32)) L := la_ix 2 (by omega) hL
  obtain ⟨z, v, M', k, o', hz, hy, hw1, hw2, hw3, hw4⟩ := la_of_q o hR (st_off hR (xs (nI (5 * i) + (1 : Int32)).toNatClampNeg) (xs (nI (5 * i) + (2 : Int32)).toNatClampNeg)) (by decide)
  refine lv_aload_n hx hb dL_law_1052 rfl (lv_at hl 4 rfl) ?_
  refine lv_aload_n hx hb dL_law_1053 rfl (lv_at hl 5 rfl) ?_
  refine lv_iload hx hb dL_law_1054 (lv_at hl 0 rfl) ?_
  refine lv_iconst (v := (1 : Int32)) hx hb dL_law_1056 (by decide) ?_
  refine lv_iadd hx hb dL_law_1057 ?_
  refine va_sld hx hb hX hbl hbA hS hi1 dL_law_1058 ?_
  refine lv_aload_n hx hb dL_law_1059 rfl (lv_at hl 5 rfl) ?_
  refine lv_iload hx hb dL_law_1060 (lv_at hl 0 rfl) ?_
  refine lv_iconst (v := (2 : Int32)) hx hb dL_law_1062 (by decide) ?_
  refine lv_iadd hx hb dL_law_1063 ?_
  refine va_sld hx hb hX hbl hbA hS hi2 dL_law_1064 ?_
  refine lv_aload_n hx hb dL_law_1065 rfl (lv_at hl 2 rfl) ?_
  refine vx_calli (vx_runSX (As := [.ref (ad 0), .int (xs (nI (5 * i) + (1 : Int32)).toNatClampNeg), .int (xs (nI (5 * i) + (2 : Int32)).toNatClampNeg), .ref aL]) (rest := []) ⟨hx, hb, hml, hown, hts⟩ (wL_off hst D A ad cI cQ cL cD aL aD (mm_w am cI M) S o d (xs (nI (5 * i) + (1 : Int32)).toNatClampNeg) (xs (nI (5 * i) + (2 : Int32)).toNatClampNeg) z hz k o' hw1) (vx_cwSW 4 hts gL_law_L_off rfl rfl rfl (by decide +kernel) ⟨Nat.le_of_ble_eq_true rfl, Nat.le_of_ble_eq_true rfl⟩) ⟨qm_blindZ, fun U hU hW => ⟨rfl, qm_go hA hS hP hK hD hU hW, qm_Zgo hZ hS hU hW⟩⟩ rfl rfl hl.1 rfl (lv_room (Nat.le_of_ble_eq_true rfl)) dL_law_1066 ⟨by show cells + 3 ≤ 601024; omega, by show slots + 18 ≤ 7293034; omega⟩) hS (fun _ _ h9 => h9) (fun _ h9 => h9) (fun _ _ h9 => h9) (fun E ce q9 u9 t H1 locs1 ht hvm hw hB hz1 hk1 hS hce hcv hcl => hw.elim) (fun r w9 t H locs ht hvm hw hB hz1 hk1 hS => ?_)
  obtain ⟨hr1, hr2⟩ := hw
  have hr1 : r = k := hr1
  have hr2 : w9 = o' := hr2
  subst hr1
  subst hr2
  obtain ⟨hP, hD⟩ := qm_bk ht hB
  clear hB
  have hP : va_P D vwCl (la_v ad am cI cQ cL cD aL aD S w9 d M) H := hP
  have hD : va_D A (la_v ad am cI cQ cL cD aL aD S w9 d M) := hD
  rw [la_W] at hP hD
  refine lv_istore (lv' := [(6, .int r), (5, .int (nI (5 * i))), (4, .ref aD), (3, .ref aL), (2, .ref (am 0)), (1, .ref (ad 0)), (0, .ref b)]) hx hb dL_law_1069 hl (by decide) rfl (fun ls hl => ?_)
  refine lv_aload_n hx hb dL_law_1071 rfl (lv_at hl 4 rfl) ?_
  refine lv_aload_n hx hb dL_law_1072 rfl (lv_at hl 6 rfl) ?_
  refine lv_iload hx hb dL_law_1073 (lv_at hl 1 rfl) ?_
  refine lv_iconst (v := (1 : Int32)) hx hb dL_law_1075 (by decide) ?_
  refine lv_iadd hx hb dL_law_1076 ?_
  refine va_sld hx hb hX hbl hbA hS hi1 dL_law_1077 ?_
  refine lv_aload_n hx hb dL_law_1078 rfl (lv_at hl 6 rfl) ?_
  refine lv_iload hx hb dL_law_1079 (lv_at hl 1 rfl) ?_
  refine lv_iconst (v := (2 : Int32)) hx hb dL_law_1081 (by decide) ?_
  refine lv_iadd hx hb dL_law_1082 ?_
  refine va_sld hx hb hX hbl hbA hS hi2 dL_law_1083 ?_
  refine va_calli (va_runV (As := [.int (xs (nI (5 * i) + (1 : Int32)).toNatClampNeg), .int (xs (nI (5 * i) + (2 : Int32)).toNatClampNeg)]) (rest := []) ⟨hx, hb, hml, hown, hts⟩ (kX7_off l D A (la_pre ad cI cQ cL cD aL aD S w9 d) am cI M (xs (nI (5 * i) + (1 : Int32)).toNatClampNeg) (xs (nI (5 * i) + (2 : Int32)).toNatClampNeg) _ hy) (cwV 2 hts gL_law_X7_off rfl rfl rfl (by decide +kernel) ⟨Nat.le_of_ble_eq_true rfl, Nat.le_of_ble_eq_true rfl⟩) ⟨qm_blind, va_recv hKm hP (ci := 7) (q0 := ((la_pre ad cI cQ cL cD aL aD S w9 d).length + 0)) rfl mg_0, fun U hU hW => ⟨rfl, qm_go hA hS hP hKm hD hU hW⟩⟩ rfl rfl hl.1 rfl (lv_room (Nat.le_of_ble_eq_true rfl)) dL_law_1084 ⟨by show cells + 3 + 0 ≤ 601024; omega, by show slots + 18 + 0 ≤ 7293034; omega⟩) hS (fun _ _ h9 => h9) (fun _ h9 => h9) (fun r2 u t H locs ht hvm hw hB hz1 hk1 hS => ?_)
  obtain ⟨hr1, hr2⟩ := hw
  have hr1 : r2 = v := hr1
  have hr2 : u = M' := hr2
  subst hr1
  subst hr2
  obtain ⟨hP, hD⟩ := qm_bk ht hB
  clear hB
  refine lv_istore (lv' := [(7, .int r2), (6, .int r), (5, .int (nI (5 * i))), (4, .ref aD), (3, .ref aL), (2, .ref (am 0)), (1, .ref (ad 0)), (0, .ref b)]) hx hb dL_law_1087 hl (by decide) rfl (fun ls hl => ?_)
  refine lv_aload_n hx hb dL_law_1089 rfl (lv_at hl 5 rfl) ?_
  refine va_calli (va_runV (As := []) (rest := []) ⟨hx, hb, hml, hown, hts⟩ (nX7_thrown l D A (la_pre ad cI cQ cL cD aL aD S w9 d) am cI u) (cwV 0 hts gL_law_X7_thrown rfl rfl rfl (by decide +kernel) ⟨Nat.le_of_ble_eq_true rfl, Nat.le_of_ble_eq_true rfl⟩) ⟨qm_blind, va_recv hKm hP (ci := 7) (q0 := ((la_pre ad cI cQ cL cD aL aD S w9 d).length + 0)) rfl mg_0, fun U hU hW => ⟨rfl, qm_go hA hS hP hKm hD hU hW⟩⟩ rfl rfl hl.1 rfl (lv_room (Nat.le_of_ble_eq_true rfl)) dL_law_1090 ⟨by show cells + 3 + 0 + 0 ≤ 601024; omega, by show slots + 18 + 0 + 0 ≤ 7293034; omega⟩) hS (fun _ _ h9 => h9) (fun _ h9 => h9) (fun r3 u2 t H locs ht hvm hw hB hz1 hk1 hS => ?_)
  obtain ⟨hr1, hr2⟩ := hw
  have hr1 : r3 = u.2 := hr1
  have hr2 : u2 = u := hr2
  subst hr1
  subst hr2
  obtain ⟨hP, hD⟩ := qm_bk ht hB
  clear hB
  have hP : va_P D vwCl (mm_W (la_pre ad cI cQ cL cD aL aD S w9 d) am cI u2) H := hP
  have hD : va_D A (mm_W (la_pre ad cI cQ cL cD aL aD S w9 d) am cI u2) := hD
  rw [← la_W] at hP hD
  refine lv_iload hx hb dL_law_1093 (lv_at hl 1 rfl) ?_
  refine lv_icmp_eq (tgt := 1100) hx hb dL_law_1095 (by decide) (fun _ => ?_) (fun q9 => absurd hw2 q9)
  have fin : W p l e room_1 s m #[Value.ref b] below meth c H locs (cells + 3) (slots + 18) Q (F0 m 1117 ls []) := by
    refine lv_goto (tgt := 1581) hx hb dL_law_1117 (by decide) ?_
    exact kk _ _ _ _ H locs ls hw3 hP hD hS (lv_sub hl [2, 3, 4, 5, 6, 7] rfl)
  refine lv_iload hx hb dL_law_1100 (lv_at hl 1 rfl) ?_
  refine lv_if_ne (tgt := 1117) hx hb dL_law_1102 (by decide) (fun _ => fin) (fun hk0 => ?_)
  refine lv_aload_n hx hb dL_law_1105 rfl (lv_at hl 4 rfl) ?_
  refine lv_iconst (v := (0 : Int32)) hx hb dL_law_1106 (by decide) ?_
  refine va_lald hx hb hK hP 82 2 lg_L rfl (i := (0 : Int32)) la_in0 dL_law_1107 ?_
  refine lv_iload hx hb dL_law_1108 (lv_at hl 0 rfl) ?_
  refine lv_i2l (v := r2.toInt64) hx hb dL_law_1110 rfl ?_
  refine W.lcmp hx hb dL_law_1111 ?_
  exact lv_if_eq (tgt := 1117) hx hb dL_law_1112 (by decide) (fun _ => fin) (fun q9 => absurd (la_cmp (hw4 hk0)) q9)
set_option maxHeartbeats 4000000 in
set_option maxRecDepth 100000 in
theorem lc_reallyOff {p : Program} {l : Launch} {e : Env} {s : State} {m : MethodId} {below : List Frame} {meth : Method} {c : Code} {b L : Nat} {xs : Nat → Int32} {Q : State → Prop} {D : va_G} {A : Nat → Prop} {cI cQ cL cD : ClassId} {aL aD : Nat} {ad am : Nat → Nat} (G : la_H l p s m c b L xs D A cI cQ cL cD) {i : Nat} (hi : 5 * i + 5 ≤ L) {S : qm_S} {M : mm_M} (hR : st_R S M) {o : Nat → Int64} {d : Nat → UInt64} {H : Heap} {locs : List Loc} {ls : Array Slot} {cells slots : Nat} (hP : va_P D vwCl (la_v ad am cI cQ cL cD aL aD S o d M) H) (hD : va_D A (la_v ad am cI cQ cL cD aL aD S o d M)) (hS : va_S A s.heap H locs) (hl : lv_has ls 9 (la_l i b ad am aL aD)) (hc : cells + 5 ≤ 601024) (hsl : slots + 30 ≤ 7293034)
    (kk : ∀ (S' : qm_S) (M' : mm_M) (o' : Nat → Int64) (d' : Nat → UInt64) (H : Heap) (locs : List Loc) (ls : Array Slot), st_R S' M' → va_P D vwCl (la_v ad am cI cQ cL cD aL aD S' o' d' M') H → va_D A (la_v ad am cI cQ cL cD aL aD S' o' d' M') → va_S A s.heap H locs → lv_has ls 9 (la_l i b ad am aL aD) → W p l e room_1 s m #[Value.ref b] below meth c H locs (cells + 3) (slots + 18) Q (F0 m 1581 ls [])) : W p l e room_1 s m #[Value.ref b] below meth c H locs cells slots Q (F0 m 1120 ls []) := by
  obtain ⟨⟨hx, hb, hml, hown⟩, hts, ⟨hX, hbl, hbA, hL⟩, ⟨hA, hK, hZ⟩, hst⟩ := G
  have hKm : va_K D vwCl (mm_T cI) s := hK.sub [0] rfl
  have hi1 : vp_in (nI (5 * i) + (1 : Int32)) L := la_ix 1 (by omega) hL
  have hi2 : vp_in (nI (5 * i) + (2 : Int32)) L := la_ix 2 (by omega) hL
  obtain ⟨z, v, M', k, o', hz, hy, hw1, hw2, hw3, hw4⟩ := la_of_q o hR (st_reallyOff hR (xs (nI (5 * i) + (1 : Int32)).toNatClampNeg) (xs (nI (5 * i) + (2 : Int32)).toNatClampNeg)) (by decide)
  refine lv_aload_n hx hb dL_law_1120 rfl (lv_at hl 4 rfl) ?_
  refine lv_aload_n hx hb dL_law_1121 rfl (lv_at hl 5 rfl) ?_
  refine lv_iload hx hb dL_law_1122 (lv_at hl 0 rfl) ?_
  refine lv_iconst (v := (1 : Int32)) hx hb dL_law_1124 (by decide) ?_
  refine lv_iadd hx hb dL_law_1125 ?_
  refine va_sld hx hb hX hbl hbA hS hi1 dL_law_1126 ?_
  refine lv_aload_n hx hb dL_law_1127 rfl (lv_at hl 5 rfl) ?_
  refine lv_iload hx hb dL_law_1128 (lv_at hl 0 rfl) ?_
  refine lv_iconst (v := (2 : Int32)) hx hb dL_law_1130 (by decide) ?_
  refine lv_iadd hx hb dL_law_1131 ?_
  refine va_sld hx hb hX hbl hbA hS hi2 dL_law_1132 ?_
  refine lv_aload_n hx hb dL_law_1133 rfl (lv_at hl 2 rfl) ?_
  refine vx_calli (vx_runSX (As := [.ref (ad 0), .int (xs (nI (5 * i) + (1 : Int32)).toNatClampNeg), .int (xs (nI (5 * i) + (2 : Int32)).toNatClampNeg), .ref aL]) (rest := []) ⟨hx, hb, hml, hown, hts⟩ (wL_reallyOff hst D A ad cI cQ cL cD aL aD (mm_w am cI M) S o d (xs (nI (5 * i) + (1 : Int32)).toNatClampNeg) (xs (nI (5 * i) + (2 : Int32)).toNatClampNeg) z hz k o' hw1) (vx_cwSW 4 hts gL_law_L_reallyOff rfl rfl rfl (by decide +kernel) ⟨Nat.le_of_ble_eq_true rfl, Nat.le_of_ble_eq_true rfl⟩) ⟨qm_blindZ, fun U hU hW => ⟨rfl, qm_go hA hS hP hK hD hU hW, qm_Zgo hZ hS hU hW⟩⟩ rfl rfl hl.1 rfl (lv_room (Nat.le_of_ble_eq_true rfl)) dL_law_1134 ⟨by show cells + 3 ≤ 601024; omega, by show slots + 18 ≤ 7293034; omega⟩) hS (fun _ _ h9 => h9) (fun _ h9 => h9) (fun _ _ h9 => h9) (fun E ce q9 u9 t H1 locs1 ht hvm hw hB hz1 hk1 hS hce hcv hcl => hw.elim) (fun r w9 t H locs ht hvm hw hB hz1 hk1 hS => ?_)
  obtain ⟨hr1, hr2⟩ := hw
  have hr1 : r = k := hr1
  have hr2 : w9 = o' := hr2
  subst hr1
  subst hr2
  obtain ⟨hP, hD⟩ := qm_bk ht hB
  clear hB
  have hP : va_P D vwCl (la_v ad am cI cQ cL cD aL aD S w9 d M) H := hP
  have hD : va_D A (la_v ad am cI cQ cL cD aL aD S w9 d M) := hD
  rw [la_W] at hP hD
  refine lv_istore (lv' := [(6, .int r), (5, .int (nI (5 * i))), (4, .ref aD), (3, .ref aL), (2, .ref (am 0)), (1, .ref (ad 0)), (0, .ref b)]) hx hb dL_law_1137 hl (by decide) rfl (fun ls hl => ?_)
  refine lv_aload_n hx hb dL_law_1139 rfl (lv_at hl 4 rfl) ?_
  refine lv_aload_n hx hb dL_law_1140 rfl (lv_at hl 6 rfl) ?_
  refine lv_iload hx hb dL_law_1141 (lv_at hl 1 rfl) ?_
  refine lv_iconst (v := (1 : Int32)) hx hb dL_law_1143 (by decide) ?_
  refine lv_iadd hx hb dL_law_1144 ?_
  refine va_sld hx hb hX hbl hbA hS hi1 dL_law_1145 ?_
  refine lv_aload_n hx hb dL_law_1146 rfl (lv_at hl 6 rfl) ?_
  refine lv_iload hx hb dL_law_1147 (lv_at hl 1 rfl) ?_
  refine lv_iconst (v := (2 : Int32)) hx hb dL_law_1149 (by decide) ?_
  refine lv_iadd hx hb dL_law_1150 ?_
  refine va_sld hx hb hX hbl hbA hS hi2 dL_law_1151 ?_
  refine va_calli (va_runV (As := [.int (xs (nI (5 * i) + (1 : Int32)).toNatClampNeg), .int (xs (nI (5 * i) + (2 : Int32)).toNatClampNeg)]) (rest := []) ⟨hx, hb, hml, hown, hts⟩ (kX7_reallyOff l D A (la_pre ad cI cQ cL cD aL aD S w9 d) am cI M (xs (nI (5 * i) + (1 : Int32)).toNatClampNeg) (xs (nI (5 * i) + (2 : Int32)).toNatClampNeg) _ hy) (cwV 2 hts gL_law_X7_reallyOff rfl rfl rfl (by decide +kernel) ⟨Nat.le_of_ble_eq_true rfl, Nat.le_of_ble_eq_true rfl⟩) ⟨qm_blind, va_recv hKm hP (ci := 7) (q0 := ((la_pre ad cI cQ cL cD aL aD S w9 d).length + 0)) rfl mg_0, fun U hU hW => ⟨rfl, qm_go hA hS hP hKm hD hU hW⟩⟩ rfl rfl hl.1 rfl (lv_room (Nat.le_of_ble_eq_true rfl)) dL_law_1152 ⟨by show cells + 3 + 0 ≤ 601024; omega, by show slots + 18 + 0 ≤ 7293034; omega⟩) hS (fun _ _ h9 => h9) (fun _ h9 => h9) (fun r2 u t H locs ht hvm hw hB hz1 hk1 hS => ?_)
  obtain ⟨hr1, hr2⟩ := hw
  have hr1 : r2 = v := hr1
  have hr2 : u = M' := hr2
  subst hr1
  subst hr2
  obtain ⟨hP, hD⟩ := qm_bk ht hB
  clear hB
  refine lv_istore (lv' := [(7, .int r2), (6, .int r), (5, .int (nI (5 * i))), (4, .ref aD), (3, .ref aL), (2, .ref (am 0)), (1, .ref (ad 0)), (0, .ref b)]) hx hb dL_law_1155 hl (by decide) rfl (fun ls hl => ?_)
  refine lv_aload_n hx hb dL_law_1157 rfl (lv_at hl 5 rfl) ?_
  refine va_calli (va_runV (As := []) (rest := []) ⟨hx, hb, hml, hown, hts⟩ (nX7_thrown l D A (la_pre ad cI cQ cL cD aL aD S w9 d) am cI u) (cwV 0 hts gL_law_X7_thrown rfl rfl rfl (by decide +kernel) ⟨Nat.le_of_ble_eq_true rfl, Nat.le_of_ble_eq_true rfl⟩) ⟨qm_blind, va_recv hKm hP (ci := 7) (q0 := ((la_pre ad cI cQ cL cD aL aD S w9 d).length + 0)) rfl mg_0, fun U hU hW => ⟨rfl, qm_go hA hS hP hKm hD hU hW⟩⟩ rfl rfl hl.1 rfl (lv_room (Nat.le_of_ble_eq_true rfl)) dL_law_1158 ⟨by show cells + 3 + 0 + 0 ≤ 601024; omega, by show slots + 18 + 0 + 0 ≤ 7293034; omega⟩) hS (fun _ _ h9 => h9) (fun _ h9 => h9) (fun r3 u2 t H locs ht hvm hw hB hz1 hk1 hS => ?_)
  obtain ⟨hr1, hr2⟩ := hw
  have hr1 : r3 = u.2 := hr1
  have hr2 : u2 = u := hr2
  subst hr1
  subst hr2
  obtain ⟨hP, hD⟩ := qm_bk ht hB
  clear hB
  have hP : va_P D vwCl (mm_W (la_pre ad cI cQ cL cD aL aD S w9 d) am cI u2) H := hP
  have hD : va_D A (mm_W (la_pre ad cI cQ cL cD aL aD S w9 d) am cI u2) := hD
  rw [← la_W] at hP hD
  refine lv_iload hx hb dL_law_1161 (lv_at hl 1 rfl) ?_
  refine lv_icmp_eq (tgt := 1168) hx hb dL_law_1163 (by decide) (fun _ => ?_) (fun q9 => absurd hw2 q9)
  have fin : W p l e room_1 s m #[Value.ref b] below meth c H locs (cells + 3) (slots + 18) Q (F0 m 1185 ls []) := by
    refine lv_goto (tgt := 1581) hx hb dL_law_1185 (by decide) ?_
    exact kk _ _ _ _ H locs ls hw3 hP hD hS (lv_sub hl [2, 3, 4, 5, 6, 7] rfl)
  refine lv_iload hx hb dL_law_1168 (lv_at hl 1 rfl) ?_
  refine lv_if_ne (tgt := 1185) hx hb dL_law_1170 (by decide) (fun _ => fin) (fun hk0 => ?_)
  refine lv_aload_n hx hb dL_law_1173 rfl (lv_at hl 4 rfl) ?_
  refine lv_iconst (v := (0 : Int32)) hx hb dL_law_1174 (by decide) ?_
  refine va_lald hx hb hK hP 82 2 lg_L rfl (i := (0 : Int32)) la_in0 dL_law_1175 ?_
  refine lv_iload hx hb dL_law_1176 (lv_at hl 0 rfl) ?_
  refine lv_i2l (v := r2.toInt64) hx hb dL_law_1178 rfl ?_
  refine W.lcmp hx hb dL_law_1179 ?_
  exact lv_if_eq (tgt := 1185) hx hb dL_law_1180 (by decide) (fun _ => fin) (fun q9 => absurd (la_cmp (hw4 hk0)) q9)
set_option maxHeartbeats 4000000 in
set_option maxRecDepth 100000 in
theorem lc_atLeastUpTo {p : Program} {l : Launch} {e : Env} {s : State} {m : MethodId} {below : List Frame} {meth : Method} {c : Code} {b L : Nat} {xs : Nat → Int32} {Q : State → Prop} {D : va_G} {A : Nat → Prop} {cI cQ cL cD : ClassId} {aL aD : Nat} {ad am : Nat → Nat} (G : la_H l p s m c b L xs D A cI cQ cL cD) {i : Nat} (hi : 5 * i + 5 ≤ L) {S : qm_S} {M : mm_M} (hR : st_R S M) {o : Nat → Int64} {d : Nat → UInt64} {H : Heap} {locs : List Loc} {ls : Array Slot} {cells slots : Nat} (hP : va_P D vwCl (la_v ad am cI cQ cL cD aL aD S o d M) H) (hD : va_D A (la_v ad am cI cQ cL cD aL aD S o d M)) (hS : va_S A s.heap H locs) (hl : lv_has ls 9 (la_l i b ad am aL aD)) (hc : cells + 5 ≤ 601024) (hsl : slots + 30 ≤ 7293034)
    (kk : ∀ (S' : qm_S) (M' : mm_M) (o' : Nat → Int64) (d' : Nat → UInt64) (H : Heap) (locs : List Loc) (ls : Array Slot), st_R S' M' → va_P D vwCl (la_v ad am cI cQ cL cD aL aD S' o' d' M') H → va_D A (la_v ad am cI cQ cL cD aL aD S' o' d' M') → va_S A s.heap H locs → lv_has ls 9 (la_l i b ad am aL aD) → W p l e room_1 s m #[Value.ref b] below meth c H locs (cells + 1) (slots + 6) Q (F0 m 1581 ls [])) : W p l e room_1 s m #[Value.ref b] below meth c H locs cells slots Q (F0 m 1188 ls []) := by
  obtain ⟨⟨hx, hb, hml, hown⟩, hts, ⟨hX, hbl, hbA, hL⟩, ⟨hA, hK, hZ⟩, hst⟩ := G
  have hKm : va_K D vwCl (mm_T cI) s := hK.sub [0] rfl
  have hi1 : vp_in (nI (5 * i) + (1 : Int32)) L := la_ix 1 (by omega) hL
  have hi2 : vp_in (nI (5 * i) + (2 : Int32)) L := la_ix 2 (by omega) hL
  obtain ⟨z, v, M', k, o', hz, hy, hw1, hw2, hw3, hw4⟩ := la_of_q o hR (st_atLeastUpTo hR (xs (nI (5 * i) + (1 : Int32)).toNatClampNeg) (xs (nI (5 * i) + (2 : Int32)).toNatClampNeg)) (by decide)
  refine lv_aload_n hx hb dL_law_1188 rfl (lv_at hl 4 rfl) ?_
  refine lv_aload_n hx hb dL_law_1189 rfl (lv_at hl 5 rfl) ?_
  refine lv_iload hx hb dL_law_1190 (lv_at hl 0 rfl) ?_
  refine lv_iconst (v := (1 : Int32)) hx hb dL_law_1192 (by decide) ?_
  refine lv_iadd hx hb dL_law_1193 ?_
  refine va_sld hx hb hX hbl hbA hS hi1 dL_law_1194 ?_
  refine lv_aload_n hx hb dL_law_1195 rfl (lv_at hl 5 rfl) ?_
  refine lv_iload hx hb dL_law_1196 (lv_at hl 0 rfl) ?_
  refine lv_iconst (v := (2 : Int32)) hx hb dL_law_1198 (by decide) ?_
  refine lv_iadd hx hb dL_law_1199 ?_
  refine va_sld hx hb hX hbl hbA hS hi2 dL_law_1200 ?_
  refine lv_aload_n hx hb dL_law_1201 rfl (lv_at hl 2 rfl) ?_
  refine vx_calli (vx_runSX (As := [.ref (ad 0), .int (xs (nI (5 * i) + (1 : Int32)).toNatClampNeg), .int (xs (nI (5 * i) + (2 : Int32)).toNatClampNeg), .ref aL]) (rest := []) ⟨hx, hb, hml, hown, hts⟩ (wL_atLeastUpTo hst D A ad cI cQ cL cD aL aD (mm_w am cI M) S o d (xs (nI (5 * i) + (1 : Int32)).toNatClampNeg) (xs (nI (5 * i) + (2 : Int32)).toNatClampNeg) z hz k o' hw1) (vx_cwSW 4 hts gL_law_L_atLeastUpTo rfl rfl rfl (by decide +kernel) ⟨Nat.le_of_ble_eq_true rfl, Nat.le_of_ble_eq_true rfl⟩) ⟨qm_blindZ, fun U hU hW => ⟨rfl, qm_go hA hS hP hK hD hU hW, qm_Zgo hZ hS hU hW⟩⟩ rfl rfl hl.1 rfl (lv_room (Nat.le_of_ble_eq_true rfl)) dL_law_1202 ⟨by show cells + 1 ≤ 601024; omega, by show slots + 6 ≤ 7293034; omega⟩) hS (fun _ _ h9 => h9) (fun _ h9 => h9) (fun _ _ h9 => h9) (fun E ce q9 u9 t H1 locs1 ht hvm hw hB hz1 hk1 hS hce hcv hcl => hw.elim) (fun r w9 t H locs ht hvm hw hB hz1 hk1 hS => ?_)
  obtain ⟨hr1, hr2⟩ := hw
  have hr1 : r = k := hr1
  have hr2 : w9 = o' := hr2
  subst hr1
  subst hr2
  obtain ⟨hP, hD⟩ := qm_bk ht hB
  clear hB
  have hP : va_P D vwCl (la_v ad am cI cQ cL cD aL aD S w9 d M) H := hP
  have hD : va_D A (la_v ad am cI cQ cL cD aL aD S w9 d M) := hD
  rw [la_W] at hP hD
  refine lv_istore (lv' := [(6, .int r), (5, .int (nI (5 * i))), (4, .ref aD), (3, .ref aL), (2, .ref (am 0)), (1, .ref (ad 0)), (0, .ref b)]) hx hb dL_law_1205 hl (by decide) rfl (fun ls hl => ?_)
  refine lv_aload_n hx hb dL_law_1207 rfl (lv_at hl 4 rfl) ?_
  refine lv_aload_n hx hb dL_law_1208 rfl (lv_at hl 6 rfl) ?_
  refine lv_iload hx hb dL_law_1209 (lv_at hl 1 rfl) ?_
  refine lv_iconst (v := (1 : Int32)) hx hb dL_law_1211 (by decide) ?_
  refine lv_iadd hx hb dL_law_1212 ?_
  refine va_sld hx hb hX hbl hbA hS hi1 dL_law_1213 ?_
  refine lv_aload_n hx hb dL_law_1214 rfl (lv_at hl 6 rfl) ?_
  refine lv_iload hx hb dL_law_1215 (lv_at hl 1 rfl) ?_
  refine lv_iconst (v := (2 : Int32)) hx hb dL_law_1217 (by decide) ?_
  refine lv_iadd hx hb dL_law_1218 ?_
  refine va_sld hx hb hX hbl hbA hS hi2 dL_law_1219 ?_
  refine va_calli (va_runV (As := [.int (xs (nI (5 * i) + (1 : Int32)).toNatClampNeg), .int (xs (nI (5 * i) + (2 : Int32)).toNatClampNeg)]) (rest := []) ⟨hx, hb, hml, hown, hts⟩ (kX7_atLeastUpTo l D A (la_pre ad cI cQ cL cD aL aD S w9 d) am cI M (xs (nI (5 * i) + (1 : Int32)).toNatClampNeg) (xs (nI (5 * i) + (2 : Int32)).toNatClampNeg) _ hy) (cwV 2 hts gL_law_X7_atLeastUpTo rfl rfl rfl (by decide +kernel) ⟨Nat.le_of_ble_eq_true rfl, Nat.le_of_ble_eq_true rfl⟩) ⟨qm_blind, va_recv hKm hP (ci := 7) (q0 := ((la_pre ad cI cQ cL cD aL aD S w9 d).length + 0)) rfl mg_0, fun U hU hW => ⟨rfl, qm_go hA hS hP hKm hD hU hW⟩⟩ rfl rfl hl.1 rfl (lv_room (Nat.le_of_ble_eq_true rfl)) dL_law_1220 ⟨by show cells + 1 + 0 ≤ 601024; omega, by show slots + 6 + 0 ≤ 7293034; omega⟩) hS (fun _ _ h9 => h9) (fun _ h9 => h9) (fun r2 u t H locs ht hvm hw hB hz1 hk1 hS => ?_)
  obtain ⟨hr1, hr2⟩ := hw
  have hr1 : r2 = v := hr1
  have hr2 : u = M' := hr2
  subst hr1
  subst hr2
  obtain ⟨hP, hD⟩ := qm_bk ht hB
  clear hB
  refine lv_istore (lv' := [(7, .int r2), (6, .int r), (5, .int (nI (5 * i))), (4, .ref aD), (3, .ref aL), (2, .ref (am 0)), (1, .ref (ad 0)), (0, .ref b)]) hx hb dL_law_1223 hl (by decide) rfl (fun ls hl => ?_)
  refine lv_aload_n hx hb dL_law_1225 rfl (lv_at hl 5 rfl) ?_
  refine va_calli (va_runV (As := []) (rest := []) ⟨hx, hb, hml, hown, hts⟩ (nX7_thrown l D A (la_pre ad cI cQ cL cD aL aD S w9 d) am cI u) (cwV 0 hts gL_law_X7_thrown rfl rfl rfl (by decide +kernel) ⟨Nat.le_of_ble_eq_true rfl, Nat.le_of_ble_eq_true rfl⟩) ⟨qm_blind, va_recv hKm hP (ci := 7) (q0 := ((la_pre ad cI cQ cL cD aL aD S w9 d).length + 0)) rfl mg_0, fun U hU hW => ⟨rfl, qm_go hA hS hP hKm hD hU hW⟩⟩ rfl rfl hl.1 rfl (lv_room (Nat.le_of_ble_eq_true rfl)) dL_law_1226 ⟨by show cells + 1 + 0 + 0 ≤ 601024; omega, by show slots + 6 + 0 + 0 ≤ 7293034; omega⟩) hS (fun _ _ h9 => h9) (fun _ h9 => h9) (fun r3 u2 t H locs ht hvm hw hB hz1 hk1 hS => ?_)
  obtain ⟨hr1, hr2⟩ := hw
  have hr1 : r3 = u.2 := hr1
  have hr2 : u2 = u := hr2
  subst hr1
  subst hr2
  obtain ⟨hP, hD⟩ := qm_bk ht hB
  clear hB
  have hP : va_P D vwCl (mm_W (la_pre ad cI cQ cL cD aL aD S w9 d) am cI u2) H := hP
  have hD : va_D A (mm_W (la_pre ad cI cQ cL cD aL aD S w9 d) am cI u2) := hD
  rw [← la_W] at hP hD
  refine lv_iload hx hb dL_law_1229 (lv_at hl 1 rfl) ?_
  refine lv_icmp_eq (tgt := 1236) hx hb dL_law_1231 (by decide) (fun _ => ?_) (fun q9 => absurd hw2 q9)
  have fin : W p l e room_1 s m #[Value.ref b] below meth c H locs (cells + 1) (slots + 6) Q (F0 m 1253 ls []) := by
    refine lv_goto (tgt := 1581) hx hb dL_law_1253 (by decide) ?_
    exact kk _ _ _ _ H locs ls hw3 hP hD hS (lv_sub hl [2, 3, 4, 5, 6, 7] rfl)
  refine lv_iload hx hb dL_law_1236 (lv_at hl 1 rfl) ?_
  refine lv_if_ne (tgt := 1253) hx hb dL_law_1238 (by decide) (fun _ => fin) (fun hk0 => ?_)
  refine lv_aload_n hx hb dL_law_1241 rfl (lv_at hl 4 rfl) ?_
  refine lv_iconst (v := (0 : Int32)) hx hb dL_law_1242 (by decide) ?_
  refine va_lald hx hb hK hP 82 2 lg_L rfl (i := (0 : Int32)) la_in0 dL_law_1243 ?_
  refine lv_iload hx hb dL_law_1244 (lv_at hl 0 rfl) ?_
  refine lv_i2l (v := r2.toInt64) hx hb dL_law_1246 rfl ?_
  refine W.lcmp hx hb dL_law_1247 ?_
  exact lv_if_eq (tgt := 1253) hx hb dL_law_1248 (by decide) (fun _ => fin) (fun q9 => absurd (la_cmp (hw4 hk0)) q9)
set_option maxHeartbeats 4000000 in
set_option maxRecDepth 100000 in
theorem lc_atMostUpTo {p : Program} {l : Launch} {e : Env} {s : State} {m : MethodId} {below : List Frame} {meth : Method} {c : Code} {b L : Nat} {xs : Nat → Int32} {Q : State → Prop} {D : va_G} {A : Nat → Prop} {cI cQ cL cD : ClassId} {aL aD : Nat} {ad am : Nat → Nat} (G : la_H l p s m c b L xs D A cI cQ cL cD) {i : Nat} (hi : 5 * i + 5 ≤ L) {S : qm_S} {M : mm_M} (hR : st_R S M) {o : Nat → Int64} {d : Nat → UInt64} {H : Heap} {locs : List Loc} {ls : Array Slot} {cells slots : Nat} (hP : va_P D vwCl (la_v ad am cI cQ cL cD aL aD S o d M) H) (hD : va_D A (la_v ad am cI cQ cL cD aL aD S o d M)) (hS : va_S A s.heap H locs) (hl : lv_has ls 9 (la_l i b ad am aL aD)) (hc : cells + 5 ≤ 601024) (hsl : slots + 30 ≤ 7293034)
    (kk : ∀ (S' : qm_S) (M' : mm_M) (o' : Nat → Int64) (d' : Nat → UInt64) (H : Heap) (locs : List Loc) (ls : Array Slot), st_R S' M' → va_P D vwCl (la_v ad am cI cQ cL cD aL aD S' o' d' M') H → va_D A (la_v ad am cI cQ cL cD aL aD S' o' d' M') → va_S A s.heap H locs → lv_has ls 9 (la_l i b ad am aL aD) → W p l e room_1 s m #[Value.ref b] below meth c H locs (cells + 1) (slots + 6) Q (F0 m 1581 ls [])) : W p l e room_1 s m #[Value.ref b] below meth c H locs cells slots Q (F0 m 1256 ls []) := by
  obtain ⟨⟨hx, hb, hml, hown⟩, hts, ⟨hX, hbl, hbA, hL⟩, ⟨hA, hK, hZ⟩, hst⟩ := G
  have hKm : va_K D vwCl (mm_T cI) s := hK.sub [0] rfl
  have hi1 : vp_in (nI (5 * i) + (1 : Int32)) L := la_ix 1 (by omega) hL
  have hi2 : vp_in (nI (5 * i) + (2 : Int32)) L := la_ix 2 (by omega) hL
  obtain ⟨z, v, M', k, o', hz, hy, hw1, hw2, hw3, hw4⟩ := la_of_q o hR (st_atMostUpTo hR (xs (nI (5 * i) + (1 : Int32)).toNatClampNeg) (xs (nI (5 * i) + (2 : Int32)).toNatClampNeg)) (by decide)
  refine lv_aload_n hx hb dL_law_1256 rfl (lv_at hl 4 rfl) ?_
  refine lv_aload_n hx hb dL_law_1257 rfl (lv_at hl 5 rfl) ?_
  refine lv_iload hx hb dL_law_1258 (lv_at hl 0 rfl) ?_
  refine lv_iconst (v := (1 : Int32)) hx hb dL_law_1260 (by decide) ?_
  refine lv_iadd hx hb dL_law_1261 ?_
  refine va_sld hx hb hX hbl hbA hS hi1 dL_law_1262 ?_
  refine lv_aload_n hx hb dL_law_1263 rfl (lv_at hl 5 rfl) ?_
  refine lv_iload hx hb dL_law_1264 (lv_at hl 0 rfl) ?_
  refine lv_iconst (v := (2 : Int32)) hx hb dL_law_1266 (by decide) ?_
  refine lv_iadd hx hb dL_law_1267 ?_
  refine va_sld hx hb hX hbl hbA hS hi2 dL_law_1268 ?_
  refine lv_aload_n hx hb dL_law_1269 rfl (lv_at hl 2 rfl) ?_
  refine vx_calli (vx_runSX (As := [.ref (ad 0), .int (xs (nI (5 * i) + (1 : Int32)).toNatClampNeg), .int (xs (nI (5 * i) + (2 : Int32)).toNatClampNeg), .ref aL]) (rest := []) ⟨hx, hb, hml, hown, hts⟩ (wL_atMostUpTo hst D A ad cI cQ cL cD aL aD (mm_w am cI M) S o d (xs (nI (5 * i) + (1 : Int32)).toNatClampNeg) (xs (nI (5 * i) + (2 : Int32)).toNatClampNeg) z hz k o' hw1) (vx_cwSW 4 hts gL_law_L_atMostUpTo rfl rfl rfl (by decide +kernel) ⟨Nat.le_of_ble_eq_true rfl, Nat.le_of_ble_eq_true rfl⟩) ⟨qm_blindZ, fun U hU hW => ⟨rfl, qm_go hA hS hP hK hD hU hW, qm_Zgo hZ hS hU hW⟩⟩ rfl rfl hl.1 rfl (lv_room (Nat.le_of_ble_eq_true rfl)) dL_law_1270 ⟨by show cells + 1 ≤ 601024; omega, by show slots + 6 ≤ 7293034; omega⟩) hS (fun _ _ h9 => h9) (fun _ h9 => h9) (fun _ _ h9 => h9) (fun E ce q9 u9 t H1 locs1 ht hvm hw hB hz1 hk1 hS hce hcv hcl => hw.elim) (fun r w9 t H locs ht hvm hw hB hz1 hk1 hS => ?_)
  obtain ⟨hr1, hr2⟩ := hw
  have hr1 : r = k := hr1
  have hr2 : w9 = o' := hr2
  subst hr1
  subst hr2
  obtain ⟨hP, hD⟩ := qm_bk ht hB
  clear hB
  have hP : va_P D vwCl (la_v ad am cI cQ cL cD aL aD S w9 d M) H := hP
  have hD : va_D A (la_v ad am cI cQ cL cD aL aD S w9 d M) := hD
  rw [la_W] at hP hD
  refine lv_istore (lv' := [(6, .int r), (5, .int (nI (5 * i))), (4, .ref aD), (3, .ref aL), (2, .ref (am 0)), (1, .ref (ad 0)), (0, .ref b)]) hx hb dL_law_1273 hl (by decide) rfl (fun ls hl => ?_)
  refine lv_aload_n hx hb dL_law_1275 rfl (lv_at hl 4 rfl) ?_
  refine lv_aload_n hx hb dL_law_1276 rfl (lv_at hl 6 rfl) ?_
  refine lv_iload hx hb dL_law_1277 (lv_at hl 1 rfl) ?_
  refine lv_iconst (v := (1 : Int32)) hx hb dL_law_1279 (by decide) ?_
  refine lv_iadd hx hb dL_law_1280 ?_
  refine va_sld hx hb hX hbl hbA hS hi1 dL_law_1281 ?_
  refine lv_aload_n hx hb dL_law_1282 rfl (lv_at hl 6 rfl) ?_
  refine lv_iload hx hb dL_law_1283 (lv_at hl 1 rfl) ?_
  refine lv_iconst (v := (2 : Int32)) hx hb dL_law_1285 (by decide) ?_
  refine lv_iadd hx hb dL_law_1286 ?_
  refine va_sld hx hb hX hbl hbA hS hi2 dL_law_1287 ?_
  refine va_calli (va_runV (As := [.int (xs (nI (5 * i) + (1 : Int32)).toNatClampNeg), .int (xs (nI (5 * i) + (2 : Int32)).toNatClampNeg)]) (rest := []) ⟨hx, hb, hml, hown, hts⟩ (kX7_atMostUpTo l D A (la_pre ad cI cQ cL cD aL aD S w9 d) am cI M (xs (nI (5 * i) + (1 : Int32)).toNatClampNeg) (xs (nI (5 * i) + (2 : Int32)).toNatClampNeg) _ hy) (cwV 2 hts gL_law_X7_atMostUpTo rfl rfl rfl (by decide +kernel) ⟨Nat.le_of_ble_eq_true rfl, Nat.le_of_ble_eq_true rfl⟩) ⟨qm_blind, va_recv hKm hP (ci := 7) (q0 := ((la_pre ad cI cQ cL cD aL aD S w9 d).length + 0)) rfl mg_0, fun U hU hW => ⟨rfl, qm_go hA hS hP hKm hD hU hW⟩⟩ rfl rfl hl.1 rfl (lv_room (Nat.le_of_ble_eq_true rfl)) dL_law_1288 ⟨by show cells + 1 + 0 ≤ 601024; omega, by show slots + 6 + 0 ≤ 7293034; omega⟩) hS (fun _ _ h9 => h9) (fun _ h9 => h9) (fun r2 u t H locs ht hvm hw hB hz1 hk1 hS => ?_)
  obtain ⟨hr1, hr2⟩ := hw
  have hr1 : r2 = v := hr1
  have hr2 : u = M' := hr2
  subst hr1
  subst hr2
  obtain ⟨hP, hD⟩ := qm_bk ht hB
  clear hB
  refine lv_istore (lv' := [(7, .int r2), (6, .int r), (5, .int (nI (5 * i))), (4, .ref aD), (3, .ref aL), (2, .ref (am 0)), (1, .ref (ad 0)), (0, .ref b)]) hx hb dL_law_1291 hl (by decide) rfl (fun ls hl => ?_)
  refine lv_aload_n hx hb dL_law_1293 rfl (lv_at hl 5 rfl) ?_
  refine va_calli (va_runV (As := []) (rest := []) ⟨hx, hb, hml, hown, hts⟩ (nX7_thrown l D A (la_pre ad cI cQ cL cD aL aD S w9 d) am cI u) (cwV 0 hts gL_law_X7_thrown rfl rfl rfl (by decide +kernel) ⟨Nat.le_of_ble_eq_true rfl, Nat.le_of_ble_eq_true rfl⟩) ⟨qm_blind, va_recv hKm hP (ci := 7) (q0 := ((la_pre ad cI cQ cL cD aL aD S w9 d).length + 0)) rfl mg_0, fun U hU hW => ⟨rfl, qm_go hA hS hP hKm hD hU hW⟩⟩ rfl rfl hl.1 rfl (lv_room (Nat.le_of_ble_eq_true rfl)) dL_law_1294 ⟨by show cells + 1 + 0 + 0 ≤ 601024; omega, by show slots + 6 + 0 + 0 ≤ 7293034; omega⟩) hS (fun _ _ h9 => h9) (fun _ h9 => h9) (fun r3 u2 t H locs ht hvm hw hB hz1 hk1 hS => ?_)
  obtain ⟨hr1, hr2⟩ := hw
  have hr1 : r3 = u.2 := hr1
  have hr2 : u2 = u := hr2
  subst hr1
  subst hr2
  obtain ⟨hP, hD⟩ := qm_bk ht hB
  clear hB
  have hP : va_P D vwCl (mm_W (la_pre ad cI cQ cL cD aL aD S w9 d) am cI u2) H := hP
  have hD : va_D A (mm_W (la_pre ad cI cQ cL cD aL aD S w9 d) am cI u2) := hD
  rw [← la_W] at hP hD
  refine lv_iload hx hb dL_law_1297 (lv_at hl 1 rfl) ?_
  refine lv_icmp_eq (tgt := 1304) hx hb dL_law_1299 (by decide) (fun _ => ?_) (fun q9 => absurd hw2 q9)
  have fin : W p l e room_1 s m #[Value.ref b] below meth c H locs (cells + 1) (slots + 6) Q (F0 m 1321 ls []) := by
    refine lv_goto (tgt := 1581) hx hb dL_law_1321 (by decide) ?_
    exact kk _ _ _ _ H locs ls hw3 hP hD hS (lv_sub hl [2, 3, 4, 5, 6, 7] rfl)
  refine lv_iload hx hb dL_law_1304 (lv_at hl 1 rfl) ?_
  refine lv_if_ne (tgt := 1321) hx hb dL_law_1306 (by decide) (fun _ => fin) (fun hk0 => ?_)
  refine lv_aload_n hx hb dL_law_1309 rfl (lv_at hl 4 rfl) ?_
  refine lv_iconst (v := (0 : Int32)) hx hb dL_law_1310 (by decide) ?_
  refine va_lald hx hb hK hP 82 2 lg_L rfl (i := (0 : Int32)) la_in0 dL_law_1311 ?_
  refine lv_iload hx hb dL_law_1312 (lv_at hl 0 rfl) ?_
  refine lv_i2l (v := r2.toInt64) hx hb dL_law_1314 rfl ?_
  refine W.lcmp hx hb dL_law_1315 ?_
  exact lv_if_eq (tgt := 1321) hx hb dL_law_1316 (by decide) (fun _ => fin) (fun q9 => absurd (la_cmp (hw4 hk0)) q9)
set_option maxHeartbeats 4000000 in
set_option maxRecDepth 100000 in
theorem lc_reallyUpTo {p : Program} {l : Launch} {e : Env} {s : State} {m : MethodId} {below : List Frame} {meth : Method} {c : Code} {b L : Nat} {xs : Nat → Int32} {Q : State → Prop} {D : va_G} {A : Nat → Prop} {cI cQ cL cD : ClassId} {aL aD : Nat} {ad am : Nat → Nat} (G : la_H l p s m c b L xs D A cI cQ cL cD) {i : Nat} (hi : 5 * i + 5 ≤ L) {S : qm_S} {M : mm_M} (hR : st_R S M) {o : Nat → Int64} {d : Nat → UInt64} {H : Heap} {locs : List Loc} {ls : Array Slot} {cells slots : Nat} (hP : va_P D vwCl (la_v ad am cI cQ cL cD aL aD S o d M) H) (hD : va_D A (la_v ad am cI cQ cL cD aL aD S o d M)) (hS : va_S A s.heap H locs) (hl : lv_has ls 9 (la_l i b ad am aL aD)) (hc : cells + 5 ≤ 601024) (hsl : slots + 30 ≤ 7293034)
    (kk : ∀ (S' : qm_S) (M' : mm_M) (o' : Nat → Int64) (d' : Nat → UInt64) (H : Heap) (locs : List Loc) (ls : Array Slot), st_R S' M' → va_P D vwCl (la_v ad am cI cQ cL cD aL aD S' o' d' M') H → va_D A (la_v ad am cI cQ cL cD aL aD S' o' d' M') → va_S A s.heap H locs → lv_has ls 9 (la_l i b ad am aL aD) → W p l e room_1 s m #[Value.ref b] below meth c H locs (cells + 1) (slots + 6) Q (F0 m 1581 ls [])) : W p l e room_1 s m #[Value.ref b] below meth c H locs cells slots Q (F0 m 1324 ls []) := by
  obtain ⟨⟨hx, hb, hml, hown⟩, hts, ⟨hX, hbl, hbA, hL⟩, ⟨hA, hK, hZ⟩, hst⟩ := G
  have hKm : va_K D vwCl (mm_T cI) s := hK.sub [0] rfl
  have hi1 : vp_in (nI (5 * i) + (1 : Int32)) L := la_ix 1 (by omega) hL
  have hi2 : vp_in (nI (5 * i) + (2 : Int32)) L := la_ix 2 (by omega) hL
  obtain ⟨z, v, M', k, o', hz, hy, hw1, hw2, hw3, hw4⟩ := la_of_q o hR (st_reallyUpTo hR (xs (nI (5 * i) + (1 : Int32)).toNatClampNeg) (xs (nI (5 * i) + (2 : Int32)).toNatClampNeg)) (by decide)
  refine lv_aload_n hx hb dL_law_1324 rfl (lv_at hl 4 rfl) ?_
  refine lv_aload_n hx hb dL_law_1325 rfl (lv_at hl 5 rfl) ?_
  refine lv_iload hx hb dL_law_1326 (lv_at hl 0 rfl) ?_
  refine lv_iconst (v := (1 : Int32)) hx hb dL_law_1328 (by decide) ?_
  refine lv_iadd hx hb dL_law_1329 ?_
  refine va_sld hx hb hX hbl hbA hS hi1 dL_law_1330 ?_
  refine lv_aload_n hx hb dL_law_1331 rfl (lv_at hl 5 rfl) ?_
  refine lv_iload hx hb dL_law_1332 (lv_at hl 0 rfl) ?_
  refine lv_iconst (v := (2 : Int32)) hx hb dL_law_1334 (by decide) ?_
  refine lv_iadd hx hb dL_law_1335 ?_
  refine va_sld hx hb hX hbl hbA hS hi2 dL_law_1336 ?_
  refine lv_aload_n hx hb dL_law_1337 rfl (lv_at hl 2 rfl) ?_
  refine vx_calli (vx_runSX (As := [.ref (ad 0), .int (xs (nI (5 * i) + (1 : Int32)).toNatClampNeg), .int (xs (nI (5 * i) + (2 : Int32)).toNatClampNeg), .ref aL]) (rest := []) ⟨hx, hb, hml, hown, hts⟩ (wL_reallyUpTo hst D A ad cI cQ cL cD aL aD (mm_w am cI M) S o d (xs (nI (5 * i) + (1 : Int32)).toNatClampNeg) (xs (nI (5 * i) + (2 : Int32)).toNatClampNeg) z hz k o' hw1) (vx_cwSW 4 hts gL_law_L_reallyUpTo rfl rfl rfl (by decide +kernel) ⟨Nat.le_of_ble_eq_true rfl, Nat.le_of_ble_eq_true rfl⟩) ⟨qm_blindZ, fun U hU hW => ⟨rfl, qm_go hA hS hP hK hD hU hW, qm_Zgo hZ hS hU hW⟩⟩ rfl rfl hl.1 rfl (lv_room (Nat.le_of_ble_eq_true rfl)) dL_law_1338 ⟨by show cells + 1 ≤ 601024; omega, by show slots + 6 ≤ 7293034; omega⟩) hS (fun _ _ h9 => h9) (fun _ h9 => h9) (fun _ _ h9 => h9) (fun E ce q9 u9 t H1 locs1 ht hvm hw hB hz1 hk1 hS hce hcv hcl => hw.elim) (fun r w9 t H locs ht hvm hw hB hz1 hk1 hS => ?_)
  obtain ⟨hr1, hr2⟩ := hw
  have hr1 : r = k := hr1
  have hr2 : w9 = o' := hr2
  subst hr1
  subst hr2
  obtain ⟨hP, hD⟩ := qm_bk ht hB
  clear hB
  have hP : va_P D vwCl (la_v ad am cI cQ cL cD aL aD S w9 d M) H := hP
  have hD : va_D A (la_v ad am cI cQ cL cD aL aD S w9 d M) := hD
  rw [la_W] at hP hD
  refine lv_istore (lv' := [(6, .int r), (5, .int (nI (5 * i))), (4, .ref aD), (3, .ref aL), (2, .ref (am 0)), (1, .ref (ad 0)), (0, .ref b)]) hx hb dL_law_1341 hl (by decide) rfl (fun ls hl => ?_)
  refine lv_aload_n hx hb dL_law_1343 rfl (lv_at hl 4 rfl) ?_
  refine lv_aload_n hx hb dL_law_1344 rfl (lv_at hl 6 rfl) ?_
  refine lv_iload hx hb dL_law_1345 (lv_at hl 1 rfl) ?_
  refine lv_iconst (v := (1 : Int32)) hx hb dL_law_1347 (by decide) ?_
  refine lv_iadd hx hb dL_law_1348 ?_
  refine va_sld hx hb hX hbl hbA hS hi1 dL_law_1349 ?_
  refine lv_aload_n hx hb dL_law_1350 rfl (lv_at hl 6 rfl) ?_
  refine lv_iload hx hb dL_law_1351 (lv_at hl 1 rfl) ?_
  refine lv_iconst (v := (2 : Int32)) hx hb dL_law_1353 (by decide) ?_
  refine lv_iadd hx hb dL_law_1354 ?_
  refine va_sld hx hb hX hbl hbA hS hi2 dL_law_1355 ?_
  refine va_calli (va_runV (As := [.int (xs (nI (5 * i) + (1 : Int32)).toNatClampNeg), .int (xs (nI (5 * i) + (2 : Int32)).toNatClampNeg)]) (rest := []) ⟨hx, hb, hml, hown, hts⟩ (kX7_reallyUpTo l D A (la_pre ad cI cQ cL cD aL aD S w9 d) am cI M (xs (nI (5 * i) + (1 : Int32)).toNatClampNeg) (xs (nI (5 * i) + (2 : Int32)).toNatClampNeg) _ hy) (cwV 2 hts gL_law_X7_reallyUpTo rfl rfl rfl (by decide +kernel) ⟨Nat.le_of_ble_eq_true rfl, Nat.le_of_ble_eq_true rfl⟩) ⟨qm_blind, va_recv hKm hP (ci := 7) (q0 := ((la_pre ad cI cQ cL cD aL aD S w9 d).length + 0)) rfl mg_0, fun U hU hW => ⟨rfl, qm_go hA hS hP hKm hD hU hW⟩⟩ rfl rfl hl.1 rfl (lv_room (Nat.le_of_ble_eq_true rfl)) dL_law_1356 ⟨by show cells + 1 + 0 ≤ 601024; omega, by show slots + 6 + 0 ≤ 7293034; omega⟩) hS (fun _ _ h9 => h9) (fun _ h9 => h9) (fun r2 u t H locs ht hvm hw hB hz1 hk1 hS => ?_)
  obtain ⟨hr1, hr2⟩ := hw
  have hr1 : r2 = v := hr1
  have hr2 : u = M' := hr2
  subst hr1
  subst hr2
  obtain ⟨hP, hD⟩ := qm_bk ht hB
  clear hB
  refine lv_istore (lv' := [(7, .int r2), (6, .int r), (5, .int (nI (5 * i))), (4, .ref aD), (3, .ref aL), (2, .ref (am 0)), (1, .ref (ad 0)), (0, .ref b)]) hx hb dL_law_1359 hl (by decide) rfl (fun ls hl => ?_)
  refine lv_aload_n hx hb dL_law_1361 rfl (lv_at hl 5 rfl) ?_
  refine va_calli (va_runV (As := []) (rest := []) ⟨hx, hb, hml, hown, hts⟩ (nX7_thrown l D A (la_pre ad cI cQ cL cD aL aD S w9 d) am cI u) (cwV 0 hts gL_law_X7_thrown rfl rfl rfl (by decide +kernel) ⟨Nat.le_of_ble_eq_true rfl, Nat.le_of_ble_eq_true rfl⟩) ⟨qm_blind, va_recv hKm hP (ci := 7) (q0 := ((la_pre ad cI cQ cL cD aL aD S w9 d).length + 0)) rfl mg_0, fun U hU hW => ⟨rfl, qm_go hA hS hP hKm hD hU hW⟩⟩ rfl rfl hl.1 rfl (lv_room (Nat.le_of_ble_eq_true rfl)) dL_law_1362 ⟨by show cells + 1 + 0 + 0 ≤ 601024; omega, by show slots + 6 + 0 + 0 ≤ 7293034; omega⟩) hS (fun _ _ h9 => h9) (fun _ h9 => h9) (fun r3 u2 t H locs ht hvm hw hB hz1 hk1 hS => ?_)
  obtain ⟨hr1, hr2⟩ := hw
  have hr1 : r3 = u.2 := hr1
  have hr2 : u2 = u := hr2
  subst hr1
  subst hr2
  obtain ⟨hP, hD⟩ := qm_bk ht hB
  clear hB
  have hP : va_P D vwCl (mm_W (la_pre ad cI cQ cL cD aL aD S w9 d) am cI u2) H := hP
  have hD : va_D A (mm_W (la_pre ad cI cQ cL cD aL aD S w9 d) am cI u2) := hD
  rw [← la_W] at hP hD
  refine lv_iload hx hb dL_law_1365 (lv_at hl 1 rfl) ?_
  refine lv_icmp_eq (tgt := 1372) hx hb dL_law_1367 (by decide) (fun _ => ?_) (fun q9 => absurd hw2 q9)
  have fin : W p l e room_1 s m #[Value.ref b] below meth c H locs (cells + 1) (slots + 6) Q (F0 m 1389 ls []) := by
    refine lv_goto (tgt := 1581) hx hb dL_law_1389 (by decide) ?_
    exact kk _ _ _ _ H locs ls hw3 hP hD hS (lv_sub hl [2, 3, 4, 5, 6, 7] rfl)
  refine lv_iload hx hb dL_law_1372 (lv_at hl 1 rfl) ?_
  refine lv_if_ne (tgt := 1389) hx hb dL_law_1374 (by decide) (fun _ => fin) (fun hk0 => ?_)
  refine lv_aload_n hx hb dL_law_1377 rfl (lv_at hl 4 rfl) ?_
  refine lv_iconst (v := (0 : Int32)) hx hb dL_law_1378 (by decide) ?_
  refine va_lald hx hb hK hP 82 2 lg_L rfl (i := (0 : Int32)) la_in0 dL_law_1379 ?_
  refine lv_iload hx hb dL_law_1380 (lv_at hl 0 rfl) ?_
  refine lv_i2l (v := r2.toInt64) hx hb dL_law_1382 rfl ?_
  refine W.lcmp hx hb dL_law_1383 ?_
  exact lv_if_eq (tgt := 1389) hx hb dL_law_1384 (by decide) (fun _ => fin) (fun q9 => absurd (la_cmp (hw4 hk0)) q9)
set_option maxHeartbeats 4000000 in
set_option maxRecDepth 100000 in
theorem lc_middle {p : Program} {l : Launch} {e : Env} {s : State} {m : MethodId} {below : List Frame} {meth : Method} {c : Code} {b L : Nat} {xs : Nat → Int32} {Q : State → Prop} {D : va_G} {A : Nat → Prop} {cI cQ cL cD : ClassId} {aL aD : Nat} {ad am : Nat → Nat} (G : la_H l p s m c b L xs D A cI cQ cL cD) {i : Nat} (hi : 5 * i + 5 ≤ L) {S : qm_S} {M : mm_M} (hR : st_R S M) {o : Nat → Int64} {d : Nat → UInt64} {H : Heap} {locs : List Loc} {ls : Array Slot} {cells slots : Nat} (hP : va_P D vwCl (la_v ad am cI cQ cL cD aL aD S o d M) H) (hD : va_D A (la_v ad am cI cQ cL cD aL aD S o d M)) (hS : va_S A s.heap H locs) (hl : lv_has ls 9 (la_l i b ad am aL aD)) (hc : cells + 5 ≤ 601024) (hsl : slots + 30 ≤ 7293034)
    (kk : ∀ (S' : qm_S) (M' : mm_M) (o' : Nat → Int64) (d' : Nat → UInt64) (H : Heap) (locs : List Loc) (ls : Array Slot), st_R S' M' → va_P D vwCl (la_v ad am cI cQ cL cD aL aD S' o' d' M') H → va_D A (la_v ad am cI cQ cL cD aL aD S' o' d' M') → va_S A s.heap H locs → lv_has ls 9 (la_l i b ad am aL aD) → W p l e room_1 s m #[Value.ref b] below meth c H locs (cells + 2) (slots + 12) Q (F0 m 1581 ls [])) : W p l e room_1 s m #[Value.ref b] below meth c H locs cells slots Q (F0 m 1392 ls []) := by
  obtain ⟨⟨hx, hb, hml, hown⟩, hts, ⟨hX, hbl, hbA, hL⟩, ⟨hA, hK, hZ⟩, hst⟩ := G
  have hKm : va_K D vwCl (mm_T cI) s := hK.sub [0] rfl
  have hi1 : vp_in (nI (5 * i) + (1 : Int32)) L := la_ix 1 (by omega) hL
  obtain ⟨z, v, M', k, o', hz, hy, hw1, hw2, hw3, hw4⟩ := la_of_q o hR (st_middle hR (xs (nI (5 * i) + (1 : Int32)).toNatClampNeg)) (by decide)
  refine lv_aload_n hx hb dL_law_1392 rfl (lv_at hl 4 rfl) ?_
  refine lv_aload_n hx hb dL_law_1393 rfl (lv_at hl 5 rfl) ?_
  refine lv_iload hx hb dL_law_1394 (lv_at hl 0 rfl) ?_
  refine lv_iconst (v := (1 : Int32)) hx hb dL_law_1396 (by decide) ?_
  refine lv_iadd hx hb dL_law_1397 ?_
  refine va_sld hx hb hX hbl hbA hS hi1 dL_law_1398 ?_
  refine lv_aload_n hx hb dL_law_1399 rfl (lv_at hl 2 rfl) ?_
  refine vx_calli (vx_runSX (As := [.ref (ad 0), .int (xs (nI (5 * i) + (1 : Int32)).toNatClampNeg), .ref aL]) (rest := []) ⟨hx, hb, hml, hown, hts⟩ (wL_middle hst D A ad cI cQ cL cD aL aD (mm_w am cI M) S o d (xs (nI (5 * i) + (1 : Int32)).toNatClampNeg) z hz k o' hw1) (vx_cwSW 3 hts gL_law_L_middle rfl rfl rfl (by decide +kernel) ⟨Nat.le_of_ble_eq_true rfl, Nat.le_of_ble_eq_true rfl⟩) ⟨qm_blindZ, fun U hU hW => ⟨rfl, qm_go hA hS hP hK hD hU hW, qm_Zgo hZ hS hU hW⟩⟩ rfl rfl hl.1 rfl (lv_room (Nat.le_of_ble_eq_true rfl)) dL_law_1400 ⟨by show cells + 2 ≤ 601024; omega, by show slots + 12 ≤ 7293034; omega⟩) hS (fun _ _ h9 => h9) (fun _ h9 => h9) (fun _ _ h9 => h9) (fun E ce q9 u9 t H1 locs1 ht hvm hw hB hz1 hk1 hS hce hcv hcl => hw.elim) (fun r w9 t H locs ht hvm hw hB hz1 hk1 hS => ?_)
  obtain ⟨hr1, hr2⟩ := hw
  have hr1 : r = k := hr1
  have hr2 : w9 = o' := hr2
  subst hr1
  subst hr2
  obtain ⟨hP, hD⟩ := qm_bk ht hB
  clear hB
  have hP : va_P D vwCl (la_v ad am cI cQ cL cD aL aD S w9 d M) H := hP
  have hD : va_D A (la_v ad am cI cQ cL cD aL aD S w9 d M) := hD
  rw [la_W] at hP hD
  refine lv_istore (lv' := [(6, .int r), (5, .int (nI (5 * i))), (4, .ref aD), (3, .ref aL), (2, .ref (am 0)), (1, .ref (ad 0)), (0, .ref b)]) hx hb dL_law_1403 hl (by decide) rfl (fun ls hl => ?_)
  refine lv_aload_n hx hb dL_law_1405 rfl (lv_at hl 4 rfl) ?_
  refine lv_aload_n hx hb dL_law_1406 rfl (lv_at hl 6 rfl) ?_
  refine lv_iload hx hb dL_law_1407 (lv_at hl 1 rfl) ?_
  refine lv_iconst (v := (1 : Int32)) hx hb dL_law_1409 (by decide) ?_
  refine lv_iadd hx hb dL_law_1410 ?_
  refine va_sld hx hb hX hbl hbA hS hi1 dL_law_1411 ?_
  refine va_calli (va_runV (As := [.int (xs (nI (5 * i) + (1 : Int32)).toNatClampNeg)]) (rest := []) ⟨hx, hb, hml, hown, hts⟩ (kX7_middle l D A (la_pre ad cI cQ cL cD aL aD S w9 d) am cI M (xs (nI (5 * i) + (1 : Int32)).toNatClampNeg) _ hy) (cwV 1 hts gL_law_X7_middle rfl rfl rfl (by decide +kernel) ⟨Nat.le_of_ble_eq_true rfl, Nat.le_of_ble_eq_true rfl⟩) ⟨qm_blind, va_recv hKm hP (ci := 7) (q0 := ((la_pre ad cI cQ cL cD aL aD S w9 d).length + 0)) rfl mg_0, fun U hU hW => ⟨rfl, qm_go hA hS hP hKm hD hU hW⟩⟩ rfl rfl hl.1 rfl (lv_room (Nat.le_of_ble_eq_true rfl)) dL_law_1412 ⟨by show cells + 2 + 0 ≤ 601024; omega, by show slots + 12 + 0 ≤ 7293034; omega⟩) hS (fun _ _ h9 => h9) (fun _ h9 => h9) (fun r2 u t H locs ht hvm hw hB hz1 hk1 hS => ?_)
  obtain ⟨hr1, hr2⟩ := hw
  have hr1 : r2 = v := hr1
  have hr2 : u = M' := hr2
  subst hr1
  subst hr2
  obtain ⟨hP, hD⟩ := qm_bk ht hB
  clear hB
  refine lv_istore (lv' := [(7, .int r2), (6, .int r), (5, .int (nI (5 * i))), (4, .ref aD), (3, .ref aL), (2, .ref (am 0)), (1, .ref (ad 0)), (0, .ref b)]) hx hb dL_law_1415 hl (by decide) rfl (fun ls hl => ?_)
  refine lv_aload_n hx hb dL_law_1417 rfl (lv_at hl 5 rfl) ?_
  refine va_calli (va_runV (As := []) (rest := []) ⟨hx, hb, hml, hown, hts⟩ (nX7_thrown l D A (la_pre ad cI cQ cL cD aL aD S w9 d) am cI u) (cwV 0 hts gL_law_X7_thrown rfl rfl rfl (by decide +kernel) ⟨Nat.le_of_ble_eq_true rfl, Nat.le_of_ble_eq_true rfl⟩) ⟨qm_blind, va_recv hKm hP (ci := 7) (q0 := ((la_pre ad cI cQ cL cD aL aD S w9 d).length + 0)) rfl mg_0, fun U hU hW => ⟨rfl, qm_go hA hS hP hKm hD hU hW⟩⟩ rfl rfl hl.1 rfl (lv_room (Nat.le_of_ble_eq_true rfl)) dL_law_1418 ⟨by show cells + 2 + 0 + 0 ≤ 601024; omega, by show slots + 12 + 0 + 0 ≤ 7293034; omega⟩) hS (fun _ _ h9 => h9) (fun _ h9 => h9) (fun r3 u2 t H locs ht hvm hw hB hz1 hk1 hS => ?_)
  obtain ⟨hr1, hr2⟩ := hw
  have hr1 : r3 = u.2 := hr1
  have hr2 : u2 = u := hr2
  subst hr1
  subst hr2
  obtain ⟨hP, hD⟩ := qm_bk ht hB
  clear hB
  have hP : va_P D vwCl (mm_W (la_pre ad cI cQ cL cD aL aD S w9 d) am cI u2) H := hP
  have hD : va_D A (mm_W (la_pre ad cI cQ cL cD aL aD S w9 d) am cI u2) := hD
  rw [← la_W] at hP hD
  refine lv_iload hx hb dL_law_1421 (lv_at hl 1 rfl) ?_
  refine lv_icmp_eq (tgt := 1428) hx hb dL_law_1423 (by decide) (fun _ => ?_) (fun q9 => absurd hw2 q9)
  have fin : W p l e room_1 s m #[Value.ref b] below meth c H locs (cells + 2) (slots + 12) Q (F0 m 1445 ls []) := by
    refine lv_goto (tgt := 1581) hx hb dL_law_1445 (by decide) ?_
    exact kk _ _ _ _ H locs ls hw3 hP hD hS (lv_sub hl [2, 3, 4, 5, 6, 7] rfl)
  refine lv_iload hx hb dL_law_1428 (lv_at hl 1 rfl) ?_
  refine lv_if_ne (tgt := 1445) hx hb dL_law_1430 (by decide) (fun _ => fin) (fun hk0 => ?_)
  refine lv_aload_n hx hb dL_law_1433 rfl (lv_at hl 4 rfl) ?_
  refine lv_iconst (v := (0 : Int32)) hx hb dL_law_1434 (by decide) ?_
  refine va_lald hx hb hK hP 82 2 lg_L rfl (i := (0 : Int32)) la_in0 dL_law_1435 ?_
  refine lv_iload hx hb dL_law_1436 (lv_at hl 0 rfl) ?_
  refine lv_i2l (v := r2.toInt64) hx hb dL_law_1438 rfl ?_
  refine W.lcmp hx hb dL_law_1439 ?_
  exact lv_if_eq (tgt := 1445) hx hb dL_law_1440 (by decide) (fun _ => fin) (fun q9 => absurd (la_cmp (hw4 hk0)) q9)
set_option maxHeartbeats 4000000 in
set_option maxRecDepth 100000 in
theorem lc_middleByHeaps {p : Program} {l : Launch} {e : Env} {s : State} {m : MethodId} {below : List Frame} {meth : Method} {c : Code} {b L : Nat} {xs : Nat → Int32} {Q : State → Prop} {D : va_G} {A : Nat → Prop} {cI cQ cL cD : ClassId} {aL aD : Nat} {ad am : Nat → Nat} (G : la_H l p s m c b L xs D A cI cQ cL cD) {i : Nat} (hi : 5 * i + 5 ≤ L) {S : qm_S} {M : mm_M} (hR : st_R S M) {o : Nat → Int64} {d : Nat → UInt64} {H : Heap} {locs : List Loc} {ls : Array Slot} {cells slots : Nat} (hP : va_P D vwCl (la_v ad am cI cQ cL cD aL aD S o d M) H) (hD : va_D A (la_v ad am cI cQ cL cD aL aD S o d M)) (hS : va_S A s.heap H locs) (hl : lv_has ls 9 (la_l i b ad am aL aD)) (hc : cells + 5 ≤ 601024) (hsl : slots + 30 ≤ 7293034)
    (kk : ∀ (S' : qm_S) (M' : mm_M) (o' : Nat → Int64) (d' : Nat → UInt64) (H : Heap) (locs : List Loc) (ls : Array Slot), st_R S' M' → va_P D vwCl (la_v ad am cI cQ cL cD aL aD S' o' d' M') H → va_D A (la_v ad am cI cQ cL cD aL aD S' o' d' M') → va_S A s.heap H locs → lv_has ls 9 (la_l i b ad am aL aD) → W p l e room_1 s m #[Value.ref b] below meth c H locs (cells + 2) (slots + 12) Q (F0 m 1581 ls [])) : W p l e room_1 s m #[Value.ref b] below meth c H locs cells slots Q (F0 m 1448 ls []) := by
  obtain ⟨⟨hx, hb, hml, hown⟩, hts, ⟨hX, hbl, hbA, hL⟩, ⟨hA, hK, hZ⟩, hst⟩ := G
  have hKm : va_K D vwCl (mm_T cI) s := hK.sub [0] rfl
  have hi1 : vp_in (nI (5 * i) + (1 : Int32)) L := la_ix 1 (by omega) hL
  obtain ⟨z, v, M', k, o', hz, hy, hw1, hw2, hw3, hw4⟩ := la_of_q o hR (st_middleByHeaps hR (xs (nI (5 * i) + (1 : Int32)).toNatClampNeg)) (by decide)
  refine lv_aload_n hx hb dL_law_1448 rfl (lv_at hl 4 rfl) ?_
  refine lv_aload_n hx hb dL_law_1449 rfl (lv_at hl 5 rfl) ?_
  refine lv_iload hx hb dL_law_1450 (lv_at hl 0 rfl) ?_
  refine lv_iconst (v := (1 : Int32)) hx hb dL_law_1452 (by decide) ?_
  refine lv_iadd hx hb dL_law_1453 ?_
  refine va_sld hx hb hX hbl hbA hS hi1 dL_law_1454 ?_
  refine lv_aload_n hx hb dL_law_1455 rfl (lv_at hl 2 rfl) ?_
  refine vx_calli (vx_runSX (As := [.ref (ad 0), .int (xs (nI (5 * i) + (1 : Int32)).toNatClampNeg), .ref aL]) (rest := []) ⟨hx, hb, hml, hown, hts⟩ (wL_middleByHeaps hst D A ad cI cQ cL cD aL aD (mm_w am cI M) S o d (xs (nI (5 * i) + (1 : Int32)).toNatClampNeg) z hz k o' hw1) (vx_cwSW 3 hts gL_law_L_middleByHeaps rfl rfl rfl (by decide +kernel) ⟨Nat.le_of_ble_eq_true rfl, Nat.le_of_ble_eq_true rfl⟩) ⟨qm_blindZ, fun U hU hW => ⟨rfl, qm_go hA hS hP hK hD hU hW, qm_Zgo hZ hS hU hW⟩⟩ rfl rfl hl.1 rfl (lv_room (Nat.le_of_ble_eq_true rfl)) dL_law_1456 ⟨by show cells + 2 ≤ 601024; omega, by show slots + 12 ≤ 7293034; omega⟩) hS (fun _ _ h9 => h9) (fun _ h9 => h9) (fun _ _ h9 => h9) (fun E ce q9 u9 t H1 locs1 ht hvm hw hB hz1 hk1 hS hce hcv hcl => hw.elim) (fun r w9 t H locs ht hvm hw hB hz1 hk1 hS => ?_)
  obtain ⟨hr1, hr2⟩ := hw
  have hr1 : r = k := hr1
  have hr2 : w9 = o' := hr2
  subst hr1
  subst hr2
  obtain ⟨hP, hD⟩ := qm_bk ht hB
  clear hB
  have hP : va_P D vwCl (la_v ad am cI cQ cL cD aL aD S w9 d M) H := hP
  have hD : va_D A (la_v ad am cI cQ cL cD aL aD S w9 d M) := hD
  rw [la_W] at hP hD
  refine lv_istore (lv' := [(6, .int r), (5, .int (nI (5 * i))), (4, .ref aD), (3, .ref aL), (2, .ref (am 0)), (1, .ref (ad 0)), (0, .ref b)]) hx hb dL_law_1459 hl (by decide) rfl (fun ls hl => ?_)
  refine lv_aload_n hx hb dL_law_1461 rfl (lv_at hl 4 rfl) ?_
  refine lv_aload_n hx hb dL_law_1462 rfl (lv_at hl 6 rfl) ?_
  refine lv_iload hx hb dL_law_1463 (lv_at hl 1 rfl) ?_
  refine lv_iconst (v := (1 : Int32)) hx hb dL_law_1465 (by decide) ?_
  refine lv_iadd hx hb dL_law_1466 ?_
  refine va_sld hx hb hX hbl hbA hS hi1 dL_law_1467 ?_
  refine va_calli (va_runV (As := [.int (xs (nI (5 * i) + (1 : Int32)).toNatClampNeg)]) (rest := []) ⟨hx, hb, hml, hown, hts⟩ (kX7_middleByHeaps l D A (la_pre ad cI cQ cL cD aL aD S w9 d) am cI M (xs (nI (5 * i) + (1 : Int32)).toNatClampNeg) _ hy) (cwV 1 hts gL_law_X7_middleByHeaps rfl rfl rfl (by decide +kernel) ⟨Nat.le_of_ble_eq_true rfl, Nat.le_of_ble_eq_true rfl⟩) ⟨qm_blind, va_recv hKm hP (ci := 7) (q0 := ((la_pre ad cI cQ cL cD aL aD S w9 d).length + 0)) rfl mg_0, fun U hU hW => ⟨rfl, qm_go hA hS hP hKm hD hU hW⟩⟩ rfl rfl hl.1 rfl (lv_room (Nat.le_of_ble_eq_true rfl)) dL_law_1468 ⟨by show cells + 2 + 0 ≤ 601024; omega, by show slots + 12 + 0 ≤ 7293034; omega⟩) hS (fun _ _ h9 => h9) (fun _ h9 => h9) (fun r2 u t H locs ht hvm hw hB hz1 hk1 hS => ?_)
  obtain ⟨hr1, hr2⟩ := hw
  have hr1 : r2 = v := hr1
  have hr2 : u = M' := hr2
  subst hr1
  subst hr2
  obtain ⟨hP, hD⟩ := qm_bk ht hB
  clear hB
  refine lv_istore (lv' := [(7, .int r2), (6, .int r), (5, .int (nI (5 * i))), (4, .ref aD), (3, .ref aL), (2, .ref (am 0)), (1, .ref (ad 0)), (0, .ref b)]) hx hb dL_law_1471 hl (by decide) rfl (fun ls hl => ?_)
  refine lv_aload_n hx hb dL_law_1473 rfl (lv_at hl 5 rfl) ?_
  refine va_calli (va_runV (As := []) (rest := []) ⟨hx, hb, hml, hown, hts⟩ (nX7_thrown l D A (la_pre ad cI cQ cL cD aL aD S w9 d) am cI u) (cwV 0 hts gL_law_X7_thrown rfl rfl rfl (by decide +kernel) ⟨Nat.le_of_ble_eq_true rfl, Nat.le_of_ble_eq_true rfl⟩) ⟨qm_blind, va_recv hKm hP (ci := 7) (q0 := ((la_pre ad cI cQ cL cD aL aD S w9 d).length + 0)) rfl mg_0, fun U hU hW => ⟨rfl, qm_go hA hS hP hKm hD hU hW⟩⟩ rfl rfl hl.1 rfl (lv_room (Nat.le_of_ble_eq_true rfl)) dL_law_1474 ⟨by show cells + 2 + 0 + 0 ≤ 601024; omega, by show slots + 12 + 0 + 0 ≤ 7293034; omega⟩) hS (fun _ _ h9 => h9) (fun _ h9 => h9) (fun r3 u2 t H locs ht hvm hw hB hz1 hk1 hS => ?_)
  obtain ⟨hr1, hr2⟩ := hw
  have hr1 : r3 = u.2 := hr1
  have hr2 : u2 = u := hr2
  subst hr1
  subst hr2
  obtain ⟨hP, hD⟩ := qm_bk ht hB
  clear hB
  have hP : va_P D vwCl (mm_W (la_pre ad cI cQ cL cD aL aD S w9 d) am cI u2) H := hP
  have hD : va_D A (mm_W (la_pre ad cI cQ cL cD aL aD S w9 d) am cI u2) := hD
  rw [← la_W] at hP hD
  refine lv_iload hx hb dL_law_1477 (lv_at hl 1 rfl) ?_
  refine lv_icmp_eq (tgt := 1484) hx hb dL_law_1479 (by decide) (fun _ => ?_) (fun q9 => absurd hw2 q9)
  have fin : W p l e room_1 s m #[Value.ref b] below meth c H locs (cells + 2) (slots + 12) Q (F0 m 1501 ls []) := by
    refine lv_goto (tgt := 1581) hx hb dL_law_1501 (by decide) ?_
    exact kk _ _ _ _ H locs ls hw3 hP hD hS (lv_sub hl [2, 3, 4, 5, 6, 7] rfl)
  refine lv_iload hx hb dL_law_1484 (lv_at hl 1 rfl) ?_
  refine lv_if_ne (tgt := 1501) hx hb dL_law_1486 (by decide) (fun _ => fin) (fun hk0 => ?_)
  refine lv_aload_n hx hb dL_law_1489 rfl (lv_at hl 4 rfl) ?_
  refine lv_iconst (v := (0 : Int32)) hx hb dL_law_1490 (by decide) ?_
  refine va_lald hx hb hK hP 82 2 lg_L rfl (i := (0 : Int32)) la_in0 dL_law_1491 ?_
  refine lv_iload hx hb dL_law_1492 (lv_at hl 0 rfl) ?_
  refine lv_i2l (v := r2.toInt64) hx hb dL_law_1494 rfl ?_
  refine W.lcmp hx hb dL_law_1495 ?_
  exact lv_if_eq (tgt := 1501) hx hb dL_law_1496 (by decide) (fun _ => fin) (fun q9 => absurd (la_cmp (hw4 hk0)) q9)
set_option maxHeartbeats 4000000 in
set_option maxRecDepth 100000 in
theorem lc_part {p : Program} {l : Launch} {e : Env} {s : State} {m : MethodId} {below : List Frame} {meth : Method} {c : Code} {b L : Nat} {xs : Nat → Int32} {Q : State → Prop} {D : va_G} {A : Nat → Prop} {cI cQ cL cD : ClassId} {aL aD : Nat} {ad am : Nat → Nat} (G : la_H l p s m c b L xs D A cI cQ cL cD) {i : Nat} (hi : 5 * i + 5 ≤ L) {S : qm_S} {M : mm_M} (hR : st_R S M) {o : Nat → Int64} {d : Nat → UInt64} {H : Heap} {locs : List Loc} {ls : Array Slot} {cells slots : Nat} (hP : va_P D vwCl (la_v ad am cI cQ cL cD aL aD S o d M) H) (hD : va_D A (la_v ad am cI cQ cL cD aL aD S o d M)) (hS : va_S A s.heap H locs) (hl : lv_has ls 9 (la_l i b ad am aL aD)) (hc : cells + 5 ≤ 601024) (hsl : slots + 30 ≤ 7293034)
    (kk : ∀ (S' : qm_S) (M' : mm_M) (o' : Nat → Int64) (d' : Nat → UInt64) (H : Heap) (locs : List Loc) (ls : Array Slot), st_R S' M' → va_P D vwCl (la_v ad am cI cQ cL cD aL aD S' o' d' M') H → va_D A (la_v ad am cI cQ cL cD aL aD S' o' d' M') → va_S A s.heap H locs → lv_has ls 9 (la_l i b ad am aL aD) → W p l e room_1 s m #[Value.ref b] below meth c H locs (cells + 1) (slots + 6) Q (F0 m 1581 ls [])) : W p l e room_1 s m #[Value.ref b] below meth c H locs cells slots Q (F0 m 1504 ls []) := by
  obtain ⟨⟨hx, hb, hml, hown⟩, hts, ⟨hX, hbl, hbA, hL⟩, ⟨hA, hK, hZ⟩, hst⟩ := G
  have hKm : va_K D vwCl (mm_T cI) s := hK.sub [0] rfl
  have hi1 : vp_in (nI (5 * i) + (1 : Int32)) L := la_ix 1 (by omega) hL
  obtain ⟨z, v, M', k, d', hz, hy, hw1, hw2, hw3, hw4⟩ := la_of_d d hR (st_part hR (xs (nI (5 * i) + (1 : Int32)).toNatClampNeg)) (by decide)
  refine lv_aload_n hx hb dL_law_1504 rfl (lv_at hl 4 rfl) ?_
  refine lv_aload_n hx hb dL_law_1505 rfl (lv_at hl 5 rfl) ?_
  refine lv_iload hx hb dL_law_1506 (lv_at hl 0 rfl) ?_
  refine lv_iconst (v := (1 : Int32)) hx hb dL_law_1508 (by decide) ?_
  refine lv_iadd hx hb dL_law_1509 ?_
  refine va_sld hx hb hX hbl hbA hS hi1 dL_law_1510 ?_
  refine lv_aload hx hb dL_law_1511 (lv_at hl 1 rfl) ?_
  refine vx_calli (vx_runSX (As := [.ref (ad 0), .int (xs (nI (5 * i) + (1 : Int32)).toNatClampNeg), .ref aD]) (rest := []) ⟨hx, hb, hml, hown, hts⟩ (wL_part hst D A ad cI cQ cL cD aL aD (mm_w am cI M) S o d (xs (nI (5 * i) + (1 : Int32)).toNatClampNeg) z hz k d' hw1) (vx_cwSW 3 hts gL_law_L_part rfl rfl rfl (by decide +kernel) ⟨Nat.le_of_ble_eq_true rfl, Nat.le_of_ble_eq_true rfl⟩) ⟨qm_blindZ, fun U hU hW => ⟨rfl, qm_go hA hS hP hK hD hU hW, qm_Zgo hZ hS hU hW⟩⟩ rfl rfl hl.1 rfl (lv_room (Nat.le_of_ble_eq_true rfl)) dL_law_1513 ⟨by show cells + 1 ≤ 601024; omega, by show slots + 6 ≤ 7293034; omega⟩) hS (fun _ _ h9 => h9) (fun _ h9 => h9) (fun _ _ h9 => h9) (fun E ce q9 u9 t H1 locs1 ht hvm hw hB hz1 hk1 hS hce hcv hcl => hw.elim) (fun r w9 t H locs ht hvm hw hB hz1 hk1 hS => ?_)
  obtain ⟨hr1, hr2⟩ := hw
  have hr1 : r = k := hr1
  have hr2 : w9 = d' := hr2
  subst hr1
  subst hr2
  obtain ⟨hP, hD⟩ := qm_bk ht hB
  clear hB
  have hP : va_P D vwCl (la_v ad am cI cQ cL cD aL aD S o w9 M) H := hP
  have hD : va_D A (la_v ad am cI cQ cL cD aL aD S o w9 M) := hD
  rw [la_W] at hP hD
  refine lv_istore (lv' := [(6, .int r), (5, .int (nI (5 * i))), (4, .ref aD), (3, .ref aL), (2, .ref (am 0)), (1, .ref (ad 0)), (0, .ref b)]) hx hb dL_law_1516 hl (by decide) rfl (fun ls hl => ?_)
  refine lv_aload_n hx hb dL_law_1518 rfl (lv_at hl 4 rfl) ?_
  refine lv_aload_n hx hb dL_law_1519 rfl (lv_at hl 6 rfl) ?_
  refine lv_iload hx hb dL_law_1520 (lv_at hl 1 rfl) ?_
  refine lv_iconst (v := (1 : Int32)) hx hb dL_law_1522 (by decide) ?_
  refine lv_iadd hx hb dL_law_1523 ?_
  refine va_sld hx hb hX hbl hbA hS hi1 dL_law_1524 ?_
  refine va_calld (va_runV (As := [.int (xs (nI (5 * i) + (1 : Int32)).toNatClampNeg)]) (rest := []) ⟨hx, hb, hml, hown, hts⟩ (kX7_part l D A (la_pre ad cI cQ cL cD aL aD S o w9) am cI M (xs (nI (5 * i) + (1 : Int32)).toNatClampNeg) _ hy) (cwV 1 hts gL_law_X7_part rfl rfl rfl (by decide +kernel) ⟨Nat.le_of_ble_eq_true rfl, Nat.le_of_ble_eq_true rfl⟩) ⟨qm_blind, va_recv hKm hP (ci := 7) (q0 := ((la_pre ad cI cQ cL cD aL aD S o w9).length + 0)) rfl mg_0, fun U hU hW => ⟨rfl, qm_go hA hS hP hKm hD hU hW⟩⟩ rfl rfl hl.1 rfl (lv_room (Nat.le_of_ble_eq_true rfl)) dL_law_1525 ⟨by show cells + 1 + 0 ≤ 601024; omega, by show slots + 6 + 0 ≤ 7293034; omega⟩) hS (fun _ _ h9 => h9) (fun _ h9 => h9) (fun r2 u t H locs ht hvm hw hB hz1 hk1 hS => ?_)
  obtain ⟨hr1, hr2⟩ := hw
  have hr1 : r2 = v := hr1
  have hr2 : u = M' := hr2
  subst hr1
  subst hr2
  obtain ⟨hP, hD⟩ := qm_bk ht hB
  clear hB
  refine lv_dstore (lv' := [(7, .double r2), (6, .int r), (5, .int (nI (5 * i))), (4, .ref aD), (3, .ref aL), (2, .ref (am 0)), (1, .ref (ad 0)), (0, .ref b)]) hx hb dL_law_1528 hl (by decide) rfl (fun ls hl => ?_)
  refine lv_aload_n hx hb dL_law_1530 rfl (lv_at hl 5 rfl) ?_
  refine va_calli (va_runV (As := []) (rest := []) ⟨hx, hb, hml, hown, hts⟩ (nX7_thrown l D A (la_pre ad cI cQ cL cD aL aD S o w9) am cI u) (cwV 0 hts gL_law_X7_thrown rfl rfl rfl (by decide +kernel) ⟨Nat.le_of_ble_eq_true rfl, Nat.le_of_ble_eq_true rfl⟩) ⟨qm_blind, va_recv hKm hP (ci := 7) (q0 := ((la_pre ad cI cQ cL cD aL aD S o w9).length + 0)) rfl mg_0, fun U hU hW => ⟨rfl, qm_go hA hS hP hKm hD hU hW⟩⟩ rfl rfl hl.1 rfl (lv_room (Nat.le_of_ble_eq_true rfl)) dL_law_1531 ⟨by show cells + 1 + 0 + 0 ≤ 601024; omega, by show slots + 6 + 0 + 0 ≤ 7293034; omega⟩) hS (fun _ _ h9 => h9) (fun _ h9 => h9) (fun r3 u2 t H locs ht hvm hw hB hz1 hk1 hS => ?_)
  obtain ⟨hr1, hr2⟩ := hw
  have hr1 : r3 = u.2 := hr1
  have hr2 : u2 = u := hr2
  subst hr1
  subst hr2
  obtain ⟨hP, hD⟩ := qm_bk ht hB
  clear hB
  have hP : va_P D vwCl (mm_W (la_pre ad cI cQ cL cD aL aD S o w9) am cI u2) H := hP
  have hD : va_D A (mm_W (la_pre ad cI cQ cL cD aL aD S o w9) am cI u2) := hD
  rw [← la_W] at hP hD
  refine lv_iload hx hb dL_law_1534 (lv_at hl 1 rfl) ?_
  refine lv_icmp_eq (tgt := 1541) hx hb dL_law_1536 (by decide) (fun _ => ?_) (fun q9 => absurd hw2 q9)
  have fin : W p l e room_1 s m #[Value.ref b] below meth c H locs (cells + 1) (slots + 6) Q (F0 m 1578 ls []) := by
    refine lv_goto (tgt := 1581) hx hb dL_law_1578 (by decide) ?_
    exact kk _ _ _ _ H locs ls hw3 hP hD hS (lv_sub hl [2, 3, 4, 5, 6, 7] rfl)
  refine lv_iload hx hb dL_law_1541 (lv_at hl 1 rfl) ?_
  refine lv_if_ne (tgt := 1578) hx hb dL_law_1543 (by decide) (fun _ => fin) (fun hk0 => ?_)
  refine lv_aload hx hb dL_law_1546 (lv_at hl 3 rfl) ?_
  refine lv_iconst (v := (0 : Int32)) hx hb dL_law_1548 (by decide) ?_
  refine va_dald hx hb hK hP 83 3 lg_D rfl (i := (0 : Int32)) la_in0 dL_law_1549 ?_
  refine lv_dload hx hb dL_law_1550 (lv_at hl 0 rfl) ?_
  rw [hw4 hk0]
  refine lv_dcmp hx hb dL_law_1552 ?_
  refine lv_if_eq (tgt := 1578) hx hb dL_law_1553 (by decide) (fun _ => fin) (fun q9 => ?_)
  refine lv_aload hx hb dL_law_1556 (lv_at hl 3 rfl) ?_
  refine lv_iconst (v := (0 : Int32)) hx hb dL_law_1558 (by decide) ?_
  refine va_dald hx hb hK hP 83 3 lg_D rfl (i := (0 : Int32)) la_in0 dL_law_1559 ?_
  refine lv_aload hx hb dL_law_1560 (lv_at hl 3 rfl) ?_
  refine lv_iconst (v := (0 : Int32)) hx hb dL_law_1562 (by decide) ?_
  refine va_dald hx hb hK hP 83 3 lg_D rfl (i := (0 : Int32)) la_in0 dL_law_1563 ?_
  rw [hw4 hk0]
  refine lv_dcmp hx hb dL_law_1564 ?_
  refine lv_if_eq (tgt := 1576) hx hb dL_law_1565 (by decide) (fun q8 => absurd q8 q9) (fun _ => ?_)
  refine lv_dload hx hb dL_law_1568 (lv_at hl 0 rfl) ?_
  refine lv_dload hx hb dL_law_1570 (lv_at hl 0 rfl) ?_
  refine lv_dcmp hx hb dL_law_1572 ?_
  exact lv_if_ne (tgt := 1578) hx hb dL_law_1573 (by decide) (fun _ => fin) (fun q8 => absurd q8 q9)
