noncomputable def fX7_pours (S : mm_M) (p0 : Int32) (p1 : Int32) (p2 : Int32) (p3 : Int32) : Option (mm_M) :=
  qm_gd (vp_in p1 2400) (qm_gd (vp_in p0 600) (qm_gd (vp_in p1 2400) ((if p3 = 0 then qm_gd (vp_in p0 600) (qm_gd (vp_in p2 4) ((if (((mm_up (mm_up S 7 (upd (S.1 7) p0.toNatClampNeg ((S.1 4) p1.toNatClampNeg))) 8 (upd ((mm_up S 7 (upd (S.1 7) p0.toNatClampNeg ((S.1 4) p1.toNatClampNeg))).1 8) p0.toNatClampNeg ((((mm_up S 7 (upd (S.1 7) p0.toNatClampNeg ((S.1 4) p1.toNatClampNeg))).1 5) p1.toNatClampNeg) + (0 : Int32)))).1 2) p2.toNatClampNeg) ≤ p3 then qm_gd (vp_in p2 4) ((if (((mm_up (mm_up S 7 (upd (S.1 7) p0.toNatClampNeg ((S.1 4) p1.toNatClampNeg))) 8 (upd ((mm_up S 7 (upd (S.1 7) p0.toNatClampNeg ((S.1 4) p1.toNatClampNeg))).1 8) p0.toNatClampNeg ((((mm_up S 7 (upd (S.1 7) p0.toNatClampNeg ((S.1 4) p1.toNatClampNeg))).1 5) p1.toNatClampNeg) + (0 : Int32)))).1 2) p2.toNatClampNeg) ≤ 0 then qm_gd (vp_in p1 2400) (qm_gd (vp_in p0 600) (some (mm_up (mm_up (mm_up S 7 (upd (S.1 7) p0.toNatClampNeg ((S.1 4) p1.toNatClampNeg))) 8 (upd ((mm_up S 7 (upd (S.1 7) p0.toNatClampNeg ((S.1 4) p1.toNatClampNeg))).1 8) p0.toNatClampNeg ((((mm_up S 7 (upd (S.1 7) p0.toNatClampNeg ((S.1 4) p1.toNatClampNeg))).1 5) p1.toNatClampNeg) + (0 : Int32)))) 9 (upd ((mm_up (mm_up S 7 (upd (S.1 7) p0.toNatClampNeg ((S.1 4) p1.toNatClampNeg))) 8 (upd ((mm_up S 7 (upd (S.1 7) p0.toNatClampNeg ((S.1 4) p1.toNatClampNeg))).1 8) p0.toNatClampNeg ((((mm_up S 7 (upd (S.1 7) p0.toNatClampNeg ((S.1 4) p1.toNatClampNeg))).1 5) p1.toNatClampNeg) + (0 : Int32)))).1 9) p0.toNatClampNeg ((((mm_up (mm_up S 7 (upd (S.1 7) p0.toNatClampNeg ((S.1 4) p1.toNatClampNeg))) 8 (upd ((mm_up S 7 (upd (S.1 7) p0.toNatClampNeg ((S.1 4) p1.toNatClampNeg))).1 8) p0.toNatClampNeg ((((mm_up S 7 (upd (S.1 7) p0.toNatClampNeg ((S.1 4) p1.toNatClampNeg))).1 5) p1.toNatClampNeg) + (0 : Int32)))).1 6) p1.toNatClampNeg) + (0 : Int32)))))) else qm_gd (vp_in p2 4) (qm_gd (vp_in ((((600 : Int32) * p2) + (((mm_up (mm_up S 7 (upd (S.1 7) p0.toNatClampNeg ((S.1 4) p1.toNatClampNeg))) 8 (upd ((mm_up S 7 (upd (S.1 7) p0.toNatClampNeg ((S.1 4) p1.toNatClampNeg))).1 8) p0.toNatClampNeg ((((mm_up S 7 (upd (S.1 7) p0.toNatClampNeg ((S.1 4) p1.toNatClampNeg))).1 5) p1.toNatClampNeg) + (0 : Int32)))).1 2) p2.toNatClampNeg)) - (1 : Int32)) 2400) (qm_gd (vp_in p1 2400) (qm_gd (vp_in p0 600) (some (mm_up (mm_up (mm_up S 7 (upd (S.1 7) p0.toNatClampNeg ((S.1 4) p1.toNatClampNeg))) 8 (upd ((mm_up S 7 (upd (S.1 7) p0.toNatClampNeg ((S.1 4) p1.toNatClampNeg))).1 8) p0.toNatClampNeg ((((mm_up S 7 (upd (S.1 7) p0.toNatClampNeg ((S.1 4) p1.toNatClampNeg))).1 5) p1.toNatClampNeg) + (0 : Int32)))) 9 (upd ((mm_up (mm_up S 7 (upd (S.1 7) p0.toNatClampNeg ((S.1 4) p1.toNatClampNeg))) 8 (upd ((mm_up S 7 (upd (S.1 7) p0.toNatClampNeg ((S.1 4) p1.toNatClampNeg))).1 8) p0.toNatClampNeg ((((mm_up S 7 (upd (S.1 7) p0.toNatClampNeg ((S.1 4) p1.toNatClampNeg))).1 5) p1.toNatClampNeg) + (0 : Int32)))).1 9) p0.toNatClampNeg ((((mm_up (mm_up S 7 (upd (S.1 7) p0.toNatClampNeg ((S.1 4) p1.toNatClampNeg))) 8 (upd ((mm_up S 7 (upd (S.1 7) p0.toNatClampNeg ((S.1 4) p1.toNatClampNeg))).1 8) p0.toNatClampNeg ((((mm_up S 7 (upd (S.1 7) p0.toNatClampNeg ((S.1 4) p1.toNatClampNeg))).1 5) p1.toNatClampNeg) + (0 : Int32)))).1 6) p1.toNatClampNeg) + (((mm_up (mm_up S 7 (upd (S.1 7) p0.toNatClampNeg ((S.1 4) p1.toNatClampNeg))) 8 (upd ((mm_up S 7 (upd (S.1 7) p0.toNatClampNeg ((S.1 4) p1.toNatClampNeg))).1 8) p0.toNatClampNeg ((((mm_up S 7 (upd (S.1 7) p0.toNatClampNeg ((S.1 4) p1.toNatClampNeg))).1 5) p1.toNatClampNeg) + (0 : Int32)))).1 6) ((((600 : Int32) * p2) + (((mm_up (mm_up S 7 (upd (S.1 7) p0.toNatClampNeg ((S.1 4) p1.toNatClampNeg))) 8 (upd ((mm_up S 7 (upd (S.1 7) p0.toNatClampNeg ((S.1 4) p1.toNatClampNeg))).1 8) p0.toNatClampNeg ((((mm_up S 7 (upd (S.1 7) p0.toNatClampNeg ((S.1 4) p1.toNatClampNeg))).1 5) p1.toNatClampNeg) + (0 : Int32)))).1 2) p2.toNatClampNeg)) - (1 : Int32)).toNatClampNeg)))))))))) else qm_gd (vp_in (((600 : Int32) * p2) + p3) 2400) (qm_gd (vp_in p1 2400) (qm_gd (vp_in p0 600) (some (mm_up (mm_up (mm_up S 7 (upd (S.1 7) p0.toNatClampNeg ((S.1 4) p1.toNatClampNeg))) 8 (upd ((mm_up S 7 (upd (S.1 7) p0.toNatClampNeg ((S.1 4) p1.toNatClampNeg))).1 8) p0.toNatClampNeg ((((mm_up S 7 (upd (S.1 7) p0.toNatClampNeg ((S.1 4) p1.toNatClampNeg))).1 5) p1.toNatClampNeg) + (0 : Int32)))) 9 (upd ((mm_up (mm_up S 7 (upd (S.1 7) p0.toNatClampNeg ((S.1 4) p1.toNatClampNeg))) 8 (upd ((mm_up S 7 (upd (S.1 7) p0.toNatClampNeg ((S.1 4) p1.toNatClampNeg))).1 8) p0.toNatClampNeg ((((mm_up S 7 (upd (S.1 7) p0.toNatClampNeg ((S.1 4) p1.toNatClampNeg))).1 5) p1.toNatClampNeg) + (0 : Int32)))).1 9) p0.toNatClampNeg ((((mm_up (mm_up S 7 (upd (S.1 7) p0.toNatClampNeg ((S.1 4) p1.toNatClampNeg))) 8 (upd ((mm_up S 7 (upd (S.1 7) p0.toNatClampNeg ((S.1 4) p1.toNatClampNeg))).1 8) p0.toNatClampNeg ((((mm_up S 7 (upd (S.1 7) p0.toNatClampNeg ((S.1 4) p1.toNatClampNeg))).1 5) p1.toNatClampNeg) + (0 : Int32)))).1 6) p1.toNatClampNeg) + ((((mm_up (mm_up S 7 (upd (S.1 7) p0.toNatClampNeg ((S.1 4) p1.toNatClampNeg))) 8 (upd ((mm_up S 7 (upd (S.1 7) p0.toNatClampNeg ((S.1 4) p1.toNatClampNeg))).1 8) p0.toNatClampNeg ((((mm_up S 7 (upd (S.1 7) p0.toNatClampNeg ((S.1 4) p1.toNatClampNeg))).1 5) p1.toNatClampNeg) + (0 : Int32)))).1 6) (((600 : Int32) * p2) + p3).toNatClampNeg) - (1 : Int32))))))))))) else qm_gd (vp_in ((((600 : Int32) * p2) + p3) - (1 : Int32)) 2400) (qm_gd (vp_in p0 600) (qm_gd (vp_in p2 4) ((if (((mm_up (mm_up S 7 (upd (S.1 7) p0.toNatClampNeg ((S.1 4) p1.toNatClampNeg))) 8 (upd ((mm_up S 7 (upd (S.1 7) p0.toNatClampNeg ((S.1 4) p1.toNatClampNeg))).1 8) p0.toNatClampNeg ((((mm_up S 7 (upd (S.1 7) p0.toNatClampNeg ((S.1 4) p1.toNatClampNeg))).1 5) p1.toNatClampNeg) + (((mm_up S 7 (upd (S.1 7) p0.toNatClampNeg ((S.1 4) p1.toNatClampNeg))).1 5) ((((600 : Int32) * p2) + p3) - (1 : Int32)).toNatClampNeg)))).1 2) p2.toNatClampNeg) ≤ p3 then qm_gd (vp_in p2 4) ((if (((mm_up (mm_up S 7 (upd (S.1 7) p0.toNatClampNeg ((S.1 4) p1.toNatClampNeg))) 8 (upd ((mm_up S 7 (upd (S.1 7) p0.toNatClampNeg ((S.1 4) p1.toNatClampNeg))).1 8) p0.toNatClampNeg ((((mm_up S 7 (upd (S.1 7) p0.toNatClampNeg ((S.1 4) p1.toNatClampNeg))).1 5) p1.toNatClampNeg) + (((mm_up S 7 (upd (S.1 7) p0.toNatClampNeg ((S.1 4) p1.toNatClampNeg))).1 5) ((((600 : Int32) * p2) + p3) - (1 : Int32)).toNatClampNeg)))).1 2) p2.toNatClampNeg) ≤ 0 then qm_gd (vp_in p1 2400) (qm_gd (vp_in p0 600) (some (mm_up (mm_up (mm_up S 7 (upd (S.1 7) p0.toNatClampNeg ((S.1 4) p1.toNatClampNeg))) 8 (upd ((mm_up S 7 (upd (S.1 7) p0.toNatClampNeg ((S.1 4) p1.toNatClampNeg))).1 8) p0.toNatClampNeg ((((mm_up S 7 (upd (S.1 7) p0.toNatClampNeg ((S.1 4) p1.toNatClampNeg))).1 5) p1.toNatClampNeg) + (((mm_up S 7 (upd (S.1 7) p0.toNatClampNeg ((S.1 4) p1.toNatClampNeg))).1 5) ((((600 : Int32) * p2) + p3) - (1 : Int32)).toNatClampNeg)))) 9 (upd ((mm_up (mm_up S 7 (upd (S.1 7) p0.toNatClampNeg ((S.1 4) p1.toNatClampNeg))) 8 (upd ((mm_up S 7 (upd (S.1 7) p0.toNatClampNeg ((S.1 4) p1.toNatClampNeg))).1 8) p0.toNatClampNeg ((((mm_up S 7 (upd (S.1 7) p0.toNatClampNeg ((S.1 4) p1.toNatClampNeg))).1 5) p1.toNatClampNeg) + (((mm_up S 7 (upd (S.1 7) p0.toNatClampNeg ((S.1 4) p1.toNatClampNeg))).1 5) ((((600 : Int32) * p2) + p3) - (1 : Int32)).toNatClampNeg)))).1 9) p0.toNatClampNeg ((((mm_up (mm_up S 7 (upd (S.1 7) p0.toNatClampNeg ((S.1 4) p1.toNatClampNeg))) 8 (upd ((mm_up S 7 (upd (S.1 7) p0.toNatClampNeg ((S.1 4) p1.toNatClampNeg))).1 8) p0.toNatClampNeg ((((mm_up S 7 (upd (S.1 7) p0.toNatClampNeg ((S.1 4) p1.toNatClampNeg))).1 5) p1.toNatClampNeg) + (((mm_up S 7 (upd (S.1 7) p0.toNatClampNeg ((S.1 4) p1.toNatClampNeg))).1 5) ((((600 : Int32) * p2) + p3) - (1 : Int32)).toNatClampNeg)))).1 6) p1.toNatClampNeg) + (0 : Int32)))))) else qm_gd (vp_in p2 4) (qm_gd (vp_in ((((600 : Int32) * p2) + (((mm_up (mm_up S 7 (upd (S.1 7) p0.toNatClampNeg ((S.1 4) p1.toNatClampNeg))) 8 (upd ((mm_up S 7 (upd (S.1 7) p0.toNatClampNeg ((S.1 4) p1.toNatClampNeg))).1 8) p0.toNatClampNeg ((((mm_up S 7 (upd (S.1 7) p0.toNatClampNeg ((S.1 4) p1.toNatClampNeg))).1 5) p1.toNatClampNeg) + (((mm_up S 7 (upd (S.1 7) p0.toNatClampNeg ((S.1 4) p1.toNatClampNeg))).1 5) ((((600 : Int32) * p2) + p3) - (1 : Int32)).toNatClampNeg)))).1 2) p2.toNatClampNeg)) - (1 : Int32)) 2400) (qm_gd (vp_in p1 2400) (qm_gd (vp_in p0 600) (some (mm_up (mm_up (mm_up S 7 (upd (S.1 7) p0.toNatClampNeg ((S.1 4) p1.toNatClampNeg))) 8 (upd ((mm_up S 7 (upd (S.1 7) p0.toNatClampNeg ((S.1 4) p1.toNatClampNeg))).1 8) p0.toNatClampNeg ((((mm_up S 7 (upd (S.1 7) p0.toNatClampNeg ((S.1 4) p1.toNatClampNeg))).1 5) p1.toNatClampNeg) + (((mm_up S 7 (upd (S.1 7) p0.toNatClampNeg ((S.1 4) p1.toNatClampNeg))).1 5) ((((600 : Int32) * p2) + p3) - (1 : Int32)).toNatClampNeg)))) 9 (upd ((mm_up (mm_up S 7 (upd (S.1 7) p0.toNatClampNeg ((S.1 4) p1.toNatClampNeg))) 8 (upd ((mm_up S 7 (upd (S.1 7) p0.toNatClampNeg ((S.1 4) p1.toNatClampNeg))).1 8) p0.toNatClampNeg ((((mm_up S 7 (upd (S.1 7) p0.toNatClampNeg ((S.1 4) p1.toNatClampNeg))).1 5) p1.toNatClampNeg) + (((mm_up S 7 (upd (S.1 7) p0.toNatClampNeg ((S.1 4) p1.toNatClampNeg))).1 5) ((((600 : Int32) * p2) + p3) - (1 : Int32)).toNatClampNeg)))).1 9) p0.toNatClampNeg ((((mm_up (mm_up S 7 (upd (S.1 7) p0.toNatClampNeg ((S.1 4) p1.toNatClampNeg))) 8 (upd ((mm_up S 7 (upd (S.1 7) p0.toNatClampNeg ((S.1 4) p1.toNatClampNeg))).1 8) p0.toNatClampNeg ((((mm_up S 7 (upd (S.1 7) p0.toNatClampNeg ((S.1 4) p1.toNatClampNeg))).1 5) p1.toNatClampNeg) + (((mm_up S 7 (upd (S.1 7) p0.toNatClampNeg ((S.1 4) p1.toNatClampNeg))).1 5) ((((600 : Int32) * p2) + p3) - (1 : Int32)).toNatClampNeg)))).1 6) p1.toNatClampNeg) + (((mm_up (mm_up S 7 (upd (S.1 7) p0.toNatClampNeg ((S.1 4) p1.toNatClampNeg))) 8 (upd ((mm_up S 7 (upd (S.1 7) p0.toNatClampNeg ((S.1 4) p1.toNatClampNeg))).1 8) p0.toNatClampNeg ((((mm_up S 7 (upd (S.1 7) p0.toNatClampNeg ((S.1 4) p1.toNatClampNeg))).1 5) p1.toNatClampNeg) + (((mm_up S 7 (upd (S.1 7) p0.toNatClampNeg ((S.1 4) p1.toNatClampNeg))).1 5) ((((600 : Int32) * p2) + p3) - (1 : Int32)).toNatClampNeg)))).1 6) ((((600 : Int32) * p2) + (((mm_up (mm_up S 7 (upd (S.1 7) p0.toNatClampNeg ((S.1 4) p1.toNatClampNeg))) 8 (upd ((mm_up S 7 (upd (S.1 7) p0.toNatClampNeg ((S.1 4) p1.toNatClampNeg))).1 8) p0.toNatClampNeg ((((mm_up S 7 (upd (S.1 7) p0.toNatClampNeg ((S.1 4) p1.toNatClampNeg))).1 5) p1.toNatClampNeg) + (((mm_up S 7 (upd (S.1 7) p0.toNatClampNeg ((S.1 4) p1.toNatClampNeg))).1 5) ((((600 : Int32) * p2) + p3) - (1 : Int32)).toNatClampNeg)))).1 2) p2.toNatClampNeg)) - (1 : Int32)).toNatClampNeg)))))))))) else qm_gd (vp_in (((600 : Int32) * p2) + p3) 2400) (qm_gd (vp_in p1 2400) (qm_gd (vp_in p0 600) (some (mm_up (mm_up (mm_up S 7 (upd (S.1 7) p0.toNatClampNeg ((S.1 4) p1.toNatClampNeg))) 8 (upd ((mm_up S 7 (upd (S.1 7) p0.toNatClampNeg ((S.1 4) p1.toNatClampNeg))).1 8) p0.toNatClampNeg ((((mm_up S 7 (upd (S.1 7) p0.toNatClampNeg ((S.1 4) p1.toNatClampNeg))).1 5) p1.toNatClampNeg) + (((mm_up S 7 (upd (S.1 7) p0.toNatClampNeg ((S.1 4) p1.toNatClampNeg))).1 5) ((((600 : Int32) * p2) + p3) - (1 : Int32)).toNatClampNeg)))) 9 (upd ((mm_up (mm_up S 7 (upd (S.1 7) p0.toNatClampNeg ((S.1 4) p1.toNatClampNeg))) 8 (upd ((mm_up S 7 (upd (S.1 7) p0.toNatClampNeg ((S.1 4) p1.toNatClampNeg))).1 8) p0.toNatClampNeg ((((mm_up S 7 (upd (S.1 7) p0.toNatClampNeg ((S.1 4) p1.toNatClampNeg))).1 5) p1.toNatClampNeg) + (((mm_up S 7 (upd (S.1 7) p0.toNatClampNeg ((S.1 4) p1.toNatClampNeg))).1 5) ((((600 : Int32) * p2) + p3) - (1 : Int32)).toNatClampNeg)))).1 9) p0.toNatClampNeg ((((mm_up (mm_up S 7 (upd (S.1 7) p0.toNatClampNeg ((S.1 4) p1.toNatClampNeg))) 8 (upd ((mm_up S 7 (upd (S.1 7) p0.toNatClampNeg ((S.1 4) p1.toNatClampNeg))).1 8) p0.toNatClampNeg ((((mm_up S 7 (upd (S.1 7) p0.toNatClampNeg ((S.1 4) p1.toNatClampNeg))).1 5) p1.toNatClampNeg) + (((mm_up S 7 (upd (S.1 7) p0.toNatClampNeg ((S.1 4) p1.toNatClampNeg))).1 5) ((((600 : Int32) * p2) + p3) - (1 : Int32)).toNatClampNeg)))).1 6) p1.toNatClampNeg) + ((((mm_up (mm_up S 7 (upd (S.1 7) p0.toNatClampNeg ((S.1 4) p1.toNatClampNeg))) 8 (upd ((mm_up S 7 (upd (S.1 7) p0.toNatClampNeg ((S.1 4) p1.toNatClampNeg))).1 8) p0.toNatClampNeg ((((mm_up S 7 (upd (S.1 7) p0.toNatClampNeg ((S.1 4) p1.toNatClampNeg))).1 5) p1.toNatClampNeg) + (((mm_up S 7 (upd (S.1 7) p0.toNatClampNeg ((S.1 4) p1.toNatClampNeg))).1 5) ((((600 : Int32) * p2) + p3) - (1 : Int32)).toNatClampNeg)))).1 6) (((600 : Int32) * p2) + p3).toNatClampNeg) - (1 : Int32))))))))))))))))
set_option maxHeartbeats 4000000 in
set_option maxRecDepth 100000 in
theorem kX7_pours (l : Launch) (D : va_G) (A : Nat → Prop) (pre : va_W) (am : Nat → Nat) (cI : ClassId) (S : mm_M) (p0 : Int32) (p1 : Int32) (p2 : Int32) (p3 : Int32) (z : mm_M) (h : fX7_pours S p0 p1 p2 p3 = some z) : Met l yX7_pours wsX7_pours ({ frames := 0, cells := 0, slots := 0, locals := 0 }) (va_Pc [.ref (am 0), .int p0, .int p1, .int p2, .int p3] (qm_B D A (mm_T cI) (mm_W pre am cI S))) (qm_Qv D A (mm_W pre am cI) z) 0 0 A := by
  refine Met.ofW (cc := cX7_pours) (maxL := 7) (ret := none) (by decide) rfl ?_
  intro p e s m args below meth c s₁ B hml hv
  obtain ⟨rfl, hA, hP, hK, hD⟩ := hv
  have hx := B.exec
  have hb := B.bytes
  have hr := B.returns
  have hts := atoms_spec (ws := wsX7_pours) B.pre
  have hown : s.vm.findClass RX7 = some m.cls := findClass_of_methodNamed B.named
  have hlocks := B.notSynchronized
  have hS : va_S A s.heap s.heap [] := va_S.rf
  have hl := lv_entry ([.ref (am 0), .int p0, .int p1, .int p2, .int p3]) (n := 7) (Nat.le_of_ble_eq_true rfl)
  rw [lg_entry_eq]
  generalize (lg_sl ([.ref (am 0), .int p0, .int p1, .int p2, .int p3]) ++ List.replicate (7 - (lg_sl ([.ref (am 0), .int p0, .int p1, .int p2, .int p3])).length) Slot.unset).toArray = ls at hl ⊢
  have hl : lv_has ls 7 [(0, .ref (am 0)), (1, .int p0), (2, .int p1), (3, .int p2), (4, .int p3)] := hl
  rw [fX7_pours] at h
  refine lv_aload_n hx hb dX7_pours_0 rfl (lv_at hl 0 rfl) ?_
  refine va_get (D := D) (ci := 7) (v := .ref (am 8)) (C := RX7) (T := TX7) (N := 11) hx hb hts (by decide +kernel) hown hK hP (pre.length + 0) mg_0 rfl 7 (by decide) (hts (.fieldLink RX7 31 "QueueMiddlesModel" "valueThen" "[I") (by decide +kernel)) (fun _ h9 => h9) rfl dX7_pours_1 ?_
  refine lv_iload_n hx hb dX7_pours_4 rfl (lv_at hl 1 rfl) ?_
  refine lv_aload_n hx hb dX7_pours_5 rfl (lv_at hl 0 rfl) ?_
  refine va_get (D := D) (ci := 7) (v := .ref (am 5)) (C := RX7) (T := TX7) (N := 11) hx hb hts (by decide +kernel) hown hK hP (pre.length + 0) mg_0 rfl 4 (by decide) (hts (.fieldLink RX7 22 "QueueMiddlesModel" "value" "[I") (by decide +kernel)) (fun _ h9 => h9) rfl dX7_pours_6 ?_
  refine lv_iload_n hx hb dX7_pours_9 rfl (lv_at hl 2 rfl) ?_
  obtain ⟨g_1, h⟩ := qm_gd_some h
  refine va_iald hx hb hK hP (pre.length + 5) 0 mg_5 rfl g_1 dX7_pours_10 ?_
  obtain ⟨g_2, h⟩ := qm_gd_some h
  refine va_iast hx hb hK hP hD hS (pre.length + 8) 0 mg_8 rfl g_2 dX7_pours_11 (fun H locs hP hD hS => ?_)
  rw [ms_8 (upd (S.1 7) p0.toNatClampNeg ((S.1 4) p1.toNatClampNeg))] at hP hD
  refine lv_sipush (v := (600 : Int32)) hx hb dX7_pours_12 (by decide) ?_
  refine lv_iload_n hx hb dX7_pours_15 rfl (lv_at hl 3 rfl) ?_
  refine lv_imul hx hb dX7_pours_16 ?_
  refine lv_istore (lv' := [(5, .int ((600 : Int32) * p2)), (0, .ref (am 0)), (1, .int p0), (2, .int p1), (3, .int p2), (4, .int p3)]) hx hb dX7_pours_17 hl (by decide) rfl (fun ls hl => ?_)
  refine lv_aload_n hx hb dX7_pours_19 rfl (lv_at hl 1 rfl) ?_
  refine va_get (D := D) (ci := 7) (v := .ref (am 9)) (C := RX7) (T := TX7) (N := 11) hx hb hts (by decide +kernel) hown hK hP (pre.length + 0) mg_0 rfl 8 (by decide) (hts (.fieldLink RX7 34 "QueueMiddlesModel" "lowestThen" "[I") (by decide +kernel)) (fun _ h9 => h9) rfl dX7_pours_20 ?_
  refine lv_iload_n hx hb dX7_pours_23 rfl (lv_at hl 2 rfl) ?_
  refine lv_aload_n hx hb dX7_pours_24 rfl (lv_at hl 1 rfl) ?_
  refine va_get (D := D) (ci := 7) (v := .ref (am 6)) (C := RX7) (T := TX7) (N := 11) hx hb hts (by decide +kernel) hown hK hP (pre.length + 0) mg_0 rfl 5 (by decide) (hts (.fieldLink RX7 25 "QueueMiddlesModel" "lowest" "[I") (by decide +kernel)) (fun _ h9 => h9) rfl dX7_pours_25 ?_
  refine lv_iload_n hx hb dX7_pours_28 rfl (lv_at hl 3 rfl) ?_
  obtain ⟨g_3, h⟩ := qm_gd_some h
  refine va_iald hx hb hK hP (pre.length + 6) 0 mg_6 rfl g_3 dX7_pours_29 ?_
  refine lv_iload hx hb dX7_pours_30 (lv_at hl 5 rfl) ?_
  refine lv_if_ne (tgt := 39) hx hb dX7_pours_32 (by decide) (fun c_4 => ?_) (fun c_4 => ?_)
  · rw [if_neg c_4] at h
    refine lv_aload_n hx hb dX7_pours_39 rfl (lv_at hl 1 rfl) ?_
    refine va_get (D := D) (ci := 7) (v := .ref (am 6)) (C := RX7) (T := TX7) (N := 11) hx hb hts (by decide +kernel) hown hK hP (pre.length + 0) mg_0 rfl 5 (by decide) (hts (.fieldLink RX7 25 "QueueMiddlesModel" "lowest" "[I") (by decide +kernel)) (fun _ h9 => h9) rfl dX7_pours_40 ?_
    refine lv_iload hx hb dX7_pours_43 (lv_at hl 0 rfl) ?_
    refine lv_iload hx hb dX7_pours_45 (lv_at hl 5 rfl) ?_
    refine lv_iadd hx hb dX7_pours_47 ?_
    refine lv_iconst (v := (1 : Int32)) hx hb dX7_pours_48 (by decide) ?_
    refine lv_isub hx hb dX7_pours_49 ?_
    obtain ⟨g_5, h⟩ := qm_gd_some h
    refine va_iald hx hb hK hP (pre.length + 6) 0 mg_6 rfl g_5 dX7_pours_50 ?_
    refine lv_iadd hx hb dX7_pours_51 ?_
    obtain ⟨g_6, h⟩ := qm_gd_some h
    refine va_iast hx hb hK hP hD hS (pre.length + 9) 0 mg_9 rfl g_6 dX7_pours_52 (fun H locs hP hD hS => ?_)
    rw [ms_9 (upd ((mm_up S 7 (upd (S.1 7) p0.toNatClampNeg ((S.1 4) p1.toNatClampNeg))).1 8) p0.toNatClampNeg ((((mm_up S 7 (upd (S.1 7) p0.toNatClampNeg ((S.1 4) p1.toNatClampNeg))).1 5) p1.toNatClampNeg) + (((mm_up S 7 (upd (S.1 7) p0.toNatClampNeg ((S.1 4) p1.toNatClampNeg))).1 5) ((((600 : Int32) * p2) + p3) - (1 : Int32)).toNatClampNeg)))] at hP hD
    refine lv_iconst (v := (0 : Int32)) hx hb dX7_pours_53 (by decide) ?_
    refine lv_istore (lv' := [(6, .int (0 : Int32)), (5, .int ((600 : Int32) * p2)), (0, .ref (am 0)), (1, .int p0), (2, .int p1), (3, .int p2), (4, .int p3)]) hx hb dX7_pours_54 hl (by decide) rfl (fun ls hl => ?_)
    refine lv_iload hx hb dX7_pours_56 (lv_at hl 6 rfl) ?_
    refine lv_aload_n hx hb dX7_pours_58 rfl (lv_at hl 2 rfl) ?_
    refine va_get (D := D) (ci := 7) (v := .ref (am 3)) (C := RX7) (T := TX7) (N := 11) hx hb hts (by decide +kernel) hown hK hP (pre.length + 0) mg_0 rfl 2 (by decide) (hts (.fieldLink RX7 16 "QueueMiddlesModel" "marks" "[I") (by decide +kernel)) (fun _ h9 => h9) rfl dX7_pours_59 ?_
    refine lv_iload_n hx hb dX7_pours_62 rfl (lv_at hl 5 rfl) ?_
    obtain ⟨g_7, h⟩ := qm_gd_some h
    refine va_iald hx hb hK hP (pre.length + 3) 0 mg_3 rfl g_7 dX7_pours_63 ?_
    refine lv_icmp_ge (tgt := 84) hx hb dX7_pours_64 (by decide) (fun c_8 => ?_) (fun c_8 => ?_)
    · rw [if_pos c_8] at h
      refine lv_aload_n hx hb dX7_pours_84 rfl (lv_at hl 2 rfl) ?_
      refine va_get (D := D) (ci := 7) (v := .ref (am 3)) (C := RX7) (T := TX7) (N := 11) hx hb hts (by decide +kernel) hown hK hP (pre.length + 0) mg_0 rfl 2 (by decide) (hts (.fieldLink RX7 16 "QueueMiddlesModel" "marks" "[I") (by decide +kernel)) (fun _ h9 => h9) rfl dX7_pours_85 ?_
      refine lv_iload_n hx hb dX7_pours_88 rfl (lv_at hl 5 rfl) ?_
      obtain ⟨g_9, h⟩ := qm_gd_some h
      refine va_iald hx hb hK hP (pre.length + 3) 0 mg_3 rfl g_9 dX7_pours_89 ?_
      refine lv_if_le (tgt := 111) hx hb dX7_pours_90 (by decide) (fun c_10 => ?_) (fun c_10 => ?_)
      · rw [if_pos c_10] at h
        refine lv_aload_n hx hb dX7_pours_111 rfl (lv_at hl 2 rfl) ?_
        refine va_get (D := D) (ci := 7) (v := .ref (am 10)) (C := RX7) (T := TX7) (N := 11) hx hb hts (by decide +kernel) hown hK hP (pre.length + 0) mg_0 rfl 9 (by decide) (hts (.fieldLink RX7 37 "QueueMiddlesModel" "highestThen" "[I") (by decide +kernel)) (fun _ h9 => h9) rfl dX7_pours_112 ?_
        refine lv_iload_n hx hb dX7_pours_115 rfl (lv_at hl 3 rfl) ?_
        refine lv_aload_n hx hb dX7_pours_116 rfl (lv_at hl 2 rfl) ?_
        refine va_get (D := D) (ci := 7) (v := .ref (am 7)) (C := RX7) (T := TX7) (N := 11) hx hb hts (by decide +kernel) hown hK hP (pre.length + 0) mg_0 rfl 6 (by decide) (hts (.fieldLink RX7 28 "QueueMiddlesModel" "highest" "[I") (by decide +kernel)) (fun _ h9 => h9) rfl dX7_pours_117 ?_
        refine lv_iload_n hx hb dX7_pours_120 rfl (lv_at hl 4 rfl) ?_
        obtain ⟨g_11, h⟩ := qm_gd_some h
        refine va_iald hx hb hK hP (pre.length + 7) 0 mg_7 rfl g_11 dX7_pours_121 ?_
        refine lv_iload hx hb dX7_pours_122 (lv_at hl 0 rfl) ?_
        refine lv_iadd hx hb dX7_pours_124 ?_
        obtain ⟨g_12, h⟩ := qm_gd_some h
        refine va_iast hx hb hK hP hD hS (pre.length + 10) 0 mg_10 rfl g_12 dX7_pours_125 (fun H locs hP hD hS => ?_)
        rw [ms_10 (upd ((mm_up (mm_up S 7 (upd (S.1 7) p0.toNatClampNeg ((S.1 4) p1.toNatClampNeg))) 8 (upd ((mm_up S 7 (upd (S.1 7) p0.toNatClampNeg ((S.1 4) p1.toNatClampNeg))).1 8) p0.toNatClampNeg ((((mm_up S 7 (upd (S.1 7) p0.toNatClampNeg ((S.1 4) p1.toNatClampNeg))).1 5) p1.toNatClampNeg) + (((mm_up S 7 (upd (S.1 7) p0.toNatClampNeg ((S.1 4) p1.toNatClampNeg))).1 5) ((((600 : Int32) * p2) + p3) - (1 : Int32)).toNatClampNeg)))).1 9) p0.toNatClampNeg ((((mm_up (mm_up S 7 (upd (S.1 7) p0.toNatClampNeg ((S.1 4) p1.toNatClampNeg))) 8 (upd ((mm_up S 7 (upd (S.1 7) p0.toNatClampNeg ((S.1 4) p1.toNatClampNeg))).1 8) p0.toNatClampNeg ((((mm_up S 7 (upd (S.1 7) p0.toNatClampNeg ((S.1 4) p1.toNatClampNeg))).1 5) p1.toNatClampNeg) + (((mm_up S 7 (upd (S.1 7) p0.toNatClampNeg ((S.1 4) p1.toNatClampNeg))).1 5) ((((600 : Int32) * p2) + p3) - (1 : Int32)).toNatClampNeg)))).1 6) p1.toNatClampNeg) + (0 : Int32)))] at hP hD
        have h := Option.some.inj h
        subst h
        exact W.vret hx hb hr (fun t ht hW => ⟨⟨mm_up (mm_up (mm_up S 7 (upd (S.1 7) p0.toNatClampNeg ((S.1 4) p1.toNatClampNeg))) 8 (upd ((mm_up S 7 (upd (S.1 7) p0.toNatClampNeg ((S.1 4) p1.toNatClampNeg))).1 8) p0.toNatClampNeg ((((mm_up S 7 (upd (S.1 7) p0.toNatClampNeg ((S.1 4) p1.toNatClampNeg))).1 5) p1.toNatClampNeg) + (((mm_up S 7 (upd (S.1 7) p0.toNatClampNeg ((S.1 4) p1.toNatClampNeg))).1 5) ((((600 : Int32) * p2) + p3) - (1 : Int32)).toNatClampNeg)))) 9 (upd ((mm_up (mm_up S 7 (upd (S.1 7) p0.toNatClampNeg ((S.1 4) p1.toNatClampNeg))) 8 (upd ((mm_up S 7 (upd (S.1 7) p0.toNatClampNeg ((S.1 4) p1.toNatClampNeg))).1 8) p0.toNatClampNeg ((((mm_up S 7 (upd (S.1 7) p0.toNatClampNeg ((S.1 4) p1.toNatClampNeg))).1 5) p1.toNatClampNeg) + (((mm_up S 7 (upd (S.1 7) p0.toNatClampNeg ((S.1 4) p1.toNatClampNeg))).1 5) ((((600 : Int32) * p2) + p3) - (1 : Int32)).toNatClampNeg)))).1 9) p0.toNatClampNeg ((((mm_up (mm_up S 7 (upd (S.1 7) p0.toNatClampNeg ((S.1 4) p1.toNatClampNeg))) 8 (upd ((mm_up S 7 (upd (S.1 7) p0.toNatClampNeg ((S.1 4) p1.toNatClampNeg))).1 8) p0.toNatClampNeg ((((mm_up S 7 (upd (S.1 7) p0.toNatClampNeg ((S.1 4) p1.toNatClampNeg))).1 5) p1.toNatClampNeg) + (((mm_up S 7 (upd (S.1 7) p0.toNatClampNeg ((S.1 4) p1.toNatClampNeg))).1 5) ((((600 : Int32) * p2) + p3) - (1 : Int32)).toNatClampNeg)))).1 6) p1.toNatClampNeg) + (0 : Int32))), rfl, rfl, qm_en ht hP hD⟩, hS.F ht⟩) hS.2.2 dX7_pours_126
      · rw [if_neg c_10] at h
        refine lv_aload_n hx hb dX7_pours_93 rfl (lv_at hl 2 rfl) ?_
        refine va_get (D := D) (ci := 7) (v := .ref (am 7)) (C := RX7) (T := TX7) (N := 11) hx hb hts (by decide +kernel) hown hK hP (pre.length + 0) mg_0 rfl 6 (by decide) (hts (.fieldLink RX7 28 "QueueMiddlesModel" "highest" "[I") (by decide +kernel)) (fun _ h9 => h9) rfl dX7_pours_94 ?_
        refine lv_iload hx hb dX7_pours_97 (lv_at hl 1 rfl) ?_
        refine lv_aload_n hx hb dX7_pours_99 rfl (lv_at hl 2 rfl) ?_
        refine va_get (D := D) (ci := 7) (v := .ref (am 3)) (C := RX7) (T := TX7) (N := 11) hx hb hts (by decide +kernel) hown hK hP (pre.length + 0) mg_0 rfl 2 (by decide) (hts (.fieldLink RX7 16 "QueueMiddlesModel" "marks" "[I") (by decide +kernel)) (fun _ h9 => h9) rfl dX7_pours_100 ?_
        refine lv_iload_n hx hb dX7_pours_103 rfl (lv_at hl 5 rfl) ?_
        obtain ⟨g_13, h⟩ := qm_gd_some h
        refine va_iald hx hb hK hP (pre.length + 3) 0 mg_3 rfl g_13 dX7_pours_104 ?_
        refine lv_iadd hx hb dX7_pours_105 ?_
        refine lv_iconst (v := (1 : Int32)) hx hb dX7_pours_106 (by decide) ?_
        refine lv_isub hx hb dX7_pours_107 ?_
        obtain ⟨g_14, h⟩ := qm_gd_some h
        refine va_iald hx hb hK hP (pre.length + 7) 0 mg_7 rfl g_14 dX7_pours_108 ?_
        refine lv_istore (lv' := [(6, .int (((mm_up (mm_up S 7 (upd (S.1 7) p0.toNatClampNeg ((S.1 4) p1.toNatClampNeg))) 8 (upd ((mm_up S 7 (upd (S.1 7) p0.toNatClampNeg ((S.1 4) p1.toNatClampNeg))).1 8) p0.toNatClampNeg ((((mm_up S 7 (upd (S.1 7) p0.toNatClampNeg ((S.1 4) p1.toNatClampNeg))).1 5) p1.toNatClampNeg) + (((mm_up S 7 (upd (S.1 7) p0.toNatClampNeg ((S.1 4) p1.toNatClampNeg))).1 5) ((((600 : Int32) * p2) + p3) - (1 : Int32)).toNatClampNeg)))).1 6) ((((600 : Int32) * p2) + (((mm_up (mm_up S 7 (upd (S.1 7) p0.toNatClampNeg ((S.1 4) p1.toNatClampNeg))) 8 (upd ((mm_up S 7 (upd (S.1 7) p0.toNatClampNeg ((S.1 4) p1.toNatClampNeg))).1 8) p0.toNatClampNeg ((((mm_up S 7 (upd (S.1 7) p0.toNatClampNeg ((S.1 4) p1.toNatClampNeg))).1 5) p1.toNatClampNeg) + (((mm_up S 7 (upd (S.1 7) p0.toNatClampNeg ((S.1 4) p1.toNatClampNeg))).1 5) ((((600 : Int32) * p2) + p3) - (1 : Int32)).toNatClampNeg)))).1 2) p2.toNatClampNeg)) - (1 : Int32)).toNatClampNeg)), (5, .int ((600 : Int32) * p2)), (0, .ref (am 0)), (1, .int p0), (2, .int p1), (3, .int p2), (4, .int p3)]) hx hb dX7_pours_109 hl (by decide) rfl (fun ls hl => ?_)
        refine lv_aload_n hx hb dX7_pours_111 rfl (lv_at hl 2 rfl) ?_
        refine va_get (D := D) (ci := 7) (v := .ref (am 10)) (C := RX7) (T := TX7) (N := 11) hx hb hts (by decide +kernel) hown hK hP (pre.length + 0) mg_0 rfl 9 (by decide) (hts (.fieldLink RX7 37 "QueueMiddlesModel" "highestThen" "[I") (by decide +kernel)) (fun _ h9 => h9) rfl dX7_pours_112 ?_
        refine lv_iload_n hx hb dX7_pours_115 rfl (lv_at hl 3 rfl) ?_
        refine lv_aload_n hx hb dX7_pours_116 rfl (lv_at hl 2 rfl) ?_
        refine va_get (D := D) (ci := 7) (v := .ref (am 7)) (C := RX7) (T := TX7) (N := 11) hx hb hts (by decide +kernel) hown hK hP (pre.length + 0) mg_0 rfl 6 (by decide) (hts (.fieldLink RX7 28 "QueueMiddlesModel" "highest" "[I") (by decide +kernel)) (fun _ h9 => h9) rfl dX7_pours_117 ?_
        refine lv_iload_n hx hb dX7_pours_120 rfl (lv_at hl 4 rfl) ?_
        obtain ⟨g_15, h⟩ := qm_gd_some h
        refine va_iald hx hb hK hP (pre.length + 7) 0 mg_7 rfl g_15 dX7_pours_121 ?_
        refine lv_iload hx hb dX7_pours_122 (lv_at hl 0 rfl) ?_
        refine lv_iadd hx hb dX7_pours_124 ?_
        obtain ⟨g_16, h⟩ := qm_gd_some h
        refine va_iast hx hb hK hP hD hS (pre.length + 10) 0 mg_10 rfl g_16 dX7_pours_125 (fun H locs hP hD hS => ?_)
        rw [ms_10 (upd ((mm_up (mm_up S 7 (upd (S.1 7) p0.toNatClampNeg ((S.1 4) p1.toNatClampNeg))) 8 (upd ((mm_up S 7 (upd (S.1 7) p0.toNatClampNeg ((S.1 4) p1.toNatClampNeg))).1 8) p0.toNatClampNeg ((((mm_up S 7 (upd (S.1 7) p0.toNatClampNeg ((S.1 4) p1.toNatClampNeg))).1 5) p1.toNatClampNeg) + (((mm_up S 7 (upd (S.1 7) p0.toNatClampNeg ((S.1 4) p1.toNatClampNeg))).1 5) ((((600 : Int32) * p2) + p3) - (1 : Int32)).toNatClampNeg)))).1 9) p0.toNatClampNeg ((((mm_up (mm_up S 7 (upd (S.1 7) p0.toNatClampNeg ((S.1 4) p1.toNatClampNeg))) 8 (upd ((mm_up S 7 (upd (S.1 7) p0.toNatClampNeg ((S.1 4) p1.toNatClampNeg))).1 8) p0.toNatClampNeg ((((mm_up S 7 (upd (S.1 7) p0.toNatClampNeg ((S.1 4) p1.toNatClampNeg))).1 5) p1.toNatClampNeg) + (((mm_up S 7 (upd (S.1 7) p0.toNatClampNeg ((S.1 4) p1.toNatClampNeg))).1 5) ((((600 : Int32) * p2) + p3) - (1 : Int32)).toNatClampNeg)))).1 6) p1.toNatClampNeg) + (((mm_up (mm_up S 7 (upd (S.1 7) p0.toNatClampNeg ((S.1 4) p1.toNatClampNeg))) 8 (upd ((mm_up S 7 (upd (S.1 7) p0.toNatClampNeg ((S.1 4) p1.toNatClampNeg))).1 8) p0.toNatClampNeg ((((mm_up S 7 (upd (S.1 7) p0.toNatClampNeg ((S.1 4) p1.toNatClampNeg))).1 5) p1.toNatClampNeg) + (((mm_up S 7 (upd (S.1 7) p0.toNatClampNeg ((S.1 4) p1.toNatClampNeg))).1 5) ((((600 : Int32) * p2) + p3) - (1 : Int32)).toNatClampNeg)))).1 6) ((((600 : Int32) * p2) + (((mm_up (mm_up S 7 (upd (S.1 7) p0.toNatClampNeg ((S.1 4) p1.toNatClampNeg))) 8 (upd ((mm_up S 7 (upd (S.1 7) p0.toNatClampNeg ((S.1 4) p1.toNatClampNeg))).1 8) p0.toNatClampNeg ((((mm_up S 7 (upd (S.1 7) p0.toNatClampNeg ((S.1 4) p1.toNatClampNeg))).1 5) p1.toNatClampNeg) + (((mm_up S 7 (upd (S.1 7) p0.toNatClampNeg ((S.1 4) p1.toNatClampNeg))).1 5) ((((600 : Int32) * p2) + p3) - (1 : Int32)).toNatClampNeg)))).1 2) p2.toNatClampNeg)) - (1 : Int32)).toNatClampNeg)))] at hP hD
        have h := Option.some.inj h
        subst h
        exact W.vret hx hb hr (fun t ht hW => ⟨⟨mm_up (mm_up (mm_up S 7 (upd (S.1 7) p0.toNatClampNeg ((S.1 4) p1.toNatClampNeg))) 8 (upd ((mm_up S 7 (upd (S.1 7) p0.toNatClampNeg ((S.1 4) p1.toNatClampNeg))).1 8) p0.toNatClampNeg ((((mm_up S 7 (upd (S.1 7) p0.toNatClampNeg ((S.1 4) p1.toNatClampNeg))).1 5) p1.toNatClampNeg) + (((mm_up S 7 (upd (S.1 7) p0.toNatClampNeg ((S.1 4) p1.toNatClampNeg))).1 5) ((((600 : Int32) * p2) + p3) - (1 : Int32)).toNatClampNeg)))) 9 (upd ((mm_up (mm_up S 7 (upd (S.1 7) p0.toNatClampNeg ((S.1 4) p1.toNatClampNeg))) 8 (upd ((mm_up S 7 (upd (S.1 7) p0.toNatClampNeg ((S.1 4) p1.toNatClampNeg))).1 8) p0.toNatClampNeg ((((mm_up S 7 (upd (S.1 7) p0.toNatClampNeg ((S.1 4) p1.toNatClampNeg))).1 5) p1.toNatClampNeg) + (((mm_up S 7 (upd (S.1 7) p0.toNatClampNeg ((S.1 4) p1.toNatClampNeg))).1 5) ((((600 : Int32) * p2) + p3) - (1 : Int32)).toNatClampNeg)))).1 9) p0.toNatClampNeg ((((mm_up (mm_up S 7 (upd (S.1 7) p0.toNatClampNeg ((S.1 4) p1.toNatClampNeg))) 8 (upd ((mm_up S 7 (upd (S.1 7) p0.toNatClampNeg ((S.1 4) p1.toNatClampNeg))).1 8) p0.toNatClampNeg ((((mm_up S 7 (upd (S.1 7) p0.toNatClampNeg ((S.1 4) p1.toNatClampNeg))).1 5) p1.toNatClampNeg) + (((mm_up S 7 (upd (S.1 7) p0.toNatClampNeg ((S.1 4) p1.toNatClampNeg))).1 5) ((((600 : Int32) * p2) + p3) - (1 : Int32)).toNatClampNeg)))).1 6) p1.toNatClampNeg) + (((mm_up (mm_up S 7 (upd (S.1 7) p0.toNatClampNeg ((S.1 4) p1.toNatClampNeg))) 8 (upd ((mm_up S 7 (upd (S.1 7) p0.toNatClampNeg ((S.1 4) p1.toNatClampNeg))).1 8) p0.toNatClampNeg ((((mm_up S 7 (upd (S.1 7) p0.toNatClampNeg ((S.1 4) p1.toNatClampNeg))).1 5) p1.toNatClampNeg) + (((mm_up S 7 (upd (S.1 7) p0.toNatClampNeg ((S.1 4) p1.toNatClampNeg))).1 5) ((((600 : Int32) * p2) + p3) - (1 : Int32)).toNatClampNeg)))).1 6) ((((600 : Int32) * p2) + (((mm_up (mm_up S 7 (upd (S.1 7) p0.toNatClampNeg ((S.1 4) p1.toNatClampNeg))) 8 (upd ((mm_up S 7 (upd (S.1 7) p0.toNatClampNeg ((S.1 4) p1.toNatClampNeg))).1 8) p0.toNatClampNeg ((((mm_up S 7 (upd (S.1 7) p0.toNatClampNeg ((S.1 4) p1.toNatClampNeg))).1 5) p1.toNatClampNeg) + (((mm_up S 7 (upd (S.1 7) p0.toNatClampNeg ((S.1 4) p1.toNatClampNeg))).1 5) ((((600 : Int32) * p2) + p3) - (1 : Int32)).toNatClampNeg)))).1 2) p2.toNatClampNeg)) - (1 : Int32)).toNatClampNeg))), rfl, rfl, qm_en ht hP hD⟩, hS.F ht⟩) hS.2.2 dX7_pours_126
    · rw [if_neg c_8] at h
      refine lv_aload_n hx hb dX7_pours_67 rfl (lv_at hl 2 rfl) ?_
      refine va_get (D := D) (ci := 7) (v := .ref (am 7)) (C := RX7) (T := TX7) (N := 11) hx hb hts (by decide +kernel) hown hK hP (pre.length + 0) mg_0 rfl 6 (by decide) (hts (.fieldLink RX7 28 "QueueMiddlesModel" "highest" "[I") (by decide +kernel)) (fun _ h9 => h9) rfl dX7_pours_68 ?_
      refine lv_iload hx hb dX7_pours_71 (lv_at hl 1 rfl) ?_
      refine lv_iload hx hb dX7_pours_73 (lv_at hl 6 rfl) ?_
      refine lv_iadd hx hb dX7_pours_75 ?_
      obtain ⟨g_17, h⟩ := qm_gd_some h
      refine va_iald hx hb hK hP (pre.length + 7) 0 mg_7 rfl g_17 dX7_pours_76 ?_
      refine lv_iconst (v := (1 : Int32)) hx hb dX7_pours_77 (by decide) ?_
      refine lv_isub hx hb dX7_pours_78 ?_
      refine lv_istore (lv' := [(6, .int ((((mm_up (mm_up S 7 (upd (S.1 7) p0.toNatClampNeg ((S.1 4) p1.toNatClampNeg))) 8 (upd ((mm_up S 7 (upd (S.1 7) p0.toNatClampNeg ((S.1 4) p1.toNatClampNeg))).1 8) p0.toNatClampNeg ((((mm_up S 7 (upd (S.1 7) p0.toNatClampNeg ((S.1 4) p1.toNatClampNeg))).1 5) p1.toNatClampNeg) + (((mm_up S 7 (upd (S.1 7) p0.toNatClampNeg ((S.1 4) p1.toNatClampNeg))).1 5) ((((600 : Int32) * p2) + p3) - (1 : Int32)).toNatClampNeg)))).1 6) (((600 : Int32) * p2) + p3).toNatClampNeg) - (1 : Int32))), (5, .int ((600 : Int32) * p2)), (0, .ref (am 0)), (1, .int p0), (2, .int p1), (3, .int p2), (4, .int p3)]) hx hb dX7_pours_79 hl (by decide) rfl (fun ls hl => ?_)
      refine lv_goto (tgt := 111) hx hb dX7_pours_81 (by decide) ?_
      refine lv_aload_n hx hb dX7_pours_111 rfl (lv_at hl 2 rfl) ?_
      refine va_get (D := D) (ci := 7) (v := .ref (am 10)) (C := RX7) (T := TX7) (N := 11) hx hb hts (by decide +kernel) hown hK hP (pre.length + 0) mg_0 rfl 9 (by decide) (hts (.fieldLink RX7 37 "QueueMiddlesModel" "highestThen" "[I") (by decide +kernel)) (fun _ h9 => h9) rfl dX7_pours_112 ?_
      refine lv_iload_n hx hb dX7_pours_115 rfl (lv_at hl 3 rfl) ?_
      refine lv_aload_n hx hb dX7_pours_116 rfl (lv_at hl 2 rfl) ?_
      refine va_get (D := D) (ci := 7) (v := .ref (am 7)) (C := RX7) (T := TX7) (N := 11) hx hb hts (by decide +kernel) hown hK hP (pre.length + 0) mg_0 rfl 6 (by decide) (hts (.fieldLink RX7 28 "QueueMiddlesModel" "highest" "[I") (by decide +kernel)) (fun _ h9 => h9) rfl dX7_pours_117 ?_
      refine lv_iload_n hx hb dX7_pours_120 rfl (lv_at hl 4 rfl) ?_
      obtain ⟨g_18, h⟩ := qm_gd_some h
      refine va_iald hx hb hK hP (pre.length + 7) 0 mg_7 rfl g_18 dX7_pours_121 ?_
      refine lv_iload hx hb dX7_pours_122 (lv_at hl 0 rfl) ?_
      refine lv_iadd hx hb dX7_pours_124 ?_
      obtain ⟨g_19, h⟩ := qm_gd_some h
      refine va_iast hx hb hK hP hD hS (pre.length + 10) 0 mg_10 rfl g_19 dX7_pours_125 (fun H locs hP hD hS => ?_)
      rw [ms_10 (upd ((mm_up (mm_up S 7 (upd (S.1 7) p0.toNatClampNeg ((S.1 4) p1.toNatClampNeg))) 8 (upd ((mm_up S 7 (upd (S.1 7) p0.toNatClampNeg ((S.1 4) p1.toNatClampNeg))).1 8) p0.toNatClampNeg ((((mm_up S 7 (upd (S.1 7) p0.toNatClampNeg ((S.1 4) p1.toNatClampNeg))).1 5) p1.toNatClampNeg) + (((mm_up S 7 (upd (S.1 7) p0.toNatClampNeg ((S.1 4) p1.toNatClampNeg))).1 5) ((((600 : Int32) * p2) + p3) - (1 : Int32)).toNatClampNeg)))).1 9) p0.toNatClampNeg ((((mm_up (mm_up S 7 (upd (S.1 7) p0.toNatClampNeg ((S.1 4) p1.toNatClampNeg))) 8 (upd ((mm_up S 7 (upd (S.1 7) p0.toNatClampNeg ((S.1 4) p1.toNatClampNeg))).1 8) p0.toNatClampNeg ((((mm_up S 7 (upd (S.1 7) p0.toNatClampNeg ((S.1 4) p1.toNatClampNeg))).1 5) p1.toNatClampNeg) + (((mm_up S 7 (upd (S.1 7) p0.toNatClampNeg ((S.1 4) p1.toNatClampNeg))).1 5) ((((600 : Int32) * p2) + p3) - (1 : Int32)).toNatClampNeg)))).1 6) p1.toNatClampNeg) + ((((mm_up (mm_up S 7 (upd (S.1 7) p0.toNatClampNeg ((S.1 4) p1.toNatClampNeg))) 8 (upd ((mm_up S 7 (upd (S.1 7) p0.toNatClampNeg ((S.1 4) p1.toNatClampNeg))).1 8) p0.toNatClampNeg ((((mm_up S 7 (upd (S.1 7) p0.toNatClampNeg ((S.1 4) p1.toNatClampNeg))).1 5) p1.toNatClampNeg) + (((mm_up S 7 (upd (S.1 7) p0.toNatClampNeg ((S.1 4) p1.toNatClampNeg))).1 5) ((((600 : Int32) * p2) + p3) - (1 : Int32)).toNatClampNeg)))).1 6) (((600 : Int32) * p2) + p3).toNatClampNeg) - (1 : Int32))))] at hP hD
      have h := Option.some.inj h
      subst h
      exact W.vret hx hb hr (fun t ht hW => ⟨⟨mm_up (mm_up (mm_up S 7 (upd (S.1 7) p0.toNatClampNeg ((S.1 4) p1.toNatClampNeg))) 8 (upd ((mm_up S 7 (upd (S.1 7) p0.toNatClampNeg ((S.1 4) p1.toNatClampNeg))).1 8) p0.toNatClampNeg ((((mm_up S 7 (upd (S.1 7) p0.toNatClampNeg ((S.1 4) p1.toNatClampNeg))).1 5) p1.toNatClampNeg) + (((mm_up S 7 (upd (S.1 7) p0.toNatClampNeg ((S.1 4) p1.toNatClampNeg))).1 5) ((((600 : Int32) * p2) + p3) - (1 : Int32)).toNatClampNeg)))) 9 (upd ((mm_up (mm_up S 7 (upd (S.1 7) p0.toNatClampNeg ((S.1 4) p1.toNatClampNeg))) 8 (upd ((mm_up S 7 (upd (S.1 7) p0.toNatClampNeg ((S.1 4) p1.toNatClampNeg))).1 8) p0.toNatClampNeg ((((mm_up S 7 (upd (S.1 7) p0.toNatClampNeg ((S.1 4) p1.toNatClampNeg))).1 5) p1.toNatClampNeg) + (((mm_up S 7 (upd (S.1 7) p0.toNatClampNeg ((S.1 4) p1.toNatClampNeg))).1 5) ((((600 : Int32) * p2) + p3) - (1 : Int32)).toNatClampNeg)))).1 9) p0.toNatClampNeg ((((mm_up (mm_up S 7 (upd (S.1 7) p0.toNatClampNeg ((S.1 4) p1.toNatClampNeg))) 8 (upd ((mm_up S 7 (upd (S.1 7) p0.toNatClampNeg ((S.1 4) p1.toNatClampNeg))).1 8) p0.toNatClampNeg ((((mm_up S 7 (upd (S.1 7) p0.toNatClampNeg ((S.1 4) p1.toNatClampNeg))).1 5) p1.toNatClampNeg) + (((mm_up S 7 (upd (S.1 7) p0.toNatClampNeg ((S.1 4) p1.toNatClampNeg))).1 5) ((((600 : Int32) * p2) + p3) - (1 : Int32)).toNatClampNeg)))).1 6) p1.toNatClampNeg) + ((((mm_up (mm_up S 7 (upd (S.1 7) p0.toNatClampNeg ((S.1 4) p1.toNatClampNeg))) 8 (upd ((mm_up S 7 (upd (S.1 7) p0.toNatClampNeg ((S.1 4) p1.toNatClampNeg))).1 8) p0.toNatClampNeg ((((mm_up S 7 (upd (S.1 7) p0.toNatClampNeg ((S.1 4) p1.toNatClampNeg))).1 5) p1.toNatClampNeg) + (((mm_up S 7 (upd (S.1 7) p0.toNatClampNeg ((S.1 4) p1.toNatClampNeg))).1 5) ((((600 : Int32) * p2) + p3) - (1 : Int32)).toNatClampNeg)))).1 6) (((600 : Int32) * p2) + p3).toNatClampNeg) - (1 : Int32)))), rfl, rfl, qm_en ht hP hD⟩, hS.F ht⟩) hS.2.2 dX7_pours_126
  · rw [if_pos c_4] at h
    refine lv_iconst (v := (0 : Int32)) hx hb dX7_pours_35 (by decide) ?_
    refine lv_goto (tgt := 51) hx hb dX7_pours_36 (by decide) ?_
    refine lv_iadd hx hb dX7_pours_51 ?_
    obtain ⟨g_20, h⟩ := qm_gd_some h
    refine va_iast hx hb hK hP hD hS (pre.length + 9) 0 mg_9 rfl g_20 dX7_pours_52 (fun H locs hP hD hS => ?_)
    rw [ms_9 (upd ((mm_up S 7 (upd (S.1 7) p0.toNatClampNeg ((S.1 4) p1.toNatClampNeg))).1 8) p0.toNatClampNeg ((((mm_up S 7 (upd (S.1 7) p0.toNatClampNeg ((S.1 4) p1.toNatClampNeg))).1 5) p1.toNatClampNeg) + (0 : Int32)))] at hP hD
    refine lv_iconst (v := (0 : Int32)) hx hb dX7_pours_53 (by decide) ?_
    refine lv_istore (lv' := [(6, .int (0 : Int32)), (5, .int ((600 : Int32) * p2)), (0, .ref (am 0)), (1, .int p0), (2, .int p1), (3, .int p2), (4, .int p3)]) hx hb dX7_pours_54 hl (by decide) rfl (fun ls hl => ?_)
    refine lv_iload hx hb dX7_pours_56 (lv_at hl 6 rfl) ?_
    refine lv_aload_n hx hb dX7_pours_58 rfl (lv_at hl 2 rfl) ?_
    refine va_get (D := D) (ci := 7) (v := .ref (am 3)) (C := RX7) (T := TX7) (N := 11) hx hb hts (by decide +kernel) hown hK hP (pre.length + 0) mg_0 rfl 2 (by decide) (hts (.fieldLink RX7 16 "QueueMiddlesModel" "marks" "[I") (by decide +kernel)) (fun _ h9 => h9) rfl dX7_pours_59 ?_
    refine lv_iload_n hx hb dX7_pours_62 rfl (lv_at hl 5 rfl) ?_
    obtain ⟨g_21, h⟩ := qm_gd_some h
    refine va_iald hx hb hK hP (pre.length + 3) 0 mg_3 rfl g_21 dX7_pours_63 ?_
    refine lv_icmp_ge (tgt := 84) hx hb dX7_pours_64 (by decide) (fun c_22 => ?_) (fun c_22 => ?_)
    · rw [if_pos c_22] at h
      refine lv_aload_n hx hb dX7_pours_84 rfl (lv_at hl 2 rfl) ?_
      refine va_get (D := D) (ci := 7) (v := .ref (am 3)) (C := RX7) (T := TX7) (N := 11) hx hb hts (by decide +kernel) hown hK hP (pre.length + 0) mg_0 rfl 2 (by decide) (hts (.fieldLink RX7 16 "QueueMiddlesModel" "marks" "[I") (by decide +kernel)) (fun _ h9 => h9) rfl dX7_pours_85 ?_
      refine lv_iload_n hx hb dX7_pours_88 rfl (lv_at hl 5 rfl) ?_
      obtain ⟨g_23, h⟩ := qm_gd_some h
      refine va_iald hx hb hK hP (pre.length + 3) 0 mg_3 rfl g_23 dX7_pours_89 ?_
      refine lv_if_le (tgt := 111) hx hb dX7_pours_90 (by decide) (fun c_24 => ?_) (fun c_24 => ?_)
      · rw [if_pos c_24] at h
        refine lv_aload_n hx hb dX7_pours_111 rfl (lv_at hl 2 rfl) ?_
        refine va_get (D := D) (ci := 7) (v := .ref (am 10)) (C := RX7) (T := TX7) (N := 11) hx hb hts (by decide +kernel) hown hK hP (pre.length + 0) mg_0 rfl 9 (by decide) (hts (.fieldLink RX7 37 "QueueMiddlesModel" "highestThen" "[I") (by decide +kernel)) (fun _ h9 => h9) rfl dX7_pours_112 ?_
        refine lv_iload_n hx hb dX7_pours_115 rfl (lv_at hl 3 rfl) ?_
        refine lv_aload_n hx hb dX7_pours_116 rfl (lv_at hl 2 rfl) ?_
        refine va_get (D := D) (ci := 7) (v := .ref (am 7)) (C := RX7) (T := TX7) (N := 11) hx hb hts (by decide +kernel) hown hK hP (pre.length + 0) mg_0 rfl 6 (by decide) (hts (.fieldLink RX7 28 "QueueMiddlesModel" "highest" "[I") (by decide +kernel)) (fun _ h9 => h9) rfl dX7_pours_117 ?_
        refine lv_iload_n hx hb dX7_pours_120 rfl (lv_at hl 4 rfl) ?_
        obtain ⟨g_25, h⟩ := qm_gd_some h
        refine va_iald hx hb hK hP (pre.length + 7) 0 mg_7 rfl g_25 dX7_pours_121 ?_
        refine lv_iload hx hb dX7_pours_122 (lv_at hl 0 rfl) ?_
        refine lv_iadd hx hb dX7_pours_124 ?_
        obtain ⟨g_26, h⟩ := qm_gd_some h
        refine va_iast hx hb hK hP hD hS (pre.length + 10) 0 mg_10 rfl g_26 dX7_pours_125 (fun H locs hP hD hS => ?_)
        rw [ms_10 (upd ((mm_up (mm_up S 7 (upd (S.1 7) p0.toNatClampNeg ((S.1 4) p1.toNatClampNeg))) 8 (upd ((mm_up S 7 (upd (S.1 7) p0.toNatClampNeg ((S.1 4) p1.toNatClampNeg))).1 8) p0.toNatClampNeg ((((mm_up S 7 (upd (S.1 7) p0.toNatClampNeg ((S.1 4) p1.toNatClampNeg))).1 5) p1.toNatClampNeg) + (0 : Int32)))).1 9) p0.toNatClampNeg ((((mm_up (mm_up S 7 (upd (S.1 7) p0.toNatClampNeg ((S.1 4) p1.toNatClampNeg))) 8 (upd ((mm_up S 7 (upd (S.1 7) p0.toNatClampNeg ((S.1 4) p1.toNatClampNeg))).1 8) p0.toNatClampNeg ((((mm_up S 7 (upd (S.1 7) p0.toNatClampNeg ((S.1 4) p1.toNatClampNeg))).1 5) p1.toNatClampNeg) + (0 : Int32)))).1 6) p1.toNatClampNeg) + (0 : Int32)))] at hP hD
        have h := Option.some.inj h
        subst h
        exact W.vret hx hb hr (fun t ht hW => ⟨⟨mm_up (mm_up (mm_up S 7 (upd (S.1 7) p0.toNatClampNeg ((S.1 4) p1.toNatClampNeg))) 8 (upd ((mm_up S 7 (upd (S.1 7) p0.toNatClampNeg ((S.1 4) p1.toNatClampNeg))).1 8) p0.toNatClampNeg ((((mm_up S 7 (upd (S.1 7) p0.toNatClampNeg ((S.1 4) p1.toNatClampNeg))).1 5) p1.toNatClampNeg) + (0 : Int32)))) 9 (upd ((mm_up (mm_up S 7 (upd (S.1 7) p0.toNatClampNeg ((S.1 4) p1.toNatClampNeg))) 8 (upd ((mm_up S 7 (upd (S.1 7) p0.toNatClampNeg ((S.1 4) p1.toNatClampNeg))).1 8) p0.toNatClampNeg ((((mm_up S 7 (upd (S.1 7) p0.toNatClampNeg ((S.1 4) p1.toNatClampNeg))).1 5) p1.toNatClampNeg) + (0 : Int32)))).1 9) p0.toNatClampNeg ((((mm_up (mm_up S 7 (upd (S.1 7) p0.toNatClampNeg ((S.1 4) p1.toNatClampNeg))) 8 (upd ((mm_up S 7 (upd (S.1 7) p0.toNatClampNeg ((S.1 4) p1.toNatClampNeg))).1 8) p0.toNatClampNeg ((((mm_up S 7 (upd (S.1 7) p0.toNatClampNeg ((S.1 4) p1.toNatClampNeg))).1 5) p1.toNatClampNeg) + (0 : Int32)))).1 6) p1.toNatClampNeg) + (0 : Int32))), rfl, rfl, qm_en ht hP hD⟩, hS.F ht⟩) hS.2.2 dX7_pours_126
      · rw [if_neg c_24] at h
        refine lv_aload_n hx hb dX7_pours_93 rfl (lv_at hl 2 rfl) ?_
        refine va_get (D := D) (ci := 7) (v := .ref (am 7)) (C := RX7) (T := TX7) (N := 11) hx hb hts (by decide +kernel) hown hK hP (pre.length + 0) mg_0 rfl 6 (by decide) (hts (.fieldLink RX7 28 "QueueMiddlesModel" "highest" "[I") (by decide +kernel)) (fun _ h9 => h9) rfl dX7_pours_94 ?_
        refine lv_iload hx hb dX7_pours_97 (lv_at hl 1 rfl) ?_
        refine lv_aload_n hx hb dX7_pours_99 rfl (lv_at hl 2 rfl) ?_
        refine va_get (D := D) (ci := 7) (v := .ref (am 3)) (C := RX7) (T := TX7) (N := 11) hx hb hts (by decide +kernel) hown hK hP (pre.length + 0) mg_0 rfl 2 (by decide) (hts (.fieldLink RX7 16 "QueueMiddlesModel" "marks" "[I") (by decide +kernel)) (fun _ h9 => h9) rfl dX7_pours_100 ?_
        refine lv_iload_n hx hb dX7_pours_103 rfl (lv_at hl 5 rfl) ?_
        obtain ⟨g_27, h⟩ := qm_gd_some h
        refine va_iald hx hb hK hP (pre.length + 3) 0 mg_3 rfl g_27 dX7_pours_104 ?_
        refine lv_iadd hx hb dX7_pours_105 ?_
        refine lv_iconst (v := (1 : Int32)) hx hb dX7_pours_106 (by decide) ?_
        refine lv_isub hx hb dX7_pours_107 ?_
        obtain ⟨g_28, h⟩ := qm_gd_some h
        refine va_iald hx hb hK hP (pre.length + 7) 0 mg_7 rfl g_28 dX7_pours_108 ?_
        refine lv_istore (lv' := [(6, .int (((mm_up (mm_up S 7 (upd (S.1 7) p0.toNatClampNeg ((S.1 4) p1.toNatClampNeg))) 8 (upd ((mm_up S 7 (upd (S.1 7) p0.toNatClampNeg ((S.1 4) p1.toNatClampNeg))).1 8) p0.toNatClampNeg ((((mm_up S 7 (upd (S.1 7) p0.toNatClampNeg ((S.1 4) p1.toNatClampNeg))).1 5) p1.toNatClampNeg) + (0 : Int32)))).1 6) ((((600 : Int32) * p2) + (((mm_up (mm_up S 7 (upd (S.1 7) p0.toNatClampNeg ((S.1 4) p1.toNatClampNeg))) 8 (upd ((mm_up S 7 (upd (S.1 7) p0.toNatClampNeg ((S.1 4) p1.toNatClampNeg))).1 8) p0.toNatClampNeg ((((mm_up S 7 (upd (S.1 7) p0.toNatClampNeg ((S.1 4) p1.toNatClampNeg))).1 5) p1.toNatClampNeg) + (0 : Int32)))).1 2) p2.toNatClampNeg)) - (1 : Int32)).toNatClampNeg)), (5, .int ((600 : Int32) * p2)), (0, .ref (am 0)), (1, .int p0), (2, .int p1), (3, .int p2), (4, .int p3)]) hx hb dX7_pours_109 hl (by decide) rfl (fun ls hl => ?_)
        refine lv_aload_n hx hb dX7_pours_111 rfl (lv_at hl 2 rfl) ?_
        refine va_get (D := D) (ci := 7) (v := .ref (am 10)) (C := RX7) (T := TX7) (N := 11) hx hb hts (by decide +kernel) hown hK hP (pre.length + 0) mg_0 rfl 9 (by decide) (hts (.fieldLink RX7 37 "QueueMiddlesModel" "highestThen" "[I") (by decide +kernel)) (fun _ h9 => h9) rfl dX7_pours_112 ?_
        refine lv_iload_n hx hb dX7_pours_115 rfl (lv_at hl 3 rfl) ?_
        refine lv_aload_n hx hb dX7_pours_116 rfl (lv_at hl 2 rfl) ?_
        refine va_get (D := D) (ci := 7) (v := .ref (am 7)) (C := RX7) (T := TX7) (N := 11) hx hb hts (by decide +kernel) hown hK hP (pre.length + 0) mg_0 rfl 6 (by decide) (hts (.fieldLink RX7 28 "QueueMiddlesModel" "highest" "[I") (by decide +kernel)) (fun _ h9 => h9) rfl dX7_pours_117 ?_
        refine lv_iload_n hx hb dX7_pours_120 rfl (lv_at hl 4 rfl) ?_
        obtain ⟨g_29, h⟩ := qm_gd_some h
        refine va_iald hx hb hK hP (pre.length + 7) 0 mg_7 rfl g_29 dX7_pours_121 ?_
        refine lv_iload hx hb dX7_pours_122 (lv_at hl 0 rfl) ?_
        refine lv_iadd hx hb dX7_pours_124 ?_
        obtain ⟨g_30, h⟩ := qm_gd_some h
        refine va_iast hx hb hK hP hD hS (pre.length + 10) 0 mg_10 rfl g_30 dX7_pours_125 (fun H locs hP hD hS => ?_)
        rw [ms_10 (upd ((mm_up (mm_up S 7 (upd (S.1 7) p0.toNatClampNeg ((S.1 4) p1.toNatClampNeg))) 8 (upd ((mm_up S 7 (upd (S.1 7) p0.toNatClampNeg ((S.1 4) p1.toNatClampNeg))).1 8) p0.toNatClampNeg ((((mm_up S 7 (upd (S.1 7) p0.toNatClampNeg ((S.1 4) p1.toNatClampNeg))).1 5) p1.toNatClampNeg) + (0 : Int32)))).1 9) p0.toNatClampNeg ((((mm_up (mm_up S 7 (upd (S.1 7) p0.toNatClampNeg ((S.1 4) p1.toNatClampNeg))) 8 (upd ((mm_up S 7 (upd (S.1 7) p0.toNatClampNeg ((S.1 4) p1.toNatClampNeg))).1 8) p0.toNatClampNeg ((((mm_up S 7 (upd (S.1 7) p0.toNatClampNeg ((S.1 4) p1.toNatClampNeg))).1 5) p1.toNatClampNeg) + (0 : Int32)))).1 6) p1.toNatClampNeg) + (((mm_up (mm_up S 7 (upd (S.1 7) p0.toNatClampNeg ((S.1 4) p1.toNatClampNeg))) 8 (upd ((mm_up S 7 (upd (S.1 7) p0.toNatClampNeg ((S.1 4) p1.toNatClampNeg))).1 8) p0.toNatClampNeg ((((mm_up S 7 (upd (S.1 7) p0.toNatClampNeg ((S.1 4) p1.toNatClampNeg))).1 5) p1.toNatClampNeg) + (0 : Int32)))).1 6) ((((600 : Int32) * p2) + (((mm_up (mm_up S 7 (upd (S.1 7) p0.toNatClampNeg ((S.1 4) p1.toNatClampNeg))) 8 (upd ((mm_up S 7 (upd (S.1 7) p0.toNatClampNeg ((S.1 4) p1.toNatClampNeg))).1 8) p0.toNatClampNeg ((((mm_up S 7 (upd (S.1 7) p0.toNatClampNeg ((S.1 4) p1.toNatClampNeg))).1 5) p1.toNatClampNeg) + (0 : Int32)))).1 2) p2.toNatClampNeg)) - (1 : Int32)).toNatClampNeg)))] at hP hD
        have h := Option.some.inj h
        subst h
        exact W.vret hx hb hr (fun t ht hW => ⟨⟨mm_up (mm_up (mm_up S 7 (upd (S.1 7) p0.toNatClampNeg ((S.1 4) p1.toNatClampNeg))) 8 (upd ((mm_up S 7 (upd (S.1 7) p0.toNatClampNeg ((S.1 4) p1.toNatClampNeg))).1 8) p0.toNatClampNeg ((((mm_up S 7 (upd (S.1 7) p0.toNatClampNeg ((S.1 4) p1.toNatClampNeg))).1 5) p1.toNatClampNeg) + (0 : Int32)))) 9 (upd ((mm_up (mm_up S 7 (upd (S.1 7) p0.toNatClampNeg ((S.1 4) p1.toNatClampNeg))) 8 (upd ((mm_up S 7 (upd (S.1 7) p0.toNatClampNeg ((S.1 4) p1.toNatClampNeg))).1 8) p0.toNatClampNeg ((((mm_up S 7 (upd (S.1 7) p0.toNatClampNeg ((S.1 4) p1.toNatClampNeg))).1 5) p1.toNatClampNeg) + (0 : Int32)))).1 9) p0.toNatClampNeg ((((mm_up (mm_up S 7 (upd (S.1 7) p0.toNatClampNeg ((S.1 4) p1.toNatClampNeg))) 8 (upd ((mm_up S 7 (upd (S.1 7) p0.toNatClampNeg ((S.1 4) p1.toNatClampNeg))).1 8) p0.toNatClampNeg ((((mm_up S 7 (upd (S.1 7) p0.toNatClampNeg ((S.1 4) p1.toNatClampNeg))).1 5) p1.toNatClampNeg) + (0 : Int32)))).1 6) p1.toNatClampNeg) + (((mm_up (mm_up S 7 (upd (S.1 7) p0.toNatClampNeg ((S.1 4) p1.toNatClampNeg))) 8 (upd ((mm_up S 7 (upd (S.1 7) p0.toNatClampNeg ((S.1 4) p1.toNatClampNeg))).1 8) p0.toNatClampNeg ((((mm_up S 7 (upd (S.1 7) p0.toNatClampNeg ((S.1 4) p1.toNatClampNeg))).1 5) p1.toNatClampNeg) + (0 : Int32)))).1 6) ((((600 : Int32) * p2) + (((mm_up (mm_up S 7 (upd (S.1 7) p0.toNatClampNeg ((S.1 4) p1.toNatClampNeg))) 8 (upd ((mm_up S 7 (upd (S.1 7) p0.toNatClampNeg ((S.1 4) p1.toNatClampNeg))).1 8) p0.toNatClampNeg ((((mm_up S 7 (upd (S.1 7) p0.toNatClampNeg ((S.1 4) p1.toNatClampNeg))).1 5) p1.toNatClampNeg) + (0 : Int32)))).1 2) p2.toNatClampNeg)) - (1 : Int32)).toNatClampNeg))), rfl, rfl, qm_en ht hP hD⟩, hS.F ht⟩) hS.2.2 dX7_pours_126
    · rw [if_neg c_22] at h
      refine lv_aload_n hx hb dX7_pours_67 rfl (lv_at hl 2 rfl) ?_
      refine va_get (D := D) (ci := 7) (v := .ref (am 7)) (C := RX7) (T := TX7) (N := 11) hx hb hts (by decide +kernel) hown hK hP (pre.length + 0) mg_0 rfl 6 (by decide) (hts (.fieldLink RX7 28 "QueueMiddlesModel" "highest" "[I") (by decide +kernel)) (fun _ h9 => h9) rfl dX7_pours_68 ?_
      refine lv_iload hx hb dX7_pours_71 (lv_at hl 1 rfl) ?_
      refine lv_iload hx hb dX7_pours_73 (lv_at hl 6 rfl) ?_
      refine lv_iadd hx hb dX7_pours_75 ?_
      obtain ⟨g_31, h⟩ := qm_gd_some h
      refine va_iald hx hb hK hP (pre.length + 7) 0 mg_7 rfl g_31 dX7_pours_76 ?_
      refine lv_iconst (v := (1 : Int32)) hx hb dX7_pours_77 (by decide) ?_
      refine lv_isub hx hb dX7_pours_78 ?_
      refine lv_istore (lv' := [(6, .int ((((mm_up (mm_up S 7 (upd (S.1 7) p0.toNatClampNeg ((S.1 4) p1.toNatClampNeg))) 8 (upd ((mm_up S 7 (upd (S.1 7) p0.toNatClampNeg ((S.1 4) p1.toNatClampNeg))).1 8) p0.toNatClampNeg ((((mm_up S 7 (upd (S.1 7) p0.toNatClampNeg ((S.1 4) p1.toNatClampNeg))).1 5) p1.toNatClampNeg) + (0 : Int32)))).1 6) (((600 : Int32) * p2) + p3).toNatClampNeg) - (1 : Int32))), (5, .int ((600 : Int32) * p2)), (0, .ref (am 0)), (1, .int p0), (2, .int p1), (3, .int p2), (4, .int p3)]) hx hb dX7_pours_79 hl (by decide) rfl (fun ls hl => ?_)
      refine lv_goto (tgt := 111) hx hb dX7_pours_81 (by decide) ?_
      refine lv_aload_n hx hb dX7_pours_111 rfl (lv_at hl 2 rfl) ?_
      refine va_get (D := D) (ci := 7) (v := .ref (am 10)) (C := RX7) (T := TX7) (N := 11) hx hb hts (by decide +kernel) hown hK hP (pre.length + 0) mg_0 rfl 9 (by decide) (hts (.fieldLink RX7 37 "QueueMiddlesModel" "highestThen" "[I") (by decide +kernel)) (fun _ h9 => h9) rfl dX7_pours_112 ?_
      refine lv_iload_n hx hb dX7_pours_115 rfl (lv_at hl 3 rfl) ?_
      refine lv_aload_n hx hb dX7_pours_116 rfl (lv_at hl 2 rfl) ?_
      refine va_get (D := D) (ci := 7) (v := .ref (am 7)) (C := RX7) (T := TX7) (N := 11) hx hb hts (by decide +kernel) hown hK hP (pre.length + 0) mg_0 rfl 6 (by decide) (hts (.fieldLink RX7 28 "QueueMiddlesModel" "highest" "[I") (by decide +kernel)) (fun _ h9 => h9) rfl dX7_pours_117 ?_
      refine lv_iload_n hx hb dX7_pours_120 rfl (lv_at hl 4 rfl) ?_
      obtain ⟨g_32, h⟩ := qm_gd_some h
      refine va_iald hx hb hK hP (pre.length + 7) 0 mg_7 rfl g_32 dX7_pours_121 ?_
      refine lv_iload hx hb dX7_pours_122 (lv_at hl 0 rfl) ?_
      refine lv_iadd hx hb dX7_pours_124 ?_
      obtain ⟨g_33, h⟩ := qm_gd_some h
      refine va_iast hx hb hK hP hD hS (pre.length + 10) 0 mg_10 rfl g_33 dX7_pours_125 (fun H locs hP hD hS => ?_)
      rw [ms_10 (upd ((mm_up (mm_up S 7 (upd (S.1 7) p0.toNatClampNeg ((S.1 4) p1.toNatClampNeg))) 8 (upd ((mm_up S 7 (upd (S.1 7) p0.toNatClampNeg ((S.1 4) p1.toNatClampNeg))).1 8) p0.toNatClampNeg ((((mm_up S 7 (upd (S.1 7) p0.toNatClampNeg ((S.1 4) p1.toNatClampNeg))).1 5) p1.toNatClampNeg) + (0 : Int32)))).1 9) p0.toNatClampNeg ((((mm_up (mm_up S 7 (upd (S.1 7) p0.toNatClampNeg ((S.1 4) p1.toNatClampNeg))) 8 (upd ((mm_up S 7 (upd (S.1 7) p0.toNatClampNeg ((S.1 4) p1.toNatClampNeg))).1 8) p0.toNatClampNeg ((((mm_up S 7 (upd (S.1 7) p0.toNatClampNeg ((S.1 4) p1.toNatClampNeg))).1 5) p1.toNatClampNeg) + (0 : Int32)))).1 6) p1.toNatClampNeg) + ((((mm_up (mm_up S 7 (upd (S.1 7) p0.toNatClampNeg ((S.1 4) p1.toNatClampNeg))) 8 (upd ((mm_up S 7 (upd (S.1 7) p0.toNatClampNeg ((S.1 4) p1.toNatClampNeg))).1 8) p0.toNatClampNeg ((((mm_up S 7 (upd (S.1 7) p0.toNatClampNeg ((S.1 4) p1.toNatClampNeg))).1 5) p1.toNatClampNeg) + (0 : Int32)))).1 6) (((600 : Int32) * p2) + p3).toNatClampNeg) - (1 : Int32))))] at hP hD
      have h := Option.some.inj h
      subst h
      exact W.vret hx hb hr (fun t ht hW => ⟨⟨mm_up (mm_up (mm_up S 7 (upd (S.1 7) p0.toNatClampNeg ((S.1 4) p1.toNatClampNeg))) 8 (upd ((mm_up S 7 (upd (S.1 7) p0.toNatClampNeg ((S.1 4) p1.toNatClampNeg))).1 8) p0.toNatClampNeg ((((mm_up S 7 (upd (S.1 7) p0.toNatClampNeg ((S.1 4) p1.toNatClampNeg))).1 5) p1.toNatClampNeg) + (0 : Int32)))) 9 (upd ((mm_up (mm_up S 7 (upd (S.1 7) p0.toNatClampNeg ((S.1 4) p1.toNatClampNeg))) 8 (upd ((mm_up S 7 (upd (S.1 7) p0.toNatClampNeg ((S.1 4) p1.toNatClampNeg))).1 8) p0.toNatClampNeg ((((mm_up S 7 (upd (S.1 7) p0.toNatClampNeg ((S.1 4) p1.toNatClampNeg))).1 5) p1.toNatClampNeg) + (0 : Int32)))).1 9) p0.toNatClampNeg ((((mm_up (mm_up S 7 (upd (S.1 7) p0.toNatClampNeg ((S.1 4) p1.toNatClampNeg))) 8 (upd ((mm_up S 7 (upd (S.1 7) p0.toNatClampNeg ((S.1 4) p1.toNatClampNeg))).1 8) p0.toNatClampNeg ((((mm_up S 7 (upd (S.1 7) p0.toNatClampNeg ((S.1 4) p1.toNatClampNeg))).1 5) p1.toNatClampNeg) + (0 : Int32)))).1 6) p1.toNatClampNeg) + ((((mm_up (mm_up S 7 (upd (S.1 7) p0.toNatClampNeg ((S.1 4) p1.toNatClampNeg))) 8 (upd ((mm_up S 7 (upd (S.1 7) p0.toNatClampNeg ((S.1 4) p1.toNatClampNeg))).1 8) p0.toNatClampNeg ((((mm_up S 7 (upd (S.1 7) p0.toNatClampNeg ((S.1 4) p1.toNatClampNeg))).1 5) p1.toNatClampNeg) + (0 : Int32)))).1 6) (((600 : Int32) * p2) + p3).toNatClampNeg) - (1 : Int32)))), rfl, rfl, qm_en ht hP hD⟩, hS.F ht⟩) hS.2.2 dX7_pours_126
noncomputable def fX7_pour_L83 (x1 : Int32) (x2 : Int32) (x5 : Int32) : Nat → Int32 → Int32 → Int32 → mm_M → Option (mm_M)
  | 0, _, _, _, _ => none
  | fuel + 1, v3, v4, v6, S =>
    (if x5 ≤ v6 then some S else qm_gd (vp_in x1 4) ((if v4 = ((S.1 2) x1.toNatClampNeg) then Option.bind (fX7_pours S v6 (((600 : Int32) * x2) + v3) x1 v4) (fun z_13 => fX7_pour_L83 x1 x2 x5 fuel (v3 + (1 : Int32)) v4 (v6 + (1 : Int32)) z_13) else qm_gd (vp_in x2 4) ((if ((S.1 2) x2.toNatClampNeg) ≤ v3 then Option.bind (fX7_pours S v6 (((600 : Int32) * x1) + v4) x2 v3) (fun z_17 => fX7_pour_L83 x1 x2 x5 fuel v3 (v4 + (1 : Int32)) (v6 + (1 : Int32)) z_17) else qm_gd (vp_in (((600 : Int32) * x2) + v3) 2400) (qm_gd (vp_in (((600 : Int32) * x1) + v4) 2400) ((if ((S.1 4) (((600 : Int32) * x1) + v4).toNatClampNeg) < ((S.1 4) (((600 : Int32) * x2) + v3).toNatClampNeg) then Option.bind (fX7_pours S v6 (((600 : Int32) * x1) + v4) x2 v3) (fun z_22 => fX7_pour_L83 x1 x2 x5 fuel v3 (v4 + (1 : Int32)) (v6 + (1 : Int32)) z_22) else Option.bind (fX7_pours S v6 (((600 : Int32) * x2) + v3) x1 v4) (fun z_24 => fX7_pour_L83 x1 x2 x5 fuel (v3 + (1 : Int32)) v4 (v6 + (1 : Int32)) z_24)))))))))
noncomputable def fX7_pour_L201 (x1 : Int32) (x2 : Int32) (x5 : Int32) : Nat → Int32 → mm_M → Option (mm_M)
  | 0, _, _ => none
  | fuel + 1, v6, S =>
    (if x5 ≤ v6 then some S else qm_gd (vp_in v6 600) (qm_gd (vp_in (((600 : Int32) * x2) + v6) 2400) (qm_gd (vp_in v6 600) (qm_gd (vp_in (((600 : Int32) * x2) + v6) 2400) (qm_gd (vp_in v6 600) (qm_gd (vp_in (((600 : Int32) * x2) + v6) 2400) (fX7_pour_L201 x1 x2 x5 fuel (v6 + (1 : Int32)) (mm_up (mm_up (mm_up S 4 (upd (S.1 4) (((600 : Int32) * x2) + v6).toNatClampNeg ((S.1 7) v6.toNatClampNeg))) 5 (upd ((mm_up S 4 (upd (S.1 4) (((600 : Int32) * x2) + v6).toNatClampNeg ((S.1 7) v6.toNatClampNeg))).1 5) (((600 : Int32) * x2) + v6).toNatClampNeg (((mm_up S 4 (upd (S.1 4) (((600 : Int32) * x2) + v6).toNatClampNeg ((S.1 7) v6.toNatClampNeg))).1 8) v6.toNatClampNeg))) 6 (upd ((mm_up (mm_up S 4 (upd (S.1 4) (((600 : Int32) * x2) + v6).toNatClampNeg ((S.1 7) v6.toNatClampNeg))) 5 (upd ((mm_up S 4 (upd (S.1 4) (((600 : Int32) * x2) + v6).toNatClampNeg ((S.1 7) v6.toNatClampNeg))).1 5) (((600 : Int32) * x2) + v6).toNatClampNeg (((mm_up S 4 (upd (S.1 4) (((600 : Int32) * x2) + v6).toNatClampNeg ((S.1 7) v6.toNatClampNeg))).1 8) v6.toNatClampNeg))).1 6) (((600 : Int32) * x2) + v6).toNatClampNeg (((mm_up (mm_up S 4 (upd (S.1 4) (((600 : Int32) * x2) + v6).toNatClampNeg ((S.1 7) v6.toNatClampNeg))) 5 (upd ((mm_up S 4 (upd (S.1 4) (((600 : Int32) * x2) + v6).toNatClampNeg ((S.1 7) v6.toNatClampNeg))).1 5) (((600 : Int32) * x2) + v6).toNatClampNeg (((mm_up S 4 (upd (S.1 4) (((600 : Int32) * x2) + v6).toNatClampNeg ((S.1 7) v6.toNatClampNeg))).1 8) v6.toNatClampNeg))).1 9) v6.toNatClampNeg))))))))))
noncomputable def fX7_pour_L285 (x1 : Int32) (x2 : Int32) : Nat → Int32 → mm_M → Option (mm_M)
  | 0, _, _ => none
  | fuel + 1, v6, S =>
    qm_gd (vp_in x1 4) ((if ((S.1 1) x1.toNatClampNeg) ≤ v6 then some S else qm_gd (vp_in (((600 : Int32) * x1) + v6) 2400) (Option.bind (fX7_remembers S x2 ((S.1 3) (((600 : Int32) * x1) + v6).toNatClampNeg)) (fun z_45 => fX7_pour_L285 x1 x2 fuel (v6 + (1 : Int32)) z_45))))
noncomputable def fX7_pour (S : mm_M) (p0 : Int32) (p1 : Int32) : Option (Int32 × mm_M) :=
  (if mo_in p0 0 3 then (if mo_in p1 0 3 then (if p0 = p1 then some ((0 : Int32), mm_th S (2 : Int32)) else qm_gd (vp_in p0 4) (qm_gd (vp_in p1 4) ((if (((S.1 1) p0.toNatClampNeg) + ((S.1 1) p1.toNatClampNeg)) ≤ (600 : Int32) then qm_gd (vp_in p1 4) (qm_gd (vp_in p0 4) (Option.bind (fX7_pour_L83 p0 p1 ((((mm_th S (0 : Int32)).1 2) p1.toNatClampNeg) + (((mm_th S (0 : Int32)).1 2) p0.toNatClampNeg)) qm_F (0 : Int32) (0 : Int32) (0 : Int32) (mm_th S (0 : Int32))) (fun z_28 => Option.bind (fX7_pour_L201 p0 p1 ((((mm_th S (0 : Int32)).1 2) p1.toNatClampNeg) + (((mm_th S (0 : Int32)).1 2) p0.toNatClampNeg)) qm_F (0 : Int32) z_28) (fun z_39 => qm_gd (vp_in p1 4) (Option.bind (fX7_pour_L285 p0 p1 qm_F (0 : Int32) (mm_up z_39 2 (upd (z_39.1 2) p1.toNatClampNeg ((((mm_th S (0 : Int32)).1 2) p1.toNatClampNeg) + (((mm_th S (0 : Int32)).1 2) p0.toNatClampNeg))))) (fun z_49 => qm_gd (vp_in p0 4) (qm_gd (vp_in p1 4) ((if ((z_49.1 0) p0.toNatClampNeg) ≤ ((z_49.1 0) p1.toNatClampNeg) then qm_gd (vp_in p1 4) (qm_gd (vp_in p1 4) (qm_gd (vp_in p1 4) (some (((mm_up z_49 0 (upd (z_49.1 0) p1.toNatClampNeg ((z_49.1 0) p1.toNatClampNeg))).1 1) p1.toNatClampNeg, mm_up z_49 0 (upd (z_49.1 0) p1.toNatClampNeg ((z_49.1 0) p1.toNatClampNeg)))))) else qm_gd (vp_in p0 4) (qm_gd (vp_in p1 4) (qm_gd (vp_in p1 4) (some (((mm_up z_49 0 (upd (z_49.1 0) p1.toNatClampNeg ((z_49.1 0) p0.toNatClampNeg))).1 1) p1.toNatClampNeg, mm_up z_49 0 (upd (z_49.1 0) p1.toNatClampNeg ((z_49.1 0) p0.toNatClampNeg))))))))))))))) else some ((0 : Int32), mm_th S (3 : Int32)))))) else some ((0 : Int32), mm_th S (1 : Int32))) else some ((0 : Int32), mm_th S (1 : Int32)))
set_option maxHeartbeats 4000000 in
set_option maxRecDepth 100000 in
theorem kX7_pour (l : Launch) (D : va_G) (A : Nat → Prop) (pre : va_W) (am : Nat → Nat) (cI : ClassId) (S : mm_M) (p0 : Int32) (p1 : Int32) (z : Int32 × mm_M) (h : fX7_pour S p0 p1 = some z) : Met l yX7_pour wsX7_pour ({ frames := 2, cells := 0, slots := 0, locals := 42 }) (va_Pc [.ref (am 0), .int p0, .int p1] (qm_B D A (mm_T cI) (mm_W pre am cI S))) (qm_Qi D A (mm_W pre am cI) z) 0 0 A := by
  refine Met.ofW (cc := cX7_pour) (maxL := 8) (ret := (some .int)) (by decide) rfl ?_
  intro p e s m args below meth c s₁ B hml hv
  obtain ⟨rfl, hA, hP, hK, hD⟩ := hv
  have hx := B.exec
  have hb := B.bytes
  have hr := B.returns
  have hts := atoms_spec (ws := wsX7_pour) B.pre
  have hown : s.vm.findClass RX7 = some m.cls := findClass_of_methodNamed B.named
  have hlocks := B.notSynchronized
  have hS : va_S A s.heap s.heap [] := va_S.rf
  have hl := lv_entry ([.ref (am 0), .int p0, .int p1]) (n := 8) (Nat.le_of_ble_eq_true rfl)
  rw [lg_entry_eq]
  generalize (lg_sl ([.ref (am 0), .int p0, .int p1]) ++ List.replicate (8 - (lg_sl ([.ref (am 0), .int p0, .int p1])).length) Slot.unset).toArray = ls at hl ⊢
  have hl : lv_has ls 8 [(0, .ref (am 0)), (1, .int p0), (2, .int p1)] := hl
  obtain ⟨QX, hQX⟩ : ∃ q, q = MQ below (qm_Qi D A (mm_W pre am cI) z) ([.ref (am 0), .int p0, .int p1] : List Value).toArray s 0 0 A := ⟨_, rfl⟩
  rw [← hQX]
  rw [fX7_pour] at h
  refine lv_aload_n hx hb dX7_pour_0 rfl (lv_at hl 0 rfl) ?_
  refine lv_iload_n hx hb dX7_pour_1 rfl (lv_at hl 1 rfl) ?_
  refine va_calli (va_runS (As := [.int p0]) (rest := [.ref (am 0)]) ⟨hx, hb, hml, hown, hts⟩ (nX7_isCounter l D A pre am cI S p0) (va_cwS 1 hts gX7_pour_X7_isCounter rfl rfl rfl (by decide +kernel) ⟨Nat.le_of_ble_eq_true rfl, Nat.le_of_ble_eq_true rfl⟩) ⟨qm_blind, fun U hU hW => ⟨rfl, qm_go hA hS hP hK hD hU hW⟩⟩ rfl rfl hl.1 rfl (lv_room (Nat.le_of_ble_eq_true rfl)) dX7_pour_2 ⟨Nat.le_of_ble_eq_true rfl, Nat.le_of_ble_eq_true rfl⟩) hS (fun _ _ h9 => h9) (fun _ h9 => h9) (fun v u t H1 locs1 ht hvm hw hB hz1 hk1 hS => ?_)
  obtain ⟨hw1, hw2⟩ := hw
  have hw1 : (if mo_in p0 0 3 then 1 else 0) = v := hw1.symm
  have hw2 : S = u := hw2.symm
  subst hw1
  subst hw2
  obtain ⟨hP, hD⟩ := qm_bk ht hB
  by_cases c_1 : mo_in p0 0 3
  · rw [if_pos c_1] at h ⊢
    refine lv_if_eq (tgt := 15) hx hb dX7_pour_5 (by decide) (fun c => absurd c (by decide)) (fun _ => ?_)
    refine lv_iload_n hx hb dX7_pour_8 rfl (lv_at hl 2 rfl) ?_
    refine va_calli (va_runS (As := [.int p1]) (rest := [.ref (am 0)]) ⟨hx, hb, hml, hown, hts⟩ (nX7_isCounter l D A pre am cI S p1) (va_cwS 1 hts gX7_pour_X7_isCounter rfl rfl rfl (by decide +kernel) ⟨Nat.le_of_ble_eq_true rfl, Nat.le_of_ble_eq_true rfl⟩) ⟨qm_blind, fun U hU hW => ⟨rfl, qm_go hA hS hP hK hD hU hW⟩⟩ rfl rfl hl.1 rfl (lv_room (Nat.le_of_ble_eq_true rfl)) dX7_pour_9 ⟨Nat.le_of_ble_eq_true rfl, Nat.le_of_ble_eq_true rfl⟩) hS (fun _ _ h9 => h9) (fun _ h9 => h9) (fun v u t H1 locs1 ht hvm hw hB hz1 hk1 hS => ?_)
    obtain ⟨hw1, hw2⟩ := hw
    have hw1 : (if mo_in p1 0 3 then 1 else 0) = v := hw1.symm
    have hw2 : S = u := hw2.symm
    subst hw1
    subst hw2
    obtain ⟨hP, hD⟩ := qm_bk ht hB
    by_cases c_2 : mo_in p1 0 3
    · rw [if_pos c_2] at h ⊢
      refine lv_if_ne (tgt := 19) hx hb dX7_pour_12 (by decide) (fun _ => ?_) (fun c => absurd c (by decide))
      refine lv_iload_n hx hb dX7_pour_19 rfl (lv_at hl 1 rfl) ?_
      refine lv_iload_n hx hb dX7_pour_20 rfl (lv_at hl 2 rfl) ?_
      refine lv_icmp_ne (tgt := 28) hx hb dX7_pour_21 (by decide) (fun c_3 => ?_) (fun c_3 => ?_)
      · rw [if_neg c_3] at h
        refine lv_aload_n hx hb dX7_pour_28 rfl (lv_at hl 0 rfl) ?_
        refine va_get (D := D) (ci := 7) (v := .ref (am 2)) (C := RX7) (T := TX7) (N := 11) hx hb hts (by decide +kernel) hown hK hP (pre.length + 0) mg_0 rfl 1 (by decide) (hts (.fieldLink RX7 13 "QueueMiddlesModel" "count" "[I") (by decide +kernel)) (fun _ h9 => h9) rfl dX7_pour_29 ?_
        refine lv_iload_n hx hb dX7_pour_32 rfl (lv_at hl 1 rfl) ?_
        obtain ⟨g_4, h⟩ := qm_gd_some h
        refine va_iald hx hb hK hP (pre.length + 2) 0 mg_2 rfl g_4 dX7_pour_33 ?_
        refine lv_aload_n hx hb dX7_pour_34 rfl (lv_at hl 0 rfl) ?_
        refine va_get (D := D) (ci := 7) (v := .ref (am 2)) (C := RX7) (T := TX7) (N := 11) hx hb hts (by decide +kernel) hown hK hP (pre.length + 0) mg_0 rfl 1 (by decide) (hts (.fieldLink RX7 13 "QueueMiddlesModel" "count" "[I") (by decide +kernel)) (fun _ h9 => h9) rfl dX7_pour_35 ?_
        refine lv_iload_n hx hb dX7_pour_38 rfl (lv_at hl 2 rfl) ?_
        obtain ⟨g_5, h⟩ := qm_gd_some h
        refine va_iald hx hb hK hP (pre.length + 2) 0 mg_2 rfl g_5 dX7_pour_39 ?_
        refine lv_iadd hx hb dX7_pour_40 ?_
        refine lv_sipush (v := (600 : Int32)) hx hb dX7_pour_41 (by decide) ?_
        refine lv_icmp_le (tgt := 51) hx hb dX7_pour_44 (by decide) (fun c_6 => ?_) (fun c_6 => ?_)
        · rw [if_pos c_6] at h
          refine lv_iconst (v := (0 : Int32)) hx hb dX7_pour_51 (by decide) ?_
          refine va_calli (va_runV (As := [.int (0 : Int32)]) (rest := []) ⟨hx, hb, hml, hown, hts⟩ (nX7_isFine l D A pre am cI S (0 : Int32)) (cwV 1 hts gX7_pour_X7_isFine rfl rfl rfl (by decide +kernel) ⟨Nat.le_of_ble_eq_true rfl, Nat.le_of_ble_eq_true rfl⟩) ⟨qm_blind, va_recv hK hP (ci := 7) (q0 := (pre.length + 0)) rfl mg_0, fun U hU hW => ⟨rfl, qm_go hA hS hP hK hD hU hW⟩⟩ rfl rfl hl.1 rfl (lv_room (Nat.le_of_ble_eq_true rfl)) dX7_pour_52 ⟨Nat.le_of_ble_eq_true rfl, Nat.le_of_ble_eq_true rfl⟩) hS (fun _ _ h9 => h9) (fun _ h9 => h9) (fun v u t H1 locs1 ht hvm hw hB hz1 hk1 hS => ?_)
          obtain ⟨hw1, hw2⟩ := hw
          have hw1 : (if (0 : Int32) = 0 then 1 else 0) = v := hw1.symm
          have hw2 : mm_th S (0 : Int32) = u := hw2.symm
          subst hw1
          subst hw2
          obtain ⟨hP, hD⟩ := qm_bk ht hB
          rw [if_pos (show (0 : Int32) = 0 by decide)]
          refine lv_if_ne (tgt := 60) hx hb dX7_pour_55 (by decide) (fun _ => ?_) (fun c => absurd c (by decide))
          refine lv_iconst (v := (0 : Int32)) hx hb dX7_pour_60 (by decide) ?_
          refine lv_istore_n (lv' := [(3, .int (0 : Int32)), (0, .ref (am 0)), (1, .int p0), (2, .int p1)]) hx hb dX7_pour_61 rfl hl (by decide) rfl (fun ls hl => ?_)
          refine lv_iconst (v := (0 : Int32)) hx hb dX7_pour_62 (by decide) ?_
          refine lv_istore (lv' := [(4, .int (0 : Int32)), (3, .int (0 : Int32)), (0, .ref (am 0)), (1, .int p0), (2, .int p1)]) hx hb dX7_pour_63 hl (by decide) rfl (fun ls hl => ?_)
          refine lv_aload_n hx hb dX7_pour_65 rfl (lv_at hl 2 rfl) ?_
          refine va_get (D := D) (ci := 7) (v := .ref (am 3)) (C := RX7) (T := TX7) (N := 11) hx hb hts (by decide +kernel) hown hK hP (pre.length + 0) mg_0 rfl 2 (by decide) (hts (.fieldLink RX7 16 "QueueMiddlesModel" "marks" "[I") (by decide +kernel)) (fun _ h9 => h9) rfl dX7_pour_66 ?_
          refine lv_iload_n hx hb dX7_pour_69 rfl (lv_at hl 4 rfl) ?_
          obtain ⟨g_8, h⟩ := qm_gd_some h
          refine va_iald hx hb hK hP (pre.length + 3) 0 mg_3 rfl g_8 dX7_pour_70 ?_
          refine lv_aload_n hx hb dX7_pour_71 rfl (lv_at hl 2 rfl) ?_
          refine va_get (D := D) (ci := 7) (v := .ref (am 3)) (C := RX7) (T := TX7) (N := 11) hx hb hts (by decide +kernel) hown hK hP (pre.length + 0) mg_0 rfl 2 (by decide) (hts (.fieldLink RX7 16 "QueueMiddlesModel" "marks" "[I") (by decide +kernel)) (fun _ h9 => h9) rfl dX7_pour_72 ?_
          refine lv_iload_n hx hb dX7_pour_75 rfl (lv_at hl 3 rfl) ?_
          obtain ⟨g_9, h⟩ := qm_gd_some h
          refine va_iald hx hb hK hP (pre.length + 3) 0 mg_3 rfl g_9 dX7_pour_76 ?_
          refine lv_iadd hx hb dX7_pour_77 ?_
          refine lv_istore (lv' := [(5, .int ((((mm_th S (0 : Int32)).1 2) p1.toNatClampNeg) + (((mm_th S (0 : Int32)).1 2) p0.toNatClampNeg))), (4, .int (0 : Int32)), (3, .int (0 : Int32)), (0, .ref (am 0)), (1, .int p0), (2, .int p1)]) hx hb dX7_pour_78 hl (by decide) rfl (fun ls hl => ?_)
          refine lv_iconst (v := (0 : Int32)) hx hb dX7_pour_80 (by decide) ?_
          refine lv_istore (lv' := [(6, .int (0 : Int32)), (5, .int ((((mm_th S (0 : Int32)).1 2) p1.toNatClampNeg) + (((mm_th S (0 : Int32)).1 2) p0.toNatClampNeg))), (4, .int (0 : Int32)), (3, .int (0 : Int32)), (0, .ref (am 0)), (1, .int p0), (2, .int p1)]) hx hb dX7_pour_81 hl (by decide) rfl (fun ls hl => ?_)
          have loop_11 : ∀ (fuel : Nat) (v3_10 v4_10 v6_10 : Int32) (S_10 : mm_M) (z : mm_M), fX7_pour_L83 p0 p1 ((((mm_th S (0 : Int32)).1 2) p1.toNatClampNeg) + (((mm_th S (0 : Int32)).1 2) p0.toNatClampNeg)) fuel v3_10 v4_10 v6_10 S_10 = some z → ∀ (H : Heap) (locs : List Loc) (ls : Array Slot), va_P D vwCl (mm_W pre am cI S_10) H → va_D A (mm_W pre am cI S_10) → va_S A s.heap H locs → lv_has ls 8 [(0, .ref (am 0)), (1, .int p0), (2, .int p1), (3, .int v3_10), (4, .int v4_10), (5, .int ((((mm_th S (0 : Int32)).1 2) p1.toNatClampNeg) + (((mm_th S (0 : Int32)).1 2) p0.toNatClampNeg))), (6, .int v6_10)] → (∀ (H : Heap) (locs : List Loc) (ls : Array Slot), va_P D vwCl (mm_W pre am cI z) H → va_D A (mm_W pre am cI z) → va_S A s.heap H locs → lv_has ls 8 [(0, .ref (am 0)), (1, .int p0), (2, .int p1), (5, .int ((((mm_th S (0 : Int32)).1 2) p1.toNatClampNeg) + (((mm_th S (0 : Int32)).1 2) p0.toNatClampNeg)))] → W p l e ({ frames := 2, cells := 0, slots := 0, locals := 42 } : Room) s m ([.ref (am 0), .int p0, .int p1] : List Value).toArray below meth c H locs 0 0 QX (F0 m 198 ls [])) → W p l e ({ frames := 2, cells := 0, slots := 0, locals := 42 } : Room) s m ([.ref (am 0), .int p0, .int p1] : List Value).toArray below meth c H locs 0 0 QX (F0 m 83 ls []) := by
            intro fuel
            induction fuel with
            | zero =>
              intro v3_10 v4_10 v6_10 S_10 z h
              rw [fX7_pour_L83] at h
              cases h
            | succ fuel ih =>
              intro v3_10 v4_10 v6_10 S_10 z h H locs ls hP hD hS hl kex
              rw [fX7_pour_L83] at h
              refine lv_iload hx hb dX7_pour_83 (lv_at hl 6 rfl) ?_
              refine lv_iload hx hb dX7_pour_85 (lv_at hl 5 rfl) ?_
              refine lv_icmp_ge (tgt := 198) hx hb dX7_pour_87 (by decide) (fun c_12 => ?_) (fun c_12 => ?_)
              · rw [if_pos c_12] at h
                have h := Option.some.inj h
                subst h
                exact kex _ _ _ hP hD hS (lv_sub hl [0, 1, 2, 5] rfl)
              · rw [if_neg c_12] at h
                refine lv_iload hx hb dX7_pour_90 (lv_at hl 4 rfl) ?_
                refine lv_aload_n hx hb dX7_pour_92 rfl (lv_at hl 0 rfl) ?_
                refine va_get (D := D) (ci := 7) (v := .ref (am 3)) (C := RX7) (T := TX7) (N := 11) hx hb hts (by decide +kernel) hown hK hP (pre.length + 0) mg_0 rfl 2 (by decide) (hts (.fieldLink RX7 16 "QueueMiddlesModel" "marks" "[I") (by decide +kernel)) (fun _ h9 => h9) rfl dX7_pour_93 ?_
                refine lv_iload_n hx hb dX7_pour_96 rfl (lv_at hl 1 rfl) ?_
                obtain ⟨g_13, h⟩ := qm_gd_some h
                refine va_iald hx hb hK hP (pre.length + 3) 0 mg_3 rfl g_13 dX7_pour_97 ?_
                refine lv_icmp_eq (tgt := 139) hx hb dX7_pour_98 (by decide) (fun c_14 => ?_) (fun c_14 => ?_)
                · rw [if_pos c_14] at h
                  refine lv_iconst (v := (1 : Int32)) hx hb dX7_pour_139 (by decide) ?_
                  refine lv_goto (tgt := 144) hx hb dX7_pour_140 (by decide) ?_
                  refine lv_istore (lv' := [(7, .int (1 : Int32)), (0, .ref (am 0)), (1, .int p0), (2, .int p1), (3, .int v3_10), (4, .int v4_10), (5, .int ((((mm_th S (0 : Int32)).1 2) p1.toNatClampNeg) + (((mm_th S (0 : Int32)).1 2) p0.toNatClampNeg))), (6, .int v6_10)]) hx hb dX7_pour_144 hl (by decide) rfl (fun ls hl => ?_)
                  refine lv_iload hx hb dX7_pour_146 (lv_at hl 0 rfl) ?_
                  refine lv_if_eq (tgt := 173) hx hb dX7_pour_148 (by decide) (fun c => absurd c (by decide)) (fun _ => ?_)
                  refine lv_aload_n hx hb dX7_pour_151 rfl (lv_at hl 1 rfl) ?_
                  refine lv_iload hx hb dX7_pour_152 (lv_at hl 7 rfl) ?_
                  refine lv_sipush (v := (600 : Int32)) hx hb dX7_pour_154 (by decide) ?_
                  refine lv_iload_n hx hb dX7_pour_157 rfl (lv_at hl 3 rfl) ?_
                  refine lv_imul hx hb dX7_pour_158 ?_
                  refine lv_iload_n hx hb dX7_pour_159 rfl (lv_at hl 4 rfl) ?_
                  refine lv_iadd hx hb dX7_pour_160 ?_
                  refine lv_iload_n hx hb dX7_pour_161 rfl (lv_at hl 2 rfl) ?_
                  refine lv_iload hx hb dX7_pour_162 (lv_at hl 5 rfl) ?_
                  obtain ⟨z_15, hz_16, h⟩ := qm_bind h
                  refine va_callv (va_runV (As := [.int v6_10, .int (((600 : Int32) * p1) + v3_10), .int p0, .int v4_10]) (rest := []) ⟨hx, hb, hml, hown, hts⟩ (kX7_pours l D A pre am cI S_10 v6_10 (((600 : Int32) * p1) + v3_10) p0 v4_10 z_15 hz_16) (cwV 4 hts gX7_pour_X7_pours rfl rfl rfl (by decide +kernel) ⟨Nat.le_of_ble_eq_true rfl, Nat.le_of_ble_eq_true rfl⟩) ⟨qm_blind, va_recv hK hP (ci := 7) (q0 := (pre.length + 0)) rfl mg_0, fun U hU hW => ⟨rfl, qm_go hA hS hP hK hD hU hW⟩⟩ rfl rfl hl.1 rfl (lv_room (Nat.le_of_ble_eq_true rfl)) dX7_pour_164 ⟨Nat.le_of_ble_eq_true rfl, Nat.le_of_ble_eq_true rfl⟩) hS (fun _ _ h9 => h9) (fun _ h9 => h9) (fun u t H1 locs1 ht hvm hw hB hz1 hk1 hS => ?_)
                  have hw : z_15 = u := hw.symm
                  subst hw
                  obtain ⟨hP, hD⟩ := qm_bk ht hB
                  refine lv_iinc (v := v3_10 + (1 : Int32)) (lv' := [(3, .int (v3_10 + (1 : Int32))), (7, .int (1 : Int32)), (0, .ref (am 0)), (1, .int p0), (2, .int p1), (4, .int v4_10), (5, .int ((((mm_th S (0 : Int32)).1 2) p1.toNatClampNeg) + (((mm_th S (0 : Int32)).1 2) p0.toNatClampNeg))), (6, .int v6_10)]) hx hb dX7_pour_167 hl (k := 4) rfl rfl (by decide) rfl (fun ls hl => ?_)
                  refine lv_goto (tgt := 192) hx hb dX7_pour_170 (by decide) ?_
                  refine lv_iinc (v := v6_10 + (1 : Int32)) (lv' := [(6, .int (v6_10 + (1 : Int32))), (3, .int (v3_10 + (1 : Int32))), (7, .int (1 : Int32)), (0, .ref (am 0)), (1, .int p0), (2, .int p1), (4, .int v4_10), (5, .int ((((mm_th S (0 : Int32)).1 2) p1.toNatClampNeg) + (((mm_th S (0 : Int32)).1 2) p0.toNatClampNeg)))]) hx hb dX7_pour_192 hl (k := 7) rfl rfl (by decide) rfl (fun ls hl => ?_)
                  refine lv_goto (tgt := 83) hx hb dX7_pour_195 (by decide) ?_
                  exact ih (v3_10 + (1 : Int32)) v4_10 (v6_10 + (1 : Int32)) z_15 z h _ _ _ hP hD hS (lv_sub hl [3, 4, 5, 1, 6, 7, 0] rfl) kex
                · rw [if_neg c_14] at h
                  refine lv_iload_n hx hb dX7_pour_101 rfl (lv_at hl 3 rfl) ?_
                  refine lv_aload_n hx hb dX7_pour_102 rfl (lv_at hl 0 rfl) ?_
                  refine va_get (D := D) (ci := 7) (v := .ref (am 3)) (C := RX7) (T := TX7) (N := 11) hx hb hts (by decide +kernel) hown hK hP (pre.length + 0) mg_0 rfl 2 (by decide) (hts (.fieldLink RX7 16 "QueueMiddlesModel" "marks" "[I") (by decide +kernel)) (fun _ h9 => h9) rfl dX7_pour_103 ?_
                  refine lv_iload_n hx hb dX7_pour_106 rfl (lv_at hl 2 rfl) ?_
                  obtain ⟨g_17, h⟩ := qm_gd_some h
                  refine va_iald hx hb hK hP (pre.length + 3) 0 mg_3 rfl g_17 dX7_pour_107 ?_
                  refine lv_icmp_ge (tgt := 143) hx hb dX7_pour_108 (by decide) (fun c_18 => ?_) (fun c_18 => ?_)
                  · rw [if_pos c_18] at h
                    refine lv_iconst (v := (0 : Int32)) hx hb dX7_pour_143 (by decide) ?_
                    refine lv_istore (lv' := [(7, .int (0 : Int32)), (0, .ref (am 0)), (1, .int p0), (2, .int p1), (3, .int v3_10), (4, .int v4_10), (5, .int ((((mm_th S (0 : Int32)).1 2) p1.toNatClampNeg) + (((mm_th S (0 : Int32)).1 2) p0.toNatClampNeg))), (6, .int v6_10)]) hx hb dX7_pour_144 hl (by decide) rfl (fun ls hl => ?_)
                    refine lv_iload hx hb dX7_pour_146 (lv_at hl 0 rfl) ?_
                    refine lv_if_eq (tgt := 173) hx hb dX7_pour_148 (by decide) (fun _ => ?_) (fun c => absurd (by decide) c)
                    refine lv_aload_n hx hb dX7_pour_173 rfl (lv_at hl 1 rfl) ?_
                    refine lv_iload hx hb dX7_pour_174 (lv_at hl 7 rfl) ?_
                    refine lv_sipush (v := (600 : Int32)) hx hb dX7_pour_176 (by decide) ?_
                    refine lv_iload_n hx hb dX7_pour_179 rfl (lv_at hl 2 rfl) ?_
                    refine lv_imul hx hb dX7_pour_180 ?_
                    refine lv_iload hx hb dX7_pour_181 (lv_at hl 5 rfl) ?_
                    refine lv_iadd hx hb dX7_pour_183 ?_
                    refine lv_iload_n hx hb dX7_pour_184 rfl (lv_at hl 3 rfl) ?_
                    refine lv_iload_n hx hb dX7_pour_185 rfl (lv_at hl 4 rfl) ?_
                    obtain ⟨z_19, hz_20, h⟩ := qm_bind h
                    refine va_callv (va_runV (As := [.int v6_10, .int (((600 : Int32) * p0) + v4_10), .int p1, .int v3_10]) (rest := []) ⟨hx, hb, hml, hown, hts⟩ (kX7_pours l D A pre am cI S_10 v6_10 (((600 : Int32) * p0) + v4_10) p1 v3_10 z_19 hz_20) (cwV 4 hts gX7_pour_X7_pours rfl rfl rfl (by decide +kernel) ⟨Nat.le_of_ble_eq_true rfl, Nat.le_of_ble_eq_true rfl⟩) ⟨qm_blind, va_recv hK hP (ci := 7) (q0 := (pre.length + 0)) rfl mg_0, fun U hU hW => ⟨rfl, qm_go hA hS hP hK hD hU hW⟩⟩ rfl rfl hl.1 rfl (lv_room (Nat.le_of_ble_eq_true rfl)) dX7_pour_186 ⟨Nat.le_of_ble_eq_true rfl, Nat.le_of_ble_eq_true rfl⟩) hS (fun _ _ h9 => h9) (fun _ h9 => h9) (fun u t H1 locs1 ht hvm hw hB hz1 hk1 hS => ?_)
                    have hw : z_19 = u := hw.symm
                    subst hw
                    obtain ⟨hP, hD⟩ := qm_bk ht hB
                    refine lv_iinc (v := v4_10 + (1 : Int32)) (lv' := [(4, .int (v4_10 + (1 : Int32))), (7, .int (0 : Int32)), (0, .ref (am 0)), (1, .int p0), (2, .int p1), (3, .int v3_10), (5, .int ((((mm_th S (0 : Int32)).1 2) p1.toNatClampNeg) + (((mm_th S (0 : Int32)).1 2) p0.toNatClampNeg))), (6, .int v6_10)]) hx hb dX7_pour_189 hl (k := 5) rfl rfl (by decide) rfl (fun ls hl => ?_)
                    refine lv_iinc (v := v6_10 + (1 : Int32)) (lv' := [(6, .int (v6_10 + (1 : Int32))), (4, .int (v4_10 + (1 : Int32))), (7, .int (0 : Int32)), (0, .ref (am 0)), (1, .int p0), (2, .int p1), (3, .int v3_10), (5, .int ((((mm_th S (0 : Int32)).1 2) p1.toNatClampNeg) + (((mm_th S (0 : Int32)).1 2) p0.toNatClampNeg)))]) hx hb dX7_pour_192 hl (k := 7) rfl rfl (by decide) rfl (fun ls hl => ?_)
                    refine lv_goto (tgt := 83) hx hb dX7_pour_195 (by decide) ?_
                    exact ih v3_10 (v4_10 + (1 : Int32)) (v6_10 + (1 : Int32)) z_19 z h _ _ _ hP hD hS (lv_sub hl [3, 4, 5, 6, 1, 7, 0] rfl) kex
                  · rw [if_neg c_18] at h
                    refine lv_aload_n hx hb dX7_pour_111 rfl (lv_at hl 0 rfl) ?_
                    refine va_get (D := D) (ci := 7) (v := .ref (am 5)) (C := RX7) (T := TX7) (N := 11) hx hb hts (by decide +kernel) hown hK hP (pre.length + 0) mg_0 rfl 4 (by decide) (hts (.fieldLink RX7 22 "QueueMiddlesModel" "value" "[I") (by decide +kernel)) (fun _ h9 => h9) rfl dX7_pour_112 ?_
                    refine lv_sipush (v := (600 : Int32)) hx hb dX7_pour_115 (by decide) ?_
                    refine lv_iload_n hx hb dX7_pour_118 rfl (lv_at hl 2 rfl) ?_
                    refine lv_imul hx hb dX7_pour_119 ?_
                    refine lv_iload_n hx hb dX7_pour_120 rfl (lv_at hl 3 rfl) ?_
                    refine lv_iadd hx hb dX7_pour_121 ?_
                    obtain ⟨g_21, h⟩ := qm_gd_some h
                    refine va_iald hx hb hK hP (pre.length + 5) 0 mg_5 rfl g_21 dX7_pour_122 ?_
                    refine lv_aload_n hx hb dX7_pour_123 rfl (lv_at hl 0 rfl) ?_
                    refine va_get (D := D) (ci := 7) (v := .ref (am 5)) (C := RX7) (T := TX7) (N := 11) hx hb hts (by decide +kernel) hown hK hP (pre.length + 0) mg_0 rfl 4 (by decide) (hts (.fieldLink RX7 22 "QueueMiddlesModel" "value" "[I") (by decide +kernel)) (fun _ h9 => h9) rfl dX7_pour_124 ?_
                    refine lv_sipush (v := (600 : Int32)) hx hb dX7_pour_127 (by decide) ?_
                    refine lv_iload_n hx hb dX7_pour_130 rfl (lv_at hl 1 rfl) ?_
                    refine lv_imul hx hb dX7_pour_131 ?_
                    refine lv_iload hx hb dX7_pour_132 (lv_at hl 4 rfl) ?_
                    refine lv_iadd hx hb dX7_pour_134 ?_
                    obtain ⟨g_22, h⟩ := qm_gd_some h
                    refine va_iald hx hb hK hP (pre.length + 5) 0 mg_5 rfl g_22 dX7_pour_135 ?_
                    refine lv_icmp_gt (tgt := 143) hx hb dX7_pour_136 (by decide) (fun c_23 => ?_) (fun c_23 => ?_)
                    · rw [if_pos c_23] at h
                      refine lv_iconst (v := (0 : Int32)) hx hb dX7_pour_143 (by decide) ?_
                      refine lv_istore (lv' := [(7, .int (0 : Int32)), (0, .ref (am 0)), (1, .int p0), (2, .int p1), (3, .int v3_10), (4, .int v4_10), (5, .int ((((mm_th S (0 : Int32)).1 2) p1.toNatClampNeg) + (((mm_th S (0 : Int32)).1 2) p0.toNatClampNeg))), (6, .int v6_10)]) hx hb dX7_pour_144 hl (by decide) rfl (fun ls hl => ?_)
                      refine lv_iload hx hb dX7_pour_146 (lv_at hl 0 rfl) ?_
                      refine lv_if_eq (tgt := 173) hx hb dX7_pour_148 (by decide) (fun _ => ?_) (fun c => absurd (by decide) c)
                      refine lv_aload_n hx hb dX7_pour_173 rfl (lv_at hl 1 rfl) ?_
                      refine lv_iload hx hb dX7_pour_174 (lv_at hl 7 rfl) ?_
                      refine lv_sipush (v := (600 : Int32)) hx hb dX7_pour_176 (by decide) ?_
                      refine lv_iload_n hx hb dX7_pour_179 rfl (lv_at hl 2 rfl) ?_
                      refine lv_imul hx hb dX7_pour_180 ?_
                      refine lv_iload hx hb dX7_pour_181 (lv_at hl 5 rfl) ?_
                      refine lv_iadd hx hb dX7_pour_183 ?_
                      refine lv_iload_n hx hb dX7_pour_184 rfl (lv_at hl 3 rfl) ?_
                      refine lv_iload_n hx hb dX7_pour_185 rfl (lv_at hl 4 rfl) ?_
                      obtain ⟨z_24, hz_25, h⟩ := qm_bind h
                      refine va_callv (va_runV (As := [.int v6_10, .int (((600 : Int32) * p0) + v4_10), .int p1, .int v3_10]) (rest := []) ⟨hx, hb, hml, hown, hts⟩ (kX7_pours l D A pre am cI S_10 v6_10 (((600 : Int32) * p0) + v4_10) p1 v3_10 z_24 hz_25) (cwV 4 hts gX7_pour_X7_pours rfl rfl rfl (by decide +kernel) ⟨Nat.le_of_ble_eq_true rfl, Nat.le_of_ble_eq_true rfl⟩) ⟨qm_blind, va_recv hK hP (ci := 7) (q0 := (pre.length + 0)) rfl mg_0, fun U hU hW => ⟨rfl, qm_go hA hS hP hK hD hU hW⟩⟩ rfl rfl hl.1 rfl (lv_room (Nat.le_of_ble_eq_true rfl)) dX7_pour_186 ⟨Nat.le_of_ble_eq_true rfl, Nat.le_of_ble_eq_true rfl⟩) hS (fun _ _ h9 => h9) (fun _ h9 => h9) (fun u t H1 locs1 ht hvm hw hB hz1 hk1 hS => ?_)
                      have hw : z_24 = u := hw.symm
                      subst hw
                      obtain ⟨hP, hD⟩ := qm_bk ht hB
                      refine lv_iinc (v := v4_10 + (1 : Int32)) (lv' := [(4, .int (v4_10 + (1 : Int32))), (7, .int (0 : Int32)), (0, .ref (am 0)), (1, .int p0), (2, .int p1), (3, .int v3_10), (5, .int ((((mm_th S (0 : Int32)).1 2) p1.toNatClampNeg) + (((mm_th S (0 : Int32)).1 2) p0.toNatClampNeg))), (6, .int v6_10)]) hx hb dX7_pour_189 hl (k := 5) rfl rfl (by decide) rfl (fun ls hl => ?_)
                      refine lv_iinc (v := v6_10 + (1 : Int32)) (lv' := [(6, .int (v6_10 + (1 : Int32))), (4, .int (v4_10 + (1 : Int32))), (7, .int (0 : Int32)), (0, .ref (am 0)), (1, .int p0), (2, .int p1), (3, .int v3_10), (5, .int ((((mm_th S (0 : Int32)).1 2) p1.toNatClampNeg) + (((mm_th S (0 : Int32)).1 2) p0.toNatClampNeg)))]) hx hb dX7_pour_192 hl (k := 7) rfl rfl (by decide) rfl (fun ls hl => ?_)
                      refine lv_goto (tgt := 83) hx hb dX7_pour_195 (by decide) ?_
                      exact ih v3_10 (v4_10 + (1 : Int32)) (v6_10 + (1 : Int32)) z_24 z h _ _ _ hP hD hS (lv_sub hl [3, 4, 5, 6, 1, 7, 0] rfl) kex
                    · rw [if_neg c_23] at h
                      refine lv_iconst (v := (1 : Int32)) hx hb dX7_pour_139 (by decide) ?_
                      refine lv_goto (tgt := 144) hx hb dX7_pour_140 (by decide) ?_
                      refine lv_istore (lv' := [(7, .int (1 : Int32)), (0, .ref (am 0)), (1, .int p0), (2, .int p1), (3, .int v3_10), (4, .int v4_10), (5, .int ((((mm_th S (0 : Int32)).1 2) p1.toNatClampNeg) + (((mm_th S (0 : Int32)).1 2) p0.toNatClampNeg))), (6, .int v6_10)]) hx hb dX7_pour_144 hl (by decide) rfl (fun ls hl => ?_)
                      refine lv_iload hx hb dX7_pour_146 (lv_at hl 0 rfl) ?_
                      refine lv_if_eq (tgt := 173) hx hb dX7_pour_148 (by decide) (fun c => absurd c (by decide)) (fun _ => ?_)
                      refine lv_aload_n hx hb dX7_pour_151 rfl (lv_at hl 1 rfl) ?_
                      refine lv_iload hx hb dX7_pour_152 (lv_at hl 7 rfl) ?_
                      refine lv_sipush (v := (600 : Int32)) hx hb dX7_pour_154 (by decide) ?_
                      refine lv_iload_n hx hb dX7_pour_157 rfl (lv_at hl 3 rfl) ?_
                      refine lv_imul hx hb dX7_pour_158 ?_
                      refine lv_iload_n hx hb dX7_pour_159 rfl (lv_at hl 4 rfl) ?_
                      refine lv_iadd hx hb dX7_pour_160 ?_
                      refine lv_iload_n hx hb dX7_pour_161 rfl (lv_at hl 2 rfl) ?_
                      refine lv_iload hx hb dX7_pour_162 (lv_at hl 5 rfl) ?_
                      obtain ⟨z_26, hz_27, h⟩ := qm_bind h
                      refine va_callv (va_runV (As := [.int v6_10, .int (((600 : Int32) * p1) + v3_10), .int p0, .int v4_10]) (rest := []) ⟨hx, hb, hml, hown, hts⟩ (kX7_pours l D A pre am cI S_10 v6_10 (((600 : Int32) * p1) + v3_10) p0 v4_10 z_26 hz_27) (cwV 4 hts gX7_pour_X7_pours rfl rfl rfl (by decide +kernel) ⟨Nat.le_of_ble_eq_true rfl, Nat.le_of_ble_eq_true rfl⟩) ⟨qm_blind, va_recv hK hP (ci := 7) (q0 := (pre.length + 0)) rfl mg_0, fun U hU hW => ⟨rfl, qm_go hA hS hP hK hD hU hW⟩⟩ rfl rfl hl.1 rfl (lv_room (Nat.le_of_ble_eq_true rfl)) dX7_pour_164 ⟨Nat.le_of_ble_eq_true rfl, Nat.le_of_ble_eq_true rfl⟩) hS (fun _ _ h9 => h9) (fun _ h9 => h9) (fun u t H1 locs1 ht hvm hw hB hz1 hk1 hS => ?_)
                      have hw : z_26 = u := hw.symm
                      subst hw
                      obtain ⟨hP, hD⟩ := qm_bk ht hB
                      refine lv_iinc (v := v3_10 + (1 : Int32)) (lv' := [(3, .int (v3_10 + (1 : Int32))), (7, .int (1 : Int32)), (0, .ref (am 0)), (1, .int p0), (2, .int p1), (4, .int v4_10), (5, .int ((((mm_th S (0 : Int32)).1 2) p1.toNatClampNeg) + (((mm_th S (0 : Int32)).1 2) p0.toNatClampNeg))), (6, .int v6_10)]) hx hb dX7_pour_167 hl (k := 4) rfl rfl (by decide) rfl (fun ls hl => ?_)
                      refine lv_goto (tgt := 192) hx hb dX7_pour_170 (by decide) ?_
                      refine lv_iinc (v := v6_10 + (1 : Int32)) (lv' := [(6, .int (v6_10 + (1 : Int32))), (3, .int (v3_10 + (1 : Int32))), (7, .int (1 : Int32)), (0, .ref (am 0)), (1, .int p0), (2, .int p1), (4, .int v4_10), (5, .int ((((mm_th S (0 : Int32)).1 2) p1.toNatClampNeg) + (((mm_th S (0 : Int32)).1 2) p0.toNatClampNeg)))]) hx hb dX7_pour_192 hl (k := 7) rfl rfl (by decide) rfl (fun ls hl => ?_)
                      refine lv_goto (tgt := 83) hx hb dX7_pour_195 (by decide) ?_
                      exact ih (v3_10 + (1 : Int32)) v4_10 (v6_10 + (1 : Int32)) z_26 z h _ _ _ hP hD hS (lv_sub hl [3, 4, 5, 1, 6, 7, 0] rfl) kex
          obtain ⟨z_28, hz_29, h⟩ := qm_bind h
          refine loop_11 qm_F (0 : Int32) (0 : Int32) (0 : Int32) (mm_th S (0 : Int32)) z_28 hz_29 _ _ _ hP hD hS (lv_sub hl [4, 5, 6, 3, 2, 1, 0] rfl) (fun H locs ls hP hD hS hl => ?_)
          refine lv_iconst (v := (0 : Int32)) hx hb dX7_pour_198 (by decide) ?_
          refine lv_istore (lv' := [(6, .int (0 : Int32)), (0, .ref (am 0)), (1, .int p0), (2, .int p1), (5, .int ((((mm_th S (0 : Int32)).1 2) p1.toNatClampNeg) + (((mm_th S (0 : Int32)).1 2) p0.toNatClampNeg)))]) hx hb dX7_pour_199 hl (by decide) rfl (fun ls hl => ?_)
          have loop_31 : ∀ (fuel : Nat) (v6_30 : Int32) (S_30 : mm_M) (z : mm_M), fX7_pour_L201 p0 p1 ((((mm_th S (0 : Int32)).1 2) p1.toNatClampNeg) + (((mm_th S (0 : Int32)).1 2) p0.toNatClampNeg)) fuel v6_30 S_30 = some z → ∀ (H : Heap) (locs : List Loc) (ls : Array Slot), va_P D vwCl (mm_W pre am cI S_30) H → va_D A (mm_W pre am cI S_30) → va_S A s.heap H locs → lv_has ls 8 [(0, .ref (am 0)), (1, .int p0), (2, .int p1), (5, .int ((((mm_th S (0 : Int32)).1 2) p1.toNatClampNeg) + (((mm_th S (0 : Int32)).1 2) p0.toNatClampNeg))), (6, .int v6_30)] → (∀ (H : Heap) (locs : List Loc) (ls : Array Slot), va_P D vwCl (mm_W pre am cI z) H → va_D A (mm_W pre am cI z) → va_S A s.heap H locs → lv_has ls 8 [(0, .ref (am 0)), (1, .int p0), (2, .int p1), (5, .int ((((mm_th S (0 : Int32)).1 2) p1.toNatClampNeg) + (((mm_th S (0 : Int32)).1 2) p0.toNatClampNeg)))] → W p l e ({ frames := 2, cells := 0, slots := 0, locals := 42 } : Room) s m ([.ref (am 0), .int p0, .int p1] : List Value).toArray below meth c H locs 0 0 QX (F0 m 274 ls [])) → W p l e ({ frames := 2, cells := 0, slots := 0, locals := 42 } : Room) s m ([.ref (am 0), .int p0, .int p1] : List Value).toArray below meth c H locs 0 0 QX (F0 m 201 ls []) := by
            intro fuel
            induction fuel with
            | zero =>
              intro v6_30 S_30 z h
              rw [fX7_pour_L201] at h
              cases h
            | succ fuel ih =>
              intro v6_30 S_30 z h H locs ls hP hD hS hl kex
              rw [fX7_pour_L201] at h
              refine lv_iload hx hb dX7_pour_201 (lv_at hl 4 rfl) ?_
              refine lv_iload hx hb dX7_pour_203 (lv_at hl 3 rfl) ?_
              refine lv_icmp_ge (tgt := 274) hx hb dX7_pour_205 (by decide) (fun c_32 => ?_) (fun c_32 => ?_)
              · rw [if_pos c_32] at h
                have h := Option.some.inj h
                subst h
                exact kex _ _ _ hP hD hS (lv_sub hl [0, 1, 2, 3] rfl)
              · rw [if_neg c_32] at h
                refine lv_aload_n hx hb dX7_pour_208 rfl (lv_at hl 0 rfl) ?_
                refine va_get (D := D) (ci := 7) (v := .ref (am 5)) (C := RX7) (T := TX7) (N := 11) hx hb hts (by decide +kernel) hown hK hP (pre.length + 0) mg_0 rfl 4 (by decide) (hts (.fieldLink RX7 22 "QueueMiddlesModel" "value" "[I") (by decide +kernel)) (fun _ h9 => h9) rfl dX7_pour_209 ?_
                refine lv_sipush (v := (600 : Int32)) hx hb dX7_pour_212 (by decide) ?_
                refine lv_iload_n hx hb dX7_pour_215 rfl (lv_at hl 2 rfl) ?_
                refine lv_imul hx hb dX7_pour_216 ?_
                refine lv_iload hx hb dX7_pour_217 (lv_at hl 4 rfl) ?_
                refine lv_iadd hx hb dX7_pour_219 ?_
                refine lv_aload_n hx hb dX7_pour_220 rfl (lv_at hl 0 rfl) ?_
                refine va_get (D := D) (ci := 7) (v := .ref (am 8)) (C := RX7) (T := TX7) (N := 11) hx hb hts (by decide +kernel) hown hK hP (pre.length + 0) mg_0 rfl 7 (by decide) (hts (.fieldLink RX7 31 "QueueMiddlesModel" "valueThen" "[I") (by decide +kernel)) (fun _ h9 => h9) rfl dX7_pour_221 ?_
                refine lv_iload hx hb dX7_pour_224 (lv_at hl 4 rfl) ?_
                obtain ⟨g_33, h⟩ := qm_gd_some h
                refine va_iald hx hb hK hP (pre.length + 8) 0 mg_8 rfl g_33 dX7_pour_226 ?_
                obtain ⟨g_34, h⟩ := qm_gd_some h
                refine va_iast hx hb hK hP hD hS (pre.length + 5) 0 mg_5 rfl g_34 dX7_pour_227 (fun H locs hP hD hS => ?_)
                rw [ms_5 (upd (S_30.1 4) (((600 : Int32) * p1) + v6_30).toNatClampNeg ((S_30.1 7) v6_30.toNatClampNeg))] at hP hD
                refine lv_aload_n hx hb dX7_pour_228 rfl (lv_at hl 0 rfl) ?_
                refine va_get (D := D) (ci := 7) (v := .ref (am 6)) (C := RX7) (T := TX7) (N := 11) hx hb hts (by decide +kernel) hown hK hP (pre.length + 0) mg_0 rfl 5 (by decide) (hts (.fieldLink RX7 25 "QueueMiddlesModel" "lowest" "[I") (by decide +kernel)) (fun _ h9 => h9) rfl dX7_pour_229 ?_
                refine lv_sipush (v := (600 : Int32)) hx hb dX7_pour_232 (by decide) ?_
                refine lv_iload_n hx hb dX7_pour_235 rfl (lv_at hl 2 rfl) ?_
                refine lv_imul hx hb dX7_pour_236 ?_
                refine lv_iload hx hb dX7_pour_237 (lv_at hl 4 rfl) ?_
                refine lv_iadd hx hb dX7_pour_239 ?_
                refine lv_aload_n hx hb dX7_pour_240 rfl (lv_at hl 0 rfl) ?_
                refine va_get (D := D) (ci := 7) (v := .ref (am 9)) (C := RX7) (T := TX7) (N := 11) hx hb hts (by decide +kernel) hown hK hP (pre.length + 0) mg_0 rfl 8 (by decide) (hts (.fieldLink RX7 34 "QueueMiddlesModel" "lowestThen" "[I") (by decide +kernel)) (fun _ h9 => h9) rfl dX7_pour_241 ?_
                refine lv_iload hx hb dX7_pour_244 (lv_at hl 4 rfl) ?_
                obtain ⟨g_35, h⟩ := qm_gd_some h
                refine va_iald hx hb hK hP (pre.length + 9) 0 mg_9 rfl g_35 dX7_pour_246 ?_
                obtain ⟨g_36, h⟩ := qm_gd_some h
                refine va_iast hx hb hK hP hD hS (pre.length + 6) 0 mg_6 rfl g_36 dX7_pour_247 (fun H locs hP hD hS => ?_)
                rw [ms_6 (upd ((mm_up S_30 4 (upd (S_30.1 4) (((600 : Int32) * p1) + v6_30).toNatClampNeg ((S_30.1 7) v6_30.toNatClampNeg))).1 5) (((600 : Int32) * p1) + v6_30).toNatClampNeg (((mm_up S_30 4 (upd (S_30.1 4) (((600 : Int32) * p1) + v6_30).toNatClampNeg ((S_30.1 7) v6_30.toNatClampNeg))).1 8) v6_30.toNatClampNeg))] at hP hD
                refine lv_aload_n hx hb dX7_pour_248 rfl (lv_at hl 0 rfl) ?_
                refine va_get (D := D) (ci := 7) (v := .ref (am 7)) (C := RX7) (T := TX7) (N := 11) hx hb hts (by decide +kernel) hown hK hP (pre.length + 0) mg_0 rfl 6 (by decide) (hts (.fieldLink RX7 28 "QueueMiddlesModel" "highest" "[I") (by decide +kernel)) (fun _ h9 => h9) rfl dX7_pour_249 ?_
                refine lv_sipush (v := (600 : Int32)) hx hb dX7_pour_252 (by decide) ?_
                refine lv_iload_n hx hb dX7_pour_255 rfl (lv_at hl 2 rfl) ?_
                refine lv_imul hx hb dX7_pour_256 ?_
                refine lv_iload hx hb dX7_pour_257 (lv_at hl 4 rfl) ?_
                refine lv_iadd hx hb dX7_pour_259 ?_
                refine lv_aload_n hx hb dX7_pour_260 rfl (lv_at hl 0 rfl) ?_
                refine va_get (D := D) (ci := 7) (v := .ref (am 10)) (C := RX7) (T := TX7) (N := 11) hx hb hts (by decide +kernel) hown hK hP (pre.length + 0) mg_0 rfl 9 (by decide) (hts (.fieldLink RX7 37 "QueueMiddlesModel" "highestThen" "[I") (by decide +kernel)) (fun _ h9 => h9) rfl dX7_pour_261 ?_
                refine lv_iload hx hb dX7_pour_264 (lv_at hl 4 rfl) ?_
                obtain ⟨g_37, h⟩ := qm_gd_some h
                refine va_iald hx hb hK hP (pre.length + 10) 0 mg_10 rfl g_37 dX7_pour_266 ?_
                obtain ⟨g_38, h⟩ := qm_gd_some h
                refine va_iast hx hb hK hP hD hS (pre.length + 7) 0 mg_7 rfl g_38 dX7_pour_267 (fun H locs hP hD hS => ?_)
                rw [ms_7 (upd ((mm_up (mm_up S_30 4 (upd (S_30.1 4) (((600 : Int32) * p1) + v6_30).toNatClampNeg ((S_30.1 7) v6_30.toNatClampNeg))) 5 (upd ((mm_up S_30 4 (upd (S_30.1 4) (((600 : Int32) * p1) + v6_30).toNatClampNeg ((S_30.1 7) v6_30.toNatClampNeg))).1 5) (((600 : Int32) * p1) + v6_30).toNatClampNeg (((mm_up S_30 4 (upd (S_30.1 4) (((600 : Int32) * p1) + v6_30).toNatClampNeg ((S_30.1 7) v6_30.toNatClampNeg))).1 8) v6_30.toNatClampNeg))).1 6) (((600 : Int32) * p1) + v6_30).toNatClampNeg (((mm_up (mm_up S_30 4 (upd (S_30.1 4) (((600 : Int32) * p1) + v6_30).toNatClampNeg ((S_30.1 7) v6_30.toNatClampNeg))) 5 (upd ((mm_up S_30 4 (upd (S_30.1 4) (((600 : Int32) * p1) + v6_30).toNatClampNeg ((S_30.1 7) v6_30.toNatClampNeg))).1 5) (((600 : Int32) * p1) + v6_30).toNatClampNeg (((mm_up S_30 4 (upd (S_30.1 4) (((600 : Int32) * p1) + v6_30).toNatClampNeg ((S_30.1 7) v6_30.toNatClampNeg))).1 8) v6_30.toNatClampNeg))).1 9) v6_30.toNatClampNeg))] at hP hD
                refine lv_iinc (v := v6_30 + (1 : Int32)) (lv' := [(6, .int (v6_30 + (1 : Int32))), (0, .ref (am 0)), (1, .int p0), (2, .int p1), (5, .int ((((mm_th S (0 : Int32)).1 2) p1.toNatClampNeg) + (((mm_th S (0 : Int32)).1 2) p0.toNatClampNeg)))]) hx hb dX7_pour_268 hl (k := 4) rfl rfl (by decide) rfl (fun ls hl => ?_)
                refine lv_goto (tgt := 201) hx hb dX7_pour_271 (by decide) ?_
                exact ih (v6_30 + (1 : Int32)) (mm_up (mm_up (mm_up S_30 4 (upd (S_30.1 4) (((600 : Int32) * p1) + v6_30).toNatClampNeg ((S_30.1 7) v6_30.toNatClampNeg))) 5 (upd ((mm_up S_30 4 (upd (S_30.1 4) (((600 : Int32) * p1) + v6_30).toNatClampNeg ((S_30.1 7) v6_30.toNatClampNeg))).1 5) (((600 : Int32) * p1) + v6_30).toNatClampNeg (((mm_up S_30 4 (upd (S_30.1 4) (((600 : Int32) * p1) + v6_30).toNatClampNeg ((S_30.1 7) v6_30.toNatClampNeg))).1 8) v6_30.toNatClampNeg))) 6 (upd ((mm_up (mm_up S_30 4 (upd (S_30.1 4) (((600 : Int32) * p1) + v6_30).toNatClampNeg ((S_30.1 7) v6_30.toNatClampNeg))) 5 (upd ((mm_up S_30 4 (upd (S_30.1 4) (((600 : Int32) * p1) + v6_30).toNatClampNeg ((S_30.1 7) v6_30.toNatClampNeg))).1 5) (((600 : Int32) * p1) + v6_30).toNatClampNeg (((mm_up S_30 4 (upd (S_30.1 4) (((600 : Int32) * p1) + v6_30).toNatClampNeg ((S_30.1 7) v6_30.toNatClampNeg))).1 8) v6_30.toNatClampNeg))).1 6) (((600 : Int32) * p1) + v6_30).toNatClampNeg (((mm_up (mm_up S_30 4 (upd (S_30.1 4) (((600 : Int32) * p1) + v6_30).toNatClampNeg ((S_30.1 7) v6_30.toNatClampNeg))) 5 (upd ((mm_up S_30 4 (upd (S_30.1 4) (((600 : Int32) * p1) + v6_30).toNatClampNeg ((S_30.1 7) v6_30.toNatClampNeg))).1 5) (((600 : Int32) * p1) + v6_30).toNatClampNeg (((mm_up S_30 4 (upd (S_30.1 4) (((600 : Int32) * p1) + v6_30).toNatClampNeg ((S_30.1 7) v6_30.toNatClampNeg))).1 8) v6_30.toNatClampNeg))).1 9) v6_30.toNatClampNeg))) z h _ _ _ hP hD hS (lv_sub hl [1, 2, 3, 4, 0] rfl) kex
          obtain ⟨z_39, hz_40, h⟩ := qm_bind h
          refine loop_31 qm_F (0 : Int32) z_28 z_39 hz_40 _ _ _ hP hD hS (lv_sub hl [1, 2, 3, 4, 0] rfl) (fun H locs ls hP hD hS hl => ?_)
          refine lv_aload_n hx hb dX7_pour_274 rfl (lv_at hl 0 rfl) ?_
          refine va_get (D := D) (ci := 7) (v := .ref (am 3)) (C := RX7) (T := TX7) (N := 11) hx hb hts (by decide +kernel) hown hK hP (pre.length + 0) mg_0 rfl 2 (by decide) (hts (.fieldLink RX7 16 "QueueMiddlesModel" "marks" "[I") (by decide +kernel)) (fun _ h9 => h9) rfl dX7_pour_275 ?_
          refine lv_iload_n hx hb dX7_pour_278 rfl (lv_at hl 2 rfl) ?_
          refine lv_iload hx hb dX7_pour_279 (lv_at hl 3 rfl) ?_
          obtain ⟨g_41, h⟩ := qm_gd_some h
          refine va_iast hx hb hK hP hD hS (pre.length + 3) 0 mg_3 rfl g_41 dX7_pour_281 (fun H locs hP hD hS => ?_)
          rw [ms_3 (upd (z_39.1 2) p1.toNatClampNeg ((((mm_th S (0 : Int32)).1 2) p1.toNatClampNeg) + (((mm_th S (0 : Int32)).1 2) p0.toNatClampNeg)))] at hP hD
          refine lv_iconst (v := (0 : Int32)) hx hb dX7_pour_282 (by decide) ?_
          refine lv_istore (lv' := [(6, .int (0 : Int32)), (0, .ref (am 0)), (1, .int p0), (2, .int p1), (5, .int ((((mm_th S (0 : Int32)).1 2) p1.toNatClampNeg) + (((mm_th S (0 : Int32)).1 2) p0.toNatClampNeg)))]) hx hb dX7_pour_283 hl (by decide) rfl (fun ls hl => ?_)
          have loop_43 : ∀ (fuel : Nat) (v6_42 : Int32) (S_42 : mm_M) (z : mm_M), fX7_pour_L285 p0 p1 fuel v6_42 S_42 = some z → ∀ (H : Heap) (locs : List Loc) (ls : Array Slot), va_P D vwCl (mm_W pre am cI S_42) H → va_D A (mm_W pre am cI S_42) → va_S A s.heap H locs → lv_has ls 8 [(0, .ref (am 0)), (1, .int p0), (2, .int p1), (6, .int v6_42)] → (∀ (H : Heap) (locs : List Loc) (ls : Array Slot), va_P D vwCl (mm_W pre am cI z) H → va_D A (mm_W pre am cI z) → va_S A s.heap H locs → lv_has ls 8 [(0, .ref (am 0)), (1, .int p0), (2, .int p1)] → W p l e ({ frames := 2, cells := 0, slots := 0, locals := 42 } : Room) s m ([.ref (am 0), .int p0, .int p1] : List Value).toArray below meth c H locs 0 0 QX (F0 m 320 ls [])) → W p l e ({ frames := 2, cells := 0, slots := 0, locals := 42 } : Room) s m ([.ref (am 0), .int p0, .int p1] : List Value).toArray below meth c H locs 0 0 QX (F0 m 285 ls []) := by
            intro fuel
            induction fuel with
            | zero =>
              intro v6_42 S_42 z h
              rw [fX7_pour_L285] at h
              cases h
            | succ fuel ih =>
              intro v6_42 S_42 z h H locs ls hP hD hS hl kex
              rw [fX7_pour_L285] at h
              refine lv_iload hx hb dX7_pour_285 (lv_at hl 3 rfl) ?_
              refine lv_aload_n hx hb dX7_pour_287 rfl (lv_at hl 0 rfl) ?_
              refine va_get (D := D) (ci := 7) (v := .ref (am 2)) (C := RX7) (T := TX7) (N := 11) hx hb hts (by decide +kernel) hown hK hP (pre.length + 0) mg_0 rfl 1 (by decide) (hts (.fieldLink RX7 13 "QueueMiddlesModel" "count" "[I") (by decide +kernel)) (fun _ h9 => h9) rfl dX7_pour_288 ?_
              refine lv_iload_n hx hb dX7_pour_291 rfl (lv_at hl 1 rfl) ?_
              obtain ⟨g_44, h⟩ := qm_gd_some h
              refine va_iald hx hb hK hP (pre.length + 2) 0 mg_2 rfl g_44 dX7_pour_292 ?_
              refine lv_icmp_ge (tgt := 320) hx hb dX7_pour_293 (by decide) (fun c_45 => ?_) (fun c_45 => ?_)
              · rw [if_pos c_45] at h
                have h := Option.some.inj h
                subst h
                exact kex _ _ _ hP hD hS (lv_sub hl [0, 1, 2] rfl)
              · rw [if_neg c_45] at h
                refine lv_aload_n hx hb dX7_pour_296 rfl (lv_at hl 0 rfl) ?_
                refine lv_iload_n hx hb dX7_pour_297 rfl (lv_at hl 2 rfl) ?_
                refine lv_aload_n hx hb dX7_pour_298 rfl (lv_at hl 0 rfl) ?_
                refine va_get (D := D) (ci := 7) (v := .ref (am 4)) (C := RX7) (T := TX7) (N := 11) hx hb hts (by decide +kernel) hown hK hP (pre.length + 0) mg_0 rfl 3 (by decide) (hts (.fieldLink RX7 19 "QueueMiddlesModel" "numbers" "[I") (by decide +kernel)) (fun _ h9 => h9) rfl dX7_pour_299 ?_
                refine lv_sipush (v := (600 : Int32)) hx hb dX7_pour_302 (by decide) ?_
                refine lv_iload_n hx hb dX7_pour_305 rfl (lv_at hl 1 rfl) ?_
                refine lv_imul hx hb dX7_pour_306 ?_
                refine lv_iload hx hb dX7_pour_307 (lv_at hl 3 rfl) ?_
                refine lv_iadd hx hb dX7_pour_309 ?_
                obtain ⟨g_46, h⟩ := qm_gd_some h
                refine va_iald hx hb hK hP (pre.length + 4) 0 mg_4 rfl g_46 dX7_pour_310 ?_
                obtain ⟨z_47, hz_48, h⟩ := qm_bind h
                refine va_callv (va_runV (As := [.int p1, .int ((S_42.1 3) (((600 : Int32) * p0) + v6_42).toNatClampNeg)]) (rest := []) ⟨hx, hb, hml, hown, hts⟩ (kX7_remembers l D A pre am cI S_42 p1 ((S_42.1 3) (((600 : Int32) * p0) + v6_42).toNatClampNeg) z_47 hz_48) (cwV 2 hts gX7_pour_X7_remembers rfl rfl rfl (by decide +kernel) ⟨Nat.le_of_ble_eq_true rfl, Nat.le_of_ble_eq_true rfl⟩) ⟨qm_blind, va_recv hK hP (ci := 7) (q0 := (pre.length + 0)) rfl mg_0, fun U hU hW => ⟨rfl, qm_go hA hS hP hK hD hU hW⟩⟩ rfl rfl hl.1 rfl (lv_room (Nat.le_of_ble_eq_true rfl)) dX7_pour_311 ⟨Nat.le_of_ble_eq_true rfl, Nat.le_of_ble_eq_true rfl⟩) hS (fun _ _ h9 => h9) (fun _ h9 => h9) (fun u t H1 locs1 ht hvm hw hB hz1 hk1 hS => ?_)
                have hw : z_47 = u := hw.symm
                subst hw
                obtain ⟨hP, hD⟩ := qm_bk ht hB
                refine lv_iinc (v := v6_42 + (1 : Int32)) (lv' := [(6, .int (v6_42 + (1 : Int32))), (0, .ref (am 0)), (1, .int p0), (2, .int p1)]) hx hb dX7_pour_314 hl (k := 3) rfl rfl (by decide) rfl (fun ls hl => ?_)
                refine lv_goto (tgt := 285) hx hb dX7_pour_317 (by decide) ?_
                exact ih (v6_42 + (1 : Int32)) z_47 z h _ _ _ hP hD hS (lv_sub hl [1, 2, 3, 0] rfl) kex
          obtain ⟨z_49, hz_50, h⟩ := qm_bind h
          refine loop_43 qm_F (0 : Int32) (mm_up z_39 2 (upd (z_39.1 2) p1.toNatClampNeg ((((mm_th S (0 : Int32)).1 2) p1.toNatClampNeg) + (((mm_th S (0 : Int32)).1 2) p0.toNatClampNeg)))) z_49 hz_50 _ _ _ hP hD hS (lv_sub hl [1, 2, 3, 0] rfl) (fun H locs ls hP hD hS hl => ?_)
          refine lv_aload_n hx hb dX7_pour_320 rfl (lv_at hl 0 rfl) ?_
          refine va_get (D := D) (ci := 7) (v := .ref (am 1)) (C := RX7) (T := TX7) (N := 11) hx hb hts (by decide +kernel) hown hK hP (pre.length + 0) mg_0 rfl 0 (by decide) (hts (.fieldLink RX7 7 "QueueMiddlesModel" "bound" "[I") (by decide +kernel)) (fun _ h9 => h9) rfl dX7_pour_321 ?_
          refine lv_iload_n hx hb dX7_pour_324 rfl (lv_at hl 2 rfl) ?_
          refine lv_aload_n hx hb dX7_pour_325 rfl (lv_at hl 0 rfl) ?_
          refine va_get (D := D) (ci := 7) (v := .ref (am 1)) (C := RX7) (T := TX7) (N := 11) hx hb hts (by decide +kernel) hown hK hP (pre.length + 0) mg_0 rfl 0 (by decide) (hts (.fieldLink RX7 7 "QueueMiddlesModel" "bound" "[I") (by decide +kernel)) (fun _ h9 => h9) rfl dX7_pour_326 ?_
          refine lv_iload_n hx hb dX7_pour_329 rfl (lv_at hl 1 rfl) ?_
          obtain ⟨g_51, h⟩ := qm_gd_some h
          refine va_iald hx hb hK hP (pre.length + 1) 0 mg_1 rfl g_51 dX7_pour_330 ?_
          refine lv_aload_n hx hb dX7_pour_331 rfl (lv_at hl 0 rfl) ?_
          refine va_get (D := D) (ci := 7) (v := .ref (am 1)) (C := RX7) (T := TX7) (N := 11) hx hb hts (by decide +kernel) hown hK hP (pre.length + 0) mg_0 rfl 0 (by decide) (hts (.fieldLink RX7 7 "QueueMiddlesModel" "bound" "[I") (by decide +kernel)) (fun _ h9 => h9) rfl dX7_pour_332 ?_
          refine lv_iload_n hx hb dX7_pour_335 rfl (lv_at hl 2 rfl) ?_
          obtain ⟨g_52, h⟩ := qm_gd_some h
          refine va_iald hx hb hK hP (pre.length + 1) 0 mg_1 rfl g_52 dX7_pour_336 ?_
          refine lv_icmp_le (tgt := 349) hx hb dX7_pour_337 (by decide) (fun c_53 => ?_) (fun c_53 => ?_)
          · rw [if_pos c_53] at h
            refine lv_aload_n hx hb dX7_pour_349 rfl (lv_at hl 0 rfl) ?_
            refine va_get (D := D) (ci := 7) (v := .ref (am 1)) (C := RX7) (T := TX7) (N := 11) hx hb hts (by decide +kernel) hown hK hP (pre.length + 0) mg_0 rfl 0 (by decide) (hts (.fieldLink RX7 7 "QueueMiddlesModel" "bound" "[I") (by decide +kernel)) (fun _ h9 => h9) rfl dX7_pour_350 ?_
            refine lv_iload_n hx hb dX7_pour_353 rfl (lv_at hl 2 rfl) ?_
            obtain ⟨g_54, h⟩ := qm_gd_some h
            refine va_iald hx hb hK hP (pre.length + 1) 0 mg_1 rfl g_54 dX7_pour_354 ?_
            obtain ⟨g_55, h⟩ := qm_gd_some h
            refine va_iast hx hb hK hP hD hS (pre.length + 1) 0 mg_1 rfl g_55 dX7_pour_355 (fun H locs hP hD hS => ?_)
            rw [ms_1 (upd (z_49.1 0) p1.toNatClampNeg ((z_49.1 0) p1.toNatClampNeg))] at hP hD
            refine lv_aload_n hx hb dX7_pour_356 rfl (lv_at hl 0 rfl) ?_
            refine va_get (D := D) (ci := 7) (v := .ref (am 2)) (C := RX7) (T := TX7) (N := 11) hx hb hts (by decide +kernel) hown hK hP (pre.length + 0) mg_0 rfl 1 (by decide) (hts (.fieldLink RX7 13 "QueueMiddlesModel" "count" "[I") (by decide +kernel)) (fun _ h9 => h9) rfl dX7_pour_357 ?_
            refine lv_iload_n hx hb dX7_pour_360 rfl (lv_at hl 2 rfl) ?_
            obtain ⟨g_56, h⟩ := qm_gd_some h
            refine va_iald hx hb hK hP (pre.length + 2) 0 mg_2 rfl g_56 dX7_pour_361 ?_
            have h := Option.some.inj h
            subst h
            rw [hQX]
            exact W.iret (v := ((mm_up z_49 0 (upd (z_49.1 0) p1.toNatClampNeg ((z_49.1 0) p1.toNatClampNeg))).1 1) p1.toNatClampNeg) hx hb hr (fun t ht hW => ⟨⟨((mm_up z_49 0 (upd (z_49.1 0) p1.toNatClampNeg ((z_49.1 0) p1.toNatClampNeg))).1 1) p1.toNatClampNeg, mm_up z_49 0 (upd (z_49.1 0) p1.toNatClampNeg ((z_49.1 0) p1.toNatClampNeg)), rfl, ⟨rfl, rfl⟩, qm_en ht hP hD⟩, hS.F ht⟩) hS.2.2 dX7_pour_362
          · rw [if_neg c_53] at h
            refine lv_aload_n hx hb dX7_pour_340 rfl (lv_at hl 0 rfl) ?_
            refine va_get (D := D) (ci := 7) (v := .ref (am 1)) (C := RX7) (T := TX7) (N := 11) hx hb hts (by decide +kernel) hown hK hP (pre.length + 0) mg_0 rfl 0 (by decide) (hts (.fieldLink RX7 7 "QueueMiddlesModel" "bound" "[I") (by decide +kernel)) (fun _ h9 => h9) rfl dX7_pour_341 ?_
            refine lv_iload_n hx hb dX7_pour_344 rfl (lv_at hl 1 rfl) ?_
            obtain ⟨g_57, h⟩ := qm_gd_some h
            refine va_iald hx hb hK hP (pre.length + 1) 0 mg_1 rfl g_57 dX7_pour_345 ?_
            refine lv_goto (tgt := 355) hx hb dX7_pour_346 (by decide) ?_
            obtain ⟨g_58, h⟩ := qm_gd_some h
            refine va_iast hx hb hK hP hD hS (pre.length + 1) 0 mg_1 rfl g_58 dX7_pour_355 (fun H locs hP hD hS => ?_)
            rw [ms_1 (upd (z_49.1 0) p1.toNatClampNeg ((z_49.1 0) p0.toNatClampNeg))] at hP hD
            refine lv_aload_n hx hb dX7_pour_356 rfl (lv_at hl 0 rfl) ?_
            refine va_get (D := D) (ci := 7) (v := .ref (am 2)) (C := RX7) (T := TX7) (N := 11) hx hb hts (by decide +kernel) hown hK hP (pre.length + 0) mg_0 rfl 1 (by decide) (hts (.fieldLink RX7 13 "QueueMiddlesModel" "count" "[I") (by decide +kernel)) (fun _ h9 => h9) rfl dX7_pour_357 ?_
            refine lv_iload_n hx hb dX7_pour_360 rfl (lv_at hl 2 rfl) ?_
            obtain ⟨g_59, h⟩ := qm_gd_some h
            refine va_iald hx hb hK hP (pre.length + 2) 0 mg_2 rfl g_59 dX7_pour_361 ?_
            have h := Option.some.inj h
            subst h
            rw [hQX]
            exact W.iret (v := ((mm_up z_49 0 (upd (z_49.1 0) p1.toNatClampNeg ((z_49.1 0) p0.toNatClampNeg))).1 1) p1.toNatClampNeg) hx hb hr (fun t ht hW => ⟨⟨((mm_up z_49 0 (upd (z_49.1 0) p1.toNatClampNeg ((z_49.1 0) p0.toNatClampNeg))).1 1) p1.toNatClampNeg, mm_up z_49 0 (upd (z_49.1 0) p1.toNatClampNeg ((z_49.1 0) p0.toNatClampNeg)), rfl, ⟨rfl, rfl⟩, qm_en ht hP hD⟩, hS.F ht⟩) hS.2.2 dX7_pour_362
        · rw [if_neg c_6] at h
          refine lv_iconst (v := (3 : Int32)) hx hb dX7_pour_47 (by decide) ?_
          refine lv_goto (tgt := 52) hx hb dX7_pour_48 (by decide) ?_
          refine va_calli (va_runV (As := [.int (3 : Int32)]) (rest := []) ⟨hx, hb, hml, hown, hts⟩ (nX7_isFine l D A pre am cI S (3 : Int32)) (cwV 1 hts gX7_pour_X7_isFine rfl rfl rfl (by decide +kernel) ⟨Nat.le_of_ble_eq_true rfl, Nat.le_of_ble_eq_true rfl⟩) ⟨qm_blind, va_recv hK hP (ci := 7) (q0 := (pre.length + 0)) rfl mg_0, fun U hU hW => ⟨rfl, qm_go hA hS hP hK hD hU hW⟩⟩ rfl rfl hl.1 rfl (lv_room (Nat.le_of_ble_eq_true rfl)) dX7_pour_52 ⟨Nat.le_of_ble_eq_true rfl, Nat.le_of_ble_eq_true rfl⟩) hS (fun _ _ h9 => h9) (fun _ h9 => h9) (fun v u t H1 locs1 ht hvm hw hB hz1 hk1 hS => ?_)
          obtain ⟨hw1, hw2⟩ := hw
          have hw1 : (if (3 : Int32) = 0 then 1 else 0) = v := hw1.symm
          have hw2 : mm_th S (3 : Int32) = u := hw2.symm
          subst hw1
          subst hw2
          obtain ⟨hP, hD⟩ := qm_bk ht hB
          rw [if_neg (show ¬ (3 : Int32) = 0 by decide)]
          refine lv_if_ne (tgt := 60) hx hb dX7_pour_55 (by decide) (fun c => absurd (by decide) c) (fun _ => ?_)
          refine lv_iconst (v := (0 : Int32)) hx hb dX7_pour_58 (by decide) ?_
          have h := Option.some.inj h
          subst h
          rw [hQX]
          exact W.iret (v := (0 : Int32)) hx hb hr (fun t ht hW => ⟨⟨(0 : Int32), mm_th S (3 : Int32), rfl, ⟨rfl, rfl⟩, qm_en ht hP hD⟩, hS.F ht⟩) hS.2.2 dX7_pour_59
      · rw [if_pos c_3] at h
        refine lv_iconst (v := (2 : Int32)) hx hb dX7_pour_24 (by decide) ?_
        refine lv_goto (tgt := 52) hx hb dX7_pour_25 (by decide) ?_
        refine va_calli (va_runV (As := [.int (2 : Int32)]) (rest := []) ⟨hx, hb, hml, hown, hts⟩ (nX7_isFine l D A pre am cI S (2 : Int32)) (cwV 1 hts gX7_pour_X7_isFine rfl rfl rfl (by decide +kernel) ⟨Nat.le_of_ble_eq_true rfl, Nat.le_of_ble_eq_true rfl⟩) ⟨qm_blind, va_recv hK hP (ci := 7) (q0 := (pre.length + 0)) rfl mg_0, fun U hU hW => ⟨rfl, qm_go hA hS hP hK hD hU hW⟩⟩ rfl rfl hl.1 rfl (lv_room (Nat.le_of_ble_eq_true rfl)) dX7_pour_52 ⟨Nat.le_of_ble_eq_true rfl, Nat.le_of_ble_eq_true rfl⟩) hS (fun _ _ h9 => h9) (fun _ h9 => h9) (fun v u t H1 locs1 ht hvm hw hB hz1 hk1 hS => ?_)
        obtain ⟨hw1, hw2⟩ := hw
        have hw1 : (if (2 : Int32) = 0 then 1 else 0) = v := hw1.symm
        have hw2 : mm_th S (2 : Int32) = u := hw2.symm
        subst hw1
        subst hw2
        obtain ⟨hP, hD⟩ := qm_bk ht hB
        rw [if_neg (show ¬ (2 : Int32) = 0 by decide)]
        refine lv_if_ne (tgt := 60) hx hb dX7_pour_55 (by decide) (fun c => absurd (by decide) c) (fun _ => ?_)
        refine lv_iconst (v := (0 : Int32)) hx hb dX7_pour_58 (by decide) ?_
        have h := Option.some.inj h
        subst h
        rw [hQX]
        exact W.iret (v := (0 : Int32)) hx hb hr (fun t ht hW => ⟨⟨(0 : Int32), mm_th S (2 : Int32), rfl, ⟨rfl, rfl⟩, qm_en ht hP hD⟩, hS.F ht⟩) hS.2.2 dX7_pour_59
    · rw [if_neg c_2] at h ⊢
      refine lv_if_ne (tgt := 19) hx hb dX7_pour_12 (by decide) (fun c => absurd (by decide) c) (fun _ => ?_)
      refine lv_iconst (v := (1 : Int32)) hx hb dX7_pour_15 (by decide) ?_
      refine lv_goto (tgt := 52) hx hb dX7_pour_16 (by decide) ?_
      refine va_calli (va_runV (As := [.int (1 : Int32)]) (rest := []) ⟨hx, hb, hml, hown, hts⟩ (nX7_isFine l D A pre am cI S (1 : Int32)) (cwV 1 hts gX7_pour_X7_isFine rfl rfl rfl (by decide +kernel) ⟨Nat.le_of_ble_eq_true rfl, Nat.le_of_ble_eq_true rfl⟩) ⟨qm_blind, va_recv hK hP (ci := 7) (q0 := (pre.length + 0)) rfl mg_0, fun U hU hW => ⟨rfl, qm_go hA hS hP hK hD hU hW⟩⟩ rfl rfl hl.1 rfl (lv_room (Nat.le_of_ble_eq_true rfl)) dX7_pour_52 ⟨Nat.le_of_ble_eq_true rfl, Nat.le_of_ble_eq_true rfl⟩) hS (fun _ _ h9 => h9) (fun _ h9 => h9) (fun v u t H1 locs1 ht hvm hw hB hz1 hk1 hS => ?_)
      obtain ⟨hw1, hw2⟩ := hw
      have hw1 : (if (1 : Int32) = 0 then 1 else 0) = v := hw1.symm
      have hw2 : mm_th S (1 : Int32) = u := hw2.symm
      subst hw1
      subst hw2
      obtain ⟨hP, hD⟩ := qm_bk ht hB
      rw [if_neg (show ¬ (1 : Int32) = 0 by decide)]
      refine lv_if_ne (tgt := 60) hx hb dX7_pour_55 (by decide) (fun c => absurd (by decide) c) (fun _ => ?_)
      refine lv_iconst (v := (0 : Int32)) hx hb dX7_pour_58 (by decide) ?_
      have h := Option.some.inj h
      subst h
      rw [hQX]
      exact W.iret (v := (0 : Int32)) hx hb hr (fun t ht hW => ⟨⟨(0 : Int32), mm_th S (1 : Int32), rfl, ⟨rfl, rfl⟩, qm_en ht hP hD⟩, hS.F ht⟩) hS.2.2 dX7_pour_59
  · rw [if_neg c_1] at h ⊢
    refine lv_if_eq (tgt := 15) hx hb dX7_pour_5 (by decide) (fun _ => ?_) (fun c => absurd (by decide) c)
    refine lv_iconst (v := (1 : Int32)) hx hb dX7_pour_15 (by decide) ?_
    refine lv_goto (tgt := 52) hx hb dX7_pour_16 (by decide) ?_
    refine va_calli (va_runV (As := [.int (1 : Int32)]) (rest := []) ⟨hx, hb, hml, hown, hts⟩ (nX7_isFine l D A pre am cI S (1 : Int32)) (cwV 1 hts gX7_pour_X7_isFine rfl rfl rfl (by decide +kernel) ⟨Nat.le_of_ble_eq_true rfl, Nat.le_of_ble_eq_true rfl⟩) ⟨qm_blind, va_recv hK hP (ci := 7) (q0 := (pre.length + 0)) rfl mg_0, fun U hU hW => ⟨rfl, qm_go hA hS hP hK hD hU hW⟩⟩ rfl rfl hl.1 rfl (lv_room (Nat.le_of_ble_eq_true rfl)) dX7_pour_52 ⟨Nat.le_of_ble_eq_true rfl, Nat.le_of_ble_eq_true rfl⟩) hS (fun _ _ h9 => h9) (fun _ h9 => h9) (fun v u t H1 locs1 ht hvm hw hB hz1 hk1 hS => ?_)
    obtain ⟨hw1, hw2⟩ := hw
    have hw1 : (if (1 : Int32) = 0 then 1 else 0) = v := hw1.symm
    have hw2 : mm_th S (1 : Int32) = u := hw2.symm
    subst hw1
    subst hw2
    obtain ⟨hP, hD⟩ := qm_bk ht hB
    rw [if_neg (show ¬ (1 : Int32) = 0 by decide)]
    refine lv_if_ne (tgt := 60) hx hb dX7_pour_55 (by decide) (fun c => absurd (by decide) c) (fun _ => ?_)
    refine lv_iconst (v := (0 : Int32)) hx hb dX7_pour_58 (by decide) ?_
    have h := Option.some.inj h
    subst h
    rw [hQX]
    exact W.iret (v := (0 : Int32)) hx hb hr (fun t ht hW => ⟨⟨(0 : Int32), mm_th S (1 : Int32), rfl, ⟨rfl, rfl⟩, qm_en ht hP hD⟩, hS.F ht⟩) hS.2.2 dX7_pour_59
