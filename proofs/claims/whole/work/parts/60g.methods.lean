/-! PeriodKernelModel guard -/
def qf123_68 (a1 : Int32) (a2 : Int32) (a3 : Int32) (a4 : Int32) (a5 : Int32) (b1 : Int32) (b2 : Int32) (s : qp_S) : Option (Int32 × qp_S) := ((qf117 b1 b2 s).bind fun q5 => (bif qm_cmp .ne (q5.1) (0 : Int32) then (if qm_inb a1 4 = true then (if qm_inb (((16 : Int32) * a1) + ((4 : Int32) * (q5.2 44 0 (a1).toNatClampNeg))) 64 = true then (if qm_inb ((((16 : Int32) * a1) + ((4 : Int32) * (q5.2 44 0 (a1).toNatClampNeg))) + (1 : Int32)) 64 = true then (if qm_inb ((((16 : Int32) * a1) + ((4 : Int32) * (q5.2 44 0 (a1).toNatClampNeg))) + (2 : Int32)) 64 = true then (if qm_inb ((((16 : Int32) * a1) + ((4 : Int32) * (q5.2 44 0 (a1).toNatClampNeg))) + (3 : Int32)) 64 = true then (if qm_inb a1 4 = true then (if qm_inb a1 4 = true then (if qm_inb a1 4 = true then some (((qp_up (qp_up (qp_up (qp_up (qp_up q5.2 43 0 ((((16 : Int32) * a1) + ((4 : Int32) * (q5.2 44 0 (a1).toNatClampNeg)))).toNatClampNeg a2) 43 0 (((((16 : Int32) * a1) + ((4 : Int32) * (q5.2 44 0 (a1).toNatClampNeg))) + (1 : Int32))).toNatClampNeg a3) 43 0 (((((16 : Int32) * a1) + ((4 : Int32) * (q5.2 44 0 (a1).toNatClampNeg))) + (2 : Int32))).toNatClampNeg a4) 43 0 (((((16 : Int32) * a1) + ((4 : Int32) * (q5.2 44 0 (a1).toNatClampNeg))) + (3 : Int32))).toNatClampNeg a5) 44 0 (a1).toNatClampNeg (((qp_up (qp_up (qp_up (qp_up q5.2 43 0 ((((16 : Int32) * a1) + ((4 : Int32) * (q5.2 44 0 (a1).toNatClampNeg)))).toNatClampNeg a2) 43 0 (((((16 : Int32) * a1) + ((4 : Int32) * (q5.2 44 0 (a1).toNatClampNeg))) + (1 : Int32))).toNatClampNeg a3) 43 0 (((((16 : Int32) * a1) + ((4 : Int32) * (q5.2 44 0 (a1).toNatClampNeg))) + (2 : Int32))).toNatClampNeg a4) 43 0 (((((16 : Int32) * a1) + ((4 : Int32) * (q5.2 44 0 (a1).toNatClampNeg))) + (3 : Int32))).toNatClampNeg a5) 44 0 (a1).toNatClampNeg) + (1 : Int32))) 44 0 (a1).toNatClampNeg), (qp_up (qp_up (qp_up (qp_up (qp_up q5.2 43 0 ((((16 : Int32) * a1) + ((4 : Int32) * (q5.2 44 0 (a1).toNatClampNeg)))).toNatClampNeg a2) 43 0 (((((16 : Int32) * a1) + ((4 : Int32) * (q5.2 44 0 (a1).toNatClampNeg))) + (1 : Int32))).toNatClampNeg a3) 43 0 (((((16 : Int32) * a1) + ((4 : Int32) * (q5.2 44 0 (a1).toNatClampNeg))) + (2 : Int32))).toNatClampNeg a4) 43 0 (((((16 : Int32) * a1) + ((4 : Int32) * (q5.2 44 0 (a1).toNatClampNeg))) + (3 : Int32))).toNatClampNeg a5) 44 0 (a1).toNatClampNeg (((qp_up (qp_up (qp_up (qp_up q5.2 43 0 ((((16 : Int32) * a1) + ((4 : Int32) * (q5.2 44 0 (a1).toNatClampNeg)))).toNatClampNeg a2) 43 0 (((((16 : Int32) * a1) + ((4 : Int32) * (q5.2 44 0 (a1).toNatClampNeg))) + (1 : Int32))).toNatClampNeg a3) 43 0 (((((16 : Int32) * a1) + ((4 : Int32) * (q5.2 44 0 (a1).toNatClampNeg))) + (2 : Int32))).toNatClampNeg a4) 43 0 (((((16 : Int32) * a1) + ((4 : Int32) * (q5.2 44 0 (a1).toNatClampNeg))) + (3 : Int32))).toNatClampNeg a5) 44 0 (a1).toNatClampNeg) + (1 : Int32)))) else none) else none) else none) else none) else none) else none) else none) else none) else some ((0 : Int32), q5.2)))
theorem qe123_68 (d : Nat) {L : Nat} {xs : Nat → Int32} {x : Int64} {e : Nat → Nat}   {u6 : Option qm_V} {u7 : Option qm_V} {a1 : Int32} {a2 : Int32} {a3 : Int32} {a4 : Int32} {a5 : Int32} {b1 : Int32} {b2 : Int32} {s : qp_S} {r : Int32 × qp_S} (h : qf123_68  a1 a2 a3 a4 a5 b1 b2 s = some r) : qm_E (qz_ro L xs) (d + 1) 123 (68, [some (vR 30 0), some (vI a1), some (vI a2), some (vI a3), some (vI a4), some (vI a5), u6, u7], [vI b2, vI b1, vR 30 0], qp_H s x e, (0, 0)) (qf_v r.1 r.2 x e) := by
  unfold qf123_68 at h
  obtain ⟨q5, hq, h⟩ := qs_bd h
  refine qm_E_call rfl (qe117 (d + 0) hq) rfl ?_
  change qm_E _ _ _ (71, [some (vR 30 0), some (vI a1), some (vI a2), some (vI a3), some (vI a4), some (vI a5), u6, u7], [vI (q5.1)], qp_H q5.2 x e, (0, 0)) _
  rcases qr_cond h with ⟨hb, h⟩ | ⟨hb, h⟩
  · refine qr_t hb rfl ?_
    change qm_E _ _ _ (76, [some (vR 30 0), some (vI a1), some (vI a2), some (vI a3), some (vI a4), some (vI a5), u6, u7], [], qp_H q5.2 x e, (0, 0)) _
    iterate 6 refine qm_E_next rfl ?_
    change qm_E _ _ _ (85, [some (vR 30 0), some (vI a1), some (vI a2), some (vI a3), some (vI a4), some (vI a5), u6, u7], [vR 44 0, vI (4 : Int32), vI ((16 : Int32) * a1)], qp_H q5.2 x e, (0, 0)) _
    iterate 1 refine qm_E_next rfl ?_
    obtain ⟨hb, h⟩ := qr_inb h
    refine qr_iaload hb rfl rfl rfl rfl ?_
    change qm_E _ _ _ (87, [some (vR 30 0), some (vI a1), some (vI a2), some (vI a3), some (vI a4), some (vI a5), u6, u7], [vI (q5.2 44 0 (a1).toNatClampNeg), vI (4 : Int32), vI ((16 : Int32) * a1)], qp_H q5.2 x e, (0, 0)) _
    iterate 6 refine qm_E_next rfl ?_
    change qm_E _ _ _ (97, [some (vR 30 0), some (vI a1), some (vI a2), some (vI a3), some (vI a4), some (vI a5), u6, some (vI (((16 : Int32) * a1) + ((4 : Int32) * (q5.2 44 0 (a1).toNatClampNeg))))], [vI (((16 : Int32) * a1) + ((4 : Int32) * (q5.2 44 0 (a1).toNatClampNeg))), vR 43 0], qp_H q5.2 x e, (0, 0)) _
    iterate 1 refine qm_E_next rfl ?_
    obtain ⟨hb, h⟩ := qr_inb h
    refine qr_iastore hb rfl rfl rfl rfl rfl ?_
    change qm_E _ _ _ (99, [some (vR 30 0), some (vI a1), some (vI a2), some (vI a3), some (vI a4), some (vI a5), u6, some (vI (((16 : Int32) * a1) + ((4 : Int32) * (q5.2 44 0 (a1).toNatClampNeg))))], [], qp_H (qp_up q5.2 43 0 ((((16 : Int32) * a1) + ((4 : Int32) * (q5.2 44 0 (a1).toNatClampNeg)))).toNatClampNeg a2) x e, (0, 0)) _
    iterate 6 refine qm_E_next rfl ?_
    change qm_E _ _ _ (108, [some (vR 30 0), some (vI a1), some (vI a2), some (vI a3), some (vI a4), some (vI a5), u6, some (vI (((16 : Int32) * a1) + ((4 : Int32) * (q5.2 44 0 (a1).toNatClampNeg))))], [vI a3, vI ((((16 : Int32) * a1) + ((4 : Int32) * (q5.2 44 0 (a1).toNatClampNeg))) + (1 : Int32)), vR 43 0], qp_H (qp_up q5.2 43 0 ((((16 : Int32) * a1) + ((4 : Int32) * (q5.2 44 0 (a1).toNatClampNeg)))).toNatClampNeg a2) x e, (0, 0)) _
    obtain ⟨hb, h⟩ := qr_inb h
    refine qr_iastore hb rfl rfl rfl rfl rfl ?_
    change qm_E _ _ _ (109, [some (vR 30 0), some (vI a1), some (vI a2), some (vI a3), some (vI a4), some (vI a5), u6, some (vI (((16 : Int32) * a1) + ((4 : Int32) * (q5.2 44 0 (a1).toNatClampNeg))))], [], qp_H (qp_up (qp_up q5.2 43 0 ((((16 : Int32) * a1) + ((4 : Int32) * (q5.2 44 0 (a1).toNatClampNeg)))).toNatClampNeg a2) 43 0 (((((16 : Int32) * a1) + ((4 : Int32) * (q5.2 44 0 (a1).toNatClampNeg))) + (1 : Int32))).toNatClampNeg a3) x e, (0, 0)) _
    iterate 6 refine qm_E_next rfl ?_
    change qm_E _ _ _ (119, [some (vR 30 0), some (vI a1), some (vI a2), some (vI a3), some (vI a4), some (vI a5), u6, some (vI (((16 : Int32) * a1) + ((4 : Int32) * (q5.2 44 0 (a1).toNatClampNeg))))], [vI a4, vI ((((16 : Int32) * a1) + ((4 : Int32) * (q5.2 44 0 (a1).toNatClampNeg))) + (2 : Int32)), vR 43 0], qp_H (qp_up (qp_up q5.2 43 0 ((((16 : Int32) * a1) + ((4 : Int32) * (q5.2 44 0 (a1).toNatClampNeg)))).toNatClampNeg a2) 43 0 (((((16 : Int32) * a1) + ((4 : Int32) * (q5.2 44 0 (a1).toNatClampNeg))) + (1 : Int32))).toNatClampNeg a3) x e, (0, 0)) _
    obtain ⟨hb, h⟩ := qr_inb h
    refine qr_iastore hb rfl rfl rfl rfl rfl ?_
    change qm_E _ _ _ (120, [some (vR 30 0), some (vI a1), some (vI a2), some (vI a3), some (vI a4), some (vI a5), u6, some (vI (((16 : Int32) * a1) + ((4 : Int32) * (q5.2 44 0 (a1).toNatClampNeg))))], [], qp_H (qp_up (qp_up (qp_up q5.2 43 0 ((((16 : Int32) * a1) + ((4 : Int32) * (q5.2 44 0 (a1).toNatClampNeg)))).toNatClampNeg a2) 43 0 (((((16 : Int32) * a1) + ((4 : Int32) * (q5.2 44 0 (a1).toNatClampNeg))) + (1 : Int32))).toNatClampNeg a3) 43 0 (((((16 : Int32) * a1) + ((4 : Int32) * (q5.2 44 0 (a1).toNatClampNeg))) + (2 : Int32))).toNatClampNeg a4) x e, (0, 0)) _
    iterate 6 refine qm_E_next rfl ?_
    change qm_E _ _ _ (130, [some (vR 30 0), some (vI a1), some (vI a2), some (vI a3), some (vI a4), some (vI a5), u6, some (vI (((16 : Int32) * a1) + ((4 : Int32) * (q5.2 44 0 (a1).toNatClampNeg))))], [vI a5, vI ((((16 : Int32) * a1) + ((4 : Int32) * (q5.2 44 0 (a1).toNatClampNeg))) + (3 : Int32)), vR 43 0], qp_H (qp_up (qp_up (qp_up q5.2 43 0 ((((16 : Int32) * a1) + ((4 : Int32) * (q5.2 44 0 (a1).toNatClampNeg)))).toNatClampNeg a2) 43 0 (((((16 : Int32) * a1) + ((4 : Int32) * (q5.2 44 0 (a1).toNatClampNeg))) + (1 : Int32))).toNatClampNeg a3) 43 0 (((((16 : Int32) * a1) + ((4 : Int32) * (q5.2 44 0 (a1).toNatClampNeg))) + (2 : Int32))).toNatClampNeg a4) x e, (0, 0)) _
    obtain ⟨hb, h⟩ := qr_inb h
    refine qr_iastore hb rfl rfl rfl rfl rfl ?_
    change qm_E _ _ _ (131, [some (vR 30 0), some (vI a1), some (vI a2), some (vI a3), some (vI a4), some (vI a5), u6, some (vI (((16 : Int32) * a1) + ((4 : Int32) * (q5.2 44 0 (a1).toNatClampNeg))))], [], qp_H (qp_up (qp_up (qp_up (qp_up q5.2 43 0 ((((16 : Int32) * a1) + ((4 : Int32) * (q5.2 44 0 (a1).toNatClampNeg)))).toNatClampNeg a2) 43 0 (((((16 : Int32) * a1) + ((4 : Int32) * (q5.2 44 0 (a1).toNatClampNeg))) + (1 : Int32))).toNatClampNeg a3) 43 0 (((((16 : Int32) * a1) + ((4 : Int32) * (q5.2 44 0 (a1).toNatClampNeg))) + (2 : Int32))).toNatClampNeg a4) 43 0 (((((16 : Int32) * a1) + ((4 : Int32) * (q5.2 44 0 (a1).toNatClampNeg))) + (3 : Int32))).toNatClampNeg a5) x e, (0, 0)) _
    iterate 4 refine qm_E_next rfl ?_
    obtain ⟨hb, h⟩ := qr_inb h
    refine qr_iaload hb rfl rfl rfl rfl ?_
    change qm_E _ _ _ (138, [some (vR 30 0), some (vI a1), some (vI a2), some (vI a3), some (vI a4), some (vI a5), u6, some (vI (((16 : Int32) * a1) + ((4 : Int32) * (q5.2 44 0 (a1).toNatClampNeg))))], [vI ((qp_up (qp_up (qp_up (qp_up q5.2 43 0 ((((16 : Int32) * a1) + ((4 : Int32) * (q5.2 44 0 (a1).toNatClampNeg)))).toNatClampNeg a2) 43 0 (((((16 : Int32) * a1) + ((4 : Int32) * (q5.2 44 0 (a1).toNatClampNeg))) + (1 : Int32))).toNatClampNeg a3) 43 0 (((((16 : Int32) * a1) + ((4 : Int32) * (q5.2 44 0 (a1).toNatClampNeg))) + (2 : Int32))).toNatClampNeg a4) 43 0 (((((16 : Int32) * a1) + ((4 : Int32) * (q5.2 44 0 (a1).toNatClampNeg))) + (3 : Int32))).toNatClampNeg a5) 44 0 (a1).toNatClampNeg), vI a1, vR 44 0], qp_H (qp_up (qp_up (qp_up (qp_up q5.2 43 0 ((((16 : Int32) * a1) + ((4 : Int32) * (q5.2 44 0 (a1).toNatClampNeg)))).toNatClampNeg a2) 43 0 (((((16 : Int32) * a1) + ((4 : Int32) * (q5.2 44 0 (a1).toNatClampNeg))) + (1 : Int32))).toNatClampNeg a3) 43 0 (((((16 : Int32) * a1) + ((4 : Int32) * (q5.2 44 0 (a1).toNatClampNeg))) + (2 : Int32))).toNatClampNeg a4) 43 0 (((((16 : Int32) * a1) + ((4 : Int32) * (q5.2 44 0 (a1).toNatClampNeg))) + (3 : Int32))).toNatClampNeg a5) x e, (0, 0)) _
    iterate 2 refine qm_E_next rfl ?_
    obtain ⟨hb, h⟩ := qr_inb h
    refine qr_iastore hb rfl rfl rfl rfl rfl ?_
    change qm_E _ _ _ (141, [some (vR 30 0), some (vI a1), some (vI a2), some (vI a3), some (vI a4), some (vI a5), u6, some (vI (((16 : Int32) * a1) + ((4 : Int32) * (q5.2 44 0 (a1).toNatClampNeg))))], [], qp_H (qp_up (qp_up (qp_up (qp_up (qp_up q5.2 43 0 ((((16 : Int32) * a1) + ((4 : Int32) * (q5.2 44 0 (a1).toNatClampNeg)))).toNatClampNeg a2) 43 0 (((((16 : Int32) * a1) + ((4 : Int32) * (q5.2 44 0 (a1).toNatClampNeg))) + (1 : Int32))).toNatClampNeg a3) 43 0 (((((16 : Int32) * a1) + ((4 : Int32) * (q5.2 44 0 (a1).toNatClampNeg))) + (2 : Int32))).toNatClampNeg a4) 43 0 (((((16 : Int32) * a1) + ((4 : Int32) * (q5.2 44 0 (a1).toNatClampNeg))) + (3 : Int32))).toNatClampNeg a5) 44 0 (a1).toNatClampNeg (((qp_up (qp_up (qp_up (qp_up q5.2 43 0 ((((16 : Int32) * a1) + ((4 : Int32) * (q5.2 44 0 (a1).toNatClampNeg)))).toNatClampNeg a2) 43 0 (((((16 : Int32) * a1) + ((4 : Int32) * (q5.2 44 0 (a1).toNatClampNeg))) + (1 : Int32))).toNatClampNeg a3) 43 0 (((((16 : Int32) * a1) + ((4 : Int32) * (q5.2 44 0 (a1).toNatClampNeg))) + (2 : Int32))).toNatClampNeg a4) 43 0 (((((16 : Int32) * a1) + ((4 : Int32) * (q5.2 44 0 (a1).toNatClampNeg))) + (3 : Int32))).toNatClampNeg a5) 44 0 (a1).toNatClampNeg) + (1 : Int32))) x e, (0, 0)) _
    iterate 3 refine qm_E_next rfl ?_
    obtain ⟨hb, h⟩ := qr_inb h
    refine qr_iaload hb rfl rfl rfl rfl ?_
    change qm_E _ _ _ (147, [some (vR 30 0), some (vI a1), some (vI a2), some (vI a3), some (vI a4), some (vI a5), u6, some (vI (((16 : Int32) * a1) + ((4 : Int32) * (q5.2 44 0 (a1).toNatClampNeg))))], [vI ((qp_up (qp_up (qp_up (qp_up (qp_up q5.2 43 0 ((((16 : Int32) * a1) + ((4 : Int32) * (q5.2 44 0 (a1).toNatClampNeg)))).toNatClampNeg a2) 43 0 (((((16 : Int32) * a1) + ((4 : Int32) * (q5.2 44 0 (a1).toNatClampNeg))) + (1 : Int32))).toNatClampNeg a3) 43 0 (((((16 : Int32) * a1) + ((4 : Int32) * (q5.2 44 0 (a1).toNatClampNeg))) + (2 : Int32))).toNatClampNeg a4) 43 0 (((((16 : Int32) * a1) + ((4 : Int32) * (q5.2 44 0 (a1).toNatClampNeg))) + (3 : Int32))).toNatClampNeg a5) 44 0 (a1).toNatClampNeg (((qp_up (qp_up (qp_up (qp_up q5.2 43 0 ((((16 : Int32) * a1) + ((4 : Int32) * (q5.2 44 0 (a1).toNatClampNeg)))).toNatClampNeg a2) 43 0 (((((16 : Int32) * a1) + ((4 : Int32) * (q5.2 44 0 (a1).toNatClampNeg))) + (1 : Int32))).toNatClampNeg a3) 43 0 (((((16 : Int32) * a1) + ((4 : Int32) * (q5.2 44 0 (a1).toNatClampNeg))) + (2 : Int32))).toNatClampNeg a4) 43 0 (((((16 : Int32) * a1) + ((4 : Int32) * (q5.2 44 0 (a1).toNatClampNeg))) + (3 : Int32))).toNatClampNeg a5) 44 0 (a1).toNatClampNeg) + (1 : Int32))) 44 0 (a1).toNatClampNeg)], qp_H (qp_up (qp_up (qp_up (qp_up (qp_up q5.2 43 0 ((((16 : Int32) * a1) + ((4 : Int32) * (q5.2 44 0 (a1).toNatClampNeg)))).toNatClampNeg a2) 43 0 (((((16 : Int32) * a1) + ((4 : Int32) * (q5.2 44 0 (a1).toNatClampNeg))) + (1 : Int32))).toNatClampNeg a3) 43 0 (((((16 : Int32) * a1) + ((4 : Int32) * (q5.2 44 0 (a1).toNatClampNeg))) + (2 : Int32))).toNatClampNeg a4) 43 0 (((((16 : Int32) * a1) + ((4 : Int32) * (q5.2 44 0 (a1).toNatClampNeg))) + (3 : Int32))).toNatClampNeg a5) 44 0 (a1).toNatClampNeg (((qp_up (qp_up (qp_up (qp_up q5.2 43 0 ((((16 : Int32) * a1) + ((4 : Int32) * (q5.2 44 0 (a1).toNatClampNeg)))).toNatClampNeg a2) 43 0 (((((16 : Int32) * a1) + ((4 : Int32) * (q5.2 44 0 (a1).toNatClampNeg))) + (1 : Int32))).toNatClampNeg a3) 43 0 (((((16 : Int32) * a1) + ((4 : Int32) * (q5.2 44 0 (a1).toNatClampNeg))) + (2 : Int32))).toNatClampNeg a4) 43 0 (((((16 : Int32) * a1) + ((4 : Int32) * (q5.2 44 0 (a1).toNatClampNeg))) + (3 : Int32))).toNatClampNeg a5) 44 0 (a1).toNatClampNeg) + (1 : Int32))) x e, (0, 0)) _
    cases h
    exact qr_iret (Or.inl rfl) rfl rfl
  · refine qr_f hb rfl ?_
    change qm_E _ _ _ (74, [some (vR 30 0), some (vI a1), some (vI a2), some (vI a3), some (vI a4), some (vI a5), u6, u7], [], qp_H q5.2 x e, (0, 0)) _
    iterate 1 refine qm_E_next rfl ?_
    cases h
    exact qr_iret (Or.inl rfl) rfl rfl
def qf123_67 (a1 : Int32) (a2 : Int32) (a3 : Int32) (a4 : Int32) (a5 : Int32) (b1 : Int32) (s : qp_S) : Option (Int32 × qp_S) := qf123_68 a1 a2 a3 a4 a5 b1 (0 : Int32) s
theorem qe123_67 (d : Nat) {L : Nat} {xs : Nat → Int32} {x : Int64} {e : Nat → Nat}   {u6 : Option qm_V} {u7 : Option qm_V} {a1 : Int32} {a2 : Int32} {a3 : Int32} {a4 : Int32} {a5 : Int32} {b1 : Int32} {s : qp_S} {r : Int32 × qp_S} (h : qf123_67  a1 a2 a3 a4 a5 b1 s = some r) : qm_E (qz_ro L xs) (d + 1) 123 (67, [some (vR 30 0), some (vI a1), some (vI a2), some (vI a3), some (vI a4), some (vI a5), u6, u7], [vI b1, vR 30 0], qp_H s x e, (0, 0)) (qf_v r.1 r.2 x e) := by
  unfold qf123_67 at h
  iterate 1 refine qm_E_next rfl ?_
  exact qe123_68 d  h
def qf123_63 (a1 : Int32) (a2 : Int32) (a3 : Int32) (a4 : Int32) (a5 : Int32) (b1 : Int32) (s : qp_S) : Option (Int32 × qp_S) := qf123_68 a1 a2 a3 a4 a5 b1 (1 : Int32) s
theorem qe123_63 (d : Nat) {L : Nat} {xs : Nat → Int32} {x : Int64} {e : Nat → Nat}   {u6 : Option qm_V} {u7 : Option qm_V} {a1 : Int32} {a2 : Int32} {a3 : Int32} {a4 : Int32} {a5 : Int32} {b1 : Int32} {s : qp_S} {r : Int32 × qp_S} (h : qf123_63  a1 a2 a3 a4 a5 b1 s = some r) : qm_E (qz_ro L xs) (d + 1) 123 (63, [some (vR 30 0), some (vI a1), some (vI a2), some (vI a3), some (vI a4), some (vI a5), u6, u7], [vI b1, vR 30 0], qp_H s x e, (0, 0)) (qf_v r.1 r.2 x e) := by
  unfold qf123_63 at h
  iterate 2 refine qm_E_next rfl ?_
  exact qe123_68 d  h
def qf123_34 (a1 : Int32) (a2 : Int32) (a3 : Int32) (a4 : Int32) (a5 : Int32) (b0 : Int32) (s : qp_S) : Option (Int32 × qp_S) := ((qf116 a3 (0 : Int32) (5 : Int32) s).bind fun q4 => (bif qm_cmp .eq q4 (0 : Int32) then qf123_67 a1 a2 a3 a4 a5 b0 s else (bif qm_cmp .eq b0 (0 : Int32) then qf123_63 a1 a2 a3 a4 a5 b0 s else (if qm_inb a1 4 = true then (bif qm_cmp .ge (s 44 0 (a1).toNatClampNeg) (4 : Int32) then qf123_67 a1 a2 a3 a4 a5 b0 s else qf123_63 a1 a2 a3 a4 a5 b0 s) else none))))
theorem qe123_34 (d : Nat) {L : Nat} {xs : Nat → Int32} {x : Int64} {e : Nat → Nat}   {u6 : Option qm_V} {u7 : Option qm_V} {a1 : Int32} {a2 : Int32} {a3 : Int32} {a4 : Int32} {a5 : Int32} {b0 : Int32} {s : qp_S} {r : Int32 × qp_S} (h : qf123_34  a1 a2 a3 a4 a5 b0 s = some r) : qm_E (qz_ro L xs) (d + 1) 123 (34, [some (vR 30 0), some (vI a1), some (vI a2), some (vI a3), some (vI a4), some (vI a5), u6, u7], [vI b0], qp_H s x e, (0, 0)) (qf_v r.1 r.2 x e) := by
  unfold qf123_34 at h
  iterate 6 refine qm_E_next rfl ?_
  change qm_E _ _ _ (42, [some (vR 30 0), some (vI a1), some (vI a2), some (vI a3), some (vI a4), some (vI a5), some (vI b0), u7], [vI (5 : Int32), vI (0 : Int32), vI a3, vI b0, vR 30 0], qp_H s x e, (0, 0)) _
  obtain ⟨q4, hq, h⟩ := qs_bd h
  refine qm_E_call rfl (qe116 (d + 0) hq) rfl ?_
  change qm_E _ _ _ (45, [some (vR 30 0), some (vI a1), some (vI a2), some (vI a3), some (vI a4), some (vI a5), some (vI b0), u7], [vI q4, vI b0, vR 30 0], qp_H s x e, (0, 0)) _
  rcases qr_cond h with ⟨hb, h⟩ | ⟨hb, h⟩
  · refine qr_t hb rfl ?_
    exact qe123_67 d  h
  · refine qr_f hb rfl ?_
    change qm_E _ _ _ (48, [some (vR 30 0), some (vI a1), some (vI a2), some (vI a3), some (vI a4), some (vI a5), some (vI b0), u7], [vI b0, vR 30 0], qp_H s x e, (0, 0)) _
    iterate 1 refine qm_E_next rfl ?_
    rcases qr_cond h with ⟨hb, h⟩ | ⟨hb, h⟩
    · refine qr_t hb rfl ?_
      exact qe123_63 d  h
    · refine qr_f hb rfl ?_
      change qm_E _ _ _ (53, [some (vR 30 0), some (vI a1), some (vI a2), some (vI a3), some (vI a4), some (vI a5), some (vI b0), u7], [vI b0, vR 30 0], qp_H s x e, (0, 0)) _
      iterate 3 refine qm_E_next rfl ?_
      obtain ⟨hb, h⟩ := qr_inb h
      refine qr_iaload hb rfl rfl rfl rfl ?_
      change qm_E _ _ _ (59, [some (vR 30 0), some (vI a1), some (vI a2), some (vI a3), some (vI a4), some (vI a5), some (vI b0), u7], [vI (s 44 0 (a1).toNatClampNeg), vI b0, vR 30 0], qp_H s x e, (0, 0)) _
      iterate 1 refine qm_E_next rfl ?_
      rcases qr_cond h with ⟨hb, h⟩ | ⟨hb, h⟩
      · refine qr_t hb rfl ?_
        exact qe123_67 d  h
      · refine qr_f hb rfl ?_
        exact qe123_63 d  h
def qf123_33 (a1 : Int32) (a2 : Int32) (a3 : Int32) (a4 : Int32) (a5 : Int32) (s : qp_S) : Option (Int32 × qp_S) := qf123_34 a1 a2 a3 a4 a5 (0 : Int32) s
theorem qe123_33 (d : Nat) {L : Nat} {xs : Nat → Int32} {x : Int64} {e : Nat → Nat}   {u6 : Option qm_V} {u7 : Option qm_V} {a1 : Int32} {a2 : Int32} {a3 : Int32} {a4 : Int32} {a5 : Int32} {s : qp_S} {r : Int32 × qp_S} (h : qf123_33  a1 a2 a3 a4 a5 s = some r) : qm_E (qz_ro L xs) (d + 1) 123 (33, [some (vR 30 0), some (vI a1), some (vI a2), some (vI a3), some (vI a4), some (vI a5), u6, u7], [], qp_H s x e, (0, 0)) (qf_v r.1 r.2 x e) := by
  unfold qf123_33 at h
  iterate 1 refine qm_E_next rfl ?_
  exact qe123_34 d  h
def qf123 (a1 : Int32) (a2 : Int32) (a3 : Int32) (a4 : Int32) (a5 : Int32) (s : qp_S) : Option (Int32 × qp_S) := ((qf116 a1 (0 : Int32) (3 : Int32) s).bind fun q1 => (bif qm_cmp .eq q1 (0 : Int32) then qf123_33 a1 a2 a3 a4 a5 s else ((qf116 a2 (0 : Int32) (15 : Int32) s).bind fun q2 => (bif qm_cmp .eq q2 (0 : Int32) then qf123_33 a1 a2 a3 a4 a5 s else ((qf116 a5 (0 : Int32) (3 : Int32) s).bind fun q3 => (bif qm_cmp .eq q3 (0 : Int32) then qf123_33 a1 a2 a3 a4 a5 s else qf123_34 a1 a2 a3 a4 a5 (1 : Int32) s))))))
theorem qe123 (d : Nat) {L : Nat} {xs : Nat → Int32} {x : Int64} {e : Nat → Nat}    {a1 : Int32} {a2 : Int32} {a3 : Int32} {a4 : Int32} {a5 : Int32} {s : qp_S} {r : Int32 × qp_S} (h : qf123  a1 a2 a3 a4 a5 s = some r) : qm_E (qz_ro L xs) (d + 1) 123 (0, qm_ent 123 [vR 30 0, vI a1, vI a2, vI a3, vI a4, vI a5], [], qp_H s x e, (0, 0)) (qf_v r.1 r.2 x e) := by
  unfold qf123 at h
  iterate 3 refine qm_E_next rfl ?_
  obtain ⟨q1, hq, h⟩ := qs_bd h
  refine qm_E_call rfl (qe116 (d + 0) hq) rfl ?_
  change qm_E _ _ _ (6, [some (vR 30 0), some (vI a1), some (vI a2), some (vI a3), some (vI a4), some (vI a5), none, none], [vI q1], qp_H s x e, (0, 0)) _
  rcases qr_cond h with ⟨hb, h⟩ | ⟨hb, h⟩
  · refine qr_t hb rfl ?_
    exact qe123_33 d  h
  · refine qr_f hb rfl ?_
    change qm_E _ _ _ (9, [some (vR 30 0), some (vI a1), some (vI a2), some (vI a3), some (vI a4), some (vI a5), none, none], [], qp_H s x e, (0, 0)) _
    iterate 3 refine qm_E_next rfl ?_
    obtain ⟨q2, hq, h⟩ := qs_bd h
    refine qm_E_call rfl (qe116 (d + 0) hq) rfl ?_
    change qm_E _ _ _ (16, [some (vR 30 0), some (vI a1), some (vI a2), some (vI a3), some (vI a4), some (vI a5), none, none], [vI q2], qp_H s x e, (0, 0)) _
    rcases qr_cond h with ⟨hb, h⟩ | ⟨hb, h⟩
    · refine qr_t hb rfl ?_
      exact qe123_33 d  h
    · refine qr_f hb rfl ?_
      change qm_E _ _ _ (19, [some (vR 30 0), some (vI a1), some (vI a2), some (vI a3), some (vI a4), some (vI a5), none, none], [], qp_H s x e, (0, 0)) _
      iterate 3 refine qm_E_next rfl ?_
      obtain ⟨q3, hq, h⟩ := qs_bd h
      refine qm_E_call rfl (qe116 (d + 0) hq) rfl ?_
      change qm_E _ _ _ (26, [some (vR 30 0), some (vI a1), some (vI a2), some (vI a3), some (vI a4), some (vI a5), none, none], [vI q3], qp_H s x e, (0, 0)) _
      rcases qr_cond h with ⟨hb, h⟩ | ⟨hb, h⟩
      · refine qr_t hb rfl ?_
        exact qe123_33 d  h
      · refine qr_f hb rfl ?_
        change qm_E _ _ _ (29, [some (vR 30 0), some (vI a1), some (vI a2), some (vI a3), some (vI a4), some (vI a5), none, none], [], qp_H s x e, (0, 0)) _
        iterate 2 refine qm_E_next rfl ?_
        exact qe123_34 d  h
/-! PeriodKernelModel binds -/
def qf125_37 (b1 : Int32) (s : qp_S) : Option (Int32 × qp_S) := (bif qm_cmp .ne ((qp_up s 30 0 0 b1) 30 0 0) (0 : Int32) then some ((0 : Int32), (qp_up s 30 0 0 b1)) else some ((1 : Int32), (qp_up s 30 0 0 b1)))
theorem qe125_37 (d : Nat) {L : Nat} {xs : Nat → Int32} {x : Int64} {e : Nat → Nat}   {u1 : Option qm_V} {u2 : Option qm_V} {b1 : Int32} {s : qp_S} {r : Int32 × qp_S} (h : qf125_37  b1 s = some r) : qm_E (qz_ro L xs) (d + 1) 125 (37, [some (vR 30 0), u1, u2], [vI b1, vR 30 0], qp_H s x e, (0, 0)) (qf_v r.1 r.2 x e) := by
  unfold qf125_37 at h
  refine qr_put rfl rfl ?_
  change qm_E _ _ _ (40, [some (vR 30 0), u1, u2], [], qp_H (qp_up s 30 0 0 b1) x e, (0, 0)) _
  iterate 2 refine qm_E_next rfl ?_
  rcases qr_cond h with ⟨hb, h⟩ | ⟨hb, h⟩
  · refine qr_t hb rfl ?_
    change qm_E _ _ _ (51, [some (vR 30 0), u1, u2], [], qp_H (qp_up s 30 0 0 b1) x e, (0, 0)) _
    iterate 1 refine qm_E_next rfl ?_
    cases h
    exact qr_iret (Or.inr ⟨rfl, Or.inl rfl⟩) rfl rfl
  · refine qr_f hb rfl ?_
    change qm_E _ _ _ (47, [some (vR 30 0), u1, u2], [], qp_H (qp_up s 30 0 0 b1) x e, (0, 0)) _
    iterate 2 refine qm_E_next rfl ?_
    cases h
    exact qr_iret (Or.inr ⟨rfl, Or.inr rfl⟩) rfl rfl
def qf125_21 (s : qp_S) : Option (Int32 × qp_S) := qf125_37 (1 : Int32) s
theorem qe125_21 (d : Nat) {L : Nat} {xs : Nat → Int32} {x : Int64} {e : Nat → Nat}   {u1 : Option qm_V} {u2 : Option qm_V}  {s : qp_S} {r : Int32 × qp_S} (h : qf125_21   s = some r) : qm_E (qz_ro L xs) (d + 1) 125 (21, [some (vR 30 0), u1, u2], [vR 30 0], qp_H s x e, (0, 0)) (qf_v r.1 r.2 x e) := by
  unfold qf125_21 at h
  iterate 2 refine qm_E_next rfl ?_
  exact qe125_37 d  h
def qf125 (a1 : Int32) (a2 : Int32) (s : qp_S) : Option (Int32 × qp_S) := ((qf116 a1 (0 : Int32) (7 : Int32) s).bind fun q1 => (bif qm_cmp .eq q1 (0 : Int32) then qf125_21 s else ((qf116 a2 (-1 : Int32) (15 : Int32) s).bind fun q2 => (bif qm_cmp .ne q2 (0 : Int32) then (bif qm_cmp .eq (s 30 0 20) (0 : Int32) then qf125_37 (0 : Int32) s else qf125_37 (2 : Int32) s) else qf125_21 s))))
theorem qe125 (d : Nat) {L : Nat} {xs : Nat → Int32} {x : Int64} {e : Nat → Nat}    {a1 : Int32} {a2 : Int32} {s : qp_S} {r : Int32 × qp_S} (h : qf125  a1 a2 s = some r) : qm_E (qz_ro L xs) (d + 1) 125 (0, qm_ent 125 [vR 30 0, vI a1, vI a2], [], qp_H s x e, (0, 0)) (qf_v r.1 r.2 x e) := by
  unfold qf125 at h
  iterate 4 refine qm_E_next rfl ?_
  obtain ⟨q1, hq, h⟩ := qs_bd h
  refine qm_E_call rfl (qe116 (d + 0) hq) rfl ?_
  change qm_E _ _ _ (8, [some (vR 30 0), some (vI a1), some (vI a2)], [vI q1, vR 30 0], qp_H s x e, (0, 0)) _
  rcases qr_cond h with ⟨hb, h⟩ | ⟨hb, h⟩
  · refine qr_t hb rfl ?_
    exact qe125_21 d  h
  · refine qr_f hb rfl ?_
    change qm_E _ _ _ (11, [some (vR 30 0), some (vI a1), some (vI a2)], [vR 30 0], qp_H s x e, (0, 0)) _
    iterate 3 refine qm_E_next rfl ?_
    obtain ⟨q2, hq, h⟩ := qs_bd h
    refine qm_E_call rfl (qe116 (d + 0) hq) rfl ?_
    change qm_E _ _ _ (18, [some (vR 30 0), some (vI a1), some (vI a2)], [vI q2, vR 30 0], qp_H s x e, (0, 0)) _
    rcases qr_cond h with ⟨hb, h⟩ | ⟨hb, h⟩
    · refine qr_t hb rfl ?_
      change qm_E _ _ _ (25, [some (vR 30 0), some (vI a1), some (vI a2)], [vR 30 0], qp_H s x e, (0, 0)) _
      iterate 2 refine qm_E_next rfl ?_
      rcases qr_cond h with ⟨hb, h⟩ | ⟨hb, h⟩
      · refine qr_t hb rfl ?_
        change qm_E _ _ _ (36, [some (vR 30 0), some (vI a1), some (vI a2)], [vR 30 0], qp_H s x e, (0, 0)) _
        iterate 1 refine qm_E_next rfl ?_
        exact qe125_37 d  h
      · refine qr_f hb rfl ?_
        change qm_E _ _ _ (32, [some (vR 30 0), some (vI a1), some (vI a2)], [vR 30 0], qp_H s x e, (0, 0)) _
        iterate 2 refine qm_E_next rfl ?_
        exact qe125_37 d  h
    · refine qr_f hb rfl ?_
      exact qe125_21 d  h
/-! PeriodKernelModel sense -/
def qf124 (a1 : Int32) (a2 : Int32) (s : qp_S) : Option (Int32 × qp_S) := ((qf125 a1 a2 s).bind fun q1 => (bif qm_cmp .eq (q1.1) (0 : Int32) then some (0, q1.2) else (if qm_inb a1 8 = true then some (0, (qp_up q1.2 45 0 (a1).toNatClampNeg a2)) else none)))
theorem qe124 (d : Nat) {L : Nat} {xs : Nat → Int32} {x : Int64} {e : Nat → Nat}    {a1 : Int32} {a2 : Int32} {s : qp_S} {r : Int32 × qp_S} (h : qf124  a1 a2 s = some r) : qm_E (qz_ro L xs) (d + 2) 124 (0, qm_ent 124 [vR 30 0, vI a1, vI a2], [], qp_H s x e, (0, 0)) (qf_u r.2 x e) := by
  unfold qf124 at h
  iterate 3 refine qm_E_next rfl ?_
  obtain ⟨q1, hq, h⟩ := qs_bd h
  refine qm_E_call rfl (qe125 (d + 0) hq) rfl ?_
  change qm_E _ _ _ (6, [some (vR 30 0), some (vI a1), some (vI a2)], [vI (q1.1)], qp_H q1.2 x e, (0, 0)) _
  rcases qr_cond h with ⟨hb, h⟩ | ⟨hb, h⟩
  · refine qr_t hb rfl ?_
    change qm_E _ _ _ (16, [some (vR 30 0), some (vI a1), some (vI a2)], [], qp_H q1.2 x e, (0, 0)) _
    cases h
    exact qr_ret rfl rfl rfl
  · refine qr_f hb rfl ?_
    change qm_E _ _ _ (9, [some (vR 30 0), some (vI a1), some (vI a2)], [], qp_H q1.2 x e, (0, 0)) _
    iterate 4 refine qm_E_next rfl ?_
    obtain ⟨hb, h⟩ := qr_inb h
    refine qr_iastore hb rfl rfl rfl rfl rfl ?_
    change qm_E _ _ _ (16, [some (vR 30 0), some (vI a1), some (vI a2)], [], qp_H (qp_up q1.2 45 0 (a1).toNatClampNeg a2) x e, (0, 0)) _
    cases h
    exact qr_ret rfl rfl rfl
/-! PeriodKernelModel actuate -/
def qf126 (a1 : Int32) (a2 : Int32) (s : qp_S) : Option (Int32 × qp_S) := ((qf125 a1 a2 s).bind fun q1 => (bif qm_cmp .eq (q1.1) (0 : Int32) then some (0, q1.2) else (if qm_inb a1 8 = true then some (0, (qp_up q1.2 47 0 (a1).toNatClampNeg a2)) else none)))
theorem qe126 (d : Nat) {L : Nat} {xs : Nat → Int32} {x : Int64} {e : Nat → Nat}    {a1 : Int32} {a2 : Int32} {s : qp_S} {r : Int32 × qp_S} (h : qf126  a1 a2 s = some r) : qm_E (qz_ro L xs) (d + 2) 126 (0, qm_ent 126 [vR 30 0, vI a1, vI a2], [], qp_H s x e, (0, 0)) (qf_u r.2 x e) := by
  unfold qf126 at h
  iterate 3 refine qm_E_next rfl ?_
  obtain ⟨q1, hq, h⟩ := qs_bd h
  refine qm_E_call rfl (qe125 (d + 0) hq) rfl ?_
  change qm_E _ _ _ (6, [some (vR 30 0), some (vI a1), some (vI a2)], [vI (q1.1)], qp_H q1.2 x e, (0, 0)) _
  rcases qr_cond h with ⟨hb, h⟩ | ⟨hb, h⟩
  · refine qr_t hb rfl ?_
    change qm_E _ _ _ (16, [some (vR 30 0), some (vI a1), some (vI a2)], [], qp_H q1.2 x e, (0, 0)) _
    cases h
    exact qr_ret rfl rfl rfl
  · refine qr_f hb rfl ?_
    change qm_E _ _ _ (9, [some (vR 30 0), some (vI a1), some (vI a2)], [], qp_H q1.2 x e, (0, 0)) _
    iterate 4 refine qm_E_next rfl ?_
    obtain ⟨hb, h⟩ := qr_inb h
    refine qr_iastore hb rfl rfl rfl rfl rfl ?_
    change qm_E _ _ _ (16, [some (vR 30 0), some (vI a1), some (vI a2)], [], qp_H (qp_up q1.2 47 0 (a1).toNatClampNeg a2) x e, (0, 0)) _
    cases h
    exact qr_ret rfl rfl rfl
/-! PeriodKernelModel isUsed -/
def qf130_4  : Nat → Int32 → Int32 → Int32 → qp_S → Option (Int32)
  | 0, _, _, _, _ => none
  | n + 1, a1, a2, a3, s => (bif qm_cmp .ge a3 (4 : Int32) then (if (a2 = 0 ∨ a2 = 1) then some a2 else none) else (bif qm_cmp .ne a2 (0 : Int32) then qf130_4  n a1 (1 : Int32) (a3 + (1 : Int32)) s else (if qm_inb a3 4 = true then (bif qm_cmp .le (s 41 0 (a3).toNatClampNeg) (0 : Int32) then qf130_4  n a1 (0 : Int32) (a3 + (1 : Int32)) s else (if qm_inb (((8 : Int32) * a3) + a1) 32 = true then (bif qm_cmp .le (s 42 0 ((((8 : Int32) * a3) + a1)).toNatClampNeg) (0 : Int32) then qf130_4  n a1 (0 : Int32) (a3 + (1 : Int32)) s else qf130_4  n a1 (1 : Int32) (a3 + (1 : Int32)) s) else none)) else none)))
theorem qe130_4 (d : Nat) {L : Nat} {xs : Nat → Int32} {x : Int64} {e : Nat → Nat}   : ∀ {n : Nat}  {a1 : Int32} {a2 : Int32} {a3 : Int32} {s : qp_S} {r : Int32}, qf130_4  n a1 a2 a3 s = some r → qm_E (qz_ro L xs) (d + 0) 130 (4, [some (vR 30 0), some (vI a1), some (vI a2), some (vI a3)], [], qp_H s x e, (0, 0)) (qf_v r s x e) := by
  intro n
  induction n with
  | zero => intro  a1 a2 a3 s r h; cases h
  | succ n ih =>
    intro  a1 a2 a3 s r h
    unfold qf130_4 at h
    iterate 2 refine qm_E_next rfl ?_
    rcases qr_cond h with ⟨hb, h⟩ | ⟨hb, h⟩
    · refine qr_t hb rfl ?_
      change qm_E _ _ _ (48, [some (vR 30 0), some (vI a1), some (vI a2), some (vI a3)], [], qp_H s x e, (0, 0)) _
      iterate 1 refine qm_E_next rfl ?_
      obtain ⟨hz, h⟩ := qr_inb h
      cases h
      exact qr_iret (Or.inr ⟨rfl, hz⟩) rfl rfl
    · refine qr_f hb rfl ?_
      change qm_E _ _ _ (9, [some (vR 30 0), some (vI a1), some (vI a2), some (vI a3)], [], qp_H s x e, (0, 0)) _
      iterate 1 refine qm_E_next rfl ?_
      rcases qr_cond h with ⟨hb, h⟩ | ⟨hb, h⟩
      · refine qr_t hb rfl ?_
        change qm_E _ _ _ (36, [some (vR 30 0), some (vI a1), some (vI a2), some (vI a3)], [], qp_H s x e, (0, 0)) _
        iterate 5 refine qm_E_next rfl ?_
        exact ih h
      · refine qr_f hb rfl ?_
        change qm_E _ _ _ (13, [some (vR 30 0), some (vI a1), some (vI a2), some (vI a3)], [], qp_H s x e, (0, 0)) _
        iterate 3 refine qm_E_next rfl ?_
        obtain ⟨hb, h⟩ := qr_inb h
        refine qr_iaload hb rfl rfl rfl rfl ?_
        change qm_E _ _ _ (19, [some (vR 30 0), some (vI a1), some (vI a2), some (vI a3)], [vI (s 41 0 (a3).toNatClampNeg)], qp_H s x e, (0, 0)) _
        rcases qr_cond h with ⟨hb, h⟩ | ⟨hb, h⟩
        · refine qr_t hb rfl ?_
          change qm_E _ _ _ (40, [some (vR 30 0), some (vI a1), some (vI a2), some (vI a3)], [], qp_H s x e, (0, 0)) _
          iterate 4 refine qm_E_next rfl ?_
          exact ih h
        · refine qr_f hb rfl ?_
          change qm_E _ _ _ (22, [some (vR 30 0), some (vI a1), some (vI a2), some (vI a3)], [], qp_H s x e, (0, 0)) _
          iterate 6 refine qm_E_next rfl ?_
          change qm_E _ _ _ (31, [some (vR 30 0), some (vI a1), some (vI a2), some (vI a3)], [vI a1, vI ((8 : Int32) * a3), vR 42 0], qp_H s x e, (0, 0)) _
          iterate 1 refine qm_E_next rfl ?_
          obtain ⟨hb, h⟩ := qr_inb h
          refine qr_iaload hb rfl rfl rfl rfl ?_
          change qm_E _ _ _ (33, [some (vR 30 0), some (vI a1), some (vI a2), some (vI a3)], [vI (s 42 0 ((((8 : Int32) * a3) + a1)).toNatClampNeg)], qp_H s x e, (0, 0)) _
          rcases qr_cond h with ⟨hb, h⟩ | ⟨hb, h⟩
          · refine qr_t hb rfl ?_
            change qm_E _ _ _ (40, [some (vR 30 0), some (vI a1), some (vI a2), some (vI a3)], [], qp_H s x e, (0, 0)) _
            iterate 4 refine qm_E_next rfl ?_
            exact ih h
          · refine qr_f hb rfl ?_
            change qm_E _ _ _ (36, [some (vR 30 0), some (vI a1), some (vI a2), some (vI a3)], [], qp_H s x e, (0, 0)) _
            iterate 5 refine qm_E_next rfl ?_
            exact ih h
def qf130 (a1 : Int32) (s : qp_S) : Option (Int32) := qf130_4 4096 a1 (0 : Int32) (0 : Int32) s
theorem qe130 (d : Nat) {L : Nat} {xs : Nat → Int32} {x : Int64} {e : Nat → Nat}    {a1 : Int32} {s : qp_S} {r : Int32} (h : qf130  a1 s = some r) : qm_E (qz_ro L xs) (d + 0) 130 (0, qm_ent 130 [vR 30 0, vI a1], [], qp_H s x e, (0, 0)) (qf_v r s x e) := by
  unfold qf130 at h
  iterate 4 refine qm_E_next rfl ?_
  exact qe130_4 d  h
/-! PeriodKernelModel come -/
def qf132 (a1 : Int32) (a2 : Int32) (a3 : Int32) (s : qp_S) : Option (Int32 × qp_S) := (bif qm_cmp .ge a1 a3 then some ((0 : Int32), s) else (bif qm_cmp .gt a2 (8 : Int32) then some ((0 : Int32), s) else (if qm_inb a1 32 = true then (bif qm_cmp .lt (s 60 0 (a1).toNatClampNeg) (0 : Int32) then (if qm_inb a1 32 = true then some ((1 : Int32), (qp_up s 60 0 (a1).toNatClampNeg a2)) else none) else (if qm_inb a1 32 = true then (bif qm_cmp .eq (s 60 0 (a1).toNatClampNeg) a2 then (if qm_inb a1 32 = true then some ((1 : Int32), (qp_up s 60 0 (a1).toNatClampNeg a2)) else none) else some ((0 : Int32), s)) else none)) else none)))
theorem qe132 (d : Nat) {L : Nat} {xs : Nat → Int32} {x : Int64} {e : Nat → Nat}    {a1 : Int32} {a2 : Int32} {a3 : Int32} {s : qp_S} {r : Int32 × qp_S} (h : qf132  a1 a2 a3 s = some r) : qm_E (qz_ro L xs) (d + 0) 132 (0, qm_ent 132 [vR 30 0, vI a1, vI a2, vI a3], [], qp_H s x e, (0, 0)) (qf_v r.1 r.2 x e) := by
  unfold qf132 at h
  iterate 2 refine qm_E_next rfl ?_
  rcases qr_cond h with ⟨hb, h⟩ | ⟨hb, h⟩
  · refine qr_t hb rfl ?_
    change qm_E _ _ _ (30, [some (vR 30 0), some (vI a1), some (vI a2), some (vI a3)], [], qp_H s x e, (0, 0)) _
    iterate 1 refine qm_E_next rfl ?_
    cases h
    exact qr_iret (Or.inr ⟨rfl, Or.inl rfl⟩) rfl rfl
  · refine qr_f hb rfl ?_
    change qm_E _ _ _ (5, [some (vR 30 0), some (vI a1), some (vI a2), some (vI a3)], [], qp_H s x e, (0, 0)) _
    iterate 2 refine qm_E_next rfl ?_
    rcases qr_cond h with ⟨hb, h⟩ | ⟨hb, h⟩
    · refine qr_t hb rfl ?_
      change qm_E _ _ _ (30, [some (vR 30 0), some (vI a1), some (vI a2), some (vI a3)], [], qp_H s x e, (0, 0)) _
      iterate 1 refine qm_E_next rfl ?_
      cases h
      exact qr_iret (Or.inr ⟨rfl, Or.inl rfl⟩) rfl rfl
    · refine qr_f hb rfl ?_
      change qm_E _ _ _ (11, [some (vR 30 0), some (vI a1), some (vI a2), some (vI a3)], [], qp_H s x e, (0, 0)) _
      iterate 3 refine qm_E_next rfl ?_
      obtain ⟨hb, h⟩ := qr_inb h
      refine qr_iaload hb rfl rfl rfl rfl ?_
      change qm_E _ _ _ (17, [some (vR 30 0), some (vI a1), some (vI a2), some (vI a3)], [vI (s 60 0 (a1).toNatClampNeg)], qp_H s x e, (0, 0)) _
      rcases qr_cond h with ⟨hb, h⟩ | ⟨hb, h⟩
      · refine qr_t hb rfl ?_
        change qm_E _ _ _ (32, [some (vR 30 0), some (vI a1), some (vI a2), some (vI a3)], [], qp_H s x e, (0, 0)) _
        iterate 4 refine qm_E_next rfl ?_
        obtain ⟨hb, h⟩ := qr_inb h
        refine qr_iastore hb rfl rfl rfl rfl rfl ?_
        change qm_E _ _ _ (39, [some (vR 30 0), some (vI a1), some (vI a2), some (vI a3)], [], qp_H (qp_up s 60 0 (a1).toNatClampNeg a2) x e, (0, 0)) _
        iterate 1 refine qm_E_next rfl ?_
        cases h
        exact qr_iret (Or.inr ⟨rfl, Or.inr rfl⟩) rfl rfl
      · refine qr_f hb rfl ?_
        change qm_E _ _ _ (20, [some (vR 30 0), some (vI a1), some (vI a2), some (vI a3)], [], qp_H s x e, (0, 0)) _
        iterate 3 refine qm_E_next rfl ?_
        obtain ⟨hb, h⟩ := qr_inb h
        refine qr_iaload hb rfl rfl rfl rfl ?_
        change qm_E _ _ _ (26, [some (vR 30 0), some (vI a1), some (vI a2), some (vI a3)], [vI (s 60 0 (a1).toNatClampNeg)], qp_H s x e, (0, 0)) _
        iterate 1 refine qm_E_next rfl ?_
        rcases qr_cond h with ⟨hb, h⟩ | ⟨hb, h⟩
        · refine qr_t hb rfl ?_
          change qm_E _ _ _ (32, [some (vR 30 0), some (vI a1), some (vI a2), some (vI a3)], [], qp_H s x e, (0, 0)) _
          iterate 4 refine qm_E_next rfl ?_
          obtain ⟨hb, h⟩ := qr_inb h
          refine qr_iastore hb rfl rfl rfl rfl rfl ?_
          change qm_E _ _ _ (39, [some (vR 30 0), some (vI a1), some (vI a2), some (vI a3)], [], qp_H (qp_up s 60 0 (a1).toNatClampNeg a2) x e, (0, 0)) _
          iterate 1 refine qm_E_next rfl ?_
          cases h
          exact qr_iret (Or.inr ⟨rfl, Or.inr rfl⟩) rfl rfl
        · refine qr_f hb rfl ?_
          change qm_E _ _ _ (30, [some (vR 30 0), some (vI a1), some (vI a2), some (vI a3)], [], qp_H s x e, (0, 0)) _
          iterate 1 refine qm_E_next rfl ?_
          cases h
          exact qr_iret (Or.inr ⟨rfl, Or.inl rfl⟩) rfl rfl
/-! PeriodKernelModel takes -/
def qf134 (a0 : Int32) (s : qp_S) : Option (Int32) := (bif qm_cmp .le a0 (16 : Int32) then ((qf116 a0 (4 : Int32) (9 : Int32) s).bind fun q1 => (bif qm_cmp .ne q1 (0 : Int32) then some (2 : Int32) else (bif qm_cmp .ne a0 (13 : Int32) then (bif qm_cmp .eq a0 (3 : Int32) then some (1 : Int32) else (bif qm_cmp .eq a0 (11 : Int32) then some (1 : Int32) else (bif qm_cmp .eq a0 (12 : Int32) then some (1 : Int32) else (bif qm_cmp .eq a0 (14 : Int32) then some (1 : Int32) else (bif qm_cmp .ne a0 (16 : Int32) then some (0 : Int32) else some (1 : Int32)))))) else some (2 : Int32)))) else some (9 : Int32))
theorem qe134 (d : Nat) {L : Nat} {xs : Nat → Int32} {x : Int64} {e : Nat → Nat}    {a0 : Int32} {s : qp_S} {r : Int32} (h : qf134  a0 s = some r) : qm_E (qz_ro L xs) (d + 1) 134 (0, qm_ent 134 [vI a0], [], qp_H s x e, (0, 0)) (qf_v r s x e) := by
  unfold qf134 at h
  iterate 2 refine qm_E_next rfl ?_
  rcases qr_cond h with ⟨hb, h⟩ | ⟨hb, h⟩
  · refine qr_t hb rfl ?_
    change qm_E _ _ _ (9, [some (vI a0)], [], qp_H s x e, (0, 0)) _
    iterate 3 refine qm_E_next rfl ?_
    obtain ⟨q1, hq, h⟩ := qs_bd h
    refine qm_E_call rfl (qe116 (d + 0) hq) rfl ?_
    change qm_E _ _ _ (16, [some (vI a0)], [vI q1], qp_H s x e, (0, 0)) _
    rcases qr_cond h with ⟨hb, h⟩ | ⟨hb, h⟩
    · refine qr_t hb rfl ?_
      change qm_E _ _ _ (25, [some (vI a0)], [], qp_H s x e, (0, 0)) _
      iterate 1 refine qm_E_next rfl ?_
      cases h
      exact qr_iret (Or.inl rfl) rfl rfl
    · refine qr_f hb rfl ?_
      change qm_E _ _ _ (19, [some (vI a0)], [], qp_H s x e, (0, 0)) _
      iterate 2 refine qm_E_next rfl ?_
      rcases qr_cond h with ⟨hb, h⟩ | ⟨hb, h⟩
      · refine qr_t hb rfl ?_
        change qm_E _ _ _ (27, [some (vI a0)], [], qp_H s x e, (0, 0)) _
        iterate 2 refine qm_E_next rfl ?_
        rcases qr_cond h with ⟨hb, h⟩ | ⟨hb, h⟩
        · refine qr_t hb rfl ?_
          change qm_E _ _ _ (56, [some (vI a0)], [], qp_H s x e, (0, 0)) _
          iterate 2 refine qm_E_next rfl ?_
          cases h
          exact qr_iret (Or.inl rfl) rfl rfl
        · refine qr_f hb rfl ?_
          change qm_E _ _ _ (32, [some (vI a0)], [], qp_H s x e, (0, 0)) _
          iterate 2 refine qm_E_next rfl ?_
          rcases qr_cond h with ⟨hb, h⟩ | ⟨hb, h⟩
          · refine qr_t hb rfl ?_
            change qm_E _ _ _ (56, [some (vI a0)], [], qp_H s x e, (0, 0)) _
            iterate 2 refine qm_E_next rfl ?_
            cases h
            exact qr_iret (Or.inl rfl) rfl rfl
          · refine qr_f hb rfl ?_
            change qm_E _ _ _ (38, [some (vI a0)], [], qp_H s x e, (0, 0)) _
            iterate 2 refine qm_E_next rfl ?_
            rcases qr_cond h with ⟨hb, h⟩ | ⟨hb, h⟩
            · refine qr_t hb rfl ?_
              change qm_E _ _ _ (56, [some (vI a0)], [], qp_H s x e, (0, 0)) _
              iterate 2 refine qm_E_next rfl ?_
              cases h
              exact qr_iret (Or.inl rfl) rfl rfl
            · refine qr_f hb rfl ?_
              change qm_E _ _ _ (44, [some (vI a0)], [], qp_H s x e, (0, 0)) _
              iterate 2 refine qm_E_next rfl ?_
              rcases qr_cond h with ⟨hb, h⟩ | ⟨hb, h⟩
              · refine qr_t hb rfl ?_
                change qm_E _ _ _ (56, [some (vI a0)], [], qp_H s x e, (0, 0)) _
                iterate 2 refine qm_E_next rfl ?_
                cases h
                exact qr_iret (Or.inl rfl) rfl rfl
              · refine qr_f hb rfl ?_
                change qm_E _ _ _ (50, [some (vI a0)], [], qp_H s x e, (0, 0)) _
                iterate 2 refine qm_E_next rfl ?_
                rcases qr_cond h with ⟨hb, h⟩ | ⟨hb, h⟩
                · refine qr_t hb rfl ?_
                  change qm_E _ _ _ (60, [some (vI a0)], [], qp_H s x e, (0, 0)) _
                  iterate 1 refine qm_E_next rfl ?_
                  cases h
                  exact qr_iret (Or.inl rfl) rfl rfl
                · refine qr_f hb rfl ?_
                  change qm_E _ _ _ (56, [some (vI a0)], [], qp_H s x e, (0, 0)) _
                  iterate 2 refine qm_E_next rfl ?_
                  cases h
                  exact qr_iret (Or.inl rfl) rfl rfl
      · refine qr_f hb rfl ?_
        change qm_E _ _ _ (25, [some (vI a0)], [], qp_H s x e, (0, 0)) _
        iterate 1 refine qm_E_next rfl ?_
        cases h
        exact qr_iret (Or.inl rfl) rfl rfl
  · refine qr_f hb rfl ?_
    change qm_E _ _ _ (6, [some (vI a0)], [], qp_H s x e, (0, 0)) _
    iterate 1 refine qm_E_next rfl ?_
    cases h
    exact qr_iret (Or.inl rfl) rfl rfl
/-! PeriodKernelModel isNumber -/
def qf135_17 (a1 : Int32) (s : qp_S) : Option (Int32) := ((qf116 a1 (0 : Int32) (5 : Int32) s).bind fun q1 => (if (q1 = 0 ∨ q1 = 1) then some q1 else none))
theorem qe135_17 (d : Nat) {L : Nat} {xs : Nat → Int32} {x : Int64} {e : Nat → Nat}   {u0 : Option qm_V} {u2 : Option qm_V} {a1 : Int32} {s : qp_S} {r : Int32} (h : qf135_17  a1 s = some r) : qm_E (qz_ro L xs) (d + 1) 135 (17, [u0, some (vI a1), u2], [], qp_H s x e, (0, 0)) (qf_v r s x e) := by
  unfold qf135_17 at h
  iterate 3 refine qm_E_next rfl ?_
  obtain ⟨q1, hq, h⟩ := qs_bd h
  refine qm_E_call rfl (qe116 (d + 0) hq) rfl ?_
  change qm_E _ _ _ (23, [u0, some (vI a1), u2], [vI q1], qp_H s x e, (0, 0)) _
  obtain ⟨hz, h⟩ := qr_inb h
  cases h
  exact qr_iret (Or.inr ⟨rfl, hz⟩) rfl rfl
def qf135_36 (a1 : Int32) (a2 : Int32) (s : qp_S) : Option (Int32) := ((qf116 a1 (0 : Int32) (a2 - (1 : Int32)) s).bind fun q2 => (if (q2 = 0 ∨ q2 = 1) then some q2 else none))
theorem qe135_36 (d : Nat) {L : Nat} {xs : Nat → Int32} {x : Int64} {e : Nat → Nat}   {u0 : Option qm_V} {a1 : Int32} {a2 : Int32} {s : qp_S} {r : Int32} (h : qf135_36  a1 a2 s = some r) : qm_E (qz_ro L xs) (d + 1) 135 (36, [u0, some (vI a1), some (vI a2)], [], qp_H s x e, (0, 0)) (qf_v r s x e) := by
  unfold qf135_36 at h
  iterate 5 refine qm_E_next rfl ?_
  obtain ⟨q2, hq, h⟩ := qs_bd h
  refine qm_E_call rfl (qe116 (d + 0) hq) rfl ?_
  change qm_E _ _ _ (44, [u0, some (vI a1), some (vI a2)], [vI q2], qp_H s x e, (0, 0)) _
  obtain ⟨hz, h⟩ := qr_inb h
  cases h
  exact qr_iret (Or.inr ⟨rfl, hz⟩) rfl rfl
def qf135_57 (a1 : Int32) (s : qp_S) : Option (Int32) := ((qf116 a1 (0 : Int32) (3 : Int32) s).bind fun q3 => (if (q3 = 0 ∨ q3 = 1) then some q3 else none))
theorem qe135_57 (d : Nat) {L : Nat} {xs : Nat → Int32} {x : Int64} {e : Nat → Nat}   {u0 : Option qm_V} {u2 : Option qm_V} {a1 : Int32} {s : qp_S} {r : Int32} (h : qf135_57  a1 s = some r) : qm_E (qz_ro L xs) (d + 1) 135 (57, [u0, some (vI a1), u2], [], qp_H s x e, (0, 0)) (qf_v r s x e) := by
  unfold qf135_57 at h
  iterate 3 refine qm_E_next rfl ?_
  obtain ⟨q3, hq, h⟩ := qs_bd h
  refine qm_E_call rfl (qe116 (d + 0) hq) rfl ?_
  change qm_E _ _ _ (63, [u0, some (vI a1), u2], [vI q3], qp_H s x e, (0, 0)) _
  iterate 1 refine qm_E_next rfl ?_
  obtain ⟨hz, h⟩ := qr_inb h
  cases h
  exact qr_iret (Or.inr ⟨rfl, hz⟩) rfl rfl
def qf135 (a0 : Int32) (a1 : Int32) (a2 : Int32) (s : qp_S) : Option (Int32) := (bif qm_cmp .ne a0 (1 : Int32) then (bif qm_cmp .eq a0 (2 : Int32) then qf135_17 a1 s else (bif qm_cmp .ne a0 (3 : Int32) then (bif qm_cmp .eq a0 (10 : Int32) then qf135_36 a1 a2 s else (bif qm_cmp .ne a0 (11 : Int32) then (bif qm_cmp .eq a0 (15 : Int32) then qf135_57 a1 s else (bif qm_cmp .ne a0 (16 : Int32) then (bif qm_cmp .ne a1 (0 : Int32) then some (0 : Int32) else some (1 : Int32)) else qf135_57 a1 s)) else qf135_36 a1 a2 s)) else qf135_17 a1 s)) else some (1 : Int32))
theorem qe135 (d : Nat) {L : Nat} {xs : Nat → Int32} {x : Int64} {e : Nat → Nat}    {a0 : Int32} {a1 : Int32} {a2 : Int32} {s : qp_S} {r : Int32} (h : qf135  a0 a1 a2 s = some r) : qm_E (qz_ro L xs) (d + 1) 135 (0, qm_ent 135 [vI a0, vI a1, vI a2], [], qp_H s x e, (0, 0)) (qf_v r s x e) := by
  unfold qf135 at h
  iterate 2 refine qm_E_next rfl ?_
  rcases qr_cond h with ⟨hb, h⟩ | ⟨hb, h⟩
  · refine qr_t hb rfl ?_
    change qm_E _ _ _ (7, [some (vI a0), some (vI a1), some (vI a2)], [], qp_H s x e, (0, 0)) _
    iterate 2 refine qm_E_next rfl ?_
    rcases qr_cond h with ⟨hb, h⟩ | ⟨hb, h⟩
    · refine qr_t hb rfl ?_
      exact qe135_17 d  h
    · refine qr_f hb rfl ?_
      change qm_E _ _ _ (12, [some (vI a0), some (vI a1), some (vI a2)], [], qp_H s x e, (0, 0)) _
      iterate 2 refine qm_E_next rfl ?_
      rcases qr_cond h with ⟨hb, h⟩ | ⟨hb, h⟩
      · refine qr_t hb rfl ?_
        change qm_E _ _ _ (24, [some (vI a0), some (vI a1), some (vI a2)], [], qp_H s x e, (0, 0)) _
        iterate 2 refine qm_E_next rfl ?_
        rcases qr_cond h with ⟨hb, h⟩ | ⟨hb, h⟩
        · refine qr_t hb rfl ?_
          exact qe135_36 d  h
        · refine qr_f hb rfl ?_
          change qm_E _ _ _ (30, [some (vI a0), some (vI a1), some (vI a2)], [], qp_H s x e, (0, 0)) _
          iterate 2 refine qm_E_next rfl ?_
          rcases qr_cond h with ⟨hb, h⟩ | ⟨hb, h⟩
          · refine qr_t hb rfl ?_
            change qm_E _ _ _ (45, [some (vI a0), some (vI a1), some (vI a2)], [], qp_H s x e, (0, 0)) _
            iterate 2 refine qm_E_next rfl ?_
            rcases qr_cond h with ⟨hb, h⟩ | ⟨hb, h⟩
            · refine qr_t hb rfl ?_
              exact qe135_57 d  h
            · refine qr_f hb rfl ?_
              change qm_E _ _ _ (51, [some (vI a0), some (vI a1), some (vI a2)], [], qp_H s x e, (0, 0)) _
              iterate 2 refine qm_E_next rfl ?_
              rcases qr_cond h with ⟨hb, h⟩ | ⟨hb, h⟩
              · refine qr_t hb rfl ?_
                change qm_E _ _ _ (66, [some (vI a0), some (vI a1), some (vI a2)], [], qp_H s x e, (0, 0)) _
                iterate 1 refine qm_E_next rfl ?_
                rcases qr_cond h with ⟨hb, h⟩ | ⟨hb, h⟩
                · refine qr_t hb rfl ?_
                  change qm_E _ _ _ (74, [some (vI a0), some (vI a1), some (vI a2)], [], qp_H s x e, (0, 0)) _
                  iterate 1 refine qm_E_next rfl ?_
                  cases h
                  exact qr_iret (Or.inr ⟨rfl, Or.inl rfl⟩) rfl rfl
                · refine qr_f hb rfl ?_
                  change qm_E _ _ _ (70, [some (vI a0), some (vI a1), some (vI a2)], [], qp_H s x e, (0, 0)) _
                  iterate 2 refine qm_E_next rfl ?_
                  cases h
                  exact qr_iret (Or.inr ⟨rfl, Or.inr rfl⟩) rfl rfl
              · refine qr_f hb rfl ?_
                exact qe135_57 d  h
          · refine qr_f hb rfl ?_
            exact qe135_36 d  h
      · refine qr_f hb rfl ?_
        exact qe135_17 d  h
  · refine qr_f hb rfl ?_
    change qm_E _ _ _ (5, [some (vI a0), some (vI a1), some (vI a2)], [], qp_H s x e, (0, 0)) _
    iterate 1 refine qm_E_next rfl ?_
    cases h
    exact qr_iret (Or.inr ⟨rfl, Or.inr rfl⟩) rfl rfl
/-! PeriodKernelModel brings -/
def qf136 (a0 : Int32) (s : qp_S) : Option (Int32) := (bif qm_cmp .eq a0 (1 : Int32) then some (1 : Int32) else (bif qm_cmp .eq a0 (2 : Int32) then some (1 : Int32) else (bif qm_cmp .eq a0 (15 : Int32) then some (1 : Int32) else ((qf116 a0 (4 : Int32) (9 : Int32) s).bind fun q1 => (bif qm_cmp .eq q1 (0 : Int32) then (bif qm_cmp .eq a0 (12 : Int32) then some (2 : Int32) else (bif qm_cmp .ne a0 (13 : Int32) then some (0 : Int32) else some (2 : Int32))) else some (1 : Int32))))))
theorem qe136 (d : Nat) {L : Nat} {xs : Nat → Int32} {x : Int64} {e : Nat → Nat}    {a0 : Int32} {s : qp_S} {r : Int32} (h : qf136  a0 s = some r) : qm_E (qz_ro L xs) (d + 1) 136 (0, qm_ent 136 [vI a0], [], qp_H s x e, (0, 0)) (qf_v r s x e) := by
  unfold qf136 at h
  iterate 2 refine qm_E_next rfl ?_
  rcases qr_cond h with ⟨hb, h⟩ | ⟨hb, h⟩
  · refine qr_t hb rfl ?_
    change qm_E _ _ _ (26, [some (vI a0)], [], qp_H s x e, (0, 0)) _
    iterate 2 refine qm_E_next rfl ?_
    cases h
    exact qr_iret (Or.inl rfl) rfl rfl
  · refine qr_f hb rfl ?_
    change qm_E _ _ _ (5, [some (vI a0)], [], qp_H s x e, (0, 0)) _
    iterate 2 refine qm_E_next rfl ?_
    rcases qr_cond h with ⟨hb, h⟩ | ⟨hb, h⟩
    · refine qr_t hb rfl ?_
      change qm_E _ _ _ (26, [some (vI a0)], [], qp_H s x e, (0, 0)) _
      iterate 2 refine qm_E_next rfl ?_
      cases h
      exact qr_iret (Or.inl rfl) rfl rfl
    · refine qr_f hb rfl ?_
      change qm_E _ _ _ (10, [some (vI a0)], [], qp_H s x e, (0, 0)) _
      iterate 2 refine qm_E_next rfl ?_
      rcases qr_cond h with ⟨hb, h⟩ | ⟨hb, h⟩
      · refine qr_t hb rfl ?_
        change qm_E _ _ _ (26, [some (vI a0)], [], qp_H s x e, (0, 0)) _
        iterate 2 refine qm_E_next rfl ?_
        cases h
        exact qr_iret (Or.inl rfl) rfl rfl
      · refine qr_f hb rfl ?_
        change qm_E _ _ _ (16, [some (vI a0)], [], qp_H s x e, (0, 0)) _
        iterate 3 refine qm_E_next rfl ?_
        obtain ⟨q1, hq, h⟩ := qs_bd h
        refine qm_E_call rfl (qe116 (d + 0) hq) rfl ?_
        change qm_E _ _ _ (23, [some (vI a0)], [vI q1], qp_H s x e, (0, 0)) _
        rcases qr_cond h with ⟨hb, h⟩ | ⟨hb, h⟩
        · refine qr_t hb rfl ?_
          change qm_E _ _ _ (30, [some (vI a0)], [], qp_H s x e, (0, 0)) _
          iterate 2 refine qm_E_next rfl ?_
          rcases qr_cond h with ⟨hb, h⟩ | ⟨hb, h⟩
          · refine qr_t hb rfl ?_
            change qm_E _ _ _ (42, [some (vI a0)], [], qp_H s x e, (0, 0)) _
            iterate 2 refine qm_E_next rfl ?_
            cases h
            exact qr_iret (Or.inl rfl) rfl rfl
          · refine qr_f hb rfl ?_
            change qm_E _ _ _ (36, [some (vI a0)], [], qp_H s x e, (0, 0)) _
            iterate 2 refine qm_E_next rfl ?_
            rcases qr_cond h with ⟨hb, h⟩ | ⟨hb, h⟩
            · refine qr_t hb rfl ?_
              change qm_E _ _ _ (46, [some (vI a0)], [], qp_H s x e, (0, 0)) _
              iterate 1 refine qm_E_next rfl ?_
              cases h
              exact qr_iret (Or.inl rfl) rfl rfl
            · refine qr_f hb rfl ?_
              change qm_E _ _ _ (42, [some (vI a0)], [], qp_H s x e, (0, 0)) _
              iterate 2 refine qm_E_next rfl ?_
              cases h
              exact qr_iret (Or.inl rfl) rfl rfl
        · refine qr_f hb rfl ?_
          change qm_E _ _ _ (26, [some (vI a0)], [], qp_H s x e, (0, 0)) _
          iterate 2 refine qm_E_next rfl ?_
          cases h
          exact qr_iret (Or.inl rfl) rfl rfl
