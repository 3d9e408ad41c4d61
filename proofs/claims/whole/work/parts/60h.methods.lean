/-! PeriodKernelModel isRight -/
def qf133_141 (a5 : Int32) (a6 : Int32) (a7 : Int32) (s : qp_S) : Option (Int32 × qp_S) := ((qf132 a5 a7 a6 s).bind fun q6 => (bif qm_cmp .eq (q6.1) (0 : Int32) then some ((0 : Int32), q6.2) else some ((1 : Int32), q6.2)))
theorem qe133_141 (d : Nat) {L : Nat} {xs : Nat → Int32} {x : Int64} {e : Nat → Nat}   {u1 : Option qm_V} {u2 : Option qm_V} {u3 : Option qm_V} {u4 : Option qm_V} {u8 : Option qm_V} {a5 : Int32} {a6 : Int32} {a7 : Int32} {s : qp_S} {r : Int32 × qp_S} (h : qf133_141  a5 a6 a7 s = some r) : qm_E (qz_ro L xs) (d + 2) 133 (141, [some (vR 30 0), u1, u2, u3, u4, some (vI a5), some (vI a6), some (vI a7), u8], [], qp_H s x e, (0, 0)) (qf_v r.1 r.2 x e) := by
  unfold qf133_141 at h
  iterate 4 refine qm_E_next rfl ?_
  obtain ⟨q6, hq, h⟩ := qs_bd h
  refine qm_E_call rfl (qe132 (d + 1) hq) rfl ?_
  change qm_E _ _ _ (151, [some (vR 30 0), u1, u2, u3, u4, some (vI a5), some (vI a6), some (vI a7), u8], [vI (q6.1)], qp_H q6.2 x e, (0, 0)) _
  rcases qr_cond h with ⟨hb, h⟩ | ⟨hb, h⟩
  · refine qr_t hb rfl ?_
    change qm_E _ _ _ (158, [some (vR 30 0), u1, u2, u3, u4, some (vI a5), some (vI a6), some (vI a7), u8], [], qp_H q6.2 x e, (0, 0)) _
    iterate 1 refine qm_E_next rfl ?_
    cases h
    exact qr_iret (Or.inr ⟨rfl, Or.inl rfl⟩) rfl rfl
  · refine qr_f hb rfl ?_
    change qm_E _ _ _ (154, [some (vR 30 0), u1, u2, u3, u4, some (vI a5), some (vI a6), some (vI a7), u8], [], qp_H q6.2 x e, (0, 0)) _
    iterate 2 refine qm_E_next rfl ?_
    cases h
    exact qr_iret (Or.inr ⟨rfl, Or.inr rfl⟩) rfl rfl
def qf133_120 (a4 : Int32) (a5 : Int32) (a6 : Int32) (a7 : Int32) (b0 : Int32) (s : qp_S) : Option (Int32 × qp_S) := (bif qm_cmp .eq b0 (0 : Int32) then some ((0 : Int32), s) else (bif qm_cmp .eq a4 (10 : Int32) then qf133_141 a5 a6 a7 s else (bif qm_cmp .ne a4 (11 : Int32) then some ((1 : Int32), s) else qf133_141 a5 a6 a7 s)))
theorem qe133_120 (d : Nat) {L : Nat} {xs : Nat → Int32} {x : Int64} {e : Nat → Nat}   {u1 : Option qm_V} {u2 : Option qm_V} {u3 : Option qm_V} {u8 : Option qm_V} {a4 : Int32} {a5 : Int32} {a6 : Int32} {a7 : Int32} {b0 : Int32} {s : qp_S} {r : Int32 × qp_S} (h : qf133_120  a4 a5 a6 a7 b0 s = some r) : qm_E (qz_ro L xs) (d + 2) 133 (120, [some (vR 30 0), u1, u2, u3, some (vI a4), some (vI a5), some (vI a6), some (vI a7), u8], [vI b0], qp_H s x e, (0, 0)) (qf_v r.1 r.2 x e) := by
  unfold qf133_120 at h
  iterate 2 refine qm_E_next rfl ?_
  rcases qr_cond h with ⟨hb, h⟩ | ⟨hb, h⟩
  · refine qr_t hb rfl ?_
    change qm_E _ _ _ (158, [some (vR 30 0), u1, u2, u3, some (vI a4), some (vI a5), some (vI a6), some (vI a7), some (vI b0)], [], qp_H s x e, (0, 0)) _
    iterate 1 refine qm_E_next rfl ?_
    cases h
    exact qr_iret (Or.inr ⟨rfl, Or.inl rfl⟩) rfl rfl
  · refine qr_f hb rfl ?_
    change qm_E _ _ _ (127, [some (vR 30 0), u1, u2, u3, some (vI a4), some (vI a5), some (vI a6), some (vI a7), some (vI b0)], [], qp_H s x e, (0, 0)) _
    iterate 2 refine qm_E_next rfl ?_
    rcases qr_cond h with ⟨hb, h⟩ | ⟨hb, h⟩
    · refine qr_t hb rfl ?_
      exact qe133_141 d  h
    · refine qr_f hb rfl ?_
      change qm_E _ _ _ (134, [some (vR 30 0), u1, u2, u3, some (vI a4), some (vI a5), some (vI a6), some (vI a7), some (vI b0)], [], qp_H s x e, (0, 0)) _
      iterate 2 refine qm_E_next rfl ?_
      rcases qr_cond h with ⟨hb, h⟩ | ⟨hb, h⟩
      · refine qr_t hb rfl ?_
        change qm_E _ _ _ (154, [some (vR 30 0), u1, u2, u3, some (vI a4), some (vI a5), some (vI a6), some (vI a7), some (vI b0)], [], qp_H s x e, (0, 0)) _
        iterate 2 refine qm_E_next rfl ?_
        cases h
        exact qr_iret (Or.inr ⟨rfl, Or.inr rfl⟩) rfl rfl
      · refine qr_f hb rfl ?_
        exact qe133_141 d  h
def qf133_115 (a4 : Int32) (a5 : Int32) (a6 : Int32) (a7 : Int32) (s : qp_S) : Option (Int32 × qp_S) := qf133_120 a4 a5 a6 a7 (1 : Int32) s
theorem qe133_115 (d : Nat) {L : Nat} {xs : Nat → Int32} {x : Int64} {e : Nat → Nat}   {u1 : Option qm_V} {u2 : Option qm_V} {u3 : Option qm_V} {u8 : Option qm_V} {a4 : Int32} {a5 : Int32} {a6 : Int32} {a7 : Int32} {s : qp_S} {r : Int32 × qp_S} (h : qf133_115  a4 a5 a6 a7 s = some r) : qm_E (qz_ro L xs) (d + 2) 133 (115, [some (vR 30 0), u1, u2, u3, some (vI a4), some (vI a5), some (vI a6), some (vI a7), u8], [], qp_H s x e, (0, 0)) (qf_v r.1 r.2 x e) := by
  unfold qf133_115 at h
  iterate 2 refine qm_E_next rfl ?_
  exact qe133_120 d  h
def qf133 (a1 : Int32) (a2 : Int32) (s : qp_S) : Option (Int32 × qp_S) := (if qm_inb (((32 : Int32) * a1) + a2) 256 = true then (if qm_inb a1 8 = true then ((qf134 ((s 32 0 ((((32 : Int32) * a1) + a2)).toNatClampNeg) &&& (63 : Int32)) s).bind fun q1 => (if qm_inb a2 32 = true then (bif qm_cmp .gt q1 (s 60 0 (a2).toNatClampNeg) then some ((0 : Int32), s) else ((qf135 ((s 32 0 ((((32 : Int32) * a1) + a2)).toNatClampNeg) &&& (63 : Int32)) ((s 32 0 ((((32 : Int32) * a1) + a2)).toNatClampNeg) >>> ((6 : Int32) &&& 31)) (s 33 0 (a1).toNatClampNeg) s).bind fun q2 => (bif qm_cmp .ne q2 (0 : Int32) then (if qm_inb a2 32 = true then ((qf134 ((s 32 0 ((((32 : Int32) * a1) + a2)).toNatClampNeg) &&& (63 : Int32)) s).bind fun q3 => ((qf136 ((s 32 0 ((((32 : Int32) * a1) + a2)).toNatClampNeg) &&& (63 : Int32)) s).bind fun q4 => (bif qm_cmp .le (((s 60 0 (a2).toNatClampNeg) - q3) + q4) (8 : Int32) then (bif qm_cmp .eq ((s 32 0 ((((32 : Int32) * a1) + a2)).toNatClampNeg) &&& (63 : Int32)) (0 : Int32) then qf133_115 ((s 32 0 ((((32 : Int32) * a1) + a2)).toNatClampNeg) &&& (63 : Int32)) ((s 32 0 ((((32 : Int32) * a1) + a2)).toNatClampNeg) >>> ((6 : Int32) &&& 31)) (s 33 0 (a1).toNatClampNeg) (((s 60 0 (a2).toNatClampNeg) - q3) + q4) s else (bif qm_cmp .eq ((s 32 0 ((((32 : Int32) * a1) + a2)).toNatClampNeg) &&& (63 : Int32)) (10 : Int32) then qf133_115 ((s 32 0 ((((32 : Int32) * a1) + a2)).toNatClampNeg) &&& (63 : Int32)) ((s 32 0 ((((32 : Int32) * a1) + a2)).toNatClampNeg) >>> ((6 : Int32) &&& 31)) (s 33 0 (a1).toNatClampNeg) (((s 60 0 (a2).toNatClampNeg) - q3) + q4) s else ((qf132 (a2 + (1 : Int32)) (((s 60 0 (a2).toNatClampNeg) - q3) + q4) (s 33 0 (a1).toNatClampNeg) s).bind fun q5 => (bif qm_cmp .eq (q5.1) (0 : Int32) then qf133_120 ((s 32 0 ((((32 : Int32) * a1) + a2)).toNatClampNeg) &&& (63 : Int32)) ((s 32 0 ((((32 : Int32) * a1) + a2)).toNatClampNeg) >>> ((6 : Int32) &&& 31)) (s 33 0 (a1).toNatClampNeg) (((s 60 0 (a2).toNatClampNeg) - q3) + q4) (0 : Int32) q5.2 else qf133_115 ((s 32 0 ((((32 : Int32) * a1) + a2)).toNatClampNeg) &&& (63 : Int32)) ((s 32 0 ((((32 : Int32) * a1) + a2)).toNatClampNeg) >>> ((6 : Int32) &&& 31)) (s 33 0 (a1).toNatClampNeg) (((s 60 0 (a2).toNatClampNeg) - q3) + q4) q5.2)))) else some ((0 : Int32), s)))) else none) else some ((0 : Int32), s)))) else none)) else none) else none)
theorem qe133 (d : Nat) {L : Nat} {xs : Nat → Int32} {x : Int64} {e : Nat → Nat}    {a1 : Int32} {a2 : Int32} {s : qp_S} {r : Int32 × qp_S} (h : qf133  a1 a2 s = some r) : qm_E (qz_ro L xs) (d + 2) 133 (0, qm_ent 133 [vR 30 0, vI a1, vI a2], [], qp_H s x e, (0, 0)) (qf_v r.1 r.2 x e) := by
  unfold qf133 at h
  iterate 6 refine qm_E_next rfl ?_
  change qm_E _ _ _ (9, [some (vR 30 0), some (vI a1), some (vI a2), none, none, none, none, none, none], [vI a2, vI ((32 : Int32) * a1), vR 32 0], qp_H s x e, (0, 0)) _
  iterate 1 refine qm_E_next rfl ?_
  obtain ⟨hb, h⟩ := qr_inb h
  refine qr_iaload hb rfl rfl rfl rfl ?_
  change qm_E _ _ _ (11, [some (vR 30 0), some (vI a1), some (vI a2), none, none, none, none, none, none], [vI (s 32 0 ((((32 : Int32) * a1) + a2)).toNatClampNeg)], qp_H s x e, (0, 0)) _
  iterate 6 refine qm_E_next rfl ?_
  change qm_E _ _ _ (19, [some (vR 30 0), some (vI a1), some (vI a2), some (vI (s 32 0 ((((32 : Int32) * a1) + a2)).toNatClampNeg)), some (vI ((s 32 0 ((((32 : Int32) * a1) + a2)).toNatClampNeg) &&& (63 : Int32))), none, none, none, none], [vI (s 32 0 ((((32 : Int32) * a1) + a2)).toNatClampNeg)], qp_H s x e, (0, 0)) _
  iterate 6 refine qm_E_next rfl ?_
  change qm_E _ _ _ (29, [some (vR 30 0), some (vI a1), some (vI a2), some (vI (s 32 0 ((((32 : Int32) * a1) + a2)).toNatClampNeg)), some (vI ((s 32 0 ((((32 : Int32) * a1) + a2)).toNatClampNeg) &&& (63 : Int32))), some (vI ((s 32 0 ((((32 : Int32) * a1) + a2)).toNatClampNeg) >>> ((6 : Int32) &&& 31))), none, none, none], [vI a1, vR 33 0], qp_H s x e, (0, 0)) _
  obtain ⟨hb, h⟩ := qr_inb h
  refine qr_iaload hb rfl rfl rfl rfl ?_
  change qm_E _ _ _ (30, [some (vR 30 0), some (vI a1), some (vI a2), some (vI (s 32 0 ((((32 : Int32) * a1) + a2)).toNatClampNeg)), some (vI ((s 32 0 ((((32 : Int32) * a1) + a2)).toNatClampNeg) &&& (63 : Int32))), some (vI ((s 32 0 ((((32 : Int32) * a1) + a2)).toNatClampNeg) >>> ((6 : Int32) &&& 31))), none, none, none], [vI (s 33 0 (a1).toNatClampNeg)], qp_H s x e, (0, 0)) _
  iterate 2 refine qm_E_next rfl ?_
  obtain ⟨q1, hq, h⟩ := qs_bd h
  refine qm_E_call rfl (qe134 (d + 0) hq) rfl ?_
  change qm_E _ _ _ (37, [some (vR 30 0), some (vI a1), some (vI a2), some (vI (s 32 0 ((((32 : Int32) * a1) + a2)).toNatClampNeg)), some (vI ((s 32 0 ((((32 : Int32) * a1) + a2)).toNatClampNeg) &&& (63 : Int32))), some (vI ((s 32 0 ((((32 : Int32) * a1) + a2)).toNatClampNeg) >>> ((6 : Int32) &&& 31))), some (vI (s 33 0 (a1).toNatClampNeg)), none, none], [vI q1], qp_H s x e, (0, 0)) _
  iterate 3 refine qm_E_next rfl ?_
  obtain ⟨hb, h⟩ := qr_inb h
  refine qr_iaload hb rfl rfl rfl rfl ?_
  change qm_E _ _ _ (43, [some (vR 30 0), some (vI a1), some (vI a2), some (vI (s 32 0 ((((32 : Int32) * a1) + a2)).toNatClampNeg)), some (vI ((s 32 0 ((((32 : Int32) * a1) + a2)).toNatClampNeg) &&& (63 : Int32))), some (vI ((s 32 0 ((((32 : Int32) * a1) + a2)).toNatClampNeg) >>> ((6 : Int32) &&& 31))), some (vI (s 33 0 (a1).toNatClampNeg)), none, none], [vI (s 60 0 (a2).toNatClampNeg), vI q1], qp_H s x e, (0, 0)) _
  rcases qr_cond h with ⟨hb, h⟩ | ⟨hb, h⟩
  · refine qr_t hb rfl ?_
    change qm_E _ _ _ (58, [some (vR 30 0), some (vI a1), some (vI a2), some (vI (s 32 0 ((((32 : Int32) * a1) + a2)).toNatClampNeg)), some (vI ((s 32 0 ((((32 : Int32) * a1) + a2)).toNatClampNeg) &&& (63 : Int32))), some (vI ((s 32 0 ((((32 : Int32) * a1) + a2)).toNatClampNeg) >>> ((6 : Int32) &&& 31))), some (vI (s 33 0 (a1).toNatClampNeg)), none, none], [], qp_H s x e, (0, 0)) _
    iterate 1 refine qm_E_next rfl ?_
    cases h
    exact qr_iret (Or.inr ⟨rfl, Or.inl rfl⟩) rfl rfl
  · refine qr_f hb rfl ?_
    change qm_E _ _ _ (46, [some (vR 30 0), some (vI a1), some (vI a2), some (vI (s 32 0 ((((32 : Int32) * a1) + a2)).toNatClampNeg)), some (vI ((s 32 0 ((((32 : Int32) * a1) + a2)).toNatClampNeg) &&& (63 : Int32))), some (vI ((s 32 0 ((((32 : Int32) * a1) + a2)).toNatClampNeg) >>> ((6 : Int32) &&& 31))), some (vI (s 33 0 (a1).toNatClampNeg)), none, none], [], qp_H s x e, (0, 0)) _
    iterate 3 refine qm_E_next rfl ?_
    obtain ⟨q2, hq, h⟩ := qs_bd h
    refine qm_E_call rfl (qe135 (d + 0) hq) rfl ?_
    change qm_E _ _ _ (55, [some (vR 30 0), some (vI a1), some (vI a2), some (vI (s 32 0 ((((32 : Int32) * a1) + a2)).toNatClampNeg)), some (vI ((s 32 0 ((((32 : Int32) * a1) + a2)).toNatClampNeg) &&& (63 : Int32))), some (vI ((s 32 0 ((((32 : Int32) * a1) + a2)).toNatClampNeg) >>> ((6 : Int32) &&& 31))), some (vI (s 33 0 (a1).toNatClampNeg)), none, none], [vI q2], qp_H s x e, (0, 0)) _
    rcases qr_cond h with ⟨hb, h⟩ | ⟨hb, h⟩
    · refine qr_t hb rfl ?_
      change qm_E _ _ _ (60, [some (vR 30 0), some (vI a1), some (vI a2), some (vI (s 32 0 ((((32 : Int32) * a1) + a2)).toNatClampNeg)), some (vI ((s 32 0 ((((32 : Int32) * a1) + a2)).toNatClampNeg) &&& (63 : Int32))), some (vI ((s 32 0 ((((32 : Int32) * a1) + a2)).toNatClampNeg) >>> ((6 : Int32) &&& 31))), some (vI (s 33 0 (a1).toNatClampNeg)), none, none], [], qp_H s x e, (0, 0)) _
      iterate 3 refine qm_E_next rfl ?_
      obtain ⟨hb, h⟩ := qr_inb h
      refine qr_iaload hb rfl rfl rfl rfl ?_
      change qm_E _ _ _ (66, [some (vR 30 0), some (vI a1), some (vI a2), some (vI (s 32 0 ((((32 : Int32) * a1) + a2)).toNatClampNeg)), some (vI ((s 32 0 ((((32 : Int32) * a1) + a2)).toNatClampNeg) &&& (63 : Int32))), some (vI ((s 32 0 ((((32 : Int32) * a1) + a2)).toNatClampNeg) >>> ((6 : Int32) &&& 31))), some (vI (s 33 0 (a1).toNatClampNeg)), none, none], [vI (s 60 0 (a2).toNatClampNeg)], qp_H s x e, (0, 0)) _
      iterate 1 refine qm_E_next rfl ?_
      obtain ⟨q3, hq, h⟩ := qs_bd h
      refine qm_E_call rfl (qe134 (d + 0) hq) rfl ?_
      change qm_E _ _ _ (71, [some (vR 30 0), some (vI a1), some (vI a2), some (vI (s 32 0 ((((32 : Int32) * a1) + a2)).toNatClampNeg)), some (vI ((s 32 0 ((((32 : Int32) * a1) + a2)).toNatClampNeg) &&& (63 : Int32))), some (vI ((s 32 0 ((((32 : Int32) * a1) + a2)).toNatClampNeg) >>> ((6 : Int32) &&& 31))), some (vI (s 33 0 (a1).toNatClampNeg)), none, none], [vI q3, vI (s 60 0 (a2).toNatClampNeg)], qp_H s x e, (0, 0)) _
      iterate 2 refine qm_E_next rfl ?_
      obtain ⟨q4, hq, h⟩ := qs_bd h
      refine qm_E_call rfl (qe136 (d + 0) hq) rfl ?_
      change qm_E _ _ _ (77, [some (vR 30 0), some (vI a1), some (vI a2), some (vI (s 32 0 ((((32 : Int32) * a1) + a2)).toNatClampNeg)), some (vI ((s 32 0 ((((32 : Int32) * a1) + a2)).toNatClampNeg) &&& (63 : Int32))), some (vI ((s 32 0 ((((32 : Int32) * a1) + a2)).toNatClampNeg) >>> ((6 : Int32) &&& 31))), some (vI (s 33 0 (a1).toNatClampNeg)), none, none], [vI q4, vI ((s 60 0 (a2).toNatClampNeg) - q3)], qp_H s x e, (0, 0)) _
      iterate 4 refine qm_E_next rfl ?_
      rcases qr_cond h with ⟨hb, h⟩ | ⟨hb, h⟩
      · refine qr_t hb rfl ?_
        change qm_E _ _ _ (89, [some (vR 30 0), some (vI a1), some (vI a2), some (vI (s 32 0 ((((32 : Int32) * a1) + a2)).toNatClampNeg)), some (vI ((s 32 0 ((((32 : Int32) * a1) + a2)).toNatClampNeg) &&& (63 : Int32))), some (vI ((s 32 0 ((((32 : Int32) * a1) + a2)).toNatClampNeg) >>> ((6 : Int32) &&& 31))), some (vI (s 33 0 (a1).toNatClampNeg)), some (vI (((s 60 0 (a2).toNatClampNeg) - q3) + q4)), none], [], qp_H s x e, (0, 0)) _
        iterate 1 refine qm_E_next rfl ?_
        rcases qr_cond h with ⟨hb, h⟩ | ⟨hb, h⟩
        · refine qr_t hb rfl ?_
          exact qe133_115 d  h
        · refine qr_f hb rfl ?_
          change qm_E _ _ _ (94, [some (vR 30 0), some (vI a1), some (vI a2), some (vI (s 32 0 ((((32 : Int32) * a1) + a2)).toNatClampNeg)), some (vI ((s 32 0 ((((32 : Int32) * a1) + a2)).toNatClampNeg) &&& (63 : Int32))), some (vI ((s 32 0 ((((32 : Int32) * a1) + a2)).toNatClampNeg) >>> ((6 : Int32) &&& 31))), some (vI (s 33 0 (a1).toNatClampNeg)), some (vI (((s 60 0 (a2).toNatClampNeg) - q3) + q4)), none], [], qp_H s x e, (0, 0)) _
          iterate 2 refine qm_E_next rfl ?_
          rcases qr_cond h with ⟨hb, h⟩ | ⟨hb, h⟩
          · refine qr_t hb rfl ?_
            exact qe133_115 d  h
          · refine qr_f hb rfl ?_
            change qm_E _ _ _ (101, [some (vR 30 0), some (vI a1), some (vI a2), some (vI (s 32 0 ((((32 : Int32) * a1) + a2)).toNatClampNeg)), some (vI ((s 32 0 ((((32 : Int32) * a1) + a2)).toNatClampNeg) &&& (63 : Int32))), some (vI ((s 32 0 ((((32 : Int32) * a1) + a2)).toNatClampNeg) >>> ((6 : Int32) &&& 31))), some (vI (s 33 0 (a1).toNatClampNeg)), some (vI (((s 60 0 (a2).toNatClampNeg) - q3) + q4)), none], [], qp_H s x e, (0, 0)) _
            iterate 6 refine qm_E_next rfl ?_
            change qm_E _ _ _ (109, [some (vR 30 0), some (vI a1), some (vI a2), some (vI (s 32 0 ((((32 : Int32) * a1) + a2)).toNatClampNeg)), some (vI ((s 32 0 ((((32 : Int32) * a1) + a2)).toNatClampNeg) &&& (63 : Int32))), some (vI ((s 32 0 ((((32 : Int32) * a1) + a2)).toNatClampNeg) >>> ((6 : Int32) &&& 31))), some (vI (s 33 0 (a1).toNatClampNeg)), some (vI (((s 60 0 (a2).toNatClampNeg) - q3) + q4)), none], [vI (s 33 0 (a1).toNatClampNeg), vI (((s 60 0 (a2).toNatClampNeg) - q3) + q4), vI (a2 + (1 : Int32)), vR 30 0], qp_H s x e, (0, 0)) _
            obtain ⟨q5, hq, h⟩ := qs_bd h
            refine qm_E_call rfl (qe132 (d + 1) hq) rfl ?_
            change qm_E _ _ _ (112, [some (vR 30 0), some (vI a1), some (vI a2), some (vI (s 32 0 ((((32 : Int32) * a1) + a2)).toNatClampNeg)), some (vI ((s 32 0 ((((32 : Int32) * a1) + a2)).toNatClampNeg) &&& (63 : Int32))), some (vI ((s 32 0 ((((32 : Int32) * a1) + a2)).toNatClampNeg) >>> ((6 : Int32) &&& 31))), some (vI (s 33 0 (a1).toNatClampNeg)), some (vI (((s 60 0 (a2).toNatClampNeg) - q3) + q4)), none], [vI (q5.1)], qp_H q5.2 x e, (0, 0)) _
            rcases qr_cond h with ⟨hb, h⟩ | ⟨hb, h⟩
            · refine qr_t hb rfl ?_
              change qm_E _ _ _ (119, [some (vR 30 0), some (vI a1), some (vI a2), some (vI (s 32 0 ((((32 : Int32) * a1) + a2)).toNatClampNeg)), some (vI ((s 32 0 ((((32 : Int32) * a1) + a2)).toNatClampNeg) &&& (63 : Int32))), some (vI ((s 32 0 ((((32 : Int32) * a1) + a2)).toNatClampNeg) >>> ((6 : Int32) &&& 31))), some (vI (s 33 0 (a1).toNatClampNeg)), some (vI (((s 60 0 (a2).toNatClampNeg) - q3) + q4)), none], [], qp_H q5.2 x e, (0, 0)) _
              iterate 1 refine qm_E_next rfl ?_
              exact qe133_120 d  h
            · refine qr_f hb rfl ?_
              exact qe133_115 d  h
      · refine qr_f hb rfl ?_
        change qm_E _ _ _ (87, [some (vR 30 0), some (vI a1), some (vI a2), some (vI (s 32 0 ((((32 : Int32) * a1) + a2)).toNatClampNeg)), some (vI ((s 32 0 ((((32 : Int32) * a1) + a2)).toNatClampNeg) &&& (63 : Int32))), some (vI ((s 32 0 ((((32 : Int32) * a1) + a2)).toNatClampNeg) >>> ((6 : Int32) &&& 31))), some (vI (s 33 0 (a1).toNatClampNeg)), some (vI (((s 60 0 (a2).toNatClampNeg) - q3) + q4)), none], [], qp_H s x e, (0, 0)) _
        iterate 1 refine qm_E_next rfl ?_
        cases h
        exact qr_iret (Or.inr ⟨rfl, Or.inl rfl⟩) rfl rfl
    · refine qr_f hb rfl ?_
      change qm_E _ _ _ (58, [some (vR 30 0), some (vI a1), some (vI a2), some (vI (s 32 0 ((((32 : Int32) * a1) + a2)).toNatClampNeg)), some (vI ((s 32 0 ((((32 : Int32) * a1) + a2)).toNatClampNeg) &&& (63 : Int32))), some (vI ((s 32 0 ((((32 : Int32) * a1) + a2)).toNatClampNeg) >>> ((6 : Int32) &&& 31))), some (vI (s 33 0 (a1).toNatClampNeg)), none, none], [], qp_H s x e, (0, 0)) _
      iterate 1 refine qm_E_next rfl ?_
      cases h
      exact qr_iret (Or.inr ⟨rfl, Or.inl rfl⟩) rfl rfl
/-! PeriodKernelModel isCode -/
def qf131_48 (L40 : Int32 → Int32 → qp_S → Option (Int32 × qp_S)) : Nat → Int32 → Int32 → Int32 → qp_S → Option (Int32 × qp_S)
  | 0, _, _, _, _ => none
  | n + 1, a1, a2, a3, s => (if qm_inb a1 8 = true then (bif qm_cmp .ge a3 (s 33 0 (a1).toNatClampNeg) then L40 a1 (a2 + (1 : Int32)) s else (if qm_inb a3 32 = true then (bif qm_cmp .lt (s 60 0 (a3).toNatClampNeg) (0 : Int32) then qf131_48 L40 n a1 a2 (a3 + (1 : Int32)) s else ((qf133 a1 a3 s).bind fun q2 => (bif qm_cmp .ne (q2.1) (0 : Int32) then qf131_48 L40 n a1 a2 (a3 + (1 : Int32)) q2.2 else some ((0 : Int32), q2.2)))) else none)) else none)
theorem qe131_48 (d : Nat) {L : Nat} {xs : Nat → Int32} {x : Int64} {e : Nat → Nat} {L40 : Int32 → Int32 → qp_S → Option (Int32 × qp_S)} (H40 : ∀ {u3 : Option qm_V} {a1 : Int32} {a2 : Int32} {s : qp_S} {r : Int32 × qp_S}, L40 a1 a2 s = some r → qm_E (qz_ro L xs) (d + 3) 131 (40, [some (vR 30 0), some (vI a1), some (vI a2), u3], [], qp_H s x e, (0, 0)) (qf_v r.1 r.2 x e)) : ∀ {n : Nat}  {a1 : Int32} {a2 : Int32} {a3 : Int32} {s : qp_S} {r : Int32 × qp_S}, qf131_48 L40 n a1 a2 a3 s = some r → qm_E (qz_ro L xs) (d + 3) 131 (48, [some (vR 30 0), some (vI a1), some (vI a2), some (vI a3)], [], qp_H s x e, (0, 0)) (qf_v r.1 r.2 x e) := by
  intro n
  induction n with
  | zero => intro  a1 a2 a3 s r h; cases h
  | succ n ih =>
    intro  a1 a2 a3 s r h
    unfold qf131_48 at h
    iterate 4 refine qm_E_next rfl ?_
    obtain ⟨hb, h⟩ := qr_inb h
    refine qr_iaload hb rfl rfl rfl rfl ?_
    change qm_E _ _ _ (55, [some (vR 30 0), some (vI a1), some (vI a2), some (vI a3)], [vI (s 33 0 (a1).toNatClampNeg), vI a3], qp_H s x e, (0, 0)) _
    rcases qr_cond h with ⟨hb, h⟩ | ⟨hb, h⟩
    · refine qr_t hb rfl ?_
      change qm_E _ _ _ (84, [some (vR 30 0), some (vI a1), some (vI a2), some (vI a3)], [], qp_H s x e, (0, 0)) _
      iterate 2 refine qm_E_next rfl ?_
      exact H40 h
    · refine qr_f hb rfl ?_
      change qm_E _ _ _ (58, [some (vR 30 0), some (vI a1), some (vI a2), some (vI a3)], [], qp_H s x e, (0, 0)) _
      iterate 3 refine qm_E_next rfl ?_
      obtain ⟨hb, h⟩ := qr_inb h
      refine qr_iaload hb rfl rfl rfl rfl ?_
      change qm_E _ _ _ (64, [some (vR 30 0), some (vI a1), some (vI a2), some (vI a3)], [vI (s 60 0 (a3).toNatClampNeg)], qp_H s x e, (0, 0)) _
      rcases qr_cond h with ⟨hb, h⟩ | ⟨hb, h⟩
      · refine qr_t hb rfl ?_
        change qm_E _ _ _ (78, [some (vR 30 0), some (vI a1), some (vI a2), some (vI a3)], [], qp_H s x e, (0, 0)) _
        iterate 2 refine qm_E_next rfl ?_
        exact ih h
      · refine qr_f hb rfl ?_
        change qm_E _ _ _ (67, [some (vR 30 0), some (vI a1), some (vI a2), some (vI a3)], [], qp_H s x e, (0, 0)) _
        iterate 3 refine qm_E_next rfl ?_
        obtain ⟨q2, hq, h⟩ := qs_bd h
        refine qm_E_call rfl (qe133 (d + 0) hq) rfl ?_
        change qm_E _ _ _ (73, [some (vR 30 0), some (vI a1), some (vI a2), some (vI a3)], [vI (q2.1)], qp_H q2.2 x e, (0, 0)) _
        rcases qr_cond h with ⟨hb, h⟩ | ⟨hb, h⟩
        · refine qr_t hb rfl ?_
          change qm_E _ _ _ (78, [some (vR 30 0), some (vI a1), some (vI a2), some (vI a3)], [], qp_H q2.2 x e, (0, 0)) _
          iterate 2 refine qm_E_next rfl ?_
          exact ih h
        · refine qr_f hb rfl ?_
          change qm_E _ _ _ (76, [some (vR 30 0), some (vI a1), some (vI a2), some (vI a3)], [], qp_H q2.2 x e, (0, 0)) _
          iterate 1 refine qm_E_next rfl ?_
          cases h
          exact qr_iret (Or.inr ⟨rfl, Or.inl rfl⟩) rfl rfl
def qf131_40  : Nat → Int32 → Int32 → qp_S → Option (Int32 × qp_S)
  | 0, _, _, _ => none
  | n + 1, a1, a2, s => (bif qm_cmp .ge a2 (32 : Int32) then some ((1 : Int32), s) else qf131_48 (qf131_40  n) 4096 a1 a2 (0 : Int32) s)
theorem qe131_40 (d : Nat) {L : Nat} {xs : Nat → Int32} {x : Int64} {e : Nat → Nat}   : ∀ {n : Nat} {u3 : Option qm_V} {a1 : Int32} {a2 : Int32} {s : qp_S} {r : Int32 × qp_S}, qf131_40  n a1 a2 s = some r → qm_E (qz_ro L xs) (d + 3) 131 (40, [some (vR 30 0), some (vI a1), some (vI a2), u3], [], qp_H s x e, (0, 0)) (qf_v r.1 r.2 x e) := by
  intro n
  induction n with
  | zero => intro u3 a1 a2 s r h; cases h
  | succ n ih =>
    intro u3 a1 a2 s r h
    unfold qf131_40 at h
    iterate 2 refine qm_E_next rfl ?_
    rcases qr_cond h with ⟨hb, h⟩ | ⟨hb, h⟩
    · refine qr_t hb rfl ?_
      change qm_E _ _ _ (90, [some (vR 30 0), some (vI a1), some (vI a2), u3], [], qp_H s x e, (0, 0)) _
      iterate 1 refine qm_E_next rfl ?_
      cases h
      exact qr_iret (Or.inr ⟨rfl, Or.inr rfl⟩) rfl rfl
    · refine qr_f hb rfl ?_
      change qm_E _ _ _ (46, [some (vR 30 0), some (vI a1), some (vI a2), u3], [], qp_H s x e, (0, 0)) _
      iterate 2 refine qm_E_next rfl ?_
      exact qe131_48 d (fun h => ih h) h
def qf131_2  : Nat → Int32 → Int32 → qp_S → Option (Int32 × qp_S)
  | 0, _, _, _ => none
  | n + 1, a1, a2, s => (bif qm_cmp .ge a2 (32 : Int32) then (if qm_inb a1 8 = true then ((qf132 (0 : Int32) (0 : Int32) (s 33 0 (a1).toNatClampNeg) s).bind fun q1 => (bif qm_cmp .ne (q1.1) (0 : Int32) then qf131_40  4096 a1 (0 : Int32) q1.2 else some ((0 : Int32), q1.2))) else none) else (if qm_inb a2 32 = true then qf131_2  n a1 (a2 + (1 : Int32)) (qp_up s 60 0 (a2).toNatClampNeg (-1 : Int32)) else none))
theorem qe131_2 (d : Nat) {L : Nat} {xs : Nat → Int32} {x : Int64} {e : Nat → Nat}   : ∀ {n : Nat} {u3 : Option qm_V} {a1 : Int32} {a2 : Int32} {s : qp_S} {r : Int32 × qp_S}, qf131_2  n a1 a2 s = some r → qm_E (qz_ro L xs) (d + 3) 131 (2, [some (vR 30 0), some (vI a1), some (vI a2), u3], [], qp_H s x e, (0, 0)) (qf_v r.1 r.2 x e) := by
  intro n
  induction n with
  | zero => intro u3 a1 a2 s r h; cases h
  | succ n ih =>
    intro u3 a1 a2 s r h
    unfold qf131_2 at h
    iterate 2 refine qm_E_next rfl ?_
    rcases qr_cond h with ⟨hb, h⟩ | ⟨hb, h⟩
    · refine qr_t hb rfl ?_
      change qm_E _ _ _ (21, [some (vR 30 0), some (vI a1), some (vI a2), u3], [], qp_H s x e, (0, 0)) _
      iterate 6 refine qm_E_next rfl ?_
      change qm_E _ _ _ (29, [some (vR 30 0), some (vI a1), some (vI a2), u3], [vI a1, vR 33 0, vI (0 : Int32), vI (0 : Int32), vR 30 0], qp_H s x e, (0, 0)) _
      obtain ⟨hb, h⟩ := qr_inb h
      refine qr_iaload hb rfl rfl rfl rfl ?_
      change qm_E _ _ _ (30, [some (vR 30 0), some (vI a1), some (vI a2), u3], [vI (s 33 0 (a1).toNatClampNeg), vI (0 : Int32), vI (0 : Int32), vR 30 0], qp_H s x e, (0, 0)) _
      obtain ⟨q1, hq, h⟩ := qs_bd h
      refine qm_E_call rfl (qe132 (d + 2) hq) rfl ?_
      change qm_E _ _ _ (33, [some (vR 30 0), some (vI a1), some (vI a2), u3], [vI (q1.1)], qp_H q1.2 x e, (0, 0)) _
      rcases qr_cond h with ⟨hb, h⟩ | ⟨hb, h⟩
      · refine qr_t hb rfl ?_
        change qm_E _ _ _ (38, [some (vR 30 0), some (vI a1), some (vI a2), u3], [], qp_H q1.2 x e, (0, 0)) _
        iterate 2 refine qm_E_next rfl ?_
        exact qe131_40 d  h
      · refine qr_f hb rfl ?_
        change qm_E _ _ _ (36, [some (vR 30 0), some (vI a1), some (vI a2), u3], [], qp_H q1.2 x e, (0, 0)) _
        iterate 1 refine qm_E_next rfl ?_
        cases h
        exact qr_iret (Or.inr ⟨rfl, Or.inl rfl⟩) rfl rfl
    · refine qr_f hb rfl ?_
      change qm_E _ _ _ (8, [some (vR 30 0), some (vI a1), some (vI a2), u3], [], qp_H s x e, (0, 0)) _
      iterate 4 refine qm_E_next rfl ?_
      obtain ⟨hb, h⟩ := qr_inb h
      refine qr_iastore hb rfl rfl rfl rfl rfl ?_
      change qm_E _ _ _ (15, [some (vR 30 0), some (vI a1), some (vI a2), u3], [], qp_H (qp_up s 60 0 (a2).toNatClampNeg (-1 : Int32)) x e, (0, 0)) _
      iterate 2 refine qm_E_next rfl ?_
      exact ih h
def qf131 (a1 : Int32) (s : qp_S) : Option (Int32 × qp_S) := qf131_2 4096 a1 (0 : Int32) s
theorem qe131 (d : Nat) {L : Nat} {xs : Nat → Int32} {x : Int64} {e : Nat → Nat}    {a1 : Int32} {s : qp_S} {r : Int32 × qp_S} (h : qf131  a1 s = some r) : qm_E (qz_ro L xs) (d + 3) 131 (0, qm_ent 131 [vR 30 0, vI a1], [], qp_H s x e, (0, 0)) (qf_v r.1 r.2 x e) := by
  unfold qf131 at h
  iterate 2 refine qm_E_next rfl ?_
  exact qe131_2 d  h
/-! PeriodKernelModel isWired -/
def qf137_92 (L8 : Int32 → Int32 → Int32 → qp_S → Option (Int32 × qp_S)) (a1 : Int32) (a3 : Int32) (b0 : Int32) (b1 : Int32) (s : qp_S) : Option (Int32 × qp_S) := (bif qm_cmp .ne b0 b1 then L8 a1 (0 : Int32) (a3 + (1 : Int32)) s else L8 a1 (1 : Int32) (a3 + (1 : Int32)) s)
theorem qe137_92 (d : Nat) {L : Nat} {xs : Nat → Int32} {x : Int64} {e : Nat → Nat} {L8 : Int32 → Int32 → Int32 → qp_S → Option (Int32 × qp_S)} (H8 : ∀ {u4 : Option qm_V} {u5 : Option qm_V} {a1 : Int32} {a2 : Int32} {a3 : Int32} {s : qp_S} {r : Int32 × qp_S}, L8 a1 a2 a3 s = some r → qm_E (qz_ro L xs) (d + 4) 137 (8, [some (vR 30 0), some (vI a1), some (vI a2), some (vI a3), u4, u5], [], qp_H s x e, (0, 0)) (qf_v r.1 r.2 x e)) {u2 : Option qm_V} {u4 : Option qm_V} {u5 : Option qm_V} {a1 : Int32} {a3 : Int32} {b0 : Int32} {b1 : Int32} {s : qp_S} {r : Int32 × qp_S} (h : qf137_92 L8 a1 a3 b0 b1 s = some r) : qm_E (qz_ro L xs) (d + 4) 137 (92, [some (vR 30 0), some (vI a1), u2, some (vI a3), u4, u5], [vI b1, vI b0], qp_H s x e, (0, 0)) (qf_v r.1 r.2 x e) := by
  unfold qf137_92 at h
  rcases qr_cond h with ⟨hb, h⟩ | ⟨hb, h⟩
  · refine qr_t hb rfl ?_
    change qm_E _ _ _ (99, [some (vR 30 0), some (vI a1), u2, some (vI a3), u4, u5], [], qp_H s x e, (0, 0)) _
    iterate 4 refine qm_E_next rfl ?_
    exact H8 h
  · refine qr_f hb rfl ?_
    change qm_E _ _ _ (95, [some (vR 30 0), some (vI a1), u2, some (vI a3), u4, u5], [], qp_H s x e, (0, 0)) _
    iterate 5 refine qm_E_next rfl ?_
    exact H8 h
def qf137_62 (L8 : Int32 → Int32 → Int32 → qp_S → Option (Int32 × qp_S)) (a1 : Int32) (a2 : Int32) (a3 : Int32) (a4 : Int32) (a5 : Int32) (s : qp_S) : Option (Int32 × qp_S) := (bif qm_cmp .eq a2 (0 : Int32) then L8 a1 (0 : Int32) (a3 + (1 : Int32)) s else (if qm_inb (((6 : Int32) * a1) + (a4 >>> ((6 : Int32) &&& 31))) 48 = true then (bif qm_cmp .ne a5 (2 : Int32) then qf137_92 L8 a1 a3 (s 34 0 ((((6 : Int32) * a1) + (a4 >>> ((6 : Int32) &&& 31)))).toNatClampNeg) (1 : Int32) s else qf137_92 L8 a1 a3 (s 34 0 ((((6 : Int32) * a1) + (a4 >>> ((6 : Int32) &&& 31)))).toNatClampNeg) (0 : Int32) s) else none))
theorem qe137_62 (d : Nat) {L : Nat} {xs : Nat → Int32} {x : Int64} {e : Nat → Nat} {L8 : Int32 → Int32 → Int32 → qp_S → Option (Int32 × qp_S)} (H8 : ∀ {u4 : Option qm_V} {u5 : Option qm_V} {a1 : Int32} {a2 : Int32} {a3 : Int32} {s : qp_S} {r : Int32 × qp_S}, L8 a1 a2 a3 s = some r → qm_E (qz_ro L xs) (d + 4) 137 (8, [some (vR 30 0), some (vI a1), some (vI a2), some (vI a3), u4, u5], [], qp_H s x e, (0, 0)) (qf_v r.1 r.2 x e))  {a1 : Int32} {a2 : Int32} {a3 : Int32} {a4 : Int32} {a5 : Int32} {s : qp_S} {r : Int32 × qp_S} (h : qf137_62 L8 a1 a2 a3 a4 a5 s = some r) : qm_E (qz_ro L xs) (d + 4) 137 (62, [some (vR 30 0), some (vI a1), some (vI a2), some (vI a3), some (vI a4), some (vI a5)], [], qp_H s x e, (0, 0)) (qf_v r.1 r.2 x e) := by
  unfold qf137_62 at h
  iterate 1 refine qm_E_next rfl ?_
  rcases qr_cond h with ⟨hb, h⟩ | ⟨hb, h⟩
  · refine qr_t hb rfl ?_
    change qm_E _ _ _ (99, [some (vR 30 0), some (vI a1), some (vI a2), some (vI a3), some (vI a4), some (vI a5)], [], qp_H s x e, (0, 0)) _
    iterate 4 refine qm_E_next rfl ?_
    exact H8 h
  · refine qr_f hb rfl ?_
    change qm_E _ _ _ (66, [some (vR 30 0), some (vI a1), some (vI a2), some (vI a3), some (vI a4), some (vI a5)], [], qp_H s x e, (0, 0)) _
    iterate 6 refine qm_E_next rfl ?_
    change qm_E _ _ _ (76, [some (vR 30 0), some (vI a1), some (vI a2), some (vI a3), some (vI a4), some (vI a5)], [vI a4, vI ((6 : Int32) * a1), vR 34 0], qp_H s x e, (0, 0)) _
    iterate 3 refine qm_E_next rfl ?_
    obtain ⟨hb, h⟩ := qr_inb h
    refine qr_iaload hb rfl rfl rfl rfl ?_
    change qm_E _ _ _ (81, [some (vR 30 0), some (vI a1), some (vI a2), some (vI a3), some (vI a4), some (vI a5)], [vI (s 34 0 ((((6 : Int32) * a1) + (a4 >>> ((6 : Int32) &&& 31)))).toNatClampNeg)], qp_H s x e, (0, 0)) _
    iterate 2 refine qm_E_next rfl ?_
    rcases qr_cond h with ⟨hb, h⟩ | ⟨hb, h⟩
    · refine qr_t hb rfl ?_
      change qm_E _ _ _ (91, [some (vR 30 0), some (vI a1), some (vI a2), some (vI a3), some (vI a4), some (vI a5)], [vI (s 34 0 ((((6 : Int32) * a1) + (a4 >>> ((6 : Int32) &&& 31)))).toNatClampNeg)], qp_H s x e, (0, 0)) _
      iterate 1 refine qm_E_next rfl ?_
      exact qe137_92 d (fun h => H8 h) h
    · refine qr_f hb rfl ?_
      change qm_E _ _ _ (87, [some (vR 30 0), some (vI a1), some (vI a2), some (vI a3), some (vI a4), some (vI a5)], [vI (s 34 0 ((((6 : Int32) * a1) + (a4 >>> ((6 : Int32) &&& 31)))).toNatClampNeg)], qp_H s x e, (0, 0)) _
      iterate 2 refine qm_E_next rfl ?_
      exact qe137_92 d (fun h => H8 h) h
def qf137_8  : Nat → Int32 → Int32 → Int32 → qp_S → Option (Int32 × qp_S)
  | 0, _, _, _, _ => none
  | n + 1, a1, a2, a3, s => (if qm_inb a1 8 = true then (bif qm_cmp .ge a3 (s 33 0 (a1).toNatClampNeg) then (if (a2 = 0 ∨ a2 = 1) then some (a2, s) else none) else (if qm_inb (((32 : Int32) * a1) + a3) 256 = true then (if qm_inb a3 32 = true then (bif qm_cmp .lt (s 60 0 (a3).toNatClampNeg) (0 : Int32) then qf137_8  n a1 a2 (a3 + (1 : Int32)) s else (bif qm_cmp .eq ((s 32 0 ((((32 : Int32) * a1) + a3)).toNatClampNeg) &&& (63 : Int32)) (2 : Int32) then qf137_62 (qf137_8  n) a1 a2 a3 (s 32 0 ((((32 : Int32) * a1) + a3)).toNatClampNeg) ((s 32 0 ((((32 : Int32) * a1) + a3)).toNatClampNeg) &&& (63 : Int32)) s else (bif qm_cmp .eq ((s 32 0 ((((32 : Int32) * a1) + a3)).toNatClampNeg) &&& (63 : Int32)) (3 : Int32) then qf137_62 (qf137_8  n) a1 a2 a3 (s 32 0 ((((32 : Int32) * a1) + a3)).toNatClampNeg) ((s 32 0 ((((32 : Int32) * a1) + a3)).toNatClampNeg) &&& (63 : Int32)) s else qf137_8  n a1 a2 (a3 + (1 : Int32)) s))) else none) else none)) else none)
theorem qe137_8 (d : Nat) {L : Nat} {xs : Nat → Int32} {x : Int64} {e : Nat → Nat}   : ∀ {n : Nat} {u4 : Option qm_V} {u5 : Option qm_V} {a1 : Int32} {a2 : Int32} {a3 : Int32} {s : qp_S} {r : Int32 × qp_S}, qf137_8  n a1 a2 a3 s = some r → qm_E (qz_ro L xs) (d + 4) 137 (8, [some (vR 30 0), some (vI a1), some (vI a2), some (vI a3), u4, u5], [], qp_H s x e, (0, 0)) (qf_v r.1 r.2 x e) := by
  intro n
  induction n with
  | zero => intro u4 u5 a1 a2 a3 s r h; cases h
  | succ n ih =>
    intro u4 u5 a1 a2 a3 s r h
    unfold qf137_8 at h
    iterate 4 refine qm_E_next rfl ?_
    obtain ⟨hb, h⟩ := qr_inb h
    refine qr_iaload hb rfl rfl rfl rfl ?_
    change qm_E _ _ _ (15, [some (vR 30 0), some (vI a1), some (vI a2), some (vI a3), u4, u5], [vI (s 33 0 (a1).toNatClampNeg), vI a3], qp_H s x e, (0, 0)) _
    rcases qr_cond h with ⟨hb, h⟩ | ⟨hb, h⟩
    · refine qr_t hb rfl ?_
      change qm_E _ _ _ (107, [some (vR 30 0), some (vI a1), some (vI a2), some (vI a3), u4, u5], [], qp_H s x e, (0, 0)) _
      iterate 1 refine qm_E_next rfl ?_
      obtain ⟨hz, h⟩ := qr_inb h
      cases h
      exact qr_iret (Or.inr ⟨rfl, hz⟩) rfl rfl
    · refine qr_f hb rfl ?_
      change qm_E _ _ _ (18, [some (vR 30 0), some (vI a1), some (vI a2), some (vI a3), u4, u5], [], qp_H s x e, (0, 0)) _
      iterate 6 refine qm_E_next rfl ?_
      change qm_E _ _ _ (27, [some (vR 30 0), some (vI a1), some (vI a2), some (vI a3), u4, u5], [vI a3, vI ((32 : Int32) * a1), vR 32 0], qp_H s x e, (0, 0)) _
      iterate 1 refine qm_E_next rfl ?_
      obtain ⟨hb, h⟩ := qr_inb h
      refine qr_iaload hb rfl rfl rfl rfl ?_
      change qm_E _ _ _ (29, [some (vR 30 0), some (vI a1), some (vI a2), some (vI a3), u4, u5], [vI (s 32 0 ((((32 : Int32) * a1) + a3)).toNatClampNeg)], qp_H s x e, (0, 0)) _
      iterate 6 refine qm_E_next rfl ?_
      change qm_E _ _ _ (39, [some (vR 30 0), some (vI a1), some (vI a2), some (vI a3), some (vI (s 32 0 ((((32 : Int32) * a1) + a3)).toNatClampNeg)), some (vI ((s 32 0 ((((32 : Int32) * a1) + a3)).toNatClampNeg) &&& (63 : Int32)))], [vR 30 0], qp_H s x e, (0, 0)) _
      iterate 2 refine qm_E_next rfl ?_
      obtain ⟨hb, h⟩ := qr_inb h
      refine qr_iaload hb rfl rfl rfl rfl ?_
      change qm_E _ _ _ (44, [some (vR 30 0), some (vI a1), some (vI a2), some (vI a3), some (vI (s 32 0 ((((32 : Int32) * a1) + a3)).toNatClampNeg)), some (vI ((s 32 0 ((((32 : Int32) * a1) + a3)).toNatClampNeg) &&& (63 : Int32)))], [vI (s 60 0 (a3).toNatClampNeg)], qp_H s x e, (0, 0)) _
      rcases qr_cond h with ⟨hb, h⟩ | ⟨hb, h⟩
      · refine qr_t hb rfl ?_
        change qm_E _ _ _ (101, [some (vR 30 0), some (vI a1), some (vI a2), some (vI a3), some (vI (s 32 0 ((((32 : Int32) * a1) + a3)).toNatClampNeg)), some (vI ((s 32 0 ((((32 : Int32) * a1) + a3)).toNatClampNeg) &&& (63 : Int32)))], [], qp_H s x e, (0, 0)) _
        iterate 2 refine qm_E_next rfl ?_
        exact ih h
      · refine qr_f hb rfl ?_
        change qm_E _ _ _ (47, [some (vR 30 0), some (vI a1), some (vI a2), some (vI a3), some (vI (s 32 0 ((((32 : Int32) * a1) + a3)).toNatClampNeg)), some (vI ((s 32 0 ((((32 : Int32) * a1) + a3)).toNatClampNeg) &&& (63 : Int32)))], [], qp_H s x e, (0, 0)) _
        iterate 2 refine qm_E_next rfl ?_
        rcases qr_cond h with ⟨hb, h⟩ | ⟨hb, h⟩
        · refine qr_t hb rfl ?_
          exact qe137_62 d (fun h => ih h) h
        · refine qr_f hb rfl ?_
          change qm_E _ _ _ (53, [some (vR 30 0), some (vI a1), some (vI a2), some (vI a3), some (vI (s 32 0 ((((32 : Int32) * a1) + a3)).toNatClampNeg)), some (vI ((s 32 0 ((((32 : Int32) * a1) + a3)).toNatClampNeg) &&& (63 : Int32)))], [], qp_H s x e, (0, 0)) _
          iterate 2 refine qm_E_next rfl ?_
          rcases qr_cond h with ⟨hb, h⟩ | ⟨hb, h⟩
          · refine qr_t hb rfl ?_
            exact qe137_62 d (fun h => ih h) h
          · refine qr_f hb rfl ?_
            change qm_E _ _ _ (59, [some (vR 30 0), some (vI a1), some (vI a2), some (vI a3), some (vI (s 32 0 ((((32 : Int32) * a1) + a3)).toNatClampNeg)), some (vI ((s 32 0 ((((32 : Int32) * a1) + a3)).toNatClampNeg) &&& (63 : Int32)))], [], qp_H s x e, (0, 0)) _
            iterate 3 refine qm_E_next rfl ?_
            exact ih h
def qf137 (a1 : Int32) (s : qp_S) : Option (Int32 × qp_S) := ((qf131 a1 s).bind fun q1 => qf137_8 4096 a1 (q1.1) (0 : Int32) q1.2)
theorem qe137 (d : Nat) {L : Nat} {xs : Nat → Int32} {x : Int64} {e : Nat → Nat}    {a1 : Int32} {s : qp_S} {r : Int32 × qp_S} (h : qf137  a1 s = some r) : qm_E (qz_ro L xs) (d + 4) 137 (0, qm_ent 137 [vR 30 0, vI a1], [], qp_H s x e, (0, 0)) (qf_v r.1 r.2 x e) := by
  unfold qf137 at h
  iterate 2 refine qm_E_next rfl ?_
  obtain ⟨q1, hq, h⟩ := qs_bd h
  refine qm_E_call rfl (qe131 (d + 0) hq) rfl ?_
  change qm_E _ _ _ (5, [some (vR 30 0), some (vI a1), none, none, none, none], [vI (q1.1)], qp_H q1.2 x e, (0, 0)) _
  iterate 3 refine qm_E_next rfl ?_
  exact qe137_8 d  h
/-! PeriodKernelModel tasksFault -/
def qf129_37  : Nat → Int32 → qp_S → Option (Int32 × qp_S)
  | 0, _, _ => none
  | n + 1, a1, s => (bif qm_cmp .ge a1 (8 : Int32) then some ((0 : Int32), s) else ((qf130 a1 s).bind fun q3 => (bif qm_cmp .eq q3 (0 : Int32) then qf129_37  n (a1 + (1 : Int32)) s else ((qf137 a1 s).bind fun q4 => (bif qm_cmp .ne (q4.1) (0 : Int32) then qf129_37  n (a1 + (1 : Int32)) q4.2 else some (((200 : Int32) + a1), q4.2))))))
theorem qe129_37 (d : Nat) {L : Nat} {xs : Nat → Int32} {x : Int64} {e : Nat → Nat}   : ∀ {n : Nat}  {a1 : Int32} {s : qp_S} {r : Int32 × qp_S}, qf129_37  n a1 s = some r → qm_E (qz_ro L xs) (d + 5) 129 (37, [some (vR 30 0), some (vI a1)], [], qp_H s x e, (0, 0)) (qf_v r.1 r.2 x e) := by
  intro n
  induction n with
  | zero => intro  a1 s r h; cases h
  | succ n ih =>
    intro  a1 s r h
    unfold qf129_37 at h
    iterate 2 refine qm_E_next rfl ?_
    rcases qr_cond h with ⟨hb, h⟩ | ⟨hb, h⟩
    · refine qr_t hb rfl ?_
      change qm_E _ _ _ (71, [some (vR 30 0), some (vI a1)], [], qp_H s x e, (0, 0)) _
      iterate 1 refine qm_E_next rfl ?_
      cases h
      exact qr_iret (Or.inl rfl) rfl rfl
    · refine qr_f hb rfl ?_
      change qm_E _ _ _ (43, [some (vR 30 0), some (vI a1)], [], qp_H s x e, (0, 0)) _
      iterate 2 refine qm_E_next rfl ?_
      obtain ⟨q3, hq, h⟩ := qs_bd h
      refine qm_E_call rfl (qe130 (d + 4) hq) rfl ?_
      change qm_E _ _ _ (48, [some (vR 30 0), some (vI a1)], [vI q3], qp_H s x e, (0, 0)) _
      rcases qr_cond h with ⟨hb, h⟩ | ⟨hb, h⟩
      · refine qr_t hb rfl ?_
        change qm_E _ _ _ (65, [some (vR 30 0), some (vI a1)], [], qp_H s x e, (0, 0)) _
        iterate 2 refine qm_E_next rfl ?_
        exact ih h
      · refine qr_f hb rfl ?_
        change qm_E _ _ _ (51, [some (vR 30 0), some (vI a1)], [], qp_H s x e, (0, 0)) _
        iterate 2 refine qm_E_next rfl ?_
        obtain ⟨q4, hq, h⟩ := qs_bd h
        refine qm_E_call rfl (qe137 (d + 0) hq) rfl ?_
        change qm_E _ _ _ (56, [some (vR 30 0), some (vI a1)], [vI (q4.1)], qp_H q4.2 x e, (0, 0)) _
        rcases qr_cond h with ⟨hb, h⟩ | ⟨hb, h⟩
        · refine qr_t hb rfl ?_
          change qm_E _ _ _ (65, [some (vR 30 0), some (vI a1)], [], qp_H q4.2 x e, (0, 0)) _
          iterate 2 refine qm_E_next rfl ?_
          exact ih h
        · refine qr_f hb rfl ?_
          change qm_E _ _ _ (59, [some (vR 30 0), some (vI a1)], [], qp_H q4.2 x e, (0, 0)) _
          iterate 3 refine qm_E_next rfl ?_
          cases h
          exact qr_iret (Or.inl rfl) rfl rfl
def qf129_2  : Nat → Int32 → qp_S → Option (Int32 × qp_S)
  | 0, _, _ => none
  | n + 1, a1, s => (bif qm_cmp .ge a1 (8 : Int32) then qf129_37  4096 (0 : Int32) s else ((qf130 a1 s).bind fun q1 => (bif qm_cmp .eq q1 (0 : Int32) then qf129_2  n (a1 + (1 : Int32)) s else ((qf131 a1 s).bind fun q2 => (bif qm_cmp .ne (q2.1) (0 : Int32) then qf129_2  n (a1 + (1 : Int32)) q2.2 else some (((100 : Int32) + a1), q2.2))))))
theorem qe129_2 (d : Nat) {L : Nat} {xs : Nat → Int32} {x : Int64} {e : Nat → Nat}   : ∀ {n : Nat}  {a1 : Int32} {s : qp_S} {r : Int32 × qp_S}, qf129_2  n a1 s = some r → qm_E (qz_ro L xs) (d + 5) 129 (2, [some (vR 30 0), some (vI a1)], [], qp_H s x e, (0, 0)) (qf_v r.1 r.2 x e) := by
  intro n
  induction n with
  | zero => intro  a1 s r h; cases h
  | succ n ih =>
    intro  a1 s r h
    unfold qf129_2 at h
    iterate 2 refine qm_E_next rfl ?_
    rcases qr_cond h with ⟨hb, h⟩ | ⟨hb, h⟩
    · refine qr_t hb rfl ?_
      change qm_E _ _ _ (35, [some (vR 30 0), some (vI a1)], [], qp_H s x e, (0, 0)) _
      iterate 2 refine qm_E_next rfl ?_
      exact qe129_37 d  h
    · refine qr_f hb rfl ?_
      change qm_E _ _ _ (8, [some (vR 30 0), some (vI a1)], [], qp_H s x e, (0, 0)) _
      iterate 2 refine qm_E_next rfl ?_
      obtain ⟨q1, hq, h⟩ := qs_bd h
      refine qm_E_call rfl (qe130 (d + 4) hq) rfl ?_
      change qm_E _ _ _ (13, [some (vR 30 0), some (vI a1)], [vI q1], qp_H s x e, (0, 0)) _
      rcases qr_cond h with ⟨hb, h⟩ | ⟨hb, h⟩
      · refine qr_t hb rfl ?_
        change qm_E _ _ _ (29, [some (vR 30 0), some (vI a1)], [], qp_H s x e, (0, 0)) _
        iterate 2 refine qm_E_next rfl ?_
        exact ih h
      · refine qr_f hb rfl ?_
        change qm_E _ _ _ (16, [some (vR 30 0), some (vI a1)], [], qp_H s x e, (0, 0)) _
        iterate 2 refine qm_E_next rfl ?_
        obtain ⟨q2, hq, h⟩ := qs_bd h
        refine qm_E_call rfl (qe131 (d + 1) hq) rfl ?_
        change qm_E _ _ _ (21, [some (vR 30 0), some (vI a1)], [vI (q2.1)], qp_H q2.2 x e, (0, 0)) _
        rcases qr_cond h with ⟨hb, h⟩ | ⟨hb, h⟩
        · refine qr_t hb rfl ?_
          change qm_E _ _ _ (29, [some (vR 30 0), some (vI a1)], [], qp_H q2.2 x e, (0, 0)) _
          iterate 2 refine qm_E_next rfl ?_
          exact ih h
        · refine qr_f hb rfl ?_
          change qm_E _ _ _ (24, [some (vR 30 0), some (vI a1)], [], qp_H q2.2 x e, (0, 0)) _
          iterate 3 refine qm_E_next rfl ?_
          cases h
          exact qr_iret (Or.inl rfl) rfl rfl
def qf129 (s : qp_S) : Option (Int32 × qp_S) := qf129_2 4096 (0 : Int32) s
theorem qe129 (d : Nat) {L : Nat} {xs : Nat → Int32} {x : Int64} {e : Nat → Nat}     {s : qp_S} {r : Int32 × qp_S} (h : qf129   s = some r) : qm_E (qz_ro L xs) (d + 5) 129 (0, qm_ent 129 [vR 30 0], [], qp_H s x e, (0, 0)) (qf_v r.1 r.2 x e) := by
  unfold qf129 at h
  iterate 2 refine qm_E_next rfl ?_
  exact qe129_2 d  h
/-! PeriodKernelModel divides -/
def qf139_4  : Nat → Int32 → Int32 → Int32 → qp_S → Option (Int32)
  | 0, _, _, _, _ => none
  | n + 1, a1, a2, a3, s => (bif qm_cmp .ge a3 (8 : Int32) then (if (a2 = 0 ∨ a2 = 1) then some a2 else none) else (if qm_inb (((8 : Int32) * a1) + a3) 32 = true then (bif qm_cmp .eq a2 (0 : Int32) then qf139_4  n a1 (0 : Int32) (a3 + (1 : Int32)) s else (bif qm_cmp .eq (s 42 0 ((((8 : Int32) * a1) + a3)).toNatClampNeg) (0 : Int32) then qf139_4  n a1 (1 : Int32) (a3 + (1 : Int32)) s else (if qm_inb a1 4 = true then (if (s 42 0 ((((8 : Int32) * a1) + a3)).toNatClampNeg) = 0 then none else (bif qm_cmp .ne ((s 41 0 (a1).toNatClampNeg) - (s 41 0 (a1).toNatClampNeg) / (s 42 0 ((((8 : Int32) * a1) + a3)).toNatClampNeg) * (s 42 0 ((((8 : Int32) * a1) + a3)).toNatClampNeg)) (0 : Int32) then qf139_4  n a1 (0 : Int32) (a3 + (1 : Int32)) s else qf139_4  n a1 (1 : Int32) (a3 + (1 : Int32)) s)) else none))) else none))
theorem qe139_4 (d : Nat) {L : Nat} {xs : Nat → Int32} {x : Int64} {e : Nat → Nat}   : ∀ {n : Nat} {u4 : Option qm_V} {a1 : Int32} {a2 : Int32} {a3 : Int32} {s : qp_S} {r : Int32}, qf139_4  n a1 a2 a3 s = some r → qm_E (qz_ro L xs) (d + 0) 139 (4, [some (vR 30 0), some (vI a1), some (vI a2), some (vI a3), u4], [], qp_H s x e, (0, 0)) (qf_v r s x e) := by
  intro n
  induction n with
  | zero => intro u4 a1 a2 a3 s r h; cases h
  | succ n ih =>
    intro u4 a1 a2 a3 s r h
    unfold qf139_4 at h
    iterate 2 refine qm_E_next rfl ?_
    rcases qr_cond h with ⟨hb, h⟩ | ⟨hb, h⟩
    · refine qr_t hb rfl ?_
      change qm_E _ _ _ (56, [some (vR 30 0), some (vI a1), some (vI a2), some (vI a3), u4], [], qp_H s x e, (0, 0)) _
      iterate 1 refine qm_E_next rfl ?_
      obtain ⟨hz, h⟩ := qr_inb h
      cases h
      exact qr_iret (Or.inr ⟨rfl, hz⟩) rfl rfl
    · refine qr_f hb rfl ?_
      change qm_E _ _ _ (10, [some (vR 30 0), some (vI a1), some (vI a2), some (vI a3), u4], [], qp_H s x e, (0, 0)) _
      iterate 6 refine qm_E_next rfl ?_
      change qm_E _ _ _ (19, [some (vR 30 0), some (vI a1), some (vI a2), some (vI a3), u4], [vI a3, vI ((8 : Int32) * a1), vR 42 0], qp_H s x e, (0, 0)) _
      iterate 1 refine qm_E_next rfl ?_
      obtain ⟨hb, h⟩ := qr_inb h
      refine qr_iaload hb rfl rfl rfl rfl ?_
      change qm_E _ _ _ (21, [some (vR 30 0), some (vI a1), some (vI a2), some (vI a3), u4], [vI (s 42 0 ((((8 : Int32) * a1) + a3)).toNatClampNeg)], qp_H s x e, (0, 0)) _
      iterate 2 refine qm_E_next rfl ?_
      rcases qr_cond h with ⟨hb, h⟩ | ⟨hb, h⟩
      · refine qr_t hb rfl ?_
        change qm_E _ _ _ (48, [some (vR 30 0), some (vI a1), some (vI a2), some (vI a3), some (vI (s 42 0 ((((8 : Int32) * a1) + a3)).toNatClampNeg))], [], qp_H s x e, (0, 0)) _
        iterate 4 refine qm_E_next rfl ?_
        exact ih h
      · refine qr_f hb rfl ?_
        change qm_E _ _ _ (27, [some (vR 30 0), some (vI a1), some (vI a2), some (vI a3), some (vI (s 42 0 ((((8 : Int32) * a1) + a3)).toNatClampNeg))], [], qp_H s x e, (0, 0)) _
        iterate 1 refine qm_E_next rfl ?_
        rcases qr_cond h with ⟨hb, h⟩ | ⟨hb, h⟩
        · refine qr_t hb rfl ?_
          change qm_E _ _ _ (44, [some (vR 30 0), some (vI a1), some (vI a2), some (vI a3), some (vI (s 42 0 ((((8 : Int32) * a1) + a3)).toNatClampNeg))], [], qp_H s x e, (0, 0)) _
          iterate 5 refine qm_E_next rfl ?_
          exact ih h
        · refine qr_f hb rfl ?_
          change qm_E _ _ _ (32, [some (vR 30 0), some (vI a1), some (vI a2), some (vI a3), some (vI (s 42 0 ((((8 : Int32) * a1) + a3)).toNatClampNeg))], [], qp_H s x e, (0, 0)) _
          iterate 3 refine qm_E_next rfl ?_
          obtain ⟨hb, h⟩ := qr_inb h
          refine qr_iaload hb rfl rfl rfl rfl ?_
          change qm_E _ _ _ (38, [some (vR 30 0), some (vI a1), some (vI a2), some (vI a3), some (vI (s 42 0 ((((8 : Int32) * a1) + a3)).toNatClampNeg))], [vI (s 41 0 (a1).toNatClampNeg)], qp_H s x e, (0, 0)) _
          iterate 1 refine qm_E_next rfl ?_
          obtain ⟨hb, h⟩ := qr_nz h
          refine qr_irem hb rfl rfl ?_
          change qm_E _ _ _ (41, [some (vR 30 0), some (vI a1), some (vI a2), some (vI a3), some (vI (s 42 0 ((((8 : Int32) * a1) + a3)).toNatClampNeg))], [vI ((s 41 0 (a1).toNatClampNeg) - (s 41 0 (a1).toNatClampNeg) / (s 42 0 ((((8 : Int32) * a1) + a3)).toNatClampNeg) * (s 42 0 ((((8 : Int32) * a1) + a3)).toNatClampNeg))], qp_H s x e, (0, 0)) _
          rcases qr_cond h with ⟨hb, h⟩ | ⟨hb, h⟩
          · refine qr_t hb rfl ?_
            change qm_E _ _ _ (48, [some (vR 30 0), some (vI a1), some (vI a2), some (vI a3), some (vI (s 42 0 ((((8 : Int32) * a1) + a3)).toNatClampNeg))], [], qp_H s x e, (0, 0)) _
            iterate 4 refine qm_E_next rfl ?_
            exact ih h
          · refine qr_f hb rfl ?_
            change qm_E _ _ _ (44, [some (vR 30 0), some (vI a1), some (vI a2), some (vI a3), some (vI (s 42 0 ((((8 : Int32) * a1) + a3)).toNatClampNeg))], [], qp_H s x e, (0, 0)) _
            iterate 5 refine qm_E_next rfl ?_
            exact ih h
def qf139 (a1 : Int32) (s : qp_S) : Option (Int32) := qf139_4 4096 a1 (1 : Int32) (0 : Int32) s
theorem qe139 (d : Nat) {L : Nat} {xs : Nat → Int32} {x : Int64} {e : Nat → Nat}    {a1 : Int32} {s : qp_S} {r : Int32} (h : qf139  a1 s = some r) : qm_E (qz_ro L xs) (d + 0) 139 (0, qm_ent 139 [vR 30 0, vI a1], [], qp_H s x e, (0, 0)) (qf_v r s x e) := by
  unfold qf139 at h
  iterate 4 refine qm_E_next rfl ?_
  exact qe139_4 d  h
/-! PeriodKernelModel sensorsAt -/
def qf142_4  : Nat → Int32 → Int32 → Int32 → qp_S → Option (Int32)
  | 0, _, _, _, _ => none
  | n + 1, a1, a2, a3, s => (bif qm_cmp .ge a3 (8 : Int32) then some a2 else (if qm_inb a3 8 = true then (bif qm_cmp .ne (s 45 0 (a3).toNatClampNeg) a1 then qf142_4  n a1 (a2 + (0 : Int32)) (a3 + (1 : Int32)) s else qf142_4  n a1 (a2 + (1 : Int32)) (a3 + (1 : Int32)) s) else none))
theorem qe142_4 (d : Nat) {L : Nat} {xs : Nat → Int32} {x : Int64} {e : Nat → Nat}   : ∀ {n : Nat}  {a1 : Int32} {a2 : Int32} {a3 : Int32} {s : qp_S} {r : Int32}, qf142_4  n a1 a2 a3 s = some r → qm_E (qz_ro L xs) (d + 0) 142 (4, [some (vR 30 0), some (vI a1), some (vI a2), some (vI a3)], [], qp_H s x e, (0, 0)) (qf_v r s x e) := by
  intro n
  induction n with
  | zero => intro  a1 a2 a3 s r h; cases h
  | succ n ih =>
    intro  a1 a2 a3 s r h
    unfold qf142_4 at h
    iterate 2 refine qm_E_next rfl ?_
    rcases qr_cond h with ⟨hb, h⟩ | ⟨hb, h⟩
    · refine qr_t hb rfl ?_
      change qm_E _ _ _ (34, [some (vR 30 0), some (vI a1), some (vI a2), some (vI a3)], [], qp_H s x e, (0, 0)) _
      iterate 1 refine qm_E_next rfl ?_
      cases h
      exact qr_iret (Or.inl rfl) rfl rfl
    · refine qr_f hb rfl ?_
      change qm_E _ _ _ (10, [some (vR 30 0), some (vI a1), some (vI a2), some (vI a3)], [], qp_H s x e, (0, 0)) _
      iterate 4 refine qm_E_next rfl ?_
      obtain ⟨hb, h⟩ := qr_inb h
      refine qr_iaload hb rfl rfl rfl rfl ?_
      change qm_E _ _ _ (17, [some (vR 30 0), some (vI a1), some (vI a2), some (vI a3)], [vI (s 45 0 (a3).toNatClampNeg), vI a2], qp_H s x e, (0, 0)) _
      iterate 1 refine qm_E_next rfl ?_
      rcases qr_cond h with ⟨hb, h⟩ | ⟨hb, h⟩
      · refine qr_t hb rfl ?_
        change qm_E _ _ _ (25, [some (vR 30 0), some (vI a1), some (vI a2), some (vI a3)], [vI a2], qp_H s x e, (0, 0)) _
        iterate 5 refine qm_E_next rfl ?_
        exact ih h
      · refine qr_f hb rfl ?_
        change qm_E _ _ _ (21, [some (vR 30 0), some (vI a1), some (vI a2), some (vI a3)], [vI a2], qp_H s x e, (0, 0)) _
        iterate 6 refine qm_E_next rfl ?_
        exact ih h
def qf142 (a1 : Int32) (s : qp_S) : Option (Int32) := qf142_4 4096 a1 (0 : Int32) (0 : Int32) s
theorem qe142 (d : Nat) {L : Nat} {xs : Nat → Int32} {x : Int64} {e : Nat → Nat}    {a1 : Int32} {s : qp_S} {r : Int32} (h : qf142  a1 s = some r) : qm_E (qz_ro L xs) (d + 0) 142 (0, qm_ent 142 [vR 30 0, vI a1], [], qp_H s x e, (0, 0)) (qf_v r s x e) := by
  unfold qf142 at h
  iterate 4 refine qm_E_next rfl ?_
  exact qe142_4 d  h
/-! PeriodKernelModel isShared -/
def qf141_5  : Nat → Int32 → Int32 → Int32 → Int32 → qp_S → Option (Int32)
  | 0, _, _, _, _, _ => none
  | n + 1, a1, a2, a3, a4, s => (bif qm_cmp .ge a4 (48 : Int32) then (bif qm_cmp .gt a3 (1 : Int32) then some (1 : Int32) else (bif qm_cmp .ne a3 (1 : Int32) then some (0 : Int32) else ((qf142 a2 s).bind fun q1 => (bif qm_cmp .le q1 (0 : Int32) then some (0 : Int32) else some (1 : Int32))))) else (if (6 : Int32) = 0 then none else (if qm_inb (((8 : Int32) * a1) + (a4 / (6 : Int32))) 32 = true then (bif qm_cmp .le (s 42 0 ((((8 : Int32) * a1) + (a4 / (6 : Int32)))).toNatClampNeg) (0 : Int32) then qf141_5  n a1 a2 (a3 + (0 : Int32)) (a4 + (1 : Int32)) s else (if qm_inb a4 48 = true then (bif qm_cmp .ne (s 34 0 (a4).toNatClampNeg) (1 : Int32) then qf141_5  n a1 a2 (a3 + (0 : Int32)) (a4 + (1 : Int32)) s else (if qm_inb a4 48 = true then (bif qm_cmp .ne (s 35 0 (a4).toNatClampNeg) a2 then qf141_5  n a1 a2 (a3 + (0 : Int32)) (a4 + (1 : Int32)) s else qf141_5  n a1 a2 (a3 + (1 : Int32)) (a4 + (1 : Int32)) s) else none)) else none)) else none)))
theorem qe141_5 (d : Nat) {L : Nat} {xs : Nat → Int32} {x : Int64} {e : Nat → Nat}   : ∀ {n : Nat}  {a1 : Int32} {a2 : Int32} {a3 : Int32} {a4 : Int32} {s : qp_S} {r : Int32}, qf141_5  n a1 a2 a3 a4 s = some r → qm_E (qz_ro L xs) (d + 1) 141 (5, [some (vR 30 0), some (vI a1), some (vI a2), some (vI a3), some (vI a4)], [], qp_H s x e, (0, 0)) (qf_v r s x e) := by
  intro n
  induction n with
  | zero => intro  a1 a2 a3 a4 s r h; cases h
  | succ n ih =>
    intro  a1 a2 a3 a4 s r h
    unfold qf141_5 at h
    iterate 2 refine qm_E_next rfl ?_
    rcases qr_cond h with ⟨hb, h⟩ | ⟨hb, h⟩
    · refine qr_t hb rfl ?_
      change qm_E _ _ _ (66, [some (vR 30 0), some (vI a1), some (vI a2), some (vI a3), some (vI a4)], [], qp_H s x e, (0, 0)) _
      iterate 2 refine qm_E_next rfl ?_
      rcases qr_cond h with ⟨hb, h⟩ | ⟨hb, h⟩
      · refine qr_t hb rfl ?_
        change qm_E _ _ _ (84, [some (vR 30 0), some (vI a1), some (vI a2), some (vI a3), some (vI a4)], [], qp_H s x e, (0, 0)) _
        iterate 2 refine qm_E_next rfl ?_
        cases h
        exact qr_iret (Or.inr ⟨rfl, Or.inr rfl⟩) rfl rfl
      · refine qr_f hb rfl ?_
        change qm_E _ _ _ (71, [some (vR 30 0), some (vI a1), some (vI a2), some (vI a3), some (vI a4)], [], qp_H s x e, (0, 0)) _
        iterate 2 refine qm_E_next rfl ?_
        rcases qr_cond h with ⟨hb, h⟩ | ⟨hb, h⟩
        · refine qr_t hb rfl ?_
          change qm_E _ _ _ (88, [some (vR 30 0), some (vI a1), some (vI a2), some (vI a3), some (vI a4)], [], qp_H s x e, (0, 0)) _
          iterate 1 refine qm_E_next rfl ?_
          cases h
          exact qr_iret (Or.inr ⟨rfl, Or.inl rfl⟩) rfl rfl
        · refine qr_f hb rfl ?_
          change qm_E _ _ _ (76, [some (vR 30 0), some (vI a1), some (vI a2), some (vI a3), some (vI a4)], [], qp_H s x e, (0, 0)) _
          iterate 2 refine qm_E_next rfl ?_
          obtain ⟨q1, hq, h⟩ := qs_bd h
          refine qm_E_call rfl (qe142 (d + 0) hq) rfl ?_
          change qm_E _ _ _ (81, [some (vR 30 0), some (vI a1), some (vI a2), some (vI a3), some (vI a4)], [vI q1], qp_H s x e, (0, 0)) _
          rcases qr_cond h with ⟨hb, h⟩ | ⟨hb, h⟩
          · refine qr_t hb rfl ?_
            change qm_E _ _ _ (88, [some (vR 30 0), some (vI a1), some (vI a2), some (vI a3), some (vI a4)], [], qp_H s x e, (0, 0)) _
            iterate 1 refine qm_E_next rfl ?_
            cases h
            exact qr_iret (Or.inr ⟨rfl, Or.inl rfl⟩) rfl rfl
          · refine qr_f hb rfl ?_
            change qm_E _ _ _ (84, [some (vR 30 0), some (vI a1), some (vI a2), some (vI a3), some (vI a4)], [], qp_H s x e, (0, 0)) _
            iterate 2 refine qm_E_next rfl ?_
            cases h
            exact qr_iret (Or.inr ⟨rfl, Or.inr rfl⟩) rfl rfl
    · refine qr_f hb rfl ?_
      change qm_E _ _ _ (12, [some (vR 30 0), some (vI a1), some (vI a2), some (vI a3), some (vI a4)], [], qp_H s x e, (0, 0)) _
      iterate 6 refine qm_E_next rfl ?_
      change qm_E _ _ _ (21, [some (vR 30 0), some (vI a1), some (vI a2), some (vI a3), some (vI a4)], [vI ((8 : Int32) * a1), vR 42 0, vI a3], qp_H s x e, (0, 0)) _
      iterate 2 refine qm_E_next rfl ?_
      obtain ⟨hb, h⟩ := qr_nz h
      refine qr_idiv hb rfl rfl ?_
      change qm_E _ _ _ (26, [some (vR 30 0), some (vI a1), some (vI a2), some (vI a3), some (vI a4)], [vI (a4 / (6 : Int32)), vI ((8 : Int32) * a1), vR 42 0, vI a3], qp_H s x e, (0, 0)) _
      iterate 1 refine qm_E_next rfl ?_
      obtain ⟨hb, h⟩ := qr_inb h
      refine qr_iaload hb rfl rfl rfl rfl ?_
      change qm_E _ _ _ (28, [some (vR 30 0), some (vI a1), some (vI a2), some (vI a3), some (vI a4)], [vI (s 42 0 ((((8 : Int32) * a1) + (a4 / (6 : Int32)))).toNatClampNeg), vI a3], qp_H s x e, (0, 0)) _
      rcases qr_cond h with ⟨hb, h⟩ | ⟨hb, h⟩
      · refine qr_t hb rfl ?_
        change qm_E _ _ _ (57, [some (vR 30 0), some (vI a1), some (vI a2), some (vI a3), some (vI a4)], [vI a3], qp_H s x e, (0, 0)) _
        iterate 5 refine qm_E_next rfl ?_
        exact ih h
      · refine qr_f hb rfl ?_
        change qm_E _ _ _ (31, [some (vR 30 0), some (vI a1), some (vI a2), some (vI a3), some (vI a4)], [vI a3], qp_H s x e, (0, 0)) _
        iterate 3 refine qm_E_next rfl ?_
        obtain ⟨hb, h⟩ := qr_inb h
        refine qr_iaload hb rfl rfl rfl rfl ?_
        change qm_E _ _ _ (38, [some (vR 30 0), some (vI a1), some (vI a2), some (vI a3), some (vI a4)], [vI (s 34 0 (a4).toNatClampNeg), vI a3], qp_H s x e, (0, 0)) _
        iterate 1 refine qm_E_next rfl ?_
        rcases qr_cond h with ⟨hb, h⟩ | ⟨hb, h⟩
        · refine qr_t hb rfl ?_
          change qm_E _ _ _ (57, [some (vR 30 0), some (vI a1), some (vI a2), some (vI a3), some (vI a4)], [vI a3], qp_H s x e, (0, 0)) _
          iterate 5 refine qm_E_next rfl ?_
          exact ih h
        · refine qr_f hb rfl ?_
          change qm_E _ _ _ (42, [some (vR 30 0), some (vI a1), some (vI a2), some (vI a3), some (vI a4)], [vI a3], qp_H s x e, (0, 0)) _
          iterate 3 refine qm_E_next rfl ?_
          obtain ⟨hb, h⟩ := qr_inb h
          refine qr_iaload hb rfl rfl rfl rfl ?_
          change qm_E _ _ _ (49, [some (vR 30 0), some (vI a1), some (vI a2), some (vI a3), some (vI a4)], [vI (s 35 0 (a4).toNatClampNeg), vI a3], qp_H s x e, (0, 0)) _
          iterate 1 refine qm_E_next rfl ?_
          rcases qr_cond h with ⟨hb, h⟩ | ⟨hb, h⟩
          · refine qr_t hb rfl ?_
            change qm_E _ _ _ (57, [some (vR 30 0), some (vI a1), some (vI a2), some (vI a3), some (vI a4)], [vI a3], qp_H s x e, (0, 0)) _
            iterate 5 refine qm_E_next rfl ?_
            exact ih h
          · refine qr_f hb rfl ?_
            change qm_E _ _ _ (53, [some (vR 30 0), some (vI a1), some (vI a2), some (vI a3), some (vI a4)], [vI a3], qp_H s x e, (0, 0)) _
            iterate 6 refine qm_E_next rfl ?_
            exact ih h
def qf141 (a1 : Int32) (a2 : Int32) (s : qp_S) : Option (Int32) := qf141_5 4096 a1 a2 (0 : Int32) (0 : Int32) s
theorem qe141 (d : Nat) {L : Nat} {xs : Nat → Int32} {x : Int64} {e : Nat → Nat}    {a1 : Int32} {a2 : Int32} {s : qp_S} {r : Int32} (h : qf141  a1 a2 s = some r) : qm_E (qz_ro L xs) (d + 1) 141 (0, qm_ent 141 [vR 30 0, vI a1, vI a2], [], qp_H s x e, (0, 0)) (qf_v r s x e) := by
  unfold qf141 at h
  iterate 4 refine qm_E_next rfl ?_
  exact qe141_5 d  h
