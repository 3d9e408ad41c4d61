/-! PeriodKernel endPeriod -/
def qf85 (s : qp_S) : Option (Int32 × qp_S) := (if qm_inb (s 1 0 10) 4 = true then (bif qm_cmp .ne ((s 1 0 9) - (s 1 0 11)) (s 22 ((s 1 0 10)).toNatClampNeg 0) then some (0, s) else (if qm_inb (s 1 0 10) 4 = true then ((qf86 ((s 1 0 10)).toNatClampNeg s).bind fun q1 => (bif qm_cmp .ne q1 (-1 : Int32) then some (0, (qp_up (qp_up s 1 0 10 q1) 1 0 11 ((qp_up s 1 0 10 q1) 1 0 9))) else some (0, (qp_up (qp_up s 1 0 10 (s 1 0 10)) 1 0 11 ((qp_up s 1 0 10 (s 1 0 10)) 1 0 9))))) else none)) else none)
theorem qe85 (d : Nat) {L : Nat} {xs : Nat → Int32} {x : Int64} {e : Nat → Nat}     {s : qp_S} {r : Int32 × qp_S} (h : qf85   s = some r) : qm_E (qz_ro L xs) (d + 2) 85 (0, qm_ent 85 [vR 1 0], [], qp_H s x e, (0, 0)) (qf_u r.2 x e) := by
  unfold qf85 at h
  iterate 6 refine qm_E_next rfl ?_
  change qm_E _ _ _ (10, [some (vR 1 0), none], [vR 1 0, vI ((s 1 0 9) - (s 1 0 11))], qp_H s x e, (0, 0)) _
  iterate 3 refine qm_E_next rfl ?_
  obtain ⟨hb, h⟩ := qr_inb h
  refine qr_aaload hb rfl rfl rfl ?_
  change qm_E _ _ _ (18, [some (vR 1 0), none], [vR 22 ((s 1 0 10)).toNatClampNeg, vI ((s 1 0 9) - (s 1 0 11))], qp_H s x e, (0, 0)) _
  iterate 1 refine qm_E_next rfl ?_
  rcases qr_cond h with ⟨hb, h⟩ | ⟨hb, h⟩
  · refine qr_t hb rfl ?_
    change qm_E _ _ _ (66, [some (vR 1 0), none], [], qp_H s x e, (0, 0)) _
    cases h
    exact qr_ret rfl rfl rfl
  · refine qr_f hb rfl ?_
    change qm_E _ _ _ (24, [some (vR 1 0), none], [], qp_H s x e, (0, 0)) _
    iterate 4 refine qm_E_next rfl ?_
    obtain ⟨hb, h⟩ := qr_inb h
    refine qr_aaload hb rfl rfl rfl ?_
    change qm_E _ _ _ (33, [some (vR 1 0), none], [vR 22 ((s 1 0 10)).toNatClampNeg], qp_H s x e, (0, 0)) _
    iterate 2 refine qm_E_next rfl ?_
    obtain ⟨q1, hq, h⟩ := qs_bd h
    refine qm_E_call rfl (qe86 (d + 0) hq) rfl ?_
    change qm_E _ _ _ (40, [some (vR 1 0), none], [vI q1], qp_H s x e, (0, 0)) _
    iterate 4 refine qm_E_next rfl ?_
    rcases qr_cond h with ⟨hb, h⟩ | ⟨hb, h⟩
    · refine qr_t hb rfl ?_
      change qm_E _ _ _ (54, [some (vR 1 0), some (vI q1)], [vR 1 0], qp_H s x e, (0, 0)) _
      iterate 1 refine qm_E_next rfl ?_
      refine qr_put rfl rfl ?_
      change qm_E _ _ _ (58, [some (vR 1 0), some (vI q1)], [], qp_H (qp_up s 1 0 10 q1) x e, (0, 0)) _
      iterate 3 refine qm_E_next rfl ?_
      refine qr_put rfl rfl ?_
      change qm_E _ _ _ (66, [some (vR 1 0), some (vI q1)], [], qp_H (qp_up (qp_up s 1 0 10 q1) 1 0 11 ((qp_up s 1 0 10 q1) 1 0 9)) x e, (0, 0)) _
      cases h
      exact qr_ret rfl rfl rfl
    · refine qr_f hb rfl ?_
      change qm_E _ _ _ (47, [some (vR 1 0), some (vI q1)], [vR 1 0], qp_H s x e, (0, 0)) _
      iterate 3 refine qm_E_next rfl ?_
      refine qr_put rfl rfl ?_
      change qm_E _ _ _ (58, [some (vR 1 0), some (vI q1)], [], qp_H (qp_up s 1 0 10 (s 1 0 10)) x e, (0, 0)) _
      iterate 3 refine qm_E_next rfl ?_
      refine qr_put rfl rfl ?_
      change qm_E _ _ _ (66, [some (vR 1 0), some (vI q1)], [], qp_H (qp_up (qp_up s 1 0 10 (s 1 0 10)) 1 0 11 ((qp_up s 1 0 10 (s 1 0 10)) 1 0 9)) x e, (0, 0)) _
      cases h
      exact qr_ret rfl rfl rfl
/-! PeriodKernel.Mode releases -/
def qf89 (n0 : Nat) (a1 : Int32) (a2 : Int32) (s : qp_S) : Option (Int32) := ((qf69 n0 a1 s).bind fun q1 => (bif qm_cmp .le q1 (0 : Int32) then some (0 : Int32) else (if q1 = 0 then none else (bif qm_cmp .ne (a2 - a2 / q1 * q1) (0 : Int32) then some (0 : Int32) else some (1 : Int32)))))
theorem qe89 (d : Nat) {L : Nat} {xs : Nat → Int32} {x : Int64} {e : Nat → Nat}    {n0 : Nat} {a1 : Int32} {a2 : Int32} {s : qp_S} {r : Int32} (h : qf89  n0 a1 a2 s = some r) : qm_E (qz_ro L xs) (d + 2) 89 (0, qm_ent 89 [vR 22 n0, vI a1, vI a2], [], qp_H s x e, (0, 0)) (qf_v r s x e) := by
  unfold qf89 at h
  iterate 2 refine qm_E_next rfl ?_
  obtain ⟨q1, hq, h⟩ := qs_bd h
  refine qm_E_call rfl (qe69 (d + 0) hq) rfl ?_
  change qm_E _ _ _ (5, [some (vR 22 n0), some (vI a1), some (vI a2), none], [vI q1], qp_H s x e, (0, 0)) _
  iterate 2 refine qm_E_next rfl ?_
  rcases qr_cond h with ⟨hb, h⟩ | ⟨hb, h⟩
  · refine qr_t hb rfl ?_
    change qm_E _ _ _ (20, [some (vR 22 n0), some (vI a1), some (vI a2), some (vI q1)], [], qp_H s x e, (0, 0)) _
    iterate 1 refine qm_E_next rfl ?_
    cases h
    exact qr_iret (Or.inr ⟨rfl, Or.inl rfl⟩) rfl rfl
  · refine qr_f hb rfl ?_
    change qm_E _ _ _ (10, [some (vR 22 n0), some (vI a1), some (vI a2), some (vI q1)], [], qp_H s x e, (0, 0)) _
    iterate 2 refine qm_E_next rfl ?_
    obtain ⟨hb, h⟩ := qr_nz h
    refine qr_irem hb rfl rfl ?_
    change qm_E _ _ _ (13, [some (vR 22 n0), some (vI a1), some (vI a2), some (vI q1)], [vI (a2 - a2 / q1 * q1)], qp_H s x e, (0, 0)) _
    rcases qr_cond h with ⟨hb, h⟩ | ⟨hb, h⟩
    · refine qr_t hb rfl ?_
      change qm_E _ _ _ (20, [some (vR 22 n0), some (vI a1), some (vI a2), some (vI q1)], [], qp_H s x e, (0, 0)) _
      iterate 1 refine qm_E_next rfl ?_
      cases h
      exact qr_iret (Or.inr ⟨rfl, Or.inl rfl⟩) rfl rfl
    · refine qr_f hb rfl ?_
      change qm_E _ _ _ (16, [some (vR 22 n0), some (vI a1), some (vI a2), some (vI q1)], [], qp_H s x e, (0, 0)) _
      iterate 2 refine qm_E_next rfl ?_
      cases h
      exact qr_iret (Or.inr ⟨rfl, Or.inr rfl⟩) rfl rfl
/-! PeriodKernel.Task release -/
def qf90_21  : Nat → Nat → Int32 → qp_S → Option (Int32 × qp_S)
  | 0, _, _, _ => none
  | n + 1, n0, a4, s => (bif qm_cmp .ge a4 (6 : Int32) then some (0, s) else (if qm_inb a4 6 = true then (bif qm_cmp .ne (s 16 (6 * n0 + (a4).toNatClampNeg) 0) (0 : Int32) then qf90_21  n n0 (a4 + (1 : Int32)) s else (if qm_inb a4 6 = true then (if qm_inb a4 6 = true then (if qm_inb (s 16 (6 * n0 + (a4).toNatClampNeg) 1) 16 = true then qf90_21  n n0 (a4 + (1 : Int32)) (qp_up s 16 (6 * n0 + (a4).toNatClampNeg) 2 (s 21 ((s 16 (6 * n0 + (a4).toNatClampNeg) 1)).toNatClampNeg 2)) else none) else none) else none)) else none))
theorem qe90_21 (d : Nat) {L : Nat} {xs : Nat → Int32} {x : Int64} {e : Nat → Nat}   : ∀ {n : Nat} {u1 : Option qm_V} {u2 : Option qm_V} {n0 : Nat} {a4 : Int32} {s : qp_S} {r : Int32 × qp_S}, qf90_21  n n0 a4 s = some r → qm_E (qz_ro L xs) (d + 0) 90 (21, [some (vR 14 n0), u1, u2, some (vR 3 0), some (vI a4)], [], qp_H s x e, (0, 0)) (qf_u r.2 x e) := by
  intro n
  induction n with
  | zero => intro u1 u2 n0 a4 s r h; cases h
  | succ n ih =>
    intro u1 u2 n0 a4 s r h
    unfold qf90_21 at h
    iterate 2 refine qm_E_next rfl ?_
    rcases qr_cond h with ⟨hb, h⟩ | ⟨hb, h⟩
    · refine qr_t hb rfl ?_
      change qm_E _ _ _ (72, [some (vR 14 n0), u1, u2, some (vR 3 0), some (vI a4)], [], qp_H s x e, (0, 0)) _
      cases h
      exact qr_ret rfl rfl rfl
    · refine qr_f hb rfl ?_
      change qm_E _ _ _ (28, [some (vR 14 n0), u1, u2, some (vR 3 0), some (vI a4)], [], qp_H s x e, (0, 0)) _
      iterate 3 refine qm_E_next rfl ?_
      obtain ⟨hb, h⟩ := qr_inb h
      refine qr_aaload hb rfl rfl rfl ?_
      change qm_E _ _ _ (35, [some (vR 14 n0), u1, u2, some (vR 3 0), some (vI a4)], [vR 16 (6 * n0 + (a4).toNatClampNeg)], qp_H s x e, (0, 0)) _
      iterate 1 refine qm_E_next rfl ?_
      rcases qr_cond h with ⟨hb, h⟩ | ⟨hb, h⟩
      · refine qr_t hb rfl ?_
        change qm_E _ _ _ (66, [some (vR 14 n0), u1, u2, some (vR 3 0), some (vI a4)], [], qp_H s x e, (0, 0)) _
        iterate 2 refine qm_E_next rfl ?_
        exact ih h
      · refine qr_f hb rfl ?_
        change qm_E _ _ _ (41, [some (vR 14 n0), u1, u2, some (vR 3 0), some (vI a4)], [], qp_H s x e, (0, 0)) _
        iterate 3 refine qm_E_next rfl ?_
        obtain ⟨hb, h⟩ := qr_inb h
        refine qr_aaload hb rfl rfl rfl ?_
        change qm_E _ _ _ (48, [some (vR 14 n0), u1, u2, some (vR 3 0), some (vI a4)], [vR 16 (6 * n0 + (a4).toNatClampNeg)], qp_H s x e, (0, 0)) _
        iterate 4 refine qm_E_next rfl ?_
        obtain ⟨hb, h⟩ := qr_inb h
        refine qr_aaload hb rfl rfl rfl ?_
        change qm_E _ _ _ (56, [some (vR 14 n0), u1, u2, some (vR 3 0), some (vI a4)], [vR 16 (6 * n0 + (a4).toNatClampNeg), vR 3 0, vR 16 (6 * n0 + (a4).toNatClampNeg)], qp_H s x e, (0, 0)) _
        iterate 1 refine qm_E_next rfl ?_
        obtain ⟨hb, h⟩ := qr_inb h
        refine qr_aaload hb rfl rfl rfl ?_
        change qm_E _ _ _ (60, [some (vR 14 n0), u1, u2, some (vR 3 0), some (vI a4)], [vR 21 ((s 16 (6 * n0 + (a4).toNatClampNeg) 1)).toNatClampNeg, vR 16 (6 * n0 + (a4).toNatClampNeg)], qp_H s x e, (0, 0)) _
        iterate 1 refine qm_E_next rfl ?_
        refine qr_put rfl rfl ?_
        change qm_E _ _ _ (66, [some (vR 14 n0), u1, u2, some (vR 3 0), some (vI a4)], [], qp_H (qp_up s 16 (6 * n0 + (a4).toNatClampNeg) 2 (s 21 ((s 16 (6 * n0 + (a4).toNatClampNeg) 1)).toNatClampNeg 2)) x e, (0, 0)) _
        iterate 2 refine qm_E_next rfl ?_
        exact ih h
def qf90 (n0 : Nat) (a1 : Int32) (a2 : Int32) (s : qp_S) : Option (Int32 × qp_S) := qf90_21 4096 n0 (0 : Int32) (qp_up (qp_up (qp_up s 14 n0 8 a1) 14 n0 3 a2) 14 n0 9 ((qp_up (qp_up s 14 n0 8 a1) 14 n0 3 a2) 14 n0 0))
theorem qe90 (d : Nat) {L : Nat} {xs : Nat → Int32} {x : Int64} {e : Nat → Nat}    {n0 : Nat} {a1 : Int32} {a2 : Int32} {s : qp_S} {r : Int32 × qp_S} (h : qf90  n0 a1 a2 s = some r) : qm_E (qz_ro L xs) (d + 0) 90 (0, qm_ent 90 [vR 14 n0, vI a1, vI a2, vR 3 0], [], qp_H s x e, (0, 0)) (qf_u r.2 x e) := by
  unfold qf90 at h
  iterate 2 refine qm_E_next rfl ?_
  refine qr_put rfl rfl ?_
  change qm_E _ _ _ (5, [some (vR 14 n0), some (vI a1), some (vI a2), some (vR 3 0), none], [], qp_H (qp_up s 14 n0 8 a1) x e, (0, 0)) _
  iterate 2 refine qm_E_next rfl ?_
  refine qr_put rfl rfl ?_
  change qm_E _ _ _ (10, [some (vR 14 n0), some (vI a1), some (vI a2), some (vR 3 0), none], [], qp_H (qp_up (qp_up s 14 n0 8 a1) 14 n0 3 a2) x e, (0, 0)) _
  iterate 3 refine qm_E_next rfl ?_
  refine qr_put rfl rfl ?_
  change qm_E _ _ _ (18, [some (vR 14 n0), some (vI a1), some (vI a2), some (vR 3 0), none], [], qp_H (qp_up (qp_up (qp_up s 14 n0 8 a1) 14 n0 3 a2) 14 n0 9 ((qp_up (qp_up s 14 n0 8 a1) 14 n0 3 a2) 14 n0 0)) x e, (0, 0)) _
  iterate 2 refine qm_E_next rfl ?_
  exact qe90_21 d  h
/-! PeriodKernel releaseJobs -/
def qf88_2  : Nat → Int32 → qp_S → Option (Int32 × qp_S)
  | 0, _, _ => none
  | n + 1, a1, s => (bif qm_cmp .ge a1 (8 : Int32) then some (0, s) else (if qm_inb (s 1 0 10) 4 = true then ((qf89 ((s 1 0 10)).toNatClampNeg a1 ((s 1 0 9) - (s 1 0 11)) s).bind fun q1 => (bif qm_cmp .eq q1 (0 : Int32) then qf88_2  n (a1 + (1 : Int32)) s else (if qm_inb a1 8 = true then (if qm_inb (s 1 0 10) 4 = true then ((qf69 ((s 1 0 10)).toNatClampNeg a1 s).bind fun q2 => ((qf90 (a1).toNatClampNeg (s 1 0 9) ((s 1 0 9) + q2) s).bind fun q3 => qf88_2  n (a1 + (1 : Int32)) q3.2)) else none) else none))) else none))
theorem qe88_2 (d : Nat) {L : Nat} {xs : Nat → Int32} {x : Int64} {e : Nat → Nat}   : ∀ {n : Nat}  {a1 : Int32} {s : qp_S} {r : Int32 × qp_S}, qf88_2  n a1 s = some r → qm_E (qz_ro L xs) (d + 3) 88 (2, [some (vR 1 0), some (vI a1)], [], qp_H s x e, (0, 0)) (qf_u r.2 x e) := by
  intro n
  induction n with
  | zero => intro  a1 s r h; cases h
  | succ n ih =>
    intro  a1 s r h
    unfold qf88_2 at h
    iterate 2 refine qm_E_next rfl ?_
    rcases qr_cond h with ⟨hb, h⟩ | ⟨hb, h⟩
    · refine qr_t hb rfl ?_
      change qm_E _ _ _ (74, [some (vR 1 0), some (vI a1)], [], qp_H s x e, (0, 0)) _
      cases h
      exact qr_ret rfl rfl rfl
    · refine qr_f hb rfl ?_
      change qm_E _ _ _ (8, [some (vR 1 0), some (vI a1)], [], qp_H s x e, (0, 0)) _
      iterate 4 refine qm_E_next rfl ?_
      obtain ⟨hb, h⟩ := qr_inb h
      refine qr_aaload hb rfl rfl rfl ?_
      change qm_E _ _ _ (17, [some (vR 1 0), some (vI a1)], [vR 22 ((s 1 0 10)).toNatClampNeg], qp_H s x e, (0, 0)) _
      iterate 6 refine qm_E_next rfl ?_
      change qm_E _ _ _ (27, [some (vR 1 0), some (vI a1)], [vI ((s 1 0 9) - (s 1 0 11)), vI a1, vR 22 ((s 1 0 10)).toNatClampNeg], qp_H s x e, (0, 0)) _
      obtain ⟨q1, hq, h⟩ := qs_bd h
      refine qm_E_call rfl (qe89 (d + 0) hq) rfl ?_
      change qm_E _ _ _ (30, [some (vR 1 0), some (vI a1)], [vI q1], qp_H s x e, (0, 0)) _
      rcases qr_cond h with ⟨hb, h⟩ | ⟨hb, h⟩
      · refine qr_t hb rfl ?_
        change qm_E _ _ _ (68, [some (vR 1 0), some (vI a1)], [], qp_H s x e, (0, 0)) _
        iterate 2 refine qm_E_next rfl ?_
        exact ih h
      · refine qr_f hb rfl ?_
        change qm_E _ _ _ (33, [some (vR 1 0), some (vI a1)], [], qp_H s x e, (0, 0)) _
        iterate 3 refine qm_E_next rfl ?_
        obtain ⟨hb, h⟩ := qr_inb h
        refine qr_aaload hb rfl rfl rfl ?_
        change qm_E _ _ _ (39, [some (vR 1 0), some (vI a1)], [vR 14 (a1).toNatClampNeg], qp_H s x e, (0, 0)) _
        iterate 6 refine qm_E_next rfl ?_
        change qm_E _ _ _ (51, [some (vR 1 0), some (vI a1)], [vR 4 0, vI (s 1 0 9), vI (s 1 0 9), vR 14 (a1).toNatClampNeg], qp_H s x e, (0, 0)) _
        iterate 2 refine qm_E_next rfl ?_
        obtain ⟨hb, h⟩ := qr_inb h
        refine qr_aaload hb rfl rfl rfl ?_
        change qm_E _ _ _ (56, [some (vR 1 0), some (vI a1)], [vR 22 ((s 1 0 10)).toNatClampNeg, vI (s 1 0 9), vI (s 1 0 9), vR 14 (a1).toNatClampNeg], qp_H s x e, (0, 0)) _
        iterate 1 refine qm_E_next rfl ?_
        obtain ⟨q2, hq, h⟩ := qs_bd h
        refine qm_E_call rfl (qe69 (d + 1) hq) rfl ?_
        change qm_E _ _ _ (60, [some (vR 1 0), some (vI a1)], [vI q2, vI (s 1 0 9), vI (s 1 0 9), vR 14 (a1).toNatClampNeg], qp_H s x e, (0, 0)) _
        iterate 3 refine qm_E_next rfl ?_
        obtain ⟨q3, hq, h⟩ := qs_bd h
        refine qm_E_call rfl (qe90 (d + 2) hq) rfl ?_
        change qm_E _ _ _ (68, [some (vR 1 0), some (vI a1)], [], qp_H q3.2 x e, (0, 0)) _
        iterate 2 refine qm_E_next rfl ?_
        exact ih h
def qf88 (s : qp_S) : Option (Int32 × qp_S) := qf88_2 4096 (0 : Int32) s
theorem qe88 (d : Nat) {L : Nat} {xs : Nat → Int32} {x : Int64} {e : Nat → Nat}     {s : qp_S} {r : Int32 × qp_S} (h : qf88   s = some r) : qm_E (qz_ro L xs) (d + 3) 88 (0, qm_ent 88 [vR 1 0], [], qp_H s x e, (0, 0)) (qf_u r.2 x e) := by
  unfold qf88 at h
  iterate 2 refine qm_E_next rfl ?_
  exact qe88_2 d  h
/-! PeriodKernel passInstant -/
def qf76 (s : qp_S) : Option (Int32 × qp_S) := ((qf77 s).bind fun q1 => ((qf82 q1.2).bind fun q2 => ((qf84 q2.2).bind fun q3 => ((qf85 q3.2).bind fun q4 => ((qf88 q4.2).bind fun q5 => some (0, q5.2))))))
theorem qe76 (d : Nat) {L : Nat} {xs : Nat → Int32} {x : Int64} {e : Nat → Nat}     {s : qp_S} {r : Int32 × qp_S} (h : qf76   s = some r) : qm_E (qz_ro L xs) (d + 4) 76 (0, qm_ent 76 [vR 1 0], [], qp_H s x e, (0, 0)) (qf_u r.2 x e) := by
  unfold qf76 at h
  iterate 1 refine qm_E_next rfl ?_
  obtain ⟨q1, hq, h⟩ := qs_bd h
  refine qm_E_call rfl (qe77 (d + 0) hq) rfl ?_
  change qm_E _ _ _ (4, [some (vR 1 0)], [], qp_H q1.2 x e, (0, 0)) _
  iterate 1 refine qm_E_next rfl ?_
  obtain ⟨q2, hq, h⟩ := qs_bd h
  refine qm_E_call rfl (qe82 (d + 2) hq) rfl ?_
  change qm_E _ _ _ (8, [some (vR 1 0)], [], qp_H q2.2 x e, (0, 0)) _
  iterate 1 refine qm_E_next rfl ?_
  obtain ⟨q3, hq, h⟩ := qs_bd h
  refine qm_E_call rfl (qe84 (d + 1) hq) rfl ?_
  change qm_E _ _ _ (12, [some (vR 1 0)], [], qp_H q3.2 x e, (0, 0)) _
  iterate 1 refine qm_E_next rfl ?_
  obtain ⟨q4, hq, h⟩ := qs_bd h
  refine qm_E_call rfl (qe85 (d + 1) hq) rfl ?_
  change qm_E _ _ _ (16, [some (vR 1 0)], [], qp_H q4.2 x e, (0, 0)) _
  iterate 1 refine qm_E_next rfl ?_
  obtain ⟨q5, hq, h⟩ := qs_bd h
  refine qm_E_call rfl (qe88 (d + 0) hq) rfl ?_
  change qm_E _ _ _ (20, [some (vR 1 0)], [], qp_H q5.2 x e, (0, 0)) _
  cases h
  exact qr_ret rfl rfl rfl
/-! PeriodKernel start -/
def qf49 (s : qp_S) : Option (Nat ⊕ (Int32 × qp_S)) := ((qf26 s).bind fun z1 => match z1 with | .inl k => some (.inl k) | .inr q1 => ((qf50 s).bind fun q2 => (bif qm_cmp .ne (q2.1) (0 : Int32) then some (.inr ((q2.1), q2.2)) else ((qf76 (qp_up q2.2 1 0 8 (1 : Int32))).bind fun q3 => some (.inr ((q2.1), q3.2))))))
theorem qe49 (d : Nat) {L : Nat} {xs : Nat → Int32} {x : Int64} {e : Nat → Nat}     {s : qp_S} {r : Nat ⊕ (Int32 × qp_S)} (h : qf49   s = some r) : qm_E (qz_ro L xs) (d + 7) 49 (0, qm_ent 49 [vR 1 0], [], qp_H s x e, (0, 0)) (Sum.elim (fun k => qf_k k s x e) (fun v => qf_v v.1 v.2 x e) r) := by
  unfold qf49 at h
  iterate 1 refine qm_E_next rfl ?_
  obtain ⟨z1, hq, h⟩ := qs_bd h
  rcases z1 with k | q1
  · cases h
    exact qm_E_out rfl (qe26 (d + 0) hq) rfl
  · refine qm_E_call rfl (qe26 (d + 0) hq) rfl ?_
    change qm_E _ _ _ (4, [some (vR 1 0), none], [], qp_H s x e, (0, 0)) _
    iterate 6 refine qm_E_next rfl ?_
    change qm_E _ _ _ (16, [some (vR 1 0), none], [vR 4 0, vR 2 0, vR 10 0], qp_H s x e, (0, 0)) _
    iterate 2 refine qm_E_next rfl ?_
    obtain ⟨q2, hq, h⟩ := qs_bd h
    refine qm_E_call rfl (qe50 (d + 1) hq) rfl ?_
    change qm_E _ _ _ (23, [some (vR 1 0), none], [vI (q2.1)], qp_H q2.2 x e, (0, 0)) _
    iterate 2 refine qm_E_next rfl ?_
    rcases qr_cond h with ⟨hb, h⟩ | ⟨hb, h⟩
    · refine qr_t hb rfl ?_
      change qm_E _ _ _ (37, [some (vR 1 0), some (vI (q2.1))], [], qp_H q2.2 x e, (0, 0)) _
      iterate 1 refine qm_E_next rfl ?_
      cases h
      exact qr_iret (Or.inl rfl) rfl rfl
    · refine qr_f hb rfl ?_
      change qm_E _ _ _ (28, [some (vR 1 0), some (vI (q2.1))], [], qp_H q2.2 x e, (0, 0)) _
      iterate 2 refine qm_E_next rfl ?_
      refine qr_putz (Or.inr rfl) rfl rfl rfl rfl rfl rfl rfl rfl rfl ?_
      change qm_E _ _ _ (33, [some (vR 1 0), some (vI (q2.1))], [], qp_H (qp_up q2.2 1 0 8 (1 : Int32)) x e, (0, 0)) _
      iterate 1 refine qm_E_next rfl ?_
      obtain ⟨q3, hq, h⟩ := qs_bd h
      refine qm_E_call rfl (qe76 (d + 2) hq) rfl ?_
      change qm_E _ _ _ (37, [some (vR 1 0), some (vI (q2.1))], [], qp_H q3.2 x e, (0, 0)) _
      iterate 1 refine qm_E_next rfl ?_
      cases h
      exact qr_iret (Or.inl rfl) rfl rfl
/-! PeriodKernel sensor -/
def qf92 (a1 : Int32) (a2 : Int32) (s : qp_S) : Option (Nat ⊕ (Int32 × qp_S)) := ((qf24 a1 (8 : Int32) s).bind fun z1 => match z1 with | .inl k => some (.inl k) | .inr q1 => (if qm_inb a1 8 = true then some (.inr (0, (qp_up s 6 0 (a1).toNatClampNeg a2))) else none))
theorem qe92 (d : Nat) {L : Nat} {xs : Nat → Int32} {x : Int64} {e : Nat → Nat}    {a1 : Int32} {a2 : Int32} {s : qp_S} {r : Nat ⊕ (Int32 × qp_S)} (h : qf92  a1 a2 s = some r) : qm_E (qz_ro L xs) (d + 7) 92 (0, qm_ent 92 [vR 1 0, vI a1, vI a2], [], qp_H s x e, (0, 0)) (Sum.elim (fun k => qf_k k s x e) (fun v => qf_u v.2 x e) r) := by
  unfold qf92 at h
  iterate 2 refine qm_E_next rfl ?_
  obtain ⟨z1, hq, h⟩ := qs_bd h
  rcases z1 with k | q1
  · cases h
    exact qm_E_out rfl (qe24 (d + 0) hq) rfl
  · refine qm_E_call rfl (qe24 (d + 0) hq) rfl ?_
    change qm_E _ _ _ (6, [some (vR 1 0), some (vI a1), some (vI a2)], [], qp_H s x e, (0, 0)) _
    iterate 4 refine qm_E_next rfl ?_
    obtain ⟨hb, h⟩ := qr_inb h
    refine qr_iastore hb rfl rfl rfl rfl rfl ?_
    change qm_E _ _ _ (13, [some (vR 1 0), some (vI a1), some (vI a2)], [], qp_H (qp_up s 6 0 (a1).toNatClampNeg a2) x e, (0, 0)) _
    cases h
    exact qr_ret rfl rfl rfl
/-! PeriodKernel.Stack push -/
def qf97 (n0 : Nat) (a1 : Int32) (s : qp_S) : Option (Int32 × qp_S) := (bif qm_cmp .ge (s 19 n0 1) (8 : Int32) then some (0, s) else (if qm_inb (s 19 n0 1) 8 = true then some (0, (qp_up (qp_up s 20 n0 ((s 19 n0 1)).toNatClampNeg a1) 19 n0 1 (((qp_up s 20 n0 ((s 19 n0 1)).toNatClampNeg a1) 19 n0 1) + (1 : Int32)))) else none))
theorem qe97 (d : Nat) {L : Nat} {xs : Nat → Int32} {x : Int64} {e : Nat → Nat}    {n0 : Nat} {a1 : Int32} {s : qp_S} {r : Int32 × qp_S} (h : qf97  n0 a1 s = some r) : qm_E (qz_ro L xs) (d + 0) 97 (0, qm_ent 97 [vR 19 n0, vI a1], [], qp_H s x e, (0, 0)) (qf_u r.2 x e) := by
  unfold qf97 at h
  iterate 3 refine qm_E_next rfl ?_
  rcases qr_cond h with ⟨hb, h⟩ | ⟨hb, h⟩
  · refine qr_t hb rfl ?_
    change qm_E _ _ _ (29, [some (vR 19 n0), some (vI a1)], [], qp_H s x e, (0, 0)) _
    cases h
    exact qr_ret rfl rfl rfl
  · refine qr_f hb rfl ?_
    change qm_E _ _ _ (9, [some (vR 19 n0), some (vI a1)], [], qp_H s x e, (0, 0)) _
    iterate 5 refine qm_E_next rfl ?_
    obtain ⟨hb, h⟩ := qr_inb h
    refine qr_iastore hb rfl rfl rfl rfl rfl ?_
    change qm_E _ _ _ (19, [some (vR 19 n0), some (vI a1)], [], qp_H (qp_up s 20 n0 ((s 19 n0 1)).toNatClampNeg a1) x e, (0, 0)) _
    iterate 5 refine qm_E_next rfl ?_
    refine qr_put rfl rfl ?_
    change qm_E _ _ _ (29, [some (vR 19 n0), some (vI a1)], [], qp_H (qp_up (qp_up s 20 n0 ((s 19 n0 1)).toNatClampNeg a1) 19 n0 1 (((qp_up s 20 n0 ((s 19 n0 1)).toNatClampNeg a1) 19 n0 1) + (1 : Int32))) x e, (0, 0)) _
    cases h
    exact qr_ret rfl rfl rfl
/-! PeriodKernel.Stack pop -/
def qf98 (n0 : Nat) (s : qp_S) : Option (Int32 × qp_S) := (bif qm_cmp .ne (s 19 n0 1) (0 : Int32) then (if qm_inb ((qp_up s 19 n0 1 ((s 19 n0 1) - (1 : Int32))) 19 n0 1) 8 = true then some (((qp_up s 19 n0 1 ((s 19 n0 1) - (1 : Int32))) 20 n0 (((qp_up s 19 n0 1 ((s 19 n0 1) - (1 : Int32))) 19 n0 1)).toNatClampNeg), (qp_up s 19 n0 1 ((s 19 n0 1) - (1 : Int32)))) else none) else some ((0 : Int32), s))
theorem qe98 (d : Nat) {L : Nat} {xs : Nat → Int32} {x : Int64} {e : Nat → Nat}    {n0 : Nat} {s : qp_S} {r : Int32 × qp_S} (h : qf98  n0 s = some r) : qm_E (qz_ro L xs) (d + 0) 98 (0, qm_ent 98 [vR 19 n0], [], qp_H s x e, (0, 0)) (qf_v r.1 r.2 x e) := by
  unfold qf98 at h
  iterate 2 refine qm_E_next rfl ?_
  rcases qr_cond h with ⟨hb, h⟩ | ⟨hb, h⟩
  · refine qr_t hb rfl ?_
    change qm_E _ _ _ (9, [some (vR 19 n0)], [], qp_H s x e, (0, 0)) _
    iterate 5 refine qm_E_next rfl ?_
    refine qr_put rfl rfl ?_
    change qm_E _ _ _ (19, [some (vR 19 n0)], [], qp_H (qp_up s 19 n0 1 ((s 19 n0 1) - (1 : Int32))) x e, (0, 0)) _
    iterate 4 refine qm_E_next rfl ?_
    obtain ⟨hb, h⟩ := qr_inb h
    refine qr_iaload hb rfl rfl rfl rfl ?_
    change qm_E _ _ _ (28, [some (vR 19 n0)], [vI ((qp_up s 19 n0 1 ((s 19 n0 1) - (1 : Int32))) 20 n0 (((qp_up s 19 n0 1 ((s 19 n0 1) - (1 : Int32))) 19 n0 1)).toNatClampNeg)], qp_H (qp_up s 19 n0 1 ((s 19 n0 1) - (1 : Int32))) x e, (0, 0)) _
    cases h
    exact qr_iret (Or.inl rfl) rfl rfl
  · refine qr_f hb rfl ?_
    change qm_E _ _ _ (7, [some (vR 19 n0)], [], qp_H s x e, (0, 0)) _
    iterate 1 refine qm_E_next rfl ?_
    cases h
    exact qr_iret (Or.inl rfl) rfl rfl
/-! PeriodKernel.Task setSlot -/
def qf99 (n0 : Nat) (a1 : Int32) (a2 : Int32) (s : qp_S) : Option (Int32 × qp_S) := ((qf13 a1 (6 : Int32) s).bind fun q1 => (bif qm_cmp .eq q1 (0 : Int32) then some (0, s) else (if qm_inb a1 6 = true then some (0, (qp_up s 16 (6 * n0 + (a1).toNatClampNeg) 2 a2)) else none)))
theorem qe99 (d : Nat) {L : Nat} {xs : Nat → Int32} {x : Int64} {e : Nat → Nat}    {n0 : Nat} {a1 : Int32} {a2 : Int32} {s : qp_S} {r : Int32 × qp_S} (h : qf99  n0 a1 a2 s = some r) : qm_E (qz_ro L xs) (d + 1) 99 (0, qm_ent 99 [vR 14 n0, vI a1, vI a2], [], qp_H s x e, (0, 0)) (qf_u r.2 x e) := by
  unfold qf99 at h
  iterate 2 refine qm_E_next rfl ?_
  obtain ⟨q1, hq, h⟩ := qs_bd h
  refine qm_E_call rfl (qe13 (d + 0) hq) rfl ?_
  change qm_E _ _ _ (6, [some (vR 14 n0), some (vI a1), some (vI a2)], [vI q1], qp_H s x e, (0, 0)) _
  rcases qr_cond h with ⟨hb, h⟩ | ⟨hb, h⟩
  · refine qr_t hb rfl ?_
    change qm_E _ _ _ (19, [some (vR 14 n0), some (vI a1), some (vI a2)], [], qp_H s x e, (0, 0)) _
    cases h
    exact qr_ret rfl rfl rfl
  · refine qr_f hb rfl ?_
    change qm_E _ _ _ (9, [some (vR 14 n0), some (vI a1), some (vI a2)], [], qp_H s x e, (0, 0)) _
    iterate 3 refine qm_E_next rfl ?_
    obtain ⟨hb, h⟩ := qr_inb h
    refine qr_aaload hb rfl rfl rfl ?_
    change qm_E _ _ _ (15, [some (vR 14 n0), some (vI a1), some (vI a2)], [vR 16 (6 * n0 + (a1).toNatClampNeg)], qp_H s x e, (0, 0)) _
    iterate 1 refine qm_E_next rfl ?_
    refine qr_put rfl rfl ?_
    change qm_E _ _ _ (19, [some (vR 14 n0), some (vI a1), some (vI a2)], [], qp_H (qp_up s 16 (6 * n0 + (a1).toNatClampNeg) 2 a2) x e, (0, 0)) _
    cases h
    exact qr_ret rfl rfl rfl
/-! PeriodKernel.Task swapTop -/
def qf100 (n0 : Nat) (s : qp_S) : Option (Int32 × qp_S) := ((qf98 n0 s).bind fun q1 => ((qf98 n0 q1.2).bind fun q2 => ((qf97 n0 (q1.1) q2.2).bind fun q3 => ((qf97 n0 (q2.1) q3.2).bind fun q4 => some (0, q4.2)))))
theorem qe100 (d : Nat) {L : Nat} {xs : Nat → Int32} {x : Int64} {e : Nat → Nat}    {n0 : Nat} {s : qp_S} {r : Int32 × qp_S} (h : qf100  n0 s = some r) : qm_E (qz_ro L xs) (d + 1) 100 (0, qm_ent 100 [vR 14 n0], [], qp_H s x e, (0, 0)) (qf_u r.2 x e) := by
  unfold qf100 at h
  iterate 2 refine qm_E_next rfl ?_
  obtain ⟨q1, hq, h⟩ := qs_bd h
  refine qm_E_call rfl (qe98 (d + 0) hq) rfl ?_
  change qm_E _ _ _ (7, [some (vR 14 n0), none, none], [vI (q1.1)], qp_H q1.2 x e, (0, 0)) _
  iterate 3 refine qm_E_next rfl ?_
  obtain ⟨q2, hq, h⟩ := qs_bd h
  refine qm_E_call rfl (qe98 (d + 0) hq) rfl ?_
  change qm_E _ _ _ (15, [some (vR 14 n0), some (vI (q1.1)), none], [vI (q2.1)], qp_H q2.2 x e, (0, 0)) _
  iterate 4 refine qm_E_next rfl ?_
  obtain ⟨q3, hq, h⟩ := qs_bd h
  refine qm_E_call rfl (qe97 (d + 0) hq) rfl ?_
  change qm_E _ _ _ (24, [some (vR 14 n0), some (vI (q1.1)), some (vI (q2.1))], [], qp_H q3.2 x e, (0, 0)) _
  iterate 3 refine qm_E_next rfl ?_
  obtain ⟨q4, hq, h⟩ := qs_bd h
  refine qm_E_call rfl (qe97 (d + 0) hq) rfl ?_
  change qm_E _ _ _ (32, [some (vR 14 n0), some (vI (q1.1)), some (vI (q2.1))], [], qp_H q4.2 x e, (0, 0)) _
  cases h
  exact qr_ret rfl rfl rfl
/-! PeriodKernel.Task setLocal -/
def qf101 (n0 : Nat) (a1 : Int32) (a2 : Int32) (s : qp_S) : Option (Int32 × qp_S) := ((qf13 a1 (4 : Int32) s).bind fun q1 => (bif qm_cmp .eq q1 (0 : Int32) then some (0, s) else (if qm_inb a1 4 = true then some (0, (qp_up s 18 n0 (a1).toNatClampNeg a2)) else none)))
theorem qe101 (d : Nat) {L : Nat} {xs : Nat → Int32} {x : Int64} {e : Nat → Nat}    {n0 : Nat} {a1 : Int32} {a2 : Int32} {s : qp_S} {r : Int32 × qp_S} (h : qf101  n0 a1 a2 s = some r) : qm_E (qz_ro L xs) (d + 1) 101 (0, qm_ent 101 [vR 14 n0, vI a1, vI a2], [], qp_H s x e, (0, 0)) (qf_u r.2 x e) := by
  unfold qf101 at h
  iterate 2 refine qm_E_next rfl ?_
  obtain ⟨q1, hq, h⟩ := qs_bd h
  refine qm_E_call rfl (qe13 (d + 0) hq) rfl ?_
  change qm_E _ _ _ (5, [some (vR 14 n0), some (vI a1), some (vI a2)], [vI q1], qp_H s x e, (0, 0)) _
  rcases qr_cond h with ⟨hb, h⟩ | ⟨hb, h⟩
  · refine qr_t hb rfl ?_
    change qm_E _ _ _ (15, [some (vR 14 n0), some (vI a1), some (vI a2)], [], qp_H s x e, (0, 0)) _
    cases h
    exact qr_ret rfl rfl rfl
  · refine qr_f hb rfl ?_
    change qm_E _ _ _ (8, [some (vR 14 n0), some (vI a1), some (vI a2)], [], qp_H s x e, (0, 0)) _
    iterate 4 refine qm_E_next rfl ?_
    obtain ⟨hb, h⟩ := qr_inb h
    refine qr_iastore hb rfl rfl rfl rfl rfl ?_
    change qm_E _ _ _ (15, [some (vR 14 n0), some (vI a1), some (vI a2)], [], qp_H (qp_up s 18 n0 (a1).toNatClampNeg a2) x e, (0, 0)) _
    cases h
    exact qr_ret rfl rfl rfl
/-! PeriodKernel.Task combine -/
def qf103 (a0 : Int32) (a1 : Int32) (a2 : Int32) (s : qp_S) : Option (Int32) := (bif decide ((a0).toInt < 4 ∨ 9 < (a0).toInt) then (bif qm_cmp .ne a1 a2 then some (0 : Int32) else some (1 : Int32)) else (bif decide (a0 = (4 : Int32)) then some (a1 + a2) else (bif decide (a0 = (5 : Int32)) then some (a1 - a2) else (bif decide (a0 = (6 : Int32)) then some (a1 * a2) else (bif decide (a0 = (7 : Int32)) then (bif qm_cmp .ne a2 (0 : Int32) then (if a2 = 0 then none else some (a1 / a2)) else some (0 : Int32)) else (bif decide (a0 = (8 : Int32)) then (bif qm_cmp .ge a1 a2 then some (0 : Int32) else some (1 : Int32)) else (bif decide (a0 = (9 : Int32)) then (bif qm_cmp .ne a1 a2 then some (0 : Int32) else some (1 : Int32)) else none)))))))
theorem qe103 (d : Nat) {L : Nat} {xs : Nat → Int32} {x : Int64} {e : Nat → Nat}    {a0 : Int32} {a1 : Int32} {a2 : Int32} {s : qp_S} {r : Int32} (h : qf103  a0 a1 a2 s = some r) : qm_E (qz_ro L xs) (d + 0) 103 (0, qm_ent 103 [vI a0, vI a1, vI a2], [], qp_H s x e, (0, 0)) (qf_v r s x e) := by
  unfold qf103 at h
  iterate 1 refine qm_E_next rfl ?_
  rcases qr_cond h with ⟨hb, h⟩ | ⟨-, h⟩
  · refine qr_tsd hb rfl rfl rfl ?_
    change qm_E _ _ _ (75, [some (vI a0), some (vI a1), some (vI a2)], [], qp_H s x e, (0, 0)) _
    iterate 2 refine qm_E_next rfl ?_
    rcases qr_cond h with ⟨hb, h⟩ | ⟨hb, h⟩
    · refine qr_t hb rfl ?_
      change qm_E _ _ _ (84, [some (vI a0), some (vI a1), some (vI a2)], [], qp_H s x e, (0, 0)) _
      iterate 1 refine qm_E_next rfl ?_
      cases h
      exact qr_iret (Or.inl rfl) rfl rfl
    · refine qr_f hb rfl ?_
      change qm_E _ _ _ (80, [some (vI a0), some (vI a1), some (vI a2)], [], qp_H s x e, (0, 0)) _
      iterate 2 refine qm_E_next rfl ?_
      cases h
      exact qr_iret (Or.inl rfl) rfl rfl
  · rcases qr_cond h with ⟨hb, h⟩ | ⟨-, h⟩
    · refine qr_tsv hb rfl ?_
      change qm_E _ _ _ (40, [some (vI a0), some (vI a1), some (vI a2)], [], qp_H s x e, (0, 0)) _
      iterate 3 refine qm_E_next rfl ?_
      cases h
      exact qr_iret (Or.inl rfl) rfl rfl
    · rcases qr_cond h with ⟨hb, h⟩ | ⟨-, h⟩
      · refine qr_tsv hb rfl ?_
        change qm_E _ _ _ (44, [some (vI a0), some (vI a1), some (vI a2)], [], qp_H s x e, (0, 0)) _
        iterate 3 refine qm_E_next rfl ?_
        cases h
        exact qr_iret (Or.inl rfl) rfl rfl
      · rcases qr_cond h with ⟨hb, h⟩ | ⟨-, h⟩
        · refine qr_tsv hb rfl ?_
          change qm_E _ _ _ (48, [some (vI a0), some (vI a1), some (vI a2)], [], qp_H s x e, (0, 0)) _
          iterate 3 refine qm_E_next rfl ?_
          cases h
          exact qr_iret (Or.inl rfl) rfl rfl
        · rcases qr_cond h with ⟨hb, h⟩ | ⟨-, h⟩
          · refine qr_tsv hb rfl ?_
            change qm_E _ _ _ (52, [some (vI a0), some (vI a1), some (vI a2)], [], qp_H s x e, (0, 0)) _
            iterate 1 refine qm_E_next rfl ?_
            rcases qr_cond h with ⟨hb, h⟩ | ⟨hb, h⟩
            · refine qr_t hb rfl ?_
              change qm_E _ _ _ (60, [some (vI a0), some (vI a1), some (vI a2)], [], qp_H s x e, (0, 0)) _
              iterate 2 refine qm_E_next rfl ?_
              obtain ⟨hb, h⟩ := qr_nz h
              refine qr_idiv hb rfl rfl ?_
              change qm_E _ _ _ (63, [some (vI a0), some (vI a1), some (vI a2)], [vI (a1 / a2)], qp_H s x e, (0, 0)) _
              cases h
              exact qr_iret (Or.inl rfl) rfl rfl
            · refine qr_f hb rfl ?_
              change qm_E _ _ _ (56, [some (vI a0), some (vI a1), some (vI a2)], [], qp_H s x e, (0, 0)) _
              iterate 2 refine qm_E_next rfl ?_
              cases h
              exact qr_iret (Or.inl rfl) rfl rfl
          · rcases qr_cond h with ⟨hb, h⟩ | ⟨-, h⟩
            · refine qr_tsv hb rfl ?_
              change qm_E _ _ _ (64, [some (vI a0), some (vI a1), some (vI a2)], [], qp_H s x e, (0, 0)) _
              iterate 2 refine qm_E_next rfl ?_
              rcases qr_cond h with ⟨hb, h⟩ | ⟨hb, h⟩
              · refine qr_t hb rfl ?_
                change qm_E _ _ _ (73, [some (vI a0), some (vI a1), some (vI a2)], [], qp_H s x e, (0, 0)) _
                iterate 1 refine qm_E_next rfl ?_
                cases h
                exact qr_iret (Or.inl rfl) rfl rfl
              · refine qr_f hb rfl ?_
                change qm_E _ _ _ (69, [some (vI a0), some (vI a1), some (vI a2)], [], qp_H s x e, (0, 0)) _
                iterate 2 refine qm_E_next rfl ?_
                cases h
                exact qr_iret (Or.inl rfl) rfl rfl
            · rcases qr_cond h with ⟨hb, h⟩ | ⟨-, h⟩
              · refine qr_tsv hb rfl ?_
                change qm_E _ _ _ (75, [some (vI a0), some (vI a1), some (vI a2)], [], qp_H s x e, (0, 0)) _
                iterate 2 refine qm_E_next rfl ?_
                rcases qr_cond h with ⟨hb, h⟩ | ⟨hb, h⟩
                · refine qr_t hb rfl ?_
                  change qm_E _ _ _ (84, [some (vI a0), some (vI a1), some (vI a2)], [], qp_H s x e, (0, 0)) _
                  iterate 1 refine qm_E_next rfl ?_
                  cases h
                  exact qr_iret (Or.inl rfl) rfl rfl
                · refine qr_f hb rfl ?_
                  change qm_E _ _ _ (80, [some (vI a0), some (vI a1), some (vI a2)], [], qp_H s x e, (0, 0)) _
                  iterate 2 refine qm_E_next rfl ?_
                  cases h
                  exact qr_iret (Or.inl rfl) rfl rfl
              · cases h
/-! PeriodKernel.Task combineTop -/
def qf102 (n0 : Nat) (a1 : Int32) (s : qp_S) : Option (Int32 × qp_S) := ((qf98 n0 s).bind fun q1 => ((qf98 n0 q1.2).bind fun q2 => ((qf103 a1 (q2.1) (q1.1) q2.2).bind fun q3 => ((qf97 n0 q3 q2.2).bind fun q4 => some (0, q4.2)))))
theorem qe102 (d : Nat) {L : Nat} {xs : Nat → Int32} {x : Int64} {e : Nat → Nat}    {n0 : Nat} {a1 : Int32} {s : qp_S} {r : Int32 × qp_S} (h : qf102  n0 a1 s = some r) : qm_E (qz_ro L xs) (d + 1) 102 (0, qm_ent 102 [vR 14 n0, vI a1], [], qp_H s x e, (0, 0)) (qf_u r.2 x e) := by
  unfold qf102 at h
  iterate 2 refine qm_E_next rfl ?_
  obtain ⟨q1, hq, h⟩ := qs_bd h
  refine qm_E_call rfl (qe98 (d + 0) hq) rfl ?_
  change qm_E _ _ _ (7, [some (vR 14 n0), some (vI a1), none, none], [vI (q1.1)], qp_H q1.2 x e, (0, 0)) _
  iterate 3 refine qm_E_next rfl ?_
  obtain ⟨q2, hq, h⟩ := qs_bd h
  refine qm_E_call rfl (qe98 (d + 0) hq) rfl ?_
  change qm_E _ _ _ (15, [some (vR 14 n0), some (vI a1), some (vI (q1.1)), none], [vI (q2.1)], qp_H q2.2 x e, (0, 0)) _
  iterate 6 refine qm_E_next rfl ?_
  change qm_E _ _ _ (23, [some (vR 14 n0), some (vI a1), some (vI (q1.1)), some (vI (q2.1))], [vI (q1.1), vI (q2.1), vI a1, vR 19 n0], qp_H q2.2 x e, (0, 0)) _
  obtain ⟨q3, hq, h⟩ := qs_bd h
  refine qm_E_call rfl (qe103 (d + 0) hq) rfl ?_
  change qm_E _ _ _ (26, [some (vR 14 n0), some (vI a1), some (vI (q1.1)), some (vI (q2.1))], [vI q3, vR 19 n0], qp_H q2.2 x e, (0, 0)) _
  obtain ⟨q4, hq, h⟩ := qs_bd h
  refine qm_E_call rfl (qe97 (d + 0) hq) rfl ?_
  change qm_E _ _ _ (29, [some (vR 14 n0), some (vI a1), some (vI (q1.1)), some (vI (q2.1))], [], qp_H q4.2 x e, (0, 0)) _
  cases h
  exact qr_ret rfl rfl rfl
/-! PeriodKernel.Task carryOut -/
def qf96_132 (c0 : Nat) (b1 : Int32) (s : qp_S) : Option (Int32 × qp_S) := ((qf97 c0 b1 s).bind fun q29 => some (0, q29.2))
theorem qe96_132 (d : Nat) {L : Nat} {xs : Nat → Int32} {x : Int64} {e : Nat → Nat}   {u0 : Option qm_V} {u1 : Option qm_V} {u2 : Option qm_V} {c0 : Nat} {b1 : Int32} {s : qp_S} {r : Int32 × qp_S} (h : qf96_132  c0 b1 s = some r) : qm_E (qz_ro L xs) (d + 2) 96 (132, [u0, u1, u2], [vI b1, vR 19 c0], qp_H s x e, (0, 0)) (qf_u r.2 x e) := by
  unfold qf96_132 at h
  obtain ⟨q29, hq, h⟩ := qs_bd h
  refine qm_E_call rfl (qe97 (d + 1) hq) rfl ?_
  change qm_E _ _ _ (135, [u0, u1, u2], [], qp_H q29.2 x e, (0, 0)) _
  iterate 1 refine qm_E_next rfl ?_
  cases h
  exact qr_ret rfl rfl rfl
def qf96_243 (c0 : Nat) (b1 : Int32) (s : qp_S) : Option (Int32 × qp_S) := ((qf97 c0 b1 s).bind fun q30 => some (0, q30.2))
theorem qe96_243 (d : Nat) {L : Nat} {xs : Nat → Int32} {x : Int64} {e : Nat → Nat}   {u0 : Option qm_V} {u1 : Option qm_V} {u2 : Option qm_V} {c0 : Nat} {b1 : Int32} {s : qp_S} {r : Int32 × qp_S} (h : qf96_243  c0 b1 s = some r) : qm_E (qz_ro L xs) (d + 2) 96 (243, [u0, u1, u2], [vI b1, vR 19 c0], qp_H s x e, (0, 0)) (qf_u r.2 x e) := by
  unfold qf96_243 at h
  obtain ⟨q30, hq, h⟩ := qs_bd h
  refine qm_E_call rfl (qe97 (d + 1) hq) rfl ?_
  change qm_E _ _ _ (246, [u0, u1, u2], [], qp_H q30.2 x e, (0, 0)) _
  iterate 1 refine qm_E_next rfl ?_
  cases h
  exact qr_ret rfl rfl rfl
def qf96 (n0 : Nat) (a1 : Int32) (s : qp_S) : Option (Int32 × qp_S) := ((qf59 a1 s).bind fun q1 => ((qf58 a1 s).bind fun q2 => (bif decide ((q2).toInt < 0 ∨ 16 < (q2).toInt) then ((qf58 a1 s).bind fun q3 => ((qf102 n0 q3 s).bind fun q4 => some (0, q4.2))) else (bif decide (q2 = (0 : Int32)) then some (0, s) else (bif decide (q2 = (1 : Int32)) then ((qf97 n0 q1 s).bind fun q5 => some (0, q5.2)) else (bif decide (q2 = (2 : Int32)) then ((qf13 q1 (6 : Int32) s).bind fun q6 => (bif qm_cmp .eq q6 (0 : Int32) then qf96_132 n0 (0 : Int32) s else (if qm_inb q1 6 = true then qf96_132 n0 (s 16 (6 * n0 + (q1).toNatClampNeg) 2) s else none))) else (bif decide (q2 = (3 : Int32)) then ((qf98 n0 s).bind fun q7 => ((qf99 n0 q1 (q7.1) q7.2).bind fun q8 => some (0, q8.2))) else (bif decide (q2 = (4 : Int32)) then ((qf58 a1 s).bind fun q9 => ((qf102 n0 q9 s).bind fun q10 => some (0, q10.2))) else (bif decide (q2 = (5 : Int32)) then ((qf58 a1 s).bind fun q11 => ((qf102 n0 q11 s).bind fun q12 => some (0, q12.2))) else (bif decide (q2 = (6 : Int32)) then ((qf58 a1 s).bind fun q13 => ((qf102 n0 q13 s).bind fun q14 => some (0, q14.2))) else (bif decide (q2 = (7 : Int32)) then ((qf58 a1 s).bind fun q15 => ((qf102 n0 q15 s).bind fun q16 => some (0, q16.2))) else (bif decide (q2 = (8 : Int32)) then ((qf58 a1 s).bind fun q17 => ((qf102 n0 q17 s).bind fun q18 => some (0, q18.2))) else (bif decide (q2 = (9 : Int32)) then ((qf58 a1 s).bind fun q19 => ((qf102 n0 q19 s).bind fun q20 => some (0, q20.2))) else (bif decide (q2 = (10 : Int32)) then some (0, (qp_up s 14 n0 10 q1)) else (bif decide (q2 = (11 : Int32)) then ((qf98 n0 s).bind fun q21 => (bif qm_cmp .ne (q21.1) (0 : Int32) then some (0, (qp_up q21.2 14 n0 10 (q21.2 14 n0 10))) else some (0, (qp_up q21.2 14 n0 10 q1)))) else (bif decide (q2 = (12 : Int32)) then ((qf19 n0 s).bind fun q22 => ((qf97 n0 q22 s).bind fun q23 => some (0, q23.2))) else (bif decide (q2 = (13 : Int32)) then ((qf100 n0 s).bind fun q24 => some (0, q24.2)) else (bif decide (q2 = (14 : Int32)) then ((qf98 n0 s).bind fun q25 => some (0, q25.2)) else (bif decide (q2 = (15 : Int32)) then ((qf13 q1 (4 : Int32) s).bind fun q26 => (bif qm_cmp .eq q26 (0 : Int32) then qf96_243 n0 (0 : Int32) s else (if qm_inb q1 4 = true then qf96_243 n0 (s 18 n0 (q1).toNatClampNeg) s else none))) else (bif decide (q2 = (16 : Int32)) then ((qf98 n0 s).bind fun q27 => ((qf101 n0 q1 (q27.1) q27.2).bind fun q28 => some (0, q28.2))) else none))))))))))))))))))))
theorem qe96 (d : Nat) {L : Nat} {xs : Nat → Int32} {x : Int64} {e : Nat → Nat}    {n0 : Nat} {a1 : Int32} {s : qp_S} {r : Int32 × qp_S} (h : qf96  n0 a1 s = some r) : qm_E (qz_ro L xs) (d + 2) 96 (0, qm_ent 96 [vR 14 n0, vI a1], [], qp_H s x e, (0, 0)) (qf_u r.2 x e) := by
  unfold qf96 at h
  iterate 1 refine qm_E_next rfl ?_
  obtain ⟨q1, hq, h⟩ := qs_bd h
  refine qm_E_call rfl (qe59 (d + 1) hq) rfl ?_
  change qm_E _ _ _ (4, [some (vR 14 n0), some (vI a1), none], [vI q1], qp_H s x e, (0, 0)) _
  iterate 2 refine qm_E_next rfl ?_
  obtain ⟨q2, hq, h⟩ := qs_bd h
  refine qm_E_call rfl (qe58 (d + 1) hq) rfl ?_
  change qm_E _ _ _ (9, [some (vR 14 n0), some (vI a1), some (vI q1)], [vI q2], qp_H s x e, (0, 0)) _
  rcases qr_cond h with ⟨hb, h⟩ | ⟨-, h⟩
  · refine qr_tsd hb rfl rfl rfl ?_
    change qm_E _ _ _ (264, [some (vR 14 n0), some (vI a1), some (vI q1)], [], qp_H s x e, (0, 0)) _
    iterate 2 refine qm_E_next rfl ?_
    obtain ⟨q3, hq, h⟩ := qs_bd h
    refine qm_E_call rfl (qe58 (d + 1) hq) rfl ?_
    change qm_E _ _ _ (269, [some (vR 14 n0), some (vI a1), some (vI q1)], [vI q3, vR 14 n0], qp_H s x e, (0, 0)) _
    obtain ⟨q4, hq, h⟩ := qs_bd h
    refine qm_E_call rfl (qe102 (d + 0) hq) rfl ?_
    change qm_E _ _ _ (272, [some (vR 14 n0), some (vI a1), some (vI q1)], [], qp_H q4.2 x e, (0, 0)) _
    cases h
    exact qr_ret rfl rfl rfl
  · rcases qr_cond h with ⟨hb, h⟩ | ⟨-, h⟩
    · refine qr_tsv hb rfl ?_
      change qm_E _ _ _ (92, [some (vR 14 n0), some (vI a1), some (vI q1)], [], qp_H s x e, (0, 0)) _
      iterate 1 refine qm_E_next rfl ?_
      cases h
      exact qr_ret rfl rfl rfl
    · rcases qr_cond h with ⟨hb, h⟩ | ⟨-, h⟩
      · refine qr_tsv hb rfl ?_
        change qm_E _ _ _ (95, [some (vR 14 n0), some (vI a1), some (vI q1)], [], qp_H s x e, (0, 0)) _
        iterate 3 refine qm_E_next rfl ?_
        obtain ⟨q5, hq, h⟩ := qs_bd h
        refine qm_E_call rfl (qe97 (d + 1) hq) rfl ?_
        change qm_E _ _ _ (103, [some (vR 14 n0), some (vI a1), some (vI q1)], [], qp_H q5.2 x e, (0, 0)) _
        iterate 1 refine qm_E_next rfl ?_
        cases h
        exact qr_ret rfl rfl rfl
      · rcases qr_cond h with ⟨hb, h⟩ | ⟨-, h⟩
        · refine qr_tsv hb rfl ?_
          change qm_E _ _ _ (106, [some (vR 14 n0), some (vI a1), some (vI q1)], [], qp_H s x e, (0, 0)) _
          iterate 4 refine qm_E_next rfl ?_
          obtain ⟨q6, hq, h⟩ := qs_bd h
          refine qm_E_call rfl (qe13 (d + 1) hq) rfl ?_
          change qm_E _ _ _ (116, [some (vR 14 n0), some (vI a1), some (vI q1)], [vI q6, vR 19 n0], qp_H s x e, (0, 0)) _
          rcases qr_cond h with ⟨hb, h⟩ | ⟨hb, h⟩
          · refine qr_t hb rfl ?_
            change qm_E _ _ _ (131, [some (vR 14 n0), some (vI a1), some (vI q1)], [vR 19 n0], qp_H s x e, (0, 0)) _
            iterate 1 refine qm_E_next rfl ?_
            exact qe96_132 d  h
          · refine qr_f hb rfl ?_
            change qm_E _ _ _ (119, [some (vR 14 n0), some (vI a1), some (vI q1)], [vR 19 n0], qp_H s x e, (0, 0)) _
            iterate 3 refine qm_E_next rfl ?_
            obtain ⟨hb, h⟩ := qr_inb h
            refine qr_aaload hb rfl rfl rfl ?_
            change qm_E _ _ _ (125, [some (vR 14 n0), some (vI a1), some (vI q1)], [vR 16 (6 * n0 + (q1).toNatClampNeg), vR 19 n0], qp_H s x e, (0, 0)) _
            iterate 2 refine qm_E_next rfl ?_
            exact qe96_132 d  h
        · rcases qr_cond h with ⟨hb, h⟩ | ⟨-, h⟩
          · refine qr_tsv hb rfl ?_
            change qm_E _ _ _ (138, [some (vR 14 n0), some (vI a1), some (vI q1)], [], qp_H s x e, (0, 0)) _
            iterate 4 refine qm_E_next rfl ?_
            obtain ⟨q7, hq, h⟩ := qs_bd h
            refine qm_E_call rfl (qe98 (d + 1) hq) rfl ?_
            change qm_E _ _ _ (147, [some (vR 14 n0), some (vI a1), some (vI q1)], [vI (q7.1), vI q1, vR 14 n0], qp_H q7.2 x e, (0, 0)) _
            obtain ⟨q8, hq, h⟩ := qs_bd h
            refine qm_E_call rfl (qe99 (d + 0) hq) rfl ?_
            change qm_E _ _ _ (150, [some (vR 14 n0), some (vI a1), some (vI q1)], [], qp_H q8.2 x e, (0, 0)) _
            iterate 1 refine qm_E_next rfl ?_
            cases h
            exact qr_ret rfl rfl rfl
          · rcases qr_cond h with ⟨hb, h⟩ | ⟨-, h⟩
            · refine qr_tsv hb rfl ?_
              change qm_E _ _ _ (264, [some (vR 14 n0), some (vI a1), some (vI q1)], [], qp_H s x e, (0, 0)) _
              iterate 2 refine qm_E_next rfl ?_
              obtain ⟨q9, hq, h⟩ := qs_bd h
              refine qm_E_call rfl (qe58 (d + 1) hq) rfl ?_
              change qm_E _ _ _ (269, [some (vR 14 n0), some (vI a1), some (vI q1)], [vI q9, vR 14 n0], qp_H s x e, (0, 0)) _
              obtain ⟨q10, hq, h⟩ := qs_bd h
              refine qm_E_call rfl (qe102 (d + 0) hq) rfl ?_
              change qm_E _ _ _ (272, [some (vR 14 n0), some (vI a1), some (vI q1)], [], qp_H q10.2 x e, (0, 0)) _
              cases h
              exact qr_ret rfl rfl rfl
            · rcases qr_cond h with ⟨hb, h⟩ | ⟨-, h⟩
              · refine qr_tsv hb rfl ?_
                change qm_E _ _ _ (264, [some (vR 14 n0), some (vI a1), some (vI q1)], [], qp_H s x e, (0, 0)) _
                iterate 2 refine qm_E_next rfl ?_
                obtain ⟨q11, hq, h⟩ := qs_bd h
                refine qm_E_call rfl (qe58 (d + 1) hq) rfl ?_
                change qm_E _ _ _ (269, [some (vR 14 n0), some (vI a1), some (vI q1)], [vI q11, vR 14 n0], qp_H s x e, (0, 0)) _
                obtain ⟨q12, hq, h⟩ := qs_bd h
                refine qm_E_call rfl (qe102 (d + 0) hq) rfl ?_
                change qm_E _ _ _ (272, [some (vR 14 n0), some (vI a1), some (vI q1)], [], qp_H q12.2 x e, (0, 0)) _
                cases h
                exact qr_ret rfl rfl rfl
              · rcases qr_cond h with ⟨hb, h⟩ | ⟨-, h⟩
                · refine qr_tsv hb rfl ?_
                  change qm_E _ _ _ (264, [some (vR 14 n0), some (vI a1), some (vI q1)], [], qp_H s x e, (0, 0)) _
                  iterate 2 refine qm_E_next rfl ?_
                  obtain ⟨q13, hq, h⟩ := qs_bd h
                  refine qm_E_call rfl (qe58 (d + 1) hq) rfl ?_
                  change qm_E _ _ _ (269, [some (vR 14 n0), some (vI a1), some (vI q1)], [vI q13, vR 14 n0], qp_H s x e, (0, 0)) _
                  obtain ⟨q14, hq, h⟩ := qs_bd h
                  refine qm_E_call rfl (qe102 (d + 0) hq) rfl ?_
                  change qm_E _ _ _ (272, [some (vR 14 n0), some (vI a1), some (vI q1)], [], qp_H q14.2 x e, (0, 0)) _
                  cases h
                  exact qr_ret rfl rfl rfl
                · rcases qr_cond h with ⟨hb, h⟩ | ⟨-, h⟩
                  · refine qr_tsv hb rfl ?_
                    change qm_E _ _ _ (264, [some (vR 14 n0), some (vI a1), some (vI q1)], [], qp_H s x e, (0, 0)) _
                    iterate 2 refine qm_E_next rfl ?_
                    obtain ⟨q15, hq, h⟩ := qs_bd h
                    refine qm_E_call rfl (qe58 (d + 1) hq) rfl ?_
                    change qm_E _ _ _ (269, [some (vR 14 n0), some (vI a1), some (vI q1)], [vI q15, vR 14 n0], qp_H s x e, (0, 0)) _
                    obtain ⟨q16, hq, h⟩ := qs_bd h
                    refine qm_E_call rfl (qe102 (d + 0) hq) rfl ?_
                    change qm_E _ _ _ (272, [some (vR 14 n0), some (vI a1), some (vI q1)], [], qp_H q16.2 x e, (0, 0)) _
                    cases h
                    exact qr_ret rfl rfl rfl
                  · rcases qr_cond h with ⟨hb, h⟩ | ⟨-, h⟩
                    · refine qr_tsv hb rfl ?_
                      change qm_E _ _ _ (264, [some (vR 14 n0), some (vI a1), some (vI q1)], [], qp_H s x e, (0, 0)) _
                      iterate 2 refine qm_E_next rfl ?_
                      obtain ⟨q17, hq, h⟩ := qs_bd h
                      refine qm_E_call rfl (qe58 (d + 1) hq) rfl ?_
                      change qm_E _ _ _ (269, [some (vR 14 n0), some (vI a1), some (vI q1)], [vI q17, vR 14 n0], qp_H s x e, (0, 0)) _
                      obtain ⟨q18, hq, h⟩ := qs_bd h
                      refine qm_E_call rfl (qe102 (d + 0) hq) rfl ?_
                      change qm_E _ _ _ (272, [some (vR 14 n0), some (vI a1), some (vI q1)], [], qp_H q18.2 x e, (0, 0)) _
                      cases h
                      exact qr_ret rfl rfl rfl
                    · rcases qr_cond h with ⟨hb, h⟩ | ⟨-, h⟩
                      · refine qr_tsv hb rfl ?_
                        change qm_E _ _ _ (264, [some (vR 14 n0), some (vI a1), some (vI q1)], [], qp_H s x e, (0, 0)) _
                        iterate 2 refine qm_E_next rfl ?_
                        obtain ⟨q19, hq, h⟩ := qs_bd h
                        refine qm_E_call rfl (qe58 (d + 1) hq) rfl ?_
                        change qm_E _ _ _ (269, [some (vR 14 n0), some (vI a1), some (vI q1)], [vI q19, vR 14 n0], qp_H s x e, (0, 0)) _
                        obtain ⟨q20, hq, h⟩ := qs_bd h
                        refine qm_E_call rfl (qe102 (d + 0) hq) rfl ?_
                        change qm_E _ _ _ (272, [some (vR 14 n0), some (vI a1), some (vI q1)], [], qp_H q20.2 x e, (0, 0)) _
                        cases h
                        exact qr_ret rfl rfl rfl
                      · rcases qr_cond h with ⟨hb, h⟩ | ⟨-, h⟩
                        · refine qr_tsv hb rfl ?_
                          change qm_E _ _ _ (153, [some (vR 14 n0), some (vI a1), some (vI q1)], [], qp_H s x e, (0, 0)) _
                          iterate 2 refine qm_E_next rfl ?_
                          refine qr_put rfl rfl ?_
                          change qm_E _ _ _ (158, [some (vR 14 n0), some (vI a1), some (vI q1)], [], qp_H (qp_up s 14 n0 10 q1) x e, (0, 0)) _
                          iterate 1 refine qm_E_next rfl ?_
                          cases h
                          exact qr_ret rfl rfl rfl
                        · rcases qr_cond h with ⟨hb, h⟩ | ⟨-, h⟩
                          · refine qr_tsv hb rfl ?_
                            change qm_E _ _ _ (161, [some (vR 14 n0), some (vI a1), some (vI q1)], [], qp_H s x e, (0, 0)) _
                            iterate 3 refine qm_E_next rfl ?_
                            obtain ⟨q21, hq, h⟩ := qs_bd h
                            refine qm_E_call rfl (qe98 (d + 1) hq) rfl ?_
                            change qm_E _ _ _ (169, [some (vR 14 n0), some (vI a1), some (vI q1)], [vI (q21.1), vR 14 n0], qp_H q21.2 x e, (0, 0)) _
                            rcases qr_cond h with ⟨hb, h⟩ | ⟨hb, h⟩
                            · refine qr_t hb rfl ?_
                              change qm_E _ _ _ (176, [some (vR 14 n0), some (vI a1), some (vI q1)], [vR 14 n0], qp_H q21.2 x e, (0, 0)) _
                              iterate 2 refine qm_E_next rfl ?_
                              refine qr_put rfl rfl ?_
                              change qm_E _ _ _ (183, [some (vR 14 n0), some (vI a1), some (vI q1)], [], qp_H (qp_up q21.2 14 n0 10 (q21.2 14 n0 10)) x e, (0, 0)) _
                              iterate 1 refine qm_E_next rfl ?_
                              cases h
                              exact qr_ret rfl rfl rfl
                            · refine qr_f hb rfl ?_
                              change qm_E _ _ _ (172, [some (vR 14 n0), some (vI a1), some (vI q1)], [vR 14 n0], qp_H q21.2 x e, (0, 0)) _
                              iterate 2 refine qm_E_next rfl ?_
                              refine qr_put rfl rfl ?_
                              change qm_E _ _ _ (183, [some (vR 14 n0), some (vI a1), some (vI q1)], [], qp_H (qp_up q21.2 14 n0 10 q1) x e, (0, 0)) _
                              iterate 1 refine qm_E_next rfl ?_
                              cases h
                              exact qr_ret rfl rfl rfl
                          · rcases qr_cond h with ⟨hb, h⟩ | ⟨-, h⟩
                            · refine qr_tsv hb rfl ?_
                              change qm_E _ _ _ (186, [some (vR 14 n0), some (vI a1), some (vI q1)], [], qp_H s x e, (0, 0)) _
                              iterate 4 refine qm_E_next rfl ?_
                              obtain ⟨q22, hq, h⟩ := qs_bd h
                              refine qm_E_call rfl (qe19 (d + 1) hq) rfl ?_
                              change qm_E _ _ _ (197, [some (vR 14 n0), some (vI a1), some (vI q1)], [vI q22, vR 19 n0], qp_H s x e, (0, 0)) _
                              obtain ⟨q23, hq, h⟩ := qs_bd h
                              refine qm_E_call rfl (qe97 (d + 1) hq) rfl ?_
                              change qm_E _ _ _ (200, [some (vR 14 n0), some (vI a1), some (vI q1)], [], qp_H q23.2 x e, (0, 0)) _
                              iterate 1 refine qm_E_next rfl ?_
                              cases h
                              exact qr_ret rfl rfl rfl
                            · rcases qr_cond h with ⟨hb, h⟩ | ⟨-, h⟩
                              · refine qr_tsv hb rfl ?_
                                change qm_E _ _ _ (203, [some (vR 14 n0), some (vI a1), some (vI q1)], [], qp_H s x e, (0, 0)) _
                                iterate 1 refine qm_E_next rfl ?_
                                obtain ⟨q24, hq, h⟩ := qs_bd h
                                refine qm_E_call rfl (qe100 (d + 0) hq) rfl ?_
                                change qm_E _ _ _ (207, [some (vR 14 n0), some (vI a1), some (vI q1)], [], qp_H q24.2 x e, (0, 0)) _
                                iterate 1 refine qm_E_next rfl ?_
                                cases h
                                exact qr_ret rfl rfl rfl
                              · rcases qr_cond h with ⟨hb, h⟩ | ⟨-, h⟩
                                · refine qr_tsv hb rfl ?_
                                  change qm_E _ _ _ (210, [some (vR 14 n0), some (vI a1), some (vI q1)], [], qp_H s x e, (0, 0)) _
                                  iterate 2 refine qm_E_next rfl ?_
                                  obtain ⟨q25, hq, h⟩ := qs_bd h
                                  refine qm_E_call rfl (qe98 (d + 1) hq) rfl ?_
                                  change qm_E _ _ _ (217, [some (vR 14 n0), some (vI a1), some (vI q1)], [vI (q25.1)], qp_H q25.2 x e, (0, 0)) _
                                  iterate 2 refine qm_E_next rfl ?_
                                  cases h
                                  exact qr_ret rfl rfl rfl
                                · rcases qr_cond h with ⟨hb, h⟩ | ⟨-, h⟩
                                  · refine qr_tsv hb rfl ?_
                                    change qm_E _ _ _ (221, [some (vR 14 n0), some (vI a1), some (vI q1)], [], qp_H s x e, (0, 0)) _
                                    iterate 4 refine qm_E_next rfl ?_
                                    obtain ⟨q26, hq, h⟩ := qs_bd h
                                    refine qm_E_call rfl (qe13 (d + 1) hq) rfl ?_
                                    change qm_E _ _ _ (230, [some (vR 14 n0), some (vI a1), some (vI q1)], [vI q26, vR 19 n0], qp_H s x e, (0, 0)) _
                                    rcases qr_cond h with ⟨hb, h⟩ | ⟨hb, h⟩
                                    · refine qr_t hb rfl ?_
                                      change qm_E _ _ _ (242, [some (vR 14 n0), some (vI a1), some (vI q1)], [vR 19 n0], qp_H s x e, (0, 0)) _
                                      iterate 1 refine qm_E_next rfl ?_
                                      exact qe96_243 d  h
                                    · refine qr_f hb rfl ?_
                                      change qm_E _ _ _ (233, [some (vR 14 n0), some (vI a1), some (vI q1)], [vR 19 n0], qp_H s x e, (0, 0)) _
                                      iterate 3 refine qm_E_next rfl ?_
                                      obtain ⟨hb, h⟩ := qr_inb h
                                      refine qr_iaload hb rfl rfl rfl rfl ?_
                                      change qm_E _ _ _ (239, [some (vR 14 n0), some (vI a1), some (vI q1)], [vI (s 18 n0 (q1).toNatClampNeg), vR 19 n0], qp_H s x e, (0, 0)) _
                                      iterate 1 refine qm_E_next rfl ?_
                                      exact qe96_243 d  h
                                  · rcases qr_cond h with ⟨hb, h⟩ | ⟨-, h⟩
                                    · refine qr_tsv hb rfl ?_
                                      change qm_E _ _ _ (249, [some (vR 14 n0), some (vI a1), some (vI q1)], [], qp_H s x e, (0, 0)) _
                                      iterate 4 refine qm_E_next rfl ?_
                                      obtain ⟨q27, hq, h⟩ := qs_bd h
                                      refine qm_E_call rfl (qe98 (d + 1) hq) rfl ?_
                                      change qm_E _ _ _ (258, [some (vR 14 n0), some (vI a1), some (vI q1)], [vI (q27.1), vI q1, vR 14 n0], qp_H q27.2 x e, (0, 0)) _
                                      obtain ⟨q28, hq, h⟩ := qs_bd h
                                      refine qm_E_call rfl (qe101 (d + 0) hq) rfl ?_
                                      change qm_E _ _ _ (261, [some (vR 14 n0), some (vI a1), some (vI q1)], [], qp_H q28.2 x e, (0, 0)) _
                                      iterate 1 refine qm_E_next rfl ?_
                                      cases h
                                      exact qr_ret rfl rfl rfl
                                    · cases h
/-! PeriodKernel.Task takeStep -/
def qf95 (n0 : Nat) (s : qp_S) : Option (Int32 × qp_S) := ((qf57 n0 (s 14 n0 10) s).bind fun q1 => ((qf96 n0 q1 (qp_up (qp_up s 14 n0 10 ((s 14 n0 10) + (1 : Int32))) 14 n0 9 (((qp_up s 14 n0 10 ((s 14 n0 10) + (1 : Int32))) 14 n0 9) - (1 : Int32)))).bind fun q2 => ((qf58 q1 q2.2).bind fun q3 => (bif qm_cmp .ne q3 (0 : Int32) then (bif qm_cmp .ne (q2.2 14 n0 9) (0 : Int32) then some (0, q2.2) else some (0, (qp_up q2.2 14 n0 4 (1 : Int32)))) else some (0, (qp_up q2.2 14 n0 9 (0 : Int32)))))))
theorem qe95 (d : Nat) {L : Nat} {xs : Nat → Int32} {x : Int64} {e : Nat → Nat}    {n0 : Nat} {s : qp_S} {r : Int32 × qp_S} (h : qf95  n0 s = some r) : qm_E (qz_ro L xs) (d + 3) 95 (0, qm_ent 95 [vR 14 n0], [], qp_H s x e, (0, 0)) (qf_u r.2 x e) := by
  unfold qf95 at h
  iterate 3 refine qm_E_next rfl ?_
  obtain ⟨q1, hq, h⟩ := qs_bd h
  refine qm_E_call rfl (qe57 (d + 1) hq) rfl ?_
  change qm_E _ _ _ (8, [some (vR 14 n0), none], [vI q1], qp_H s x e, (0, 0)) _
  iterate 6 refine qm_E_next rfl ?_
  change qm_E _ _ _ (16, [some (vR 14 n0), some (vI q1)], [vI ((s 14 n0 10) + (1 : Int32)), vR 14 n0], qp_H s x e, (0, 0)) _
  refine qr_put rfl rfl ?_
  change qm_E _ _ _ (19, [some (vR 14 n0), some (vI q1)], [], qp_H (qp_up s 14 n0 10 ((s 14 n0 10) + (1 : Int32))) x e, (0, 0)) _
  iterate 5 refine qm_E_next rfl ?_
  refine qr_put rfl rfl ?_
  change qm_E _ _ _ (29, [some (vR 14 n0), some (vI q1)], [], qp_H (qp_up (qp_up s 14 n0 10 ((s 14 n0 10) + (1 : Int32))) 14 n0 9 (((qp_up s 14 n0 10 ((s 14 n0 10) + (1 : Int32))) 14 n0 9) - (1 : Int32))) x e, (0, 0)) _
  iterate 2 refine qm_E_next rfl ?_
  obtain ⟨q2, hq, h⟩ := qs_bd h
  refine qm_E_call rfl (qe96 (d + 0) hq) rfl ?_
  change qm_E _ _ _ (34, [some (vR 14 n0), some (vI q1)], [], qp_H q2.2 x e, (0, 0)) _
  iterate 1 refine qm_E_next rfl ?_
  obtain ⟨q3, hq, h⟩ := qs_bd h
  refine qm_E_call rfl (qe58 (d + 2) hq) rfl ?_
  change qm_E _ _ _ (38, [some (vR 14 n0), some (vI q1)], [vI q3], qp_H q2.2 x e, (0, 0)) _
  rcases qr_cond h with ⟨hb, h⟩ | ⟨hb, h⟩
  · refine qr_t hb rfl ?_
    change qm_E _ _ _ (49, [some (vR 14 n0), some (vI q1)], [], qp_H q2.2 x e, (0, 0)) _
    iterate 2 refine qm_E_next rfl ?_
    rcases qr_cond h with ⟨hb, h⟩ | ⟨hb, h⟩
    · refine qr_t hb rfl ?_
      change qm_E _ _ _ (61, [some (vR 14 n0), some (vI q1)], [], qp_H q2.2 x e, (0, 0)) _
      cases h
      exact qr_ret rfl rfl rfl
    · refine qr_f hb rfl ?_
      change qm_E _ _ _ (56, [some (vR 14 n0), some (vI q1)], [], qp_H q2.2 x e, (0, 0)) _
      iterate 2 refine qm_E_next rfl ?_
      refine qr_putz (Or.inr rfl) rfl rfl rfl rfl rfl rfl rfl rfl rfl ?_
      change qm_E _ _ _ (61, [some (vR 14 n0), some (vI q1)], [], qp_H (qp_up q2.2 14 n0 4 (1 : Int32)) x e, (0, 0)) _
      cases h
      exact qr_ret rfl rfl rfl
  · refine qr_f hb rfl ?_
    change qm_E _ _ _ (41, [some (vR 14 n0), some (vI q1)], [], qp_H q2.2 x e, (0, 0)) _
    iterate 2 refine qm_E_next rfl ?_
    refine qr_put rfl rfl ?_
    change qm_E _ _ _ (46, [some (vR 14 n0), some (vI q1)], [], qp_H (qp_up q2.2 14 n0 9 (0 : Int32)) x e, (0, 0)) _
    iterate 1 refine qm_E_next rfl ?_
    cases h
    exact qr_ret rfl rfl rfl
