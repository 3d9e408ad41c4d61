/-! PeriodKernel use -/
def qf38_26 (a1 : Int32) (a2 : Int32) (a3 : Int32) (b0 : Int32) (s : qp_S) : Option (Nat ⊕ (Int32 × qp_S)) := ((qf25 b0 s).bind fun z3 => match z3 with | .inl k => some (.inl k) | .inr q3 => ((qf26 s).bind fun z4 => match z4 with | .inl k => some (.inl k) | .inr q4 => (if qm_inb a1 4 = true then (if qm_inb a2 8 = true then some (.inr (0, (qp_up s 23 (a1).toNatClampNeg (a2).toNatClampNeg a3))) else none) else none)))
theorem qe38_26 (d : Nat) {L : Nat} {xs : Nat → Int32} {x : Int64} {e : Nat → Nat}    {a1 : Int32} {a2 : Int32} {a3 : Int32} {b0 : Int32} {s : qp_S} {r : Nat ⊕ (Int32 × qp_S)} (h : qf38_26  a1 a2 a3 b0 s = some r) : qm_E (qz_ro L xs) (d + 7) 38 (26, [some (vR 1 0), some (vI a1), some (vI a2), some (vI a3)], [vI b0], qp_H s x e, (0, 0)) (Sum.elim (fun k => qf_k k s x e) (fun v => qf_u v.2 x e) r) := by
  unfold qf38_26 at h
  obtain ⟨z3, hq, h⟩ := qs_bd h
  rcases z3 with k | q3
  · cases h
    exact qm_E_out rfl (qe25 (d + 0) hq) rfl
  · refine qm_E_call rfl (qe25 (d + 0) hq) rfl ?_
    change qm_E _ _ _ (29, [some (vR 1 0), some (vI a1), some (vI a2), some (vI a3)], [], qp_H s x e, (0, 0)) _
    iterate 1 refine qm_E_next rfl ?_
    obtain ⟨z4, hq, h⟩ := qs_bd h
    rcases z4 with k | q4
    · cases h
      exact qm_E_out rfl (qe26 (d + 0) hq) rfl
    · refine qm_E_call rfl (qe26 (d + 0) hq) rfl ?_
      change qm_E _ _ _ (33, [some (vR 1 0), some (vI a1), some (vI a2), some (vI a3)], [], qp_H s x e, (0, 0)) _
      iterate 3 refine qm_E_next rfl ?_
      obtain ⟨hb, h⟩ := qr_inb h
      refine qr_aaload hb rfl rfl rfl ?_
      change qm_E _ _ _ (39, [some (vR 1 0), some (vI a1), some (vI a2), some (vI a3)], [vR 22 (a1).toNatClampNeg], qp_H s x e, (0, 0)) _
      iterate 3 refine qm_E_next rfl ?_
      obtain ⟨hb, h⟩ := qr_inb h
      refine qr_iastore hb rfl rfl rfl rfl rfl ?_
      change qm_E _ _ _ (45, [some (vR 1 0), some (vI a1), some (vI a2), some (vI a3)], [], qp_H (qp_up s 23 (a1).toNatClampNeg (a2).toNatClampNeg a3) x e, (0, 0)) _
      cases h
      exact qr_ret rfl rfl rfl
def qf38_25 (a1 : Int32) (a2 : Int32) (a3 : Int32) (s : qp_S) : Option (Nat ⊕ (Int32 × qp_S)) := qf38_26 a1 a2 a3 (0 : Int32) s
theorem qe38_25 (d : Nat) {L : Nat} {xs : Nat → Int32} {x : Int64} {e : Nat → Nat}    {a1 : Int32} {a2 : Int32} {a3 : Int32} {s : qp_S} {r : Nat ⊕ (Int32 × qp_S)} (h : qf38_25  a1 a2 a3 s = some r) : qm_E (qz_ro L xs) (d + 7) 38 (25, [some (vR 1 0), some (vI a1), some (vI a2), some (vI a3)], [], qp_H s x e, (0, 0)) (Sum.elim (fun k => qf_k k s x e) (fun v => qf_u v.2 x e) r) := by
  unfold qf38_25 at h
  iterate 1 refine qm_E_next rfl ?_
  exact qe38_26 d  h
def qf38 (a1 : Int32) (a2 : Int32) (a3 : Int32) (s : qp_S) : Option (Nat ⊕ (Int32 × qp_S)) := ((qf24 a1 (4 : Int32) s).bind fun z1 => match z1 with | .inl k => some (.inl k) | .inr q1 => ((qf24 a2 (8 : Int32) s).bind fun z2 => match z2 with | .inl k => some (.inl k) | .inr q2 => (bif qm_cmp .lt a3 (0 : Int32) then qf38_25 a1 a2 a3 s else (bif qm_cmp .gt a3 (12 : Int32) then qf38_25 a1 a2 a3 s else qf38_26 a1 a2 a3 (1 : Int32) s))))
theorem qe38 (d : Nat) {L : Nat} {xs : Nat → Int32} {x : Int64} {e : Nat → Nat}    {a1 : Int32} {a2 : Int32} {a3 : Int32} {s : qp_S} {r : Nat ⊕ (Int32 × qp_S)} (h : qf38  a1 a2 a3 s = some r) : qm_E (qz_ro L xs) (d + 7) 38 (0, qm_ent 38 [vR 1 0, vI a1, vI a2, vI a3], [], qp_H s x e, (0, 0)) (Sum.elim (fun k => qf_k k s x e) (fun v => qf_u v.2 x e) r) := by
  unfold qf38 at h
  iterate 2 refine qm_E_next rfl ?_
  obtain ⟨z1, hq, h⟩ := qs_bd h
  rcases z1 with k | q1
  · cases h
    exact qm_E_out rfl (qe24 (d + 0) hq) rfl
  · refine qm_E_call rfl (qe24 (d + 0) hq) rfl ?_
    change qm_E _ _ _ (5, [some (vR 1 0), some (vI a1), some (vI a2), some (vI a3)], [], qp_H s x e, (0, 0)) _
    iterate 2 refine qm_E_next rfl ?_
    obtain ⟨z2, hq, h⟩ := qs_bd h
    rcases z2 with k | q2
    · cases h
      exact qm_E_out rfl (qe24 (d + 0) hq) rfl
    · refine qm_E_call rfl (qe24 (d + 0) hq) rfl ?_
      change qm_E _ _ _ (11, [some (vR 1 0), some (vI a1), some (vI a2), some (vI a3)], [], qp_H s x e, (0, 0)) _
      iterate 1 refine qm_E_next rfl ?_
      rcases qr_cond h with ⟨hb, h⟩ | ⟨hb, h⟩
      · refine qr_t hb rfl ?_
        exact qe38_25 d  h
      · refine qr_f hb rfl ?_
        change qm_E _ _ _ (15, [some (vR 1 0), some (vI a1), some (vI a2), some (vI a3)], [], qp_H s x e, (0, 0)) _
        iterate 2 refine qm_E_next rfl ?_
        rcases qr_cond h with ⟨hb, h⟩ | ⟨hb, h⟩
        · refine qr_t hb rfl ?_
          exact qe38_25 d  h
        · refine qr_f hb rfl ?_
          change qm_E _ _ _ (21, [some (vR 1 0), some (vI a1), some (vI a2), some (vI a3)], [], qp_H s x e, (0, 0)) _
          iterate 2 refine qm_E_next rfl ?_
          exact qe38_26 d  h
/-! PeriodKernel.Guard isHow -/
def qf41 (a0 : Int32) (s : qp_S) : Option (Int32) := (bif qm_cmp .lt a0 (0 : Int32) then some (0 : Int32) else (bif qm_cmp .gt a0 (5 : Int32) then some (0 : Int32) else some (1 : Int32)))
theorem qe41 (d : Nat) {L : Nat} {xs : Nat → Int32} {x : Int64} {e : Nat → Nat}    {a0 : Int32} {s : qp_S} {r : Int32} (h : qf41  a0 s = some r) : qm_E (qz_ro L xs) (d + 0) 41 (0, qm_ent 41 [vI a0], [], qp_H s x e, (0, 0)) (qf_v r s x e) := by
  unfold qf41 at h
  iterate 1 refine qm_E_next rfl ?_
  rcases qr_cond h with ⟨hb, h⟩ | ⟨hb, h⟩
  · refine qr_t hb rfl ?_
    change qm_E _ _ _ (13, [some (vI a0)], [], qp_H s x e, (0, 0)) _
    iterate 1 refine qm_E_next rfl ?_
    cases h
    exact qr_iret (Or.inr ⟨rfl, Or.inl rfl⟩) rfl rfl
  · refine qr_f hb rfl ?_
    change qm_E _ _ _ (4, [some (vI a0)], [], qp_H s x e, (0, 0)) _
    iterate 2 refine qm_E_next rfl ?_
    rcases qr_cond h with ⟨hb, h⟩ | ⟨hb, h⟩
    · refine qr_t hb rfl ?_
      change qm_E _ _ _ (13, [some (vI a0)], [], qp_H s x e, (0, 0)) _
      iterate 1 refine qm_E_next rfl ?_
      cases h
      exact qr_iret (Or.inr ⟨rfl, Or.inl rfl⟩) rfl rfl
    · refine qr_f hb rfl ?_
      change qm_E _ _ _ (9, [some (vI a0)], [], qp_H s x e, (0, 0)) _
      iterate 2 refine qm_E_next rfl ?_
      cases h
      exact qr_iret (Or.inr ⟨rfl, Or.inr rfl⟩) rfl rfl
/-! PeriodKernel.Mode addGuard -/
def qf42 (n0 : Nat) (a1 : Int32) (a2 : Int32) (a3 : Int32) (a4 : Int32) (s : qp_S) : Option (Int32 × qp_S) := (bif qm_cmp .ge (s 22 n0 1) (4 : Int32) then some ((s 22 n0 1), s) else (if qm_inb (s 22 n0 1) 4 = true then some (((qp_up (qp_up (qp_up (qp_up (qp_up s 25 (4 * n0 + ((s 22 n0 1)).toNatClampNeg) 0 a1) 25 (4 * n0 + ((s 22 n0 1)).toNatClampNeg) 1 a2) 25 (4 * n0 + ((s 22 n0 1)).toNatClampNeg) 2 a3) 25 (4 * n0 + ((s 22 n0 1)).toNatClampNeg) 3 a4) 22 n0 1 (((qp_up (qp_up (qp_up (qp_up s 25 (4 * n0 + ((s 22 n0 1)).toNatClampNeg) 0 a1) 25 (4 * n0 + ((s 22 n0 1)).toNatClampNeg) 1 a2) 25 (4 * n0 + ((s 22 n0 1)).toNatClampNeg) 2 a3) 25 (4 * n0 + ((s 22 n0 1)).toNatClampNeg) 3 a4) 22 n0 1) + (1 : Int32))) 22 n0 1), (qp_up (qp_up (qp_up (qp_up (qp_up s 25 (4 * n0 + ((s 22 n0 1)).toNatClampNeg) 0 a1) 25 (4 * n0 + ((s 22 n0 1)).toNatClampNeg) 1 a2) 25 (4 * n0 + ((s 22 n0 1)).toNatClampNeg) 2 a3) 25 (4 * n0 + ((s 22 n0 1)).toNatClampNeg) 3 a4) 22 n0 1 (((qp_up (qp_up (qp_up (qp_up s 25 (4 * n0 + ((s 22 n0 1)).toNatClampNeg) 0 a1) 25 (4 * n0 + ((s 22 n0 1)).toNatClampNeg) 1 a2) 25 (4 * n0 + ((s 22 n0 1)).toNatClampNeg) 2 a3) 25 (4 * n0 + ((s 22 n0 1)).toNatClampNeg) 3 a4) 22 n0 1) + (1 : Int32)))) else none))
theorem qe42 (d : Nat) {L : Nat} {xs : Nat → Int32} {x : Int64} {e : Nat → Nat}    {n0 : Nat} {a1 : Int32} {a2 : Int32} {a3 : Int32} {a4 : Int32} {s : qp_S} {r : Int32 × qp_S} (h : qf42  n0 a1 a2 a3 a4 s = some r) : qm_E (qz_ro L xs) (d + 0) 42 (0, qm_ent 42 [vR 22 n0, vI a1, vI a2, vI a3, vI a4], [], qp_H s x e, (0, 0)) (qf_v r.1 r.2 x e) := by
  unfold qf42 at h
  iterate 3 refine qm_E_next rfl ?_
  rcases qr_cond h with ⟨hb, h⟩ | ⟨hb, h⟩
  · refine qr_t hb rfl ?_
    change qm_E _ _ _ (54, [some (vR 22 n0), some (vI a1), some (vI a2), some (vI a3), some (vI a4), none], [], qp_H s x e, (0, 0)) _
    iterate 2 refine qm_E_next rfl ?_
    cases h
    exact qr_iret (Or.inl rfl) rfl rfl
  · refine qr_f hb rfl ?_
    change qm_E _ _ _ (8, [some (vR 22 n0), some (vI a1), some (vI a2), some (vI a3), some (vI a4), none], [], qp_H s x e, (0, 0)) _
    iterate 4 refine qm_E_next rfl ?_
    obtain ⟨hb, h⟩ := qr_inb h
    refine qr_aaload hb rfl rfl rfl ?_
    change qm_E _ _ _ (17, [some (vR 22 n0), some (vI a1), some (vI a2), some (vI a3), some (vI a4), none], [vR 25 (4 * n0 + ((s 22 n0 1)).toNatClampNeg)], qp_H s x e, (0, 0)) _
    iterate 3 refine qm_E_next rfl ?_
    refine qr_put rfl rfl ?_
    change qm_E _ _ _ (25, [some (vR 22 n0), some (vI a1), some (vI a2), some (vI a3), some (vI a4), some (vR 25 (4 * n0 + ((s 22 n0 1)).toNatClampNeg))], [], qp_H (qp_up s 25 (4 * n0 + ((s 22 n0 1)).toNatClampNeg) 0 a1) x e, (0, 0)) _
    iterate 2 refine qm_E_next rfl ?_
    refine qr_put rfl rfl ?_
    change qm_E _ _ _ (31, [some (vR 22 n0), some (vI a1), some (vI a2), some (vI a3), some (vI a4), some (vR 25 (4 * n0 + ((s 22 n0 1)).toNatClampNeg))], [], qp_H (qp_up (qp_up s 25 (4 * n0 + ((s 22 n0 1)).toNatClampNeg) 0 a1) 25 (4 * n0 + ((s 22 n0 1)).toNatClampNeg) 1 a2) x e, (0, 0)) _
    iterate 2 refine qm_E_next rfl ?_
    refine qr_put rfl rfl ?_
    change qm_E _ _ _ (37, [some (vR 22 n0), some (vI a1), some (vI a2), some (vI a3), some (vI a4), some (vR 25 (4 * n0 + ((s 22 n0 1)).toNatClampNeg))], [], qp_H (qp_up (qp_up (qp_up s 25 (4 * n0 + ((s 22 n0 1)).toNatClampNeg) 0 a1) 25 (4 * n0 + ((s 22 n0 1)).toNatClampNeg) 1 a2) 25 (4 * n0 + ((s 22 n0 1)).toNatClampNeg) 2 a3) x e, (0, 0)) _
    iterate 2 refine qm_E_next rfl ?_
    refine qr_put rfl rfl ?_
    change qm_E _ _ _ (44, [some (vR 22 n0), some (vI a1), some (vI a2), some (vI a3), some (vI a4), some (vR 25 (4 * n0 + ((s 22 n0 1)).toNatClampNeg))], [], qp_H (qp_up (qp_up (qp_up (qp_up s 25 (4 * n0 + ((s 22 n0 1)).toNatClampNeg) 0 a1) 25 (4 * n0 + ((s 22 n0 1)).toNatClampNeg) 1 a2) 25 (4 * n0 + ((s 22 n0 1)).toNatClampNeg) 2 a3) 25 (4 * n0 + ((s 22 n0 1)).toNatClampNeg) 3 a4) x e, (0, 0)) _
    iterate 5 refine qm_E_next rfl ?_
    refine qr_put rfl rfl ?_
    change qm_E _ _ _ (54, [some (vR 22 n0), some (vI a1), some (vI a2), some (vI a3), some (vI a4), some (vR 25 (4 * n0 + ((s 22 n0 1)).toNatClampNeg))], [], qp_H (qp_up (qp_up (qp_up (qp_up (qp_up s 25 (4 * n0 + ((s 22 n0 1)).toNatClampNeg) 0 a1) 25 (4 * n0 + ((s 22 n0 1)).toNatClampNeg) 1 a2) 25 (4 * n0 + ((s 22 n0 1)).toNatClampNeg) 2 a3) 25 (4 * n0 + ((s 22 n0 1)).toNatClampNeg) 3 a4) 22 n0 1 (((qp_up (qp_up (qp_up (qp_up s 25 (4 * n0 + ((s 22 n0 1)).toNatClampNeg) 0 a1) 25 (4 * n0 + ((s 22 n0 1)).toNatClampNeg) 1 a2) 25 (4 * n0 + ((s 22 n0 1)).toNatClampNeg) 2 a3) 25 (4 * n0 + ((s 22 n0 1)).toNatClampNeg) 3 a4) 22 n0 1) + (1 : Int32))) x e, (0, 0)) _
    iterate 2 refine qm_E_next rfl ?_
    cases h
    exact qr_iret (Or.inl rfl) rfl rfl
/-! PeriodKernel guard -/
def qf40_42 (a1 : Int32) (a2 : Int32) (a3 : Int32) (a4 : Int32) (a5 : Int32) (b0 : Int32) (s : qp_S) : Option (Nat ⊕ (Int32 × qp_S)) := ((qf25 b0 s).bind fun z5 => match z5 with | .inl k => some (.inl k) | .inr q5 => ((qf26 s).bind fun z6 => match z6 with | .inl k => some (.inl k) | .inr q6 => (if qm_inb a1 4 = true then ((qf42 (a1).toNatClampNeg a2 a3 a4 a5 s).bind fun q7 => some (.inr ((q7.1), q7.2))) else none)))
theorem qe40_42 (d : Nat) {L : Nat} {xs : Nat → Int32} {x : Int64} {e : Nat → Nat}    {a1 : Int32} {a2 : Int32} {a3 : Int32} {a4 : Int32} {a5 : Int32} {b0 : Int32} {s : qp_S} {r : Nat ⊕ (Int32 × qp_S)} (h : qf40_42  a1 a2 a3 a4 a5 b0 s = some r) : qm_E (qz_ro L xs) (d + 7) 40 (42, [some (vR 1 0), some (vI a1), some (vI a2), some (vI a3), some (vI a4), some (vI a5)], [vI b0], qp_H s x e, (0, 0)) (Sum.elim (fun k => qf_k k s x e) (fun v => qf_v v.1 v.2 x e) r) := by
  unfold qf40_42 at h
  obtain ⟨z5, hq, h⟩ := qs_bd h
  rcases z5 with k | q5
  · cases h
    exact qm_E_out rfl (qe25 (d + 0) hq) rfl
  · refine qm_E_call rfl (qe25 (d + 0) hq) rfl ?_
    change qm_E _ _ _ (45, [some (vR 1 0), some (vI a1), some (vI a2), some (vI a3), some (vI a4), some (vI a5)], [], qp_H s x e, (0, 0)) _
    iterate 1 refine qm_E_next rfl ?_
    obtain ⟨z6, hq, h⟩ := qs_bd h
    rcases z6 with k | q6
    · cases h
      exact qm_E_out rfl (qe26 (d + 0) hq) rfl
    · refine qm_E_call rfl (qe26 (d + 0) hq) rfl ?_
      change qm_E _ _ _ (49, [some (vR 1 0), some (vI a1), some (vI a2), some (vI a3), some (vI a4), some (vI a5)], [], qp_H s x e, (0, 0)) _
      iterate 3 refine qm_E_next rfl ?_
      obtain ⟨hb, h⟩ := qr_inb h
      refine qr_aaload hb rfl rfl rfl ?_
      change qm_E _ _ _ (55, [some (vR 1 0), some (vI a1), some (vI a2), some (vI a3), some (vI a4), some (vI a5)], [vR 22 (a1).toNatClampNeg], qp_H s x e, (0, 0)) _
      iterate 4 refine qm_E_next rfl ?_
      obtain ⟨q7, hq, h⟩ := qs_bd h
      refine qm_E_call rfl (qe42 (d + 6) hq) rfl ?_
      change qm_E _ _ _ (64, [some (vR 1 0), some (vI a1), some (vI a2), some (vI a3), some (vI a4), some (vI a5)], [vI (q7.1)], qp_H q7.2 x e, (0, 0)) _
      cases h
      exact qr_iret (Or.inl rfl) rfl rfl
def qf40_41 (a1 : Int32) (a2 : Int32) (a3 : Int32) (a4 : Int32) (a5 : Int32) (s : qp_S) : Option (Nat ⊕ (Int32 × qp_S)) := qf40_42 a1 a2 a3 a4 a5 (0 : Int32) s
theorem qe40_41 (d : Nat) {L : Nat} {xs : Nat → Int32} {x : Int64} {e : Nat → Nat}    {a1 : Int32} {a2 : Int32} {a3 : Int32} {a4 : Int32} {a5 : Int32} {s : qp_S} {r : Nat ⊕ (Int32 × qp_S)} (h : qf40_41  a1 a2 a3 a4 a5 s = some r) : qm_E (qz_ro L xs) (d + 7) 40 (41, [some (vR 1 0), some (vI a1), some (vI a2), some (vI a3), some (vI a4), some (vI a5)], [], qp_H s x e, (0, 0)) (Sum.elim (fun k => qf_k k s x e) (fun v => qf_v v.1 v.2 x e) r) := by
  unfold qf40_41 at h
  iterate 1 refine qm_E_next rfl ?_
  exact qe40_42 d  h
def qf40 (a1 : Int32) (a2 : Int32) (a3 : Int32) (a4 : Int32) (a5 : Int32) (s : qp_S) : Option (Nat ⊕ (Int32 × qp_S)) := ((qf24 a1 (4 : Int32) s).bind fun z1 => match z1 with | .inl k => some (.inl k) | .inr q1 => ((qf24 a2 (16 : Int32) s).bind fun z2 => match z2 with | .inl k => some (.inl k) | .inr q2 => ((qf24 a5 (4 : Int32) s).bind fun z3 => match z3 with | .inl k => some (.inl k) | .inr q3 => ((qf41 a3 s).bind fun q4 => (bif qm_cmp .eq q4 (0 : Int32) then qf40_41 a1 a2 a3 a4 a5 s else (if qm_inb a1 4 = true then (bif qm_cmp .ge (s 22 (a1).toNatClampNeg 1) (4 : Int32) then qf40_41 a1 a2 a3 a4 a5 s else qf40_42 a1 a2 a3 a4 a5 (1 : Int32) s) else none))))))
theorem qe40 (d : Nat) {L : Nat} {xs : Nat → Int32} {x : Int64} {e : Nat → Nat}    {a1 : Int32} {a2 : Int32} {a3 : Int32} {a4 : Int32} {a5 : Int32} {s : qp_S} {r : Nat ⊕ (Int32 × qp_S)} (h : qf40  a1 a2 a3 a4 a5 s = some r) : qm_E (qz_ro L xs) (d + 7) 40 (0, qm_ent 40 [vR 1 0, vI a1, vI a2, vI a3, vI a4, vI a5], [], qp_H s x e, (0, 0)) (Sum.elim (fun k => qf_k k s x e) (fun v => qf_v v.1 v.2 x e) r) := by
  unfold qf40 at h
  iterate 2 refine qm_E_next rfl ?_
  obtain ⟨z1, hq, h⟩ := qs_bd h
  rcases z1 with k | q1
  · cases h
    exact qm_E_out rfl (qe24 (d + 0) hq) rfl
  · refine qm_E_call rfl (qe24 (d + 0) hq) rfl ?_
    change qm_E _ _ _ (5, [some (vR 1 0), some (vI a1), some (vI a2), some (vI a3), some (vI a4), some (vI a5)], [], qp_H s x e, (0, 0)) _
    iterate 2 refine qm_E_next rfl ?_
    obtain ⟨z2, hq, h⟩ := qs_bd h
    rcases z2 with k | q2
    · cases h
      exact qm_E_out rfl (qe24 (d + 0) hq) rfl
    · refine qm_E_call rfl (qe24 (d + 0) hq) rfl ?_
      change qm_E _ _ _ (11, [some (vR 1 0), some (vI a1), some (vI a2), some (vI a3), some (vI a4), some (vI a5)], [], qp_H s x e, (0, 0)) _
      iterate 2 refine qm_E_next rfl ?_
      obtain ⟨z3, hq, h⟩ := qs_bd h
      rcases z3 with k | q3
      · cases h
        exact qm_E_out rfl (qe24 (d + 0) hq) rfl
      · refine qm_E_call rfl (qe24 (d + 0) hq) rfl ?_
        change qm_E _ _ _ (17, [some (vR 1 0), some (vI a1), some (vI a2), some (vI a3), some (vI a4), some (vI a5)], [], qp_H s x e, (0, 0)) _
        iterate 1 refine qm_E_next rfl ?_
        obtain ⟨q4, hq, h⟩ := qs_bd h
        refine qm_E_call rfl (qe41 (d + 6) hq) rfl ?_
        change qm_E _ _ _ (21, [some (vR 1 0), some (vI a1), some (vI a2), some (vI a3), some (vI a4), some (vI a5)], [vI q4], qp_H s x e, (0, 0)) _
        rcases qr_cond h with ⟨hb, h⟩ | ⟨hb, h⟩
        · refine qr_t hb rfl ?_
          exact qe40_41 d  h
        · refine qr_f hb rfl ?_
          change qm_E _ _ _ (24, [some (vR 1 0), some (vI a1), some (vI a2), some (vI a3), some (vI a4), some (vI a5)], [], qp_H s x e, (0, 0)) _
          iterate 3 refine qm_E_next rfl ?_
          obtain ⟨hb, h⟩ := qr_inb h
          refine qr_aaload hb rfl rfl rfl ?_
          change qm_E _ _ _ (30, [some (vR 1 0), some (vI a1), some (vI a2), some (vI a3), some (vI a4), some (vI a5)], [vR 22 (a1).toNatClampNeg], qp_H s x e, (0, 0)) _
          iterate 2 refine qm_E_next rfl ?_
          rcases qr_cond h with ⟨hb, h⟩ | ⟨hb, h⟩
          · refine qr_t hb rfl ?_
            exact qe40_41 d  h
          · refine qr_f hb rfl ?_
            change qm_E _ _ _ (37, [some (vR 1 0), some (vI a1), some (vI a2), some (vI a3), some (vI a4), some (vI a5)], [], qp_H s x e, (0, 0)) _
            iterate 2 refine qm_E_next rfl ?_
            exact qe40_42 d  h
/-! PeriodKernel checkBinding -/
def qf45 (a0 : Int32) (s : qp_S) : Option (Nat ⊕ (Int32)) := (bif qm_cmp .eq a0 (-1 : Int32) then some (.inr 0) else ((qf24 a0 (16 : Int32) s).bind fun z1 => match z1 with | .inl k => some (.inl k) | .inr q1 => some (.inr 0)))
theorem qe45 (d : Nat) {L : Nat} {xs : Nat → Int32} {x : Int64} {e : Nat → Nat}    {a0 : Int32} {s : qp_S} {r : Nat ⊕ (Int32)} (h : qf45  a0 s = some r) : qm_E (qz_ro L xs) (d + 7) 45 (0, qm_ent 45 [vI a0], [], qp_H s x e, (0, 0)) (Sum.elim (fun k => qf_k k s x e) (fun v => qf_u s x e) r) := by
  unfold qf45 at h
  iterate 2 refine qm_E_next rfl ?_
  rcases qr_cond h with ⟨hb, h⟩ | ⟨hb, h⟩
  · refine qr_t hb rfl ?_
    change qm_E _ _ _ (11, [some (vI a0)], [], qp_H s x e, (0, 0)) _
    cases h
    exact qr_ret rfl rfl rfl
  · refine qr_f hb rfl ?_
    change qm_E _ _ _ (5, [some (vI a0)], [], qp_H s x e, (0, 0)) _
    iterate 2 refine qm_E_next rfl ?_
    obtain ⟨z1, hq, h⟩ := qs_bd h
    rcases z1 with k | q1
    · cases h
      exact qm_E_out rfl (qe24 (d + 0) hq) rfl
    · refine qm_E_call rfl (qe24 (d + 0) hq) rfl ?_
      change qm_E _ _ _ (11, [some (vI a0)], [], qp_H s x e, (0, 0)) _
      cases h
      exact qr_ret rfl rfl rfl
/-! PeriodKernel sense -/
def qf44 (a1 : Int32) (a2 : Int32) (s : qp_S) : Option (Nat ⊕ (Int32 × qp_S)) := ((qf24 a1 (8 : Int32) s).bind fun z1 => match z1 with | .inl k => some (.inl k) | .inr q1 => ((qf45 a2 s).bind fun z2 => match z2 with | .inl k => some (.inl k) | .inr q2 => ((qf26 s).bind fun z3 => match z3 with | .inl k => some (.inl k) | .inr q3 => (if qm_inb a1 8 = true then some (.inr (0, (qp_up s 5 0 (a1).toNatClampNeg a2))) else none))))
theorem qe44 (d : Nat) {L : Nat} {xs : Nat → Int32} {x : Int64} {e : Nat → Nat}    {a1 : Int32} {a2 : Int32} {s : qp_S} {r : Nat ⊕ (Int32 × qp_S)} (h : qf44  a1 a2 s = some r) : qm_E (qz_ro L xs) (d + 8) 44 (0, qm_ent 44 [vR 1 0, vI a1, vI a2], [], qp_H s x e, (0, 0)) (Sum.elim (fun k => qf_k k s x e) (fun v => qf_u v.2 x e) r) := by
  unfold qf44 at h
  iterate 2 refine qm_E_next rfl ?_
  obtain ⟨z1, hq, h⟩ := qs_bd h
  rcases z1 with k | q1
  · cases h
    exact qm_E_out rfl (qe24 (d + 1) hq) rfl
  · refine qm_E_call rfl (qe24 (d + 1) hq) rfl ?_
    change qm_E _ _ _ (6, [some (vR 1 0), some (vI a1), some (vI a2)], [], qp_H s x e, (0, 0)) _
    iterate 1 refine qm_E_next rfl ?_
    obtain ⟨z2, hq, h⟩ := qs_bd h
    rcases z2 with k | q2
    · cases h
      exact qm_E_out rfl (qe45 (d + 0) hq) rfl
    · refine qm_E_call rfl (qe45 (d + 0) hq) rfl ?_
      change qm_E _ _ _ (10, [some (vR 1 0), some (vI a1), some (vI a2)], [], qp_H s x e, (0, 0)) _
      iterate 1 refine qm_E_next rfl ?_
      obtain ⟨z3, hq, h⟩ := qs_bd h
      rcases z3 with k | q3
      · cases h
        exact qm_E_out rfl (qe26 (d + 1) hq) rfl
      · refine qm_E_call rfl (qe26 (d + 1) hq) rfl ?_
        change qm_E _ _ _ (14, [some (vR 1 0), some (vI a1), some (vI a2)], [], qp_H s x e, (0, 0)) _
        iterate 4 refine qm_E_next rfl ?_
        obtain ⟨hb, h⟩ := qr_inb h
        refine qr_iastore hb rfl rfl rfl rfl rfl ?_
        change qm_E _ _ _ (21, [some (vR 1 0), some (vI a1), some (vI a2)], [], qp_H (qp_up s 5 0 (a1).toNatClampNeg a2) x e, (0, 0)) _
        cases h
        exact qr_ret rfl rfl rfl
/-! PeriodKernel actuate -/
def qf47 (a1 : Int32) (a2 : Int32) (s : qp_S) : Option (Nat ⊕ (Int32 × qp_S)) := ((qf24 a1 (8 : Int32) s).bind fun z1 => match z1 with | .inl k => some (.inl k) | .inr q1 => ((qf45 a2 s).bind fun z2 => match z2 with | .inl k => some (.inl k) | .inr q2 => ((qf26 s).bind fun z3 => match z3 with | .inl k => some (.inl k) | .inr q3 => (if qm_inb a1 8 = true then some (.inr (0, (qp_up s 26 (a1).toNatClampNeg 0 a2))) else none))))
theorem qe47 (d : Nat) {L : Nat} {xs : Nat → Int32} {x : Int64} {e : Nat → Nat}    {a1 : Int32} {a2 : Int32} {s : qp_S} {r : Nat ⊕ (Int32 × qp_S)} (h : qf47  a1 a2 s = some r) : qm_E (qz_ro L xs) (d + 8) 47 (0, qm_ent 47 [vR 1 0, vI a1, vI a2], [], qp_H s x e, (0, 0)) (Sum.elim (fun k => qf_k k s x e) (fun v => qf_u v.2 x e) r) := by
  unfold qf47 at h
  iterate 2 refine qm_E_next rfl ?_
  obtain ⟨z1, hq, h⟩ := qs_bd h
  rcases z1 with k | q1
  · cases h
    exact qm_E_out rfl (qe24 (d + 1) hq) rfl
  · refine qm_E_call rfl (qe24 (d + 1) hq) rfl ?_
    change qm_E _ _ _ (6, [some (vR 1 0), some (vI a1), some (vI a2)], [], qp_H s x e, (0, 0)) _
    iterate 1 refine qm_E_next rfl ?_
    obtain ⟨z2, hq, h⟩ := qs_bd h
    rcases z2 with k | q2
    · cases h
      exact qm_E_out rfl (qe45 (d + 0) hq) rfl
    · refine qm_E_call rfl (qe45 (d + 0) hq) rfl ?_
      change qm_E _ _ _ (10, [some (vR 1 0), some (vI a1), some (vI a2)], [], qp_H s x e, (0, 0)) _
      iterate 1 refine qm_E_next rfl ?_
      obtain ⟨z3, hq, h⟩ := qs_bd h
      rcases z3 with k | q3
      · cases h
        exact qm_E_out rfl (qe26 (d + 1) hq) rfl
      · refine qm_E_call rfl (qe26 (d + 1) hq) rfl ?_
        change qm_E _ _ _ (14, [some (vR 1 0), some (vI a1), some (vI a2)], [], qp_H s x e, (0, 0)) _
        iterate 3 refine qm_E_next rfl ?_
        obtain ⟨hb, h⟩ := qr_inb h
        refine qr_aaload hb rfl rfl rfl ?_
        change qm_E _ _ _ (20, [some (vR 1 0), some (vI a1), some (vI a2)], [vR 26 (a1).toNatClampNeg], qp_H s x e, (0, 0)) _
        iterate 1 refine qm_E_next rfl ?_
        refine qr_put rfl rfl ?_
        change qm_E _ _ _ (24, [some (vR 1 0), some (vI a1), some (vI a2)], [], qp_H (qp_up s 26 (a1).toNatClampNeg 0 a2) x e, (0, 0)) _
        cases h
        exact qr_ret rfl rfl rfl
/-! PeriodKernel.Mode uses -/
def qf53 (n0 : Nat) (a1 : Int32) (s : qp_S) : Option (Int32) := (bif qm_cmp .le (s 22 n0 0) (0 : Int32) then some (0 : Int32) else (if qm_inb a1 8 = true then (bif qm_cmp .le (s 23 n0 (a1).toNatClampNeg) (0 : Int32) then some (0 : Int32) else some (1 : Int32)) else none))
theorem qe53 (d : Nat) {L : Nat} {xs : Nat → Int32} {x : Int64} {e : Nat → Nat}    {n0 : Nat} {a1 : Int32} {s : qp_S} {r : Int32} (h : qf53  n0 a1 s = some r) : qm_E (qz_ro L xs) (d + 0) 53 (0, qm_ent 53 [vR 22 n0, vI a1], [], qp_H s x e, (0, 0)) (qf_v r s x e) := by
  unfold qf53 at h
  iterate 2 refine qm_E_next rfl ?_
  rcases qr_cond h with ⟨hb, h⟩ | ⟨hb, h⟩
  · refine qr_t hb rfl ?_
    change qm_E _ _ _ (20, [some (vR 22 n0), some (vI a1)], [], qp_H s x e, (0, 0)) _
    iterate 1 refine qm_E_next rfl ?_
    cases h
    exact qr_iret (Or.inr ⟨rfl, Or.inl rfl⟩) rfl rfl
  · refine qr_f hb rfl ?_
    change qm_E _ _ _ (7, [some (vR 22 n0), some (vI a1)], [], qp_H s x e, (0, 0)) _
    iterate 3 refine qm_E_next rfl ?_
    obtain ⟨hb, h⟩ := qr_inb h
    refine qr_iaload hb rfl rfl rfl rfl ?_
    change qm_E _ _ _ (13, [some (vR 22 n0), some (vI a1)], [vI (s 23 n0 (a1).toNatClampNeg)], qp_H s x e, (0, 0)) _
    rcases qr_cond h with ⟨hb, h⟩ | ⟨hb, h⟩
    · refine qr_t hb rfl ?_
      change qm_E _ _ _ (20, [some (vR 22 n0), some (vI a1)], [], qp_H s x e, (0, 0)) _
      iterate 1 refine qm_E_next rfl ?_
      cases h
      exact qr_iret (Or.inr ⟨rfl, Or.inl rfl⟩) rfl rfl
    · refine qr_f hb rfl ?_
      change qm_E _ _ _ (16, [some (vR 22 n0), some (vI a1)], [], qp_H s x e, (0, 0)) _
      iterate 2 refine qm_E_next rfl ?_
      cases h
      exact qr_iret (Or.inr ⟨rfl, Or.inr rfl⟩) rfl rfl
/-! PeriodKernel.ProgramLook isUsed -/
def qf52_2  : Nat → Int32 → Int32 → qp_S → Option (Int32)
  | 0, _, _, _ => none
  | n + 1, a1, a2, s => (bif qm_cmp .ge a2 (4 : Int32) then some (0 : Int32) else (if qm_inb a2 4 = true then ((qf53 (a2).toNatClampNeg a1 s).bind fun q1 => (bif qm_cmp .eq q1 (0 : Int32) then qf52_2  n a1 (a2 + (1 : Int32)) s else some (1 : Int32))) else none))
theorem qe52_2 (d : Nat) {L : Nat} {xs : Nat → Int32} {x : Int64} {e : Nat → Nat}   : ∀ {n : Nat}  {a1 : Int32} {a2 : Int32} {s : qp_S} {r : Int32}, qf52_2  n a1 a2 s = some r → qm_E (qz_ro L xs) (d + 1) 52 (2, [some (vR 4 0), some (vI a1), some (vI a2)], [], qp_H s x e, (0, 0)) (qf_v r s x e) := by
  intro n
  induction n with
  | zero => intro  a1 a2 s r h; cases h
  | succ n ih =>
    intro  a1 a2 s r h
    unfold qf52_2 at h
    iterate 2 refine qm_E_next rfl ?_
    rcases qr_cond h with ⟨hb, h⟩ | ⟨hb, h⟩
    · refine qr_t hb rfl ?_
      change qm_E _ _ _ (25, [some (vR 4 0), some (vI a1), some (vI a2)], [], qp_H s x e, (0, 0)) _
      iterate 1 refine qm_E_next rfl ?_
      cases h
      exact qr_iret (Or.inr ⟨rfl, Or.inl rfl⟩) rfl rfl
    · refine qr_f hb rfl ?_
      change qm_E _ _ _ (7, [some (vR 4 0), some (vI a1), some (vI a2)], [], qp_H s x e, (0, 0)) _
      iterate 2 refine qm_E_next rfl ?_
      obtain ⟨hb, h⟩ := qr_inb h
      refine qr_aaload hb rfl rfl rfl ?_
      change qm_E _ _ _ (10, [some (vR 4 0), some (vI a1), some (vI a2)], [vR 22 (a2).toNatClampNeg], qp_H s x e, (0, 0)) _
      iterate 1 refine qm_E_next rfl ?_
      obtain ⟨q1, hq, h⟩ := qs_bd h
      refine qm_E_call rfl (qe53 (d + 0) hq) rfl ?_
      change qm_E _ _ _ (14, [some (vR 4 0), some (vI a1), some (vI a2)], [vI q1], qp_H s x e, (0, 0)) _
      rcases qr_cond h with ⟨hb, h⟩ | ⟨hb, h⟩
      · refine qr_t hb rfl ?_
        change qm_E _ _ _ (19, [some (vR 4 0), some (vI a1), some (vI a2)], [], qp_H s x e, (0, 0)) _
        iterate 2 refine qm_E_next rfl ?_
        exact ih h
      · refine qr_f hb rfl ?_
        change qm_E _ _ _ (17, [some (vR 4 0), some (vI a1), some (vI a2)], [], qp_H s x e, (0, 0)) _
        iterate 1 refine qm_E_next rfl ?_
        cases h
        exact qr_iret (Or.inr ⟨rfl, Or.inr rfl⟩) rfl rfl
def qf52 (a1 : Int32) (s : qp_S) : Option (Int32) := qf52_2 4096 a1 (0 : Int32) s
theorem qe52 (d : Nat) {L : Nat} {xs : Nat → Int32} {x : Int64} {e : Nat → Nat}    {a1 : Int32} {s : qp_S} {r : Int32} (h : qf52  a1 s = some r) : qm_E (qz_ro L xs) (d + 1) 52 (0, qm_ent 52 [vR 4 0, vI a1], [], qp_H s x e, (0, 0)) (qf_v r s x e) := by
  unfold qf52 at h
  iterate 2 refine qm_E_next rfl ?_
  exact qe52_2 d  h
/-! PeriodKernel.CodeLook comeTo -/
def qf55 (n1 : Nat) (a2 : Int32) (a3 : Int32) (s : qp_S) : Option (Int32 × qp_S) := ((qf13 a2 (s 14 n1 1) s).bind fun q1 => (bif qm_cmp .eq q1 (0 : Int32) then some ((0 : Int32), s) else (bif qm_cmp .le a3 (8 : Int32) then (if qm_inb a2 32 = true then (bif qm_cmp .eq (s 12 0 (a2).toNatClampNeg) (-1 : Int32) then (if qm_inb a2 32 = true then (if qm_inb ((qp_up s 12 0 (a2).toNatClampNeg a3) 11 0 2) 32 = true then some ((1 : Int32), (qp_up (qp_up (qp_up s 12 0 (a2).toNatClampNeg a3) 13 0 (((qp_up s 12 0 (a2).toNatClampNeg a3) 11 0 2)).toNatClampNeg a2) 11 0 2 (((qp_up (qp_up s 12 0 (a2).toNatClampNeg a3) 13 0 (((qp_up s 12 0 (a2).toNatClampNeg a3) 11 0 2)).toNatClampNeg a2) 11 0 2) + (1 : Int32)))) else none) else none) else (if qm_inb a2 32 = true then (bif qm_cmp .ne (s 12 0 (a2).toNatClampNeg) a3 then some ((0 : Int32), s) else some ((1 : Int32), s)) else none)) else none) else some ((0 : Int32), s))))
theorem qe55 (d : Nat) {L : Nat} {xs : Nat → Int32} {x : Int64} {e : Nat → Nat}    {n1 : Nat} {a2 : Int32} {a3 : Int32} {s : qp_S} {r : Int32 × qp_S} (h : qf55  n1 a2 a3 s = some r) : qm_E (qz_ro L xs) (d + 1) 55 (0, qm_ent 55 [vR 11 0, vR 14 n1, vI a2, vI a3], [], qp_H s x e, (0, 0)) (qf_v r.1 r.2 x e) := by
  unfold qf55 at h
  iterate 3 refine qm_E_next rfl ?_
  obtain ⟨q1, hq, h⟩ := qs_bd h
  refine qm_E_call rfl (qe13 (d + 0) hq) rfl ?_
  change qm_E _ _ _ (8, [some (vR 11 0), some (vR 14 n1), some (vI a2), some (vI a3)], [vI q1], qp_H s x e, (0, 0)) _
  rcases qr_cond h with ⟨hb, h⟩ | ⟨hb, h⟩
  · refine qr_t hb rfl ?_
    change qm_E _ _ _ (17, [some (vR 11 0), some (vR 14 n1), some (vI a2), some (vI a3)], [], qp_H s x e, (0, 0)) _
    iterate 1 refine qm_E_next rfl ?_
    cases h
    exact qr_iret (Or.inr ⟨rfl, Or.inl rfl⟩) rfl rfl
  · refine qr_f hb rfl ?_
    change qm_E _ _ _ (11, [some (vR 11 0), some (vR 14 n1), some (vI a2), some (vI a3)], [], qp_H s x e, (0, 0)) _
    iterate 2 refine qm_E_next rfl ?_
    rcases qr_cond h with ⟨hb, h⟩ | ⟨hb, h⟩
    · refine qr_t hb rfl ?_
      change qm_E _ _ _ (19, [some (vR 11 0), some (vR 14 n1), some (vI a2), some (vI a3)], [], qp_H s x e, (0, 0)) _
      iterate 3 refine qm_E_next rfl ?_
      obtain ⟨hb, h⟩ := qr_inb h
      refine qr_iaload hb rfl rfl rfl rfl ?_
      change qm_E _ _ _ (25, [some (vR 11 0), some (vR 14 n1), some (vI a2), some (vI a3)], [vI (s 12 0 (a2).toNatClampNeg)], qp_H s x e, (0, 0)) _
      iterate 1 refine qm_E_next rfl ?_
      rcases qr_cond h with ⟨hb, h⟩ | ⟨hb, h⟩
      · refine qr_t hb rfl ?_
        change qm_E _ _ _ (45, [some (vR 11 0), some (vR 14 n1), some (vI a2), some (vI a3)], [], qp_H s x e, (0, 0)) _
        iterate 4 refine qm_E_next rfl ?_
        obtain ⟨hb, h⟩ := qr_inb h
        refine qr_iastore hb rfl rfl rfl rfl rfl ?_
        change qm_E _ _ _ (52, [some (vR 11 0), some (vR 14 n1), some (vI a2), some (vI a3)], [], qp_H (qp_up s 12 0 (a2).toNatClampNeg a3) x e, (0, 0)) _
        iterate 5 refine qm_E_next rfl ?_
        obtain ⟨hb, h⟩ := qr_inb h
        refine qr_iastore hb rfl rfl rfl rfl rfl ?_
        change qm_E _ _ _ (62, [some (vR 11 0), some (vR 14 n1), some (vI a2), some (vI a3)], [], qp_H (qp_up (qp_up s 12 0 (a2).toNatClampNeg a3) 13 0 (((qp_up s 12 0 (a2).toNatClampNeg a3) 11 0 2)).toNatClampNeg a2) x e, (0, 0)) _
        iterate 5 refine qm_E_next rfl ?_
        refine qr_put rfl rfl ?_
        change qm_E _ _ _ (72, [some (vR 11 0), some (vR 14 n1), some (vI a2), some (vI a3)], [], qp_H (qp_up (qp_up (qp_up s 12 0 (a2).toNatClampNeg a3) 13 0 (((qp_up s 12 0 (a2).toNatClampNeg a3) 11 0 2)).toNatClampNeg a2) 11 0 2 (((qp_up (qp_up s 12 0 (a2).toNatClampNeg a3) 13 0 (((qp_up s 12 0 (a2).toNatClampNeg a3) 11 0 2)).toNatClampNeg a2) 11 0 2) + (1 : Int32))) x e, (0, 0)) _
        iterate 1 refine qm_E_next rfl ?_
        cases h
        exact qr_iret (Or.inr ⟨rfl, Or.inr rfl⟩) rfl rfl
      · refine qr_f hb rfl ?_
        change qm_E _ _ _ (29, [some (vR 11 0), some (vR 14 n1), some (vI a2), some (vI a3)], [], qp_H s x e, (0, 0)) _
        iterate 3 refine qm_E_next rfl ?_
        obtain ⟨hb, h⟩ := qr_inb h
        refine qr_iaload hb rfl rfl rfl rfl ?_
        change qm_E _ _ _ (35, [some (vR 11 0), some (vR 14 n1), some (vI a2), some (vI a3)], [vI (s 12 0 (a2).toNatClampNeg)], qp_H s x e, (0, 0)) _
        iterate 1 refine qm_E_next rfl ?_
        rcases qr_cond h with ⟨hb, h⟩ | ⟨hb, h⟩
        · refine qr_t hb rfl ?_
          change qm_E _ _ _ (43, [some (vR 11 0), some (vR 14 n1), some (vI a2), some (vI a3)], [], qp_H s x e, (0, 0)) _
          iterate 1 refine qm_E_next rfl ?_
          cases h
          exact qr_iret (Or.inr ⟨rfl, Or.inl rfl⟩) rfl rfl
        · refine qr_f hb rfl ?_
          change qm_E _ _ _ (39, [some (vR 11 0), some (vR 14 n1), some (vI a2), some (vI a3)], [], qp_H s x e, (0, 0)) _
          iterate 2 refine qm_E_next rfl ?_
          cases h
          exact qr_iret (Or.inr ⟨rfl, Or.inr rfl⟩) rfl rfl
    · refine qr_f hb rfl ?_
      change qm_E _ _ _ (17, [some (vR 11 0), some (vR 14 n1), some (vI a2), some (vI a3)], [], qp_H s x e, (0, 0)) _
      iterate 1 refine qm_E_next rfl ?_
      cases h
      exact qr_iret (Or.inr ⟨rfl, Or.inl rfl⟩) rfl rfl
/-! PeriodKernel.Task wordAt -/
def qf57 (n0 : Nat) (a1 : Int32) (s : qp_S) : Option (Int32) := ((qf13 a1 (s 14 n0 1) s).bind fun q1 => (bif qm_cmp .eq q1 (0 : Int32) then some (0 : Int32) else (if qm_inb a1 32 = true then some (s 17 n0 (a1).toNatClampNeg) else none)))
theorem qe57 (d : Nat) {L : Nat} {xs : Nat → Int32} {x : Int64} {e : Nat → Nat}    {n0 : Nat} {a1 : Int32} {s : qp_S} {r : Int32} (h : qf57  n0 a1 s = some r) : qm_E (qz_ro L xs) (d + 1) 57 (0, qm_ent 57 [vR 14 n0, vI a1], [], qp_H s x e, (0, 0)) (qf_v r s x e) := by
  unfold qf57 at h
  iterate 3 refine qm_E_next rfl ?_
  obtain ⟨q1, hq, h⟩ := qs_bd h
  refine qm_E_call rfl (qe13 (d + 0) hq) rfl ?_
  change qm_E _ _ _ (8, [some (vR 14 n0), some (vI a1)], [vI q1], qp_H s x e, (0, 0)) _
  rcases qr_cond h with ⟨hb, h⟩ | ⟨hb, h⟩
  · refine qr_t hb rfl ?_
    change qm_E _ _ _ (20, [some (vR 14 n0), some (vI a1)], [], qp_H s x e, (0, 0)) _
    iterate 1 refine qm_E_next rfl ?_
    cases h
    exact qr_iret (Or.inl rfl) rfl rfl
  · refine qr_f hb rfl ?_
    change qm_E _ _ _ (11, [some (vR 14 n0), some (vI a1)], [], qp_H s x e, (0, 0)) _
    iterate 3 refine qm_E_next rfl ?_
    obtain ⟨hb, h⟩ := qr_inb h
    refine qr_iaload hb rfl rfl rfl rfl ?_
    change qm_E _ _ _ (17, [some (vR 14 n0), some (vI a1)], [vI (s 17 n0 (a1).toNatClampNeg)], qp_H s x e, (0, 0)) _
    iterate 1 refine qm_E_next rfl ?_
    cases h
    exact qr_iret (Or.inl rfl) rfl rfl
/-! PeriodKernel.Word what -/
def qf58 (a0 : Int32) (s : qp_S) : Option (Int32) := some (a0 &&& (63 : Int32))
theorem qe58 (d : Nat) {L : Nat} {xs : Nat → Int32} {x : Int64} {e : Nat → Nat}    {a0 : Int32} {s : qp_S} {r : Int32} (h : qf58  a0 s = some r) : qm_E (qz_ro L xs) (d + 0) 58 (0, qm_ent 58 [vI a0], [], qp_H s x e, (0, 0)) (qf_v r s x e) := by
  unfold qf58 at h
  iterate 3 refine qm_E_next rfl ?_
  cases h
  exact qr_iret (Or.inl rfl) rfl rfl
/-! PeriodKernel.Word number -/
def qf59 (a0 : Int32) (s : qp_S) : Option (Int32) := some (a0 >>> ((6 : Int32) &&& 31))
theorem qe59 (d : Nat) {L : Nat} {xs : Nat → Int32} {x : Int64} {e : Nat → Nat}    {a0 : Int32} {s : qp_S} {r : Int32} (h : qf59  a0 s = some r) : qm_E (qz_ro L xs) (d + 0) 59 (0, qm_ent 59 [vI a0], [], qp_H s x e, (0, 0)) (qf_v r s x e) := by
  unfold qf59 at h
  iterate 3 refine qm_E_next rfl ?_
  cases h
  exact qr_iret (Or.inl rfl) rfl rfl
/-! PeriodKernel.Word isTold -/
def qf60 (a0 : Int32) (a1 : Int32) (s : qp_S) : Option (Int32) := (bif decide ((a0).toInt < 1 ∨ 16 < (a0).toInt) then ((qf13 a0 (17 : Int32) s).bind fun q1 => (bif qm_cmp .eq q1 (0 : Int32) then some (0 : Int32) else (bif qm_cmp .ne a1 (0 : Int32) then some (0 : Int32) else some (1 : Int32)))) else (bif decide (a0 = (1 : Int32)) then some (1 : Int32) else (bif decide (a0 = (2 : Int32)) then ((qf13 a1 (6 : Int32) s).bind fun q2 => (if (q2 = 0 ∨ q2 = 1) then some q2 else none)) else (bif decide (a0 = (3 : Int32)) then ((qf13 a1 (6 : Int32) s).bind fun q3 => (if (q3 = 0 ∨ q3 = 1) then some q3 else none)) else (bif decide (a0 = (4 : Int32)) then ((qf13 a0 (17 : Int32) s).bind fun q4 => (bif qm_cmp .eq q4 (0 : Int32) then some (0 : Int32) else (bif qm_cmp .ne a1 (0 : Int32) then some (0 : Int32) else some (1 : Int32)))) else (bif decide (a0 = (5 : Int32)) then ((qf13 a0 (17 : Int32) s).bind fun q5 => (bif qm_cmp .eq q5 (0 : Int32) then some (0 : Int32) else (bif qm_cmp .ne a1 (0 : Int32) then some (0 : Int32) else some (1 : Int32)))) else (bif decide (a0 = (6 : Int32)) then ((qf13 a0 (17 : Int32) s).bind fun q6 => (bif qm_cmp .eq q6 (0 : Int32) then some (0 : Int32) else (bif qm_cmp .ne a1 (0 : Int32) then some (0 : Int32) else some (1 : Int32)))) else (bif decide (a0 = (7 : Int32)) then ((qf13 a0 (17 : Int32) s).bind fun q7 => (bif qm_cmp .eq q7 (0 : Int32) then some (0 : Int32) else (bif qm_cmp .ne a1 (0 : Int32) then some (0 : Int32) else some (1 : Int32)))) else (bif decide (a0 = (8 : Int32)) then ((qf13 a0 (17 : Int32) s).bind fun q8 => (bif qm_cmp .eq q8 (0 : Int32) then some (0 : Int32) else (bif qm_cmp .ne a1 (0 : Int32) then some (0 : Int32) else some (1 : Int32)))) else (bif decide (a0 = (9 : Int32)) then ((qf13 a0 (17 : Int32) s).bind fun q9 => (bif qm_cmp .eq q9 (0 : Int32) then some (0 : Int32) else (bif qm_cmp .ne a1 (0 : Int32) then some (0 : Int32) else some (1 : Int32)))) else (bif decide (a0 = (10 : Int32)) then some (1 : Int32) else (bif decide (a0 = (11 : Int32)) then some (1 : Int32) else (bif decide (a0 = (12 : Int32)) then ((qf13 a0 (17 : Int32) s).bind fun q10 => (bif qm_cmp .eq q10 (0 : Int32) then some (0 : Int32) else (bif qm_cmp .ne a1 (0 : Int32) then some (0 : Int32) else some (1 : Int32)))) else (bif decide (a0 = (13 : Int32)) then ((qf13 a0 (17 : Int32) s).bind fun q11 => (bif qm_cmp .eq q11 (0 : Int32) then some (0 : Int32) else (bif qm_cmp .ne a1 (0 : Int32) then some (0 : Int32) else some (1 : Int32)))) else (bif decide (a0 = (14 : Int32)) then ((qf13 a0 (17 : Int32) s).bind fun q12 => (bif qm_cmp .eq q12 (0 : Int32) then some (0 : Int32) else (bif qm_cmp .ne a1 (0 : Int32) then some (0 : Int32) else some (1 : Int32)))) else (bif decide (a0 = (15 : Int32)) then ((qf13 a1 (4 : Int32) s).bind fun q13 => (if (q13 = 0 ∨ q13 = 1) then some q13 else none)) else (bif decide (a0 = (16 : Int32)) then ((qf13 a1 (4 : Int32) s).bind fun q14 => (if (q14 = 0 ∨ q14 = 1) then some q14 else none)) else none)))))))))))))))))
theorem qe60 (d : Nat) {L : Nat} {xs : Nat → Int32} {x : Int64} {e : Nat → Nat}    {a0 : Int32} {a1 : Int32} {s : qp_S} {r : Int32} (h : qf60  a0 a1 s = some r) : qm_E (qz_ro L xs) (d + 1) 60 (0, qm_ent 60 [vI a0, vI a1], [], qp_H s x e, (0, 0)) (qf_v r s x e) := by
  unfold qf60 at h
  iterate 1 refine qm_E_next rfl ?_
  rcases qr_cond h with ⟨hb, h⟩ | ⟨-, h⟩
  · refine qr_tsd hb rfl rfl rfl ?_
    change qm_E _ _ _ (95, [some (vI a0), some (vI a1)], [], qp_H s x e, (0, 0)) _
    iterate 2 refine qm_E_next rfl ?_
    obtain ⟨q1, hq, h⟩ := qs_bd h
    refine qm_E_call rfl (qe13 (d + 0) hq) rfl ?_
    change qm_E _ _ _ (101, [some (vI a0), some (vI a1)], [vI q1], qp_H s x e, (0, 0)) _
    rcases qr_cond h with ⟨hb, h⟩ | ⟨hb, h⟩
    · refine qr_t hb rfl ?_
      change qm_E _ _ _ (112, [some (vI a0), some (vI a1)], [], qp_H s x e, (0, 0)) _
      iterate 1 refine qm_E_next rfl ?_
      cases h
      exact qr_iret (Or.inr ⟨rfl, Or.inl rfl⟩) rfl rfl
    · refine qr_f hb rfl ?_
      change qm_E _ _ _ (104, [some (vI a0), some (vI a1)], [], qp_H s x e, (0, 0)) _
      iterate 1 refine qm_E_next rfl ?_
      rcases qr_cond h with ⟨hb, h⟩ | ⟨hb, h⟩
      · refine qr_t hb rfl ?_
        change qm_E _ _ _ (112, [some (vI a0), some (vI a1)], [], qp_H s x e, (0, 0)) _
        iterate 1 refine qm_E_next rfl ?_
        cases h
        exact qr_iret (Or.inr ⟨rfl, Or.inl rfl⟩) rfl rfl
      · refine qr_f hb rfl ?_
        change qm_E _ _ _ (108, [some (vI a0), some (vI a1)], [], qp_H s x e, (0, 0)) _
        iterate 2 refine qm_E_next rfl ?_
        cases h
        exact qr_iret (Or.inr ⟨rfl, Or.inr rfl⟩) rfl rfl
  · rcases qr_cond h with ⟨hb, h⟩ | ⟨-, h⟩
    · refine qr_tsv hb rfl ?_
      change qm_E _ _ _ (80, [some (vI a0), some (vI a1)], [], qp_H s x e, (0, 0)) _
      iterate 1 refine qm_E_next rfl ?_
      cases h
      exact qr_iret (Or.inr ⟨rfl, Or.inr rfl⟩) rfl rfl
    · rcases qr_cond h with ⟨hb, h⟩ | ⟨-, h⟩
      · refine qr_tsv hb rfl ?_
        change qm_E _ _ _ (82, [some (vI a0), some (vI a1)], [], qp_H s x e, (0, 0)) _
        iterate 2 refine qm_E_next rfl ?_
        obtain ⟨q2, hq, h⟩ := qs_bd h
        refine qm_E_call rfl (qe13 (d + 0) hq) rfl ?_
        change qm_E _ _ _ (88, [some (vI a0), some (vI a1)], [vI q2], qp_H s x e, (0, 0)) _
        obtain ⟨hz, h⟩ := qr_inb h
        cases h
        exact qr_iret (Or.inr ⟨rfl, hz⟩) rfl rfl
      · rcases qr_cond h with ⟨hb, h⟩ | ⟨-, h⟩
        · refine qr_tsv hb rfl ?_
          change qm_E _ _ _ (82, [some (vI a0), some (vI a1)], [], qp_H s x e, (0, 0)) _
          iterate 2 refine qm_E_next rfl ?_
          obtain ⟨q3, hq, h⟩ := qs_bd h
          refine qm_E_call rfl (qe13 (d + 0) hq) rfl ?_
          change qm_E _ _ _ (88, [some (vI a0), some (vI a1)], [vI q3], qp_H s x e, (0, 0)) _
          obtain ⟨hz, h⟩ := qr_inb h
          cases h
          exact qr_iret (Or.inr ⟨rfl, hz⟩) rfl rfl
        · rcases qr_cond h with ⟨hb, h⟩ | ⟨-, h⟩
          · refine qr_tsv hb rfl ?_
            change qm_E _ _ _ (95, [some (vI a0), some (vI a1)], [], qp_H s x e, (0, 0)) _
            iterate 2 refine qm_E_next rfl ?_
            obtain ⟨q4, hq, h⟩ := qs_bd h
            refine qm_E_call rfl (qe13 (d + 0) hq) rfl ?_
            change qm_E _ _ _ (101, [some (vI a0), some (vI a1)], [vI q4], qp_H s x e, (0, 0)) _
            rcases qr_cond h with ⟨hb, h⟩ | ⟨hb, h⟩
            · refine qr_t hb rfl ?_
              change qm_E _ _ _ (112, [some (vI a0), some (vI a1)], [], qp_H s x e, (0, 0)) _
              iterate 1 refine qm_E_next rfl ?_
              cases h
              exact qr_iret (Or.inr ⟨rfl, Or.inl rfl⟩) rfl rfl
            · refine qr_f hb rfl ?_
              change qm_E _ _ _ (104, [some (vI a0), some (vI a1)], [], qp_H s x e, (0, 0)) _
              iterate 1 refine qm_E_next rfl ?_
              rcases qr_cond h with ⟨hb, h⟩ | ⟨hb, h⟩
              · refine qr_t hb rfl ?_
                change qm_E _ _ _ (112, [some (vI a0), some (vI a1)], [], qp_H s x e, (0, 0)) _
                iterate 1 refine qm_E_next rfl ?_
                cases h
                exact qr_iret (Or.inr ⟨rfl, Or.inl rfl⟩) rfl rfl
              · refine qr_f hb rfl ?_
                change qm_E _ _ _ (108, [some (vI a0), some (vI a1)], [], qp_H s x e, (0, 0)) _
                iterate 2 refine qm_E_next rfl ?_
                cases h
                exact qr_iret (Or.inr ⟨rfl, Or.inr rfl⟩) rfl rfl
          · rcases qr_cond h with ⟨hb, h⟩ | ⟨-, h⟩
            · refine qr_tsv hb rfl ?_
              change qm_E _ _ _ (95, [some (vI a0), some (vI a1)], [], qp_H s x e, (0, 0)) _
              iterate 2 refine qm_E_next rfl ?_
              obtain ⟨q5, hq, h⟩ := qs_bd h
              refine qm_E_call rfl (qe13 (d + 0) hq) rfl ?_
              change qm_E _ _ _ (101, [some (vI a0), some (vI a1)], [vI q5], qp_H s x e, (0, 0)) _
              rcases qr_cond h with ⟨hb, h⟩ | ⟨hb, h⟩
              · refine qr_t hb rfl ?_
                change qm_E _ _ _ (112, [some (vI a0), some (vI a1)], [], qp_H s x e, (0, 0)) _
                iterate 1 refine qm_E_next rfl ?_
                cases h
                exact qr_iret (Or.inr ⟨rfl, Or.inl rfl⟩) rfl rfl
              · refine qr_f hb rfl ?_
                change qm_E _ _ _ (104, [some (vI a0), some (vI a1)], [], qp_H s x e, (0, 0)) _
                iterate 1 refine qm_E_next rfl ?_
                rcases qr_cond h with ⟨hb, h⟩ | ⟨hb, h⟩
                · refine qr_t hb rfl ?_
                  change qm_E _ _ _ (112, [some (vI a0), some (vI a1)], [], qp_H s x e, (0, 0)) _
                  iterate 1 refine qm_E_next rfl ?_
                  cases h
                  exact qr_iret (Or.inr ⟨rfl, Or.inl rfl⟩) rfl rfl
                · refine qr_f hb rfl ?_
                  change qm_E _ _ _ (108, [some (vI a0), some (vI a1)], [], qp_H s x e, (0, 0)) _
                  iterate 2 refine qm_E_next rfl ?_
                  cases h
                  exact qr_iret (Or.inr ⟨rfl, Or.inr rfl⟩) rfl rfl
            · rcases qr_cond h with ⟨hb, h⟩ | ⟨-, h⟩
              · refine qr_tsv hb rfl ?_
                change qm_E _ _ _ (95, [some (vI a0), some (vI a1)], [], qp_H s x e, (0, 0)) _
                iterate 2 refine qm_E_next rfl ?_
                obtain ⟨q6, hq, h⟩ := qs_bd h
                refine qm_E_call rfl (qe13 (d + 0) hq) rfl ?_
                change qm_E _ _ _ (101, [some (vI a0), some (vI a1)], [vI q6], qp_H s x e, (0, 0)) _
                rcases qr_cond h with ⟨hb, h⟩ | ⟨hb, h⟩
                · refine qr_t hb rfl ?_
                  change qm_E _ _ _ (112, [some (vI a0), some (vI a1)], [], qp_H s x e, (0, 0)) _
                  iterate 1 refine qm_E_next rfl ?_
                  cases h
                  exact qr_iret (Or.inr ⟨rfl, Or.inl rfl⟩) rfl rfl
                · refine qr_f hb rfl ?_
                  change qm_E _ _ _ (104, [some (vI a0), some (vI a1)], [], qp_H s x e, (0, 0)) _
                  iterate 1 refine qm_E_next rfl ?_
                  rcases qr_cond h with ⟨hb, h⟩ | ⟨hb, h⟩
                  · refine qr_t hb rfl ?_
                    change qm_E _ _ _ (112, [some (vI a0), some (vI a1)], [], qp_H s x e, (0, 0)) _
                    iterate 1 refine qm_E_next rfl ?_
                    cases h
                    exact qr_iret (Or.inr ⟨rfl, Or.inl rfl⟩) rfl rfl
                  · refine qr_f hb rfl ?_
                    change qm_E _ _ _ (108, [some (vI a0), some (vI a1)], [], qp_H s x e, (0, 0)) _
                    iterate 2 refine qm_E_next rfl ?_
                    cases h
                    exact qr_iret (Or.inr ⟨rfl, Or.inr rfl⟩) rfl rfl
              · rcases qr_cond h with ⟨hb, h⟩ | ⟨-, h⟩
                · refine qr_tsv hb rfl ?_
                  change qm_E _ _ _ (95, [some (vI a0), some (vI a1)], [], qp_H s x e, (0, 0)) _
                  iterate 2 refine qm_E_next rfl ?_
                  obtain ⟨q7, hq, h⟩ := qs_bd h
                  refine qm_E_call rfl (qe13 (d + 0) hq) rfl ?_
                  change qm_E _ _ _ (101, [some (vI a0), some (vI a1)], [vI q7], qp_H s x e, (0, 0)) _
                  rcases qr_cond h with ⟨hb, h⟩ | ⟨hb, h⟩
                  · refine qr_t hb rfl ?_
                    change qm_E _ _ _ (112, [some (vI a0), some (vI a1)], [], qp_H s x e, (0, 0)) _
                    iterate 1 refine qm_E_next rfl ?_
                    cases h
                    exact qr_iret (Or.inr ⟨rfl, Or.inl rfl⟩) rfl rfl
                  · refine qr_f hb rfl ?_
                    change qm_E _ _ _ (104, [some (vI a0), some (vI a1)], [], qp_H s x e, (0, 0)) _
                    iterate 1 refine qm_E_next rfl ?_
                    rcases qr_cond h with ⟨hb, h⟩ | ⟨hb, h⟩
                    · refine qr_t hb rfl ?_
                      change qm_E _ _ _ (112, [some (vI a0), some (vI a1)], [], qp_H s x e, (0, 0)) _
                      iterate 1 refine qm_E_next rfl ?_
                      cases h
                      exact qr_iret (Or.inr ⟨rfl, Or.inl rfl⟩) rfl rfl
                    · refine qr_f hb rfl ?_
                      change qm_E _ _ _ (108, [some (vI a0), some (vI a1)], [], qp_H s x e, (0, 0)) _
                      iterate 2 refine qm_E_next rfl ?_
                      cases h
                      exact qr_iret (Or.inr ⟨rfl, Or.inr rfl⟩) rfl rfl
                · rcases qr_cond h with ⟨hb, h⟩ | ⟨-, h⟩
                  · refine qr_tsv hb rfl ?_
                    change qm_E _ _ _ (95, [some (vI a0), some (vI a1)], [], qp_H s x e, (0, 0)) _
                    iterate 2 refine qm_E_next rfl ?_
                    obtain ⟨q8, hq, h⟩ := qs_bd h
                    refine qm_E_call rfl (qe13 (d + 0) hq) rfl ?_
                    change qm_E _ _ _ (101, [some (vI a0), some (vI a1)], [vI q8], qp_H s x e, (0, 0)) _
                    rcases qr_cond h with ⟨hb, h⟩ | ⟨hb, h⟩
                    · refine qr_t hb rfl ?_
                      change qm_E _ _ _ (112, [some (vI a0), some (vI a1)], [], qp_H s x e, (0, 0)) _
                      iterate 1 refine qm_E_next rfl ?_
                      cases h
                      exact qr_iret (Or.inr ⟨rfl, Or.inl rfl⟩) rfl rfl
                    · refine qr_f hb rfl ?_
                      change qm_E _ _ _ (104, [some (vI a0), some (vI a1)], [], qp_H s x e, (0, 0)) _
                      iterate 1 refine qm_E_next rfl ?_
                      rcases qr_cond h with ⟨hb, h⟩ | ⟨hb, h⟩
                      · refine qr_t hb rfl ?_
                        change qm_E _ _ _ (112, [some (vI a0), some (vI a1)], [], qp_H s x e, (0, 0)) _
                        iterate 1 refine qm_E_next rfl ?_
                        cases h
                        exact qr_iret (Or.inr ⟨rfl, Or.inl rfl⟩) rfl rfl
                      · refine qr_f hb rfl ?_
                        change qm_E _ _ _ (108, [some (vI a0), some (vI a1)], [], qp_H s x e, (0, 0)) _
                        iterate 2 refine qm_E_next rfl ?_
                        cases h
                        exact qr_iret (Or.inr ⟨rfl, Or.inr rfl⟩) rfl rfl
                  · rcases qr_cond h with ⟨hb, h⟩ | ⟨-, h⟩
                    · refine qr_tsv hb rfl ?_
                      change qm_E _ _ _ (95, [some (vI a0), some (vI a1)], [], qp_H s x e, (0, 0)) _
                      iterate 2 refine qm_E_next rfl ?_
                      obtain ⟨q9, hq, h⟩ := qs_bd h
                      refine qm_E_call rfl (qe13 (d + 0) hq) rfl ?_
                      change qm_E _ _ _ (101, [some (vI a0), some (vI a1)], [vI q9], qp_H s x e, (0, 0)) _
                      rcases qr_cond h with ⟨hb, h⟩ | ⟨hb, h⟩
                      · refine qr_t hb rfl ?_
                        change qm_E _ _ _ (112, [some (vI a0), some (vI a1)], [], qp_H s x e, (0, 0)) _
                        iterate 1 refine qm_E_next rfl ?_
                        cases h
                        exact qr_iret (Or.inr ⟨rfl, Or.inl rfl⟩) rfl rfl
                      · refine qr_f hb rfl ?_
                        change qm_E _ _ _ (104, [some (vI a0), some (vI a1)], [], qp_H s x e, (0, 0)) _
                        iterate 1 refine qm_E_next rfl ?_
                        rcases qr_cond h with ⟨hb, h⟩ | ⟨hb, h⟩
                        · refine qr_t hb rfl ?_
                          change qm_E _ _ _ (112, [some (vI a0), some (vI a1)], [], qp_H s x e, (0, 0)) _
                          iterate 1 refine qm_E_next rfl ?_
                          cases h
                          exact qr_iret (Or.inr ⟨rfl, Or.inl rfl⟩) rfl rfl
                        · refine qr_f hb rfl ?_
                          change qm_E _ _ _ (108, [some (vI a0), some (vI a1)], [], qp_H s x e, (0, 0)) _
                          iterate 2 refine qm_E_next rfl ?_
                          cases h
                          exact qr_iret (Or.inr ⟨rfl, Or.inr rfl⟩) rfl rfl
                    · rcases qr_cond h with ⟨hb, h⟩ | ⟨-, h⟩
                      · refine qr_tsv hb rfl ?_
                        change qm_E _ _ _ (80, [some (vI a0), some (vI a1)], [], qp_H s x e, (0, 0)) _
                        iterate 1 refine qm_E_next rfl ?_
                        cases h
                        exact qr_iret (Or.inr ⟨rfl, Or.inr rfl⟩) rfl rfl
                      · rcases qr_cond h with ⟨hb, h⟩ | ⟨-, h⟩
                        · refine qr_tsv hb rfl ?_
                          change qm_E _ _ _ (80, [some (vI a0), some (vI a1)], [], qp_H s x e, (0, 0)) _
                          iterate 1 refine qm_E_next rfl ?_
                          cases h
                          exact qr_iret (Or.inr ⟨rfl, Or.inr rfl⟩) rfl rfl
                        · rcases qr_cond h with ⟨hb, h⟩ | ⟨-, h⟩
                          · refine qr_tsv hb rfl ?_
                            change qm_E _ _ _ (95, [some (vI a0), some (vI a1)], [], qp_H s x e, (0, 0)) _
                            iterate 2 refine qm_E_next rfl ?_
                            obtain ⟨q10, hq, h⟩ := qs_bd h
                            refine qm_E_call rfl (qe13 (d + 0) hq) rfl ?_
                            change qm_E _ _ _ (101, [some (vI a0), some (vI a1)], [vI q10], qp_H s x e, (0, 0)) _
                            rcases qr_cond h with ⟨hb, h⟩ | ⟨hb, h⟩
                            · refine qr_t hb rfl ?_
                              change qm_E _ _ _ (112, [some (vI a0), some (vI a1)], [], qp_H s x e, (0, 0)) _
                              iterate 1 refine qm_E_next rfl ?_
                              cases h
                              exact qr_iret (Or.inr ⟨rfl, Or.inl rfl⟩) rfl rfl
                            · refine qr_f hb rfl ?_
                              change qm_E _ _ _ (104, [some (vI a0), some (vI a1)], [], qp_H s x e, (0, 0)) _
                              iterate 1 refine qm_E_next rfl ?_
                              rcases qr_cond h with ⟨hb, h⟩ | ⟨hb, h⟩
                              · refine qr_t hb rfl ?_
                                change qm_E _ _ _ (112, [some (vI a0), some (vI a1)], [], qp_H s x e, (0, 0)) _
                                iterate 1 refine qm_E_next rfl ?_
                                cases h
                                exact qr_iret (Or.inr ⟨rfl, Or.inl rfl⟩) rfl rfl
                              · refine qr_f hb rfl ?_
                                change qm_E _ _ _ (108, [some (vI a0), some (vI a1)], [], qp_H s x e, (0, 0)) _
                                iterate 2 refine qm_E_next rfl ?_
                                cases h
                                exact qr_iret (Or.inr ⟨rfl, Or.inr rfl⟩) rfl rfl
                          · rcases qr_cond h with ⟨hb, h⟩ | ⟨-, h⟩
                            · refine qr_tsv hb rfl ?_
                              change qm_E _ _ _ (95, [some (vI a0), some (vI a1)], [], qp_H s x e, (0, 0)) _
                              iterate 2 refine qm_E_next rfl ?_
                              obtain ⟨q11, hq, h⟩ := qs_bd h
                              refine qm_E_call rfl (qe13 (d + 0) hq) rfl ?_
                              change qm_E _ _ _ (101, [some (vI a0), some (vI a1)], [vI q11], qp_H s x e, (0, 0)) _
                              rcases qr_cond h with ⟨hb, h⟩ | ⟨hb, h⟩
                              · refine qr_t hb rfl ?_
                                change qm_E _ _ _ (112, [some (vI a0), some (vI a1)], [], qp_H s x e, (0, 0)) _
                                iterate 1 refine qm_E_next rfl ?_
                                cases h
                                exact qr_iret (Or.inr ⟨rfl, Or.inl rfl⟩) rfl rfl
                              · refine qr_f hb rfl ?_
                                change qm_E _ _ _ (104, [some (vI a0), some (vI a1)], [], qp_H s x e, (0, 0)) _
                                iterate 1 refine qm_E_next rfl ?_
                                rcases qr_cond h with ⟨hb, h⟩ | ⟨hb, h⟩
                                · refine qr_t hb rfl ?_
                                  change qm_E _ _ _ (112, [some (vI a0), some (vI a1)], [], qp_H s x e, (0, 0)) _
                                  iterate 1 refine qm_E_next rfl ?_
                                  cases h
                                  exact qr_iret (Or.inr ⟨rfl, Or.inl rfl⟩) rfl rfl
                                · refine qr_f hb rfl ?_
                                  change qm_E _ _ _ (108, [some (vI a0), some (vI a1)], [], qp_H s x e, (0, 0)) _
                                  iterate 2 refine qm_E_next rfl ?_
                                  cases h
                                  exact qr_iret (Or.inr ⟨rfl, Or.inr rfl⟩) rfl rfl
                            · rcases qr_cond h with ⟨hb, h⟩ | ⟨-, h⟩
                              · refine qr_tsv hb rfl ?_
                                change qm_E _ _ _ (95, [some (vI a0), some (vI a1)], [], qp_H s x e, (0, 0)) _
                                iterate 2 refine qm_E_next rfl ?_
                                obtain ⟨q12, hq, h⟩ := qs_bd h
                                refine qm_E_call rfl (qe13 (d + 0) hq) rfl ?_
                                change qm_E _ _ _ (101, [some (vI a0), some (vI a1)], [vI q12], qp_H s x e, (0, 0)) _
                                rcases qr_cond h with ⟨hb, h⟩ | ⟨hb, h⟩
                                · refine qr_t hb rfl ?_
                                  change qm_E _ _ _ (112, [some (vI a0), some (vI a1)], [], qp_H s x e, (0, 0)) _
                                  iterate 1 refine qm_E_next rfl ?_
                                  cases h
                                  exact qr_iret (Or.inr ⟨rfl, Or.inl rfl⟩) rfl rfl
                                · refine qr_f hb rfl ?_
                                  change qm_E _ _ _ (104, [some (vI a0), some (vI a1)], [], qp_H s x e, (0, 0)) _
                                  iterate 1 refine qm_E_next rfl ?_
                                  rcases qr_cond h with ⟨hb, h⟩ | ⟨hb, h⟩
                                  · refine qr_t hb rfl ?_
                                    change qm_E _ _ _ (112, [some (vI a0), some (vI a1)], [], qp_H s x e, (0, 0)) _
                                    iterate 1 refine qm_E_next rfl ?_
                                    cases h
                                    exact qr_iret (Or.inr ⟨rfl, Or.inl rfl⟩) rfl rfl
                                  · refine qr_f hb rfl ?_
                                    change qm_E _ _ _ (108, [some (vI a0), some (vI a1)], [], qp_H s x e, (0, 0)) _
                                    iterate 2 refine qm_E_next rfl ?_
                                    cases h
                                    exact qr_iret (Or.inr ⟨rfl, Or.inr rfl⟩) rfl rfl
                              · rcases qr_cond h with ⟨hb, h⟩ | ⟨-, h⟩
                                · refine qr_tsv hb rfl ?_
                                  change qm_E _ _ _ (89, [some (vI a0), some (vI a1)], [], qp_H s x e, (0, 0)) _
                                  iterate 2 refine qm_E_next rfl ?_
                                  obtain ⟨q13, hq, h⟩ := qs_bd h
                                  refine qm_E_call rfl (qe13 (d + 0) hq) rfl ?_
                                  change qm_E _ _ _ (94, [some (vI a0), some (vI a1)], [vI q13], qp_H s x e, (0, 0)) _
                                  obtain ⟨hz, h⟩ := qr_inb h
                                  cases h
                                  exact qr_iret (Or.inr ⟨rfl, hz⟩) rfl rfl
                                · rcases qr_cond h with ⟨hb, h⟩ | ⟨-, h⟩
                                  · refine qr_tsv hb rfl ?_
                                    change qm_E _ _ _ (89, [some (vI a0), some (vI a1)], [], qp_H s x e, (0, 0)) _
                                    iterate 2 refine qm_E_next rfl ?_
                                    obtain ⟨q14, hq, h⟩ := qs_bd h
                                    refine qm_E_call rfl (qe13 (d + 0) hq) rfl ?_
                                    change qm_E _ _ _ (94, [some (vI a0), some (vI a1)], [vI q14], qp_H s x e, (0, 0)) _
                                    obtain ⟨hz, h⟩ := qr_inb h
                                    cases h
                                    exact qr_iret (Or.inr ⟨rfl, hz⟩) rfl rfl
                                  · cases h
