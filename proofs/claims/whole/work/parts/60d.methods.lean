/-! PeriodKernel.ProgramLook losesItsWay -/
def qf73_2  : Nat → Nat → Int32 → qp_S → Option (Int32)
  | 0, _, _, _ => none
  | n + 1, n1, a2, s => (bif qm_cmp .ge a2 (s 22 n1 1) then some (0 : Int32) else (if qm_inb a2 4 = true then (if qm_inb (s 25 (4 * n1 + (a2).toNatClampNeg) 3) 4 = true then ((qf67 ((s 25 (4 * n1 + (a2).toNatClampNeg) 3)).toNatClampNeg s).bind fun q1 => (bif qm_cmp .eq q1 (0 : Int32) then qf73_2  n n1 (a2 + (1 : Int32)) s else some (1 : Int32))) else none) else none))
theorem qe73_2 (d : Nat) {L : Nat} {xs : Nat → Int32} {x : Int64} {e : Nat → Nat}   : ∀ {n : Nat}  {n1 : Nat} {a2 : Int32} {s : qp_S} {r : Int32}, qf73_2  n n1 a2 s = some r → qm_E (qz_ro L xs) (d + 1) 73 (2, [some (vR 4 0), some (vR 22 n1), some (vI a2)], [], qp_H s x e, (0, 0)) (qf_v r s x e) := by
  intro n
  induction n with
  | zero => intro  n1 a2 s r h; cases h
  | succ n ih =>
    intro  n1 a2 s r h
    unfold qf73_2 at h
    iterate 3 refine qm_E_next rfl ?_
    rcases qr_cond h with ⟨hb, h⟩ | ⟨hb, h⟩
    · refine qr_t hb rfl ?_
      change qm_E _ _ _ (35, [some (vR 4 0), some (vR 22 n1), some (vI a2)], [], qp_H s x e, (0, 0)) _
      iterate 1 refine qm_E_next rfl ?_
      cases h
      exact qr_iret (Or.inr ⟨rfl, Or.inl rfl⟩) rfl rfl
    · refine qr_f hb rfl ?_
      change qm_E _ _ _ (10, [some (vR 4 0), some (vR 22 n1), some (vI a2)], [], qp_H s x e, (0, 0)) _
      iterate 4 refine qm_E_next rfl ?_
      obtain ⟨hb, h⟩ := qr_inb h
      refine qr_aaload hb rfl rfl rfl ?_
      change qm_E _ _ _ (17, [some (vR 4 0), some (vR 22 n1), some (vI a2)], [vR 25 (4 * n1 + (a2).toNatClampNeg), vR 4 0], qp_H s x e, (0, 0)) _
      iterate 1 refine qm_E_next rfl ?_
      obtain ⟨hb, h⟩ := qr_inb h
      refine qr_aaload hb rfl rfl rfl ?_
      change qm_E _ _ _ (21, [some (vR 4 0), some (vR 22 n1), some (vI a2)], [vR 22 ((s 25 (4 * n1 + (a2).toNatClampNeg) 3)).toNatClampNeg], qp_H s x e, (0, 0)) _
      obtain ⟨q1, hq, h⟩ := qs_bd h
      refine qm_E_call rfl (qe67 (d + 0) hq) rfl ?_
      change qm_E _ _ _ (24, [some (vR 4 0), some (vR 22 n1), some (vI a2)], [vI q1], qp_H s x e, (0, 0)) _
      rcases qr_cond h with ⟨hb, h⟩ | ⟨hb, h⟩
      · refine qr_t hb rfl ?_
        change qm_E _ _ _ (29, [some (vR 4 0), some (vR 22 n1), some (vI a2)], [], qp_H s x e, (0, 0)) _
        iterate 2 refine qm_E_next rfl ?_
        exact ih h
      · refine qr_f hb rfl ?_
        change qm_E _ _ _ (27, [some (vR 4 0), some (vR 22 n1), some (vI a2)], [], qp_H s x e, (0, 0)) _
        iterate 1 refine qm_E_next rfl ?_
        cases h
        exact qr_iret (Or.inr ⟨rfl, Or.inr rfl⟩) rfl rfl
def qf73 (n1 : Nat) (s : qp_S) : Option (Int32) := qf73_2 4096 n1 (0 : Int32) s
theorem qe73 (d : Nat) {L : Nat} {xs : Nat → Int32} {x : Int64} {e : Nat → Nat}    {n1 : Nat} {s : qp_S} {r : Int32} (h : qf73  n1 s = some r) : qm_E (qz_ro L xs) (d + 1) 73 (0, qm_ent 73 [vR 4 0, vR 22 n1], [], qp_H s x e, (0, 0)) (qf_v r s x e) := by
  unfold qf73 at h
  iterate 2 refine qm_E_next rfl ?_
  exact qe73_2 d  h
/-! PeriodKernel.ProgramLook findLostGuard -/
def qf72_2  : Nat → Int32 → qp_S → Option (Int32)
  | 0, _, _ => none
  | n + 1, a1, s => (bif qm_cmp .ge a1 (4 : Int32) then some (-1 : Int32) else (if qm_inb a1 4 = true then ((qf67 (a1).toNatClampNeg s).bind fun q1 => (bif qm_cmp .ne q1 (0 : Int32) then qf72_2  n (a1 + (1 : Int32)) s else (if qm_inb a1 4 = true then ((qf73 (a1).toNatClampNeg s).bind fun q2 => (bif qm_cmp .eq q2 (0 : Int32) then qf72_2  n (a1 + (1 : Int32)) s else some a1)) else none))) else none))
theorem qe72_2 (d : Nat) {L : Nat} {xs : Nat → Int32} {x : Int64} {e : Nat → Nat}   : ∀ {n : Nat}  {a1 : Int32} {s : qp_S} {r : Int32}, qf72_2  n a1 s = some r → qm_E (qz_ro L xs) (d + 2) 72 (2, [some (vR 4 0), some (vI a1)], [], qp_H s x e, (0, 0)) (qf_v r s x e) := by
  intro n
  induction n with
  | zero => intro  a1 s r h; cases h
  | succ n ih =>
    intro  a1 s r h
    unfold qf72_2 at h
    iterate 2 refine qm_E_next rfl ?_
    rcases qr_cond h with ⟨hb, h⟩ | ⟨hb, h⟩
    · refine qr_t hb rfl ?_
      change qm_E _ _ _ (34, [some (vR 4 0), some (vI a1)], [], qp_H s x e, (0, 0)) _
      iterate 1 refine qm_E_next rfl ?_
      cases h
      exact qr_iret (Or.inl rfl) rfl rfl
    · refine qr_f hb rfl ?_
      change qm_E _ _ _ (7, [some (vR 4 0), some (vI a1)], [], qp_H s x e, (0, 0)) _
      iterate 2 refine qm_E_next rfl ?_
      obtain ⟨hb, h⟩ := qr_inb h
      refine qr_aaload hb rfl rfl rfl ?_
      change qm_E _ _ _ (10, [some (vR 4 0), some (vI a1)], [vR 22 (a1).toNatClampNeg], qp_H s x e, (0, 0)) _
      obtain ⟨q1, hq, h⟩ := qs_bd h
      refine qm_E_call rfl (qe67 (d + 1) hq) rfl ?_
      change qm_E _ _ _ (13, [some (vR 4 0), some (vI a1)], [vI q1], qp_H s x e, (0, 0)) _
      rcases qr_cond h with ⟨hb, h⟩ | ⟨hb, h⟩
      · refine qr_t hb rfl ?_
        change qm_E _ _ _ (28, [some (vR 4 0), some (vI a1)], [], qp_H s x e, (0, 0)) _
        iterate 2 refine qm_E_next rfl ?_
        exact ih h
      · refine qr_f hb rfl ?_
        change qm_E _ _ _ (16, [some (vR 4 0), some (vI a1)], [], qp_H s x e, (0, 0)) _
        iterate 3 refine qm_E_next rfl ?_
        obtain ⟨hb, h⟩ := qr_inb h
        refine qr_aaload hb rfl rfl rfl ?_
        change qm_E _ _ _ (20, [some (vR 4 0), some (vI a1)], [vR 22 (a1).toNatClampNeg, vR 4 0], qp_H s x e, (0, 0)) _
        obtain ⟨q2, hq, h⟩ := qs_bd h
        refine qm_E_call rfl (qe73 (d + 0) hq) rfl ?_
        change qm_E _ _ _ (23, [some (vR 4 0), some (vI a1)], [vI q2], qp_H s x e, (0, 0)) _
        rcases qr_cond h with ⟨hb, h⟩ | ⟨hb, h⟩
        · refine qr_t hb rfl ?_
          change qm_E _ _ _ (28, [some (vR 4 0), some (vI a1)], [], qp_H s x e, (0, 0)) _
          iterate 2 refine qm_E_next rfl ?_
          exact ih h
        · refine qr_f hb rfl ?_
          change qm_E _ _ _ (26, [some (vR 4 0), some (vI a1)], [], qp_H s x e, (0, 0)) _
          iterate 1 refine qm_E_next rfl ?_
          cases h
          exact qr_iret (Or.inl rfl) rfl rfl
def qf72 (s : qp_S) : Option (Int32) := qf72_2 4096 (0 : Int32) s
theorem qe72 (d : Nat) {L : Nat} {xs : Nat → Int32} {x : Int64} {e : Nat → Nat}     {s : qp_S} {r : Int32} (h : qf72   s = some r) : qm_E (qz_ro L xs) (d + 2) 72 (0, qm_ent 72 [vR 4 0], [], qp_H s x e, (0, 0)) (qf_v r s x e) := by
  unfold qf72 at h
  iterate 2 refine qm_E_next rfl ?_
  exact qe72_2 d  h
/-! PeriodKernel.ProgramLook isOverloaded -/
def qf75_4  : Nat → Nat → Int32 → Int32 → qp_S → Option (Int32)
  | 0, _, _, _, _ => none
  | n + 1, n1, a2, a3, s => (bif qm_cmp .ge a3 (8 : Int32) then (bif qm_cmp .le a2 ((20 : Int32) * (s 22 n1 0)) then some (0 : Int32) else some (1 : Int32)) else ((qf53 n1 a3 s).bind fun q1 => (bif qm_cmp .eq q1 (0 : Int32) then qf75_4  n n1 (a2 + (0 : Int32)) (a3 + (1 : Int32)) s else (if qm_inb a3 8 = true then (if qm_inb a3 8 = true then qf75_4  n n1 (a2 + ((s 23 n1 (a3).toNatClampNeg) * (s 14 (a3).toNatClampNeg 0))) (a3 + (1 : Int32)) s else none) else none))))
theorem qe75_4 (d : Nat) {L : Nat} {xs : Nat → Int32} {x : Int64} {e : Nat → Nat}   : ∀ {n : Nat}  {n1 : Nat} {a2 : Int32} {a3 : Int32} {s : qp_S} {r : Int32}, qf75_4  n n1 a2 a3 s = some r → qm_E (qz_ro L xs) (d + 1) 75 (4, [some (vR 2 0), some (vR 22 n1), some (vI a2), some (vI a3)], [], qp_H s x e, (0, 0)) (qf_v r s x e) := by
  intro n
  induction n with
  | zero => intro  n1 a2 a3 s r h; cases h
  | succ n ih =>
    intro  n1 a2 a3 s r h
    unfold qf75_4 at h
    iterate 2 refine qm_E_next rfl ?_
    rcases qr_cond h with ⟨hb, h⟩ | ⟨hb, h⟩
    · refine qr_t hb rfl ?_
      change qm_E _ _ _ (44, [some (vR 2 0), some (vR 22 n1), some (vI a2), some (vI a3)], [], qp_H s x e, (0, 0)) _
      iterate 5 refine qm_E_next rfl ?_
      rcases qr_cond h with ⟨hb, h⟩ | ⟨hb, h⟩
      · refine qr_t hb rfl ?_
        change qm_E _ _ _ (59, [some (vR 2 0), some (vR 22 n1), some (vI a2), some (vI a3)], [], qp_H s x e, (0, 0)) _
        iterate 1 refine qm_E_next rfl ?_
        cases h
        exact qr_iret (Or.inr ⟨rfl, Or.inl rfl⟩) rfl rfl
      · refine qr_f hb rfl ?_
        change qm_E _ _ _ (55, [some (vR 2 0), some (vR 22 n1), some (vI a2), some (vI a3)], [], qp_H s x e, (0, 0)) _
        iterate 2 refine qm_E_next rfl ?_
        cases h
        exact qr_iret (Or.inr ⟨rfl, Or.inr rfl⟩) rfl rfl
    · refine qr_f hb rfl ?_
      change qm_E _ _ _ (10, [some (vR 2 0), some (vR 22 n1), some (vI a2), some (vI a3)], [], qp_H s x e, (0, 0)) _
      iterate 3 refine qm_E_next rfl ?_
      obtain ⟨q1, hq, h⟩ := qs_bd h
      refine qm_E_call rfl (qe53 (d + 0) hq) rfl ?_
      change qm_E _ _ _ (16, [some (vR 2 0), some (vR 22 n1), some (vI a2), some (vI a3)], [vI q1, vI a2], qp_H s x e, (0, 0)) _
      rcases qr_cond h with ⟨hb, h⟩ | ⟨hb, h⟩
      · refine qr_t hb rfl ?_
        change qm_E _ _ _ (35, [some (vR 2 0), some (vR 22 n1), some (vI a2), some (vI a3)], [vI a2], qp_H s x e, (0, 0)) _
        iterate 5 refine qm_E_next rfl ?_
        exact ih h
      · refine qr_f hb rfl ?_
        change qm_E _ _ _ (19, [some (vR 2 0), some (vR 22 n1), some (vI a2), some (vI a3)], [vI a2], qp_H s x e, (0, 0)) _
        iterate 3 refine qm_E_next rfl ?_
        obtain ⟨hb, h⟩ := qr_inb h
        refine qr_iaload hb rfl rfl rfl rfl ?_
        change qm_E _ _ _ (25, [some (vR 2 0), some (vR 22 n1), some (vI a2), some (vI a3)], [vI (s 23 n1 (a3).toNatClampNeg), vI a2], qp_H s x e, (0, 0)) _
        iterate 2 refine qm_E_next rfl ?_
        obtain ⟨hb, h⟩ := qr_inb h
        refine qr_aaload hb rfl rfl rfl ?_
        change qm_E _ _ _ (28, [some (vR 2 0), some (vR 22 n1), some (vI a2), some (vI a3)], [vR 14 (a3).toNatClampNeg, vI (s 23 n1 (a3).toNatClampNeg), vI a2], qp_H s x e, (0, 0)) _
        iterate 6 refine qm_E_next rfl ?_
        change qm_E _ _ _ (41, [some (vR 2 0), some (vR 22 n1), some (vI (a2 + ((s 23 n1 (a3).toNatClampNeg) * (s 14 (a3).toNatClampNeg 0)))), some (vI (a3 + (1 : Int32)))], [], qp_H s x e, (0, 0)) _
        iterate 1 refine qm_E_next rfl ?_
        exact ih h
def qf75 (n1 : Nat) (s : qp_S) : Option (Int32) := qf75_4 4096 n1 (0 : Int32) (0 : Int32) s
theorem qe75 (d : Nat) {L : Nat} {xs : Nat → Int32} {x : Int64} {e : Nat → Nat}    {n1 : Nat} {s : qp_S} {r : Int32} (h : qf75  n1 s = some r) : qm_E (qz_ro L xs) (d + 1) 75 (0, qm_ent 75 [vR 2 0, vR 22 n1], [], qp_H s x e, (0, 0)) (qf_v r s x e) := by
  unfold qf75 at h
  iterate 4 refine qm_E_next rfl ?_
  exact qe75_4 d  h
/-! PeriodKernel.ProgramLook findOverload -/
def qf74_2  : Nat → Int32 → qp_S → Option (Int32)
  | 0, _, _ => none
  | n + 1, a2, s => (bif qm_cmp .ge a2 (4 : Int32) then some (-1 : Int32) else (if qm_inb a2 4 = true then ((qf75 (a2).toNatClampNeg s).bind fun q1 => (bif qm_cmp .eq q1 (0 : Int32) then qf74_2  n (a2 + (1 : Int32)) s else some a2)) else none))
theorem qe74_2 (d : Nat) {L : Nat} {xs : Nat → Int32} {x : Int64} {e : Nat → Nat}   : ∀ {n : Nat}  {a2 : Int32} {s : qp_S} {r : Int32}, qf74_2  n a2 s = some r → qm_E (qz_ro L xs) (d + 2) 74 (2, [some (vR 2 0), some (vR 4 0), some (vI a2)], [], qp_H s x e, (0, 0)) (qf_v r s x e) := by
  intro n
  induction n with
  | zero => intro  a2 s r h; cases h
  | succ n ih =>
    intro  a2 s r h
    unfold qf74_2 at h
    iterate 2 refine qm_E_next rfl ?_
    rcases qr_cond h with ⟨hb, h⟩ | ⟨hb, h⟩
    · refine qr_t hb rfl ?_
      change qm_E _ _ _ (25, [some (vR 2 0), some (vR 4 0), some (vI a2)], [], qp_H s x e, (0, 0)) _
      iterate 1 refine qm_E_next rfl ?_
      cases h
      exact qr_iret (Or.inl rfl) rfl rfl
    · refine qr_f hb rfl ?_
      change qm_E _ _ _ (7, [some (vR 2 0), some (vR 4 0), some (vI a2)], [], qp_H s x e, (0, 0)) _
      iterate 3 refine qm_E_next rfl ?_
      obtain ⟨hb, h⟩ := qr_inb h
      refine qr_aaload hb rfl rfl rfl ?_
      change qm_E _ _ _ (11, [some (vR 2 0), some (vR 4 0), some (vI a2)], [vR 22 (a2).toNatClampNeg, vR 2 0], qp_H s x e, (0, 0)) _
      obtain ⟨q1, hq, h⟩ := qs_bd h
      refine qm_E_call rfl (qe75 (d + 0) hq) rfl ?_
      change qm_E _ _ _ (14, [some (vR 2 0), some (vR 4 0), some (vI a2)], [vI q1], qp_H s x e, (0, 0)) _
      rcases qr_cond h with ⟨hb, h⟩ | ⟨hb, h⟩
      · refine qr_t hb rfl ?_
        change qm_E _ _ _ (19, [some (vR 2 0), some (vR 4 0), some (vI a2)], [], qp_H s x e, (0, 0)) _
        iterate 2 refine qm_E_next rfl ?_
        exact ih h
      · refine qr_f hb rfl ?_
        change qm_E _ _ _ (17, [some (vR 2 0), some (vR 4 0), some (vI a2)], [], qp_H s x e, (0, 0)) _
        iterate 1 refine qm_E_next rfl ?_
        cases h
        exact qr_iret (Or.inl rfl) rfl rfl
def qf74 (s : qp_S) : Option (Int32) := qf74_2 4096 (0 : Int32) s
theorem qe74 (d : Nat) {L : Nat} {xs : Nat → Int32} {x : Int64} {e : Nat → Nat}     {s : qp_S} {r : Int32} (h : qf74   s = some r) : qm_E (qz_ro L xs) (d + 2) 74 (0, qm_ent 74 [vR 2 0, vR 4 0], [], qp_H s x e, (0, 0)) (qf_v r s x e) := by
  unfold qf74 at h
  iterate 2 refine qm_E_next rfl ?_
  exact qe74_2 d  h
/-! PeriodKernel.ProgramLook findFault -/
def qf50_92 (a4 : Int32) (a5 : Int32) (s : qp_S) : Option (Int32 × qp_S) := (bif qm_cmp .ne a5 (-1 : Int32) then some ((((100 : Int32) * a4) + a5), s) else some ((0 : Int32), s))
theorem qe50_92 (d : Nat) {L : Nat} {xs : Nat → Int32} {x : Int64} {e : Nat → Nat}   {u0 : Option qm_V} {u1 : Option qm_V} {u2 : Option qm_V} {u3 : Option qm_V} {a4 : Int32} {a5 : Int32} {s : qp_S} {r : Int32 × qp_S} (h : qf50_92  a4 a5 s = some r) : qm_E (qz_ro L xs) (d + 5) 50 (92, [u0, u1, u2, u3, some (vI a4), some (vI a5)], [], qp_H s x e, (0, 0)) (qf_v r.1 r.2 x e) := by
  unfold qf50_92 at h
  iterate 2 refine qm_E_next rfl ?_
  rcases qr_cond h with ⟨hb, h⟩ | ⟨hb, h⟩
  · refine qr_t hb rfl ?_
    change qm_E _ _ _ (102, [u0, u1, u2, u3, some (vI a4), some (vI a5)], [], qp_H s x e, (0, 0)) _
    iterate 5 refine qm_E_next rfl ?_
    cases h
    exact qr_iret (Or.inl rfl) rfl rfl
  · refine qr_f hb rfl ?_
    change qm_E _ _ _ (98, [u0, u1, u2, u3, some (vI a4), some (vI a5)], [], qp_H s x e, (0, 0)) _
    iterate 2 refine qm_E_next rfl ?_
    cases h
    exact qr_iret (Or.inl rfl) rfl rfl
def qf50_75 (a4 : Int32) (a5 : Int32) (s : qp_S) : Option (Int32 × qp_S) := (bif qm_cmp .ne a5 (-1 : Int32) then qf50_92 a4 a5 s else ((qf74 s).bind fun q6 => qf50_92 (6 : Int32) q6 s))
theorem qe50_75 (d : Nat) {L : Nat} {xs : Nat → Int32} {x : Int64} {e : Nat → Nat}   {u0 : Option qm_V} {u3 : Option qm_V} {a4 : Int32} {a5 : Int32} {s : qp_S} {r : Int32 × qp_S} (h : qf50_75  a4 a5 s = some r) : qm_E (qz_ro L xs) (d + 5) 50 (75, [u0, some (vR 2 0), some (vR 4 0), u3, some (vI a4), some (vI a5)], [], qp_H s x e, (0, 0)) (qf_v r.1 r.2 x e) := by
  unfold qf50_75 at h
  iterate 2 refine qm_E_next rfl ?_
  rcases qr_cond h with ⟨hb, h⟩ | ⟨hb, h⟩
  · refine qr_t hb rfl ?_
    exact qe50_92 d  h
  · refine qr_f hb rfl ?_
    change qm_E _ _ _ (81, [u0, some (vR 2 0), some (vR 4 0), u3, some (vI a4), some (vI a5)], [], qp_H s x e, (0, 0)) _
    iterate 4 refine qm_E_next rfl ?_
    obtain ⟨q6, hq, h⟩ := qs_bd h
    refine qm_E_call rfl (qe74 (d + 2) hq) rfl ?_
    change qm_E _ _ _ (90, [u0, some (vR 2 0), some (vR 4 0), u3, some (vI (6 : Int32)), some (vI a5)], [vI q6], qp_H s x e, (0, 0)) _
    iterate 1 refine qm_E_next rfl ?_
    exact qe50_92 d  h
def qf50_60 (a4 : Int32) (a5 : Int32) (s : qp_S) : Option (Int32 × qp_S) := (bif qm_cmp .ne a5 (-1 : Int32) then qf50_75 a4 a5 s else ((qf72 s).bind fun q5 => qf50_75 (5 : Int32) q5 s))
theorem qe50_60 (d : Nat) {L : Nat} {xs : Nat → Int32} {x : Int64} {e : Nat → Nat}   {u0 : Option qm_V} {u3 : Option qm_V} {a4 : Int32} {a5 : Int32} {s : qp_S} {r : Int32 × qp_S} (h : qf50_60  a4 a5 s = some r) : qm_E (qz_ro L xs) (d + 5) 50 (60, [u0, some (vR 2 0), some (vR 4 0), u3, some (vI a4), some (vI a5)], [], qp_H s x e, (0, 0)) (qf_v r.1 r.2 x e) := by
  unfold qf50_60 at h
  iterate 2 refine qm_E_next rfl ?_
  rcases qr_cond h with ⟨hb, h⟩ | ⟨hb, h⟩
  · refine qr_t hb rfl ?_
    exact qe50_75 d  h
  · refine qr_f hb rfl ?_
    change qm_E _ _ _ (66, [u0, some (vR 2 0), some (vR 4 0), u3, some (vI a4), some (vI a5)], [], qp_H s x e, (0, 0)) _
    iterate 3 refine qm_E_next rfl ?_
    obtain ⟨q5, hq, h⟩ := qs_bd h
    refine qm_E_call rfl (qe72 (d + 2) hq) rfl ?_
    change qm_E _ _ _ (73, [u0, some (vR 2 0), some (vR 4 0), u3, some (vI (5 : Int32)), some (vI a5)], [vI q5], qp_H s x e, (0, 0)) _
    iterate 1 refine qm_E_next rfl ?_
    exact qe50_75 d  h
def qf50_43 (a4 : Int32) (a5 : Int32) (s : qp_S) : Option (Int32 × qp_S) := (bif qm_cmp .ne a5 (-1 : Int32) then qf50_60 a4 a5 s else ((qf70 s).bind fun q4 => qf50_60 (4 : Int32) q4 s))
theorem qe50_43 (d : Nat) {L : Nat} {xs : Nat → Int32} {x : Int64} {e : Nat → Nat}   {u0 : Option qm_V} {a4 : Int32} {a5 : Int32} {s : qp_S} {r : Int32 × qp_S} (h : qf50_43  a4 a5 s = some r) : qm_E (qz_ro L xs) (d + 5) 50 (43, [u0, some (vR 2 0), some (vR 4 0), some (vR 5 0), some (vI a4), some (vI a5)], [], qp_H s x e, (0, 0)) (qf_v r.1 r.2 x e) := by
  unfold qf50_43 at h
  iterate 2 refine qm_E_next rfl ?_
  rcases qr_cond h with ⟨hb, h⟩ | ⟨hb, h⟩
  · refine qr_t hb rfl ?_
    exact qe50_60 d  h
  · refine qr_f hb rfl ?_
    change qm_E _ _ _ (49, [u0, some (vR 2 0), some (vR 4 0), some (vR 5 0), some (vI a4), some (vI a5)], [], qp_H s x e, (0, 0)) _
    iterate 5 refine qm_E_next rfl ?_
    obtain ⟨q4, hq, h⟩ := qs_bd h
    refine qm_E_call rfl (qe70 (d + 2) hq) rfl ?_
    change qm_E _ _ _ (58, [u0, some (vR 2 0), some (vR 4 0), some (vR 5 0), some (vI (4 : Int32)), some (vI a5)], [vI q4], qp_H s x e, (0, 0)) _
    iterate 1 refine qm_E_next rfl ?_
    exact qe50_60 d  h
def qf50_28 (a4 : Int32) (a5 : Int32) (s : qp_S) : Option (Int32 × qp_S) := (bif qm_cmp .ne a5 (-1 : Int32) then qf50_43 a4 a5 s else ((qf66 s).bind fun q3 => qf50_43 (3 : Int32) q3 s))
theorem qe50_28 (d : Nat) {L : Nat} {xs : Nat → Int32} {x : Int64} {e : Nat → Nat}   {u0 : Option qm_V} {a4 : Int32} {a5 : Int32} {s : qp_S} {r : Int32 × qp_S} (h : qf50_28  a4 a5 s = some r) : qm_E (qz_ro L xs) (d + 5) 50 (28, [u0, some (vR 2 0), some (vR 4 0), some (vR 5 0), some (vI a4), some (vI a5)], [], qp_H s x e, (0, 0)) (qf_v r.1 r.2 x e) := by
  unfold qf50_28 at h
  iterate 2 refine qm_E_next rfl ?_
  rcases qr_cond h with ⟨hb, h⟩ | ⟨hb, h⟩
  · refine qr_t hb rfl ?_
    exact qe50_43 d  h
  · refine qr_f hb rfl ?_
    change qm_E _ _ _ (34, [u0, some (vR 2 0), some (vR 4 0), some (vR 5 0), some (vI a4), some (vI a5)], [], qp_H s x e, (0, 0)) _
    iterate 3 refine qm_E_next rfl ?_
    obtain ⟨q3, hq, h⟩ := qs_bd h
    refine qm_E_call rfl (qe66 (d + 1) hq) rfl ?_
    change qm_E _ _ _ (41, [u0, some (vR 2 0), some (vR 4 0), some (vR 5 0), some (vI (3 : Int32)), some (vI a5)], [vI q3], qp_H s x e, (0, 0)) _
    iterate 1 refine qm_E_next rfl ?_
    exact qe50_43 d  h
def qf50 (s : qp_S) : Option (Int32 × qp_S) := ((qf51 s).bind fun q1 => (bif qm_cmp .ne (q1.1) (-1 : Int32) then qf50_28 (1 : Int32) (q1.1) q1.2 else ((qf63 q1.2).bind fun q2 => qf50_28 (2 : Int32) (q2.1) q2.2)))
theorem qe50 (d : Nat) {L : Nat} {xs : Nat → Int32} {x : Int64} {e : Nat → Nat}     {s : qp_S} {r : Int32 × qp_S} (h : qf50   s = some r) : qm_E (qz_ro L xs) (d + 5) 50 (0, qm_ent 50 [vR 10 0, vR 2 0, vR 4 0, vR 5 0], [], qp_H s x e, (0, 0)) (qf_v r.1 r.2 x e) := by
  unfold qf50 at h
  iterate 5 refine qm_E_next rfl ?_
  obtain ⟨q1, hq, h⟩ := qs_bd h
  refine qm_E_call rfl (qe51 (d + 0) hq) rfl ?_
  change qm_E _ _ _ (9, [some (vR 10 0), some (vR 2 0), some (vR 4 0), some (vR 5 0), some (vI (1 : Int32)), none], [vI (q1.1)], qp_H q1.2 x e, (0, 0)) _
  iterate 3 refine qm_E_next rfl ?_
  rcases qr_cond h with ⟨hb, h⟩ | ⟨hb, h⟩
  · refine qr_t hb rfl ?_
    exact qe50_28 d  h
  · refine qr_f hb rfl ?_
    change qm_E _ _ _ (17, [some (vR 10 0), some (vR 2 0), some (vR 4 0), some (vR 5 0), some (vI (1 : Int32)), some (vI (q1.1))], [], qp_H q1.2 x e, (0, 0)) _
    iterate 5 refine qm_E_next rfl ?_
    obtain ⟨q2, hq, h⟩ := qs_bd h
    refine qm_E_call rfl (qe63 (d + 0) hq) rfl ?_
    change qm_E _ _ _ (26, [some (vR 10 0), some (vR 2 0), some (vR 4 0), some (vR 5 0), some (vI (2 : Int32)), some (vI (q1.1))], [vI (q2.1)], qp_H q2.2 x e, (0, 0)) _
    iterate 1 refine qm_E_next rfl ?_
    exact qe50_28 d  h
/-! PeriodKernel.Port take -/
def qf79 (n0 : Nat) (a1 : Int32) (s : qp_S) : Option (Int32 × qp_S) := some (0, (qp_up s 21 n0 2 (qm_max (s 21 n0 0) (qm_min (s 21 n0 1) a1))))
theorem qe79 (d : Nat) {L : Nat} {xs : Nat → Int32} {x : Int64} {e : Nat → Nat}    {n0 : Nat} {a1 : Int32} {s : qp_S} {r : Int32 × qp_S} (h : qf79  n0 a1 s = some r) : qm_E (qz_ro L xs) (d + 1) 79 (0, qm_ent 79 [vR 21 n0, vI a1], [], qp_H s x e, (0, 0)) (qf_u r.2 x e) := by
  unfold qf79 at h
  iterate 6 refine qm_E_next rfl ?_
  change qm_E _ _ _ (10, [some (vR 21 n0), some (vI a1)], [vI a1, vI (s 21 n0 1), vI (s 21 n0 0), vR 21 n0], qp_H s x e, (0, 0)) _
  refine qr_min rfl rfl rfl rfl (Nat.le_of_ble_eq_true rfl) ?_
  change qm_E _ _ _ (13, [some (vR 21 n0), some (vI a1)], [vI (qm_min (s 21 n0 1) a1), vI (s 21 n0 0), vR 21 n0], qp_H s x e, (0, 0)) _
  refine qr_max rfl rfl rfl rfl (Nat.le_of_ble_eq_true rfl) ?_
  change qm_E _ _ _ (16, [some (vR 21 n0), some (vI a1)], [vI (qm_max (s 21 n0 0) (qm_min (s 21 n0 1) a1)), vR 21 n0], qp_H s x e, (0, 0)) _
  refine qr_put rfl rfl ?_
  change qm_E _ _ _ (19, [some (vR 21 n0), some (vI a1)], [], qp_H (qp_up s 21 n0 2 (qm_max (s 21 n0 0) (qm_min (s 21 n0 1) a1))) x e, (0, 0)) _
  cases h
  exact qr_ret rfl rfl rfl
/-! PeriodKernel.EventLog add -/
def qf80 (a1 : Int32) (a2 : Int32) (a3 : Int32) (a4 : Int32) (s : qp_S) : Option (Int32 × qp_S) := (bif qm_cmp .ge (s 8 0 1) (300 : Int32) then some (0, (qp_up s 8 0 1 ((s 8 0 1) + (1 : Int32)))) else (if qm_inb ((s 8 0 1) * (4 : Int32)) 1200 = true then (if qm_inb (((s 8 0 1) * (4 : Int32)) + (1 : Int32)) 1200 = true then (if qm_inb (((s 8 0 1) * (4 : Int32)) + (2 : Int32)) 1200 = true then (bif qm_cmp .eq a4 (0 : Int32) then (if qm_inb (((s 8 0 1) * (4 : Int32)) + (3 : Int32)) 1200 = true then some (0, (qp_up (qp_up (qp_up (qp_up (qp_up s 9 0 (((s 8 0 1) * (4 : Int32))).toNatClampNeg a1) 9 0 ((((s 8 0 1) * (4 : Int32)) + (1 : Int32))).toNatClampNeg a2) 9 0 ((((s 8 0 1) * (4 : Int32)) + (2 : Int32))).toNatClampNeg a3) 9 0 ((((s 8 0 1) * (4 : Int32)) + (3 : Int32))).toNatClampNeg (0 : Int32)) 8 0 1 (((qp_up (qp_up (qp_up (qp_up s 9 0 (((s 8 0 1) * (4 : Int32))).toNatClampNeg a1) 9 0 ((((s 8 0 1) * (4 : Int32)) + (1 : Int32))).toNatClampNeg a2) 9 0 ((((s 8 0 1) * (4 : Int32)) + (2 : Int32))).toNatClampNeg a3) 9 0 ((((s 8 0 1) * (4 : Int32)) + (3 : Int32))).toNatClampNeg (0 : Int32)) 8 0 1) + (1 : Int32)))) else none) else (if qm_inb (((s 8 0 1) * (4 : Int32)) + (3 : Int32)) 1200 = true then some (0, (qp_up (qp_up (qp_up (qp_up (qp_up s 9 0 (((s 8 0 1) * (4 : Int32))).toNatClampNeg a1) 9 0 ((((s 8 0 1) * (4 : Int32)) + (1 : Int32))).toNatClampNeg a2) 9 0 ((((s 8 0 1) * (4 : Int32)) + (2 : Int32))).toNatClampNeg a3) 9 0 ((((s 8 0 1) * (4 : Int32)) + (3 : Int32))).toNatClampNeg (1 : Int32)) 8 0 1 (((qp_up (qp_up (qp_up (qp_up s 9 0 (((s 8 0 1) * (4 : Int32))).toNatClampNeg a1) 9 0 ((((s 8 0 1) * (4 : Int32)) + (1 : Int32))).toNatClampNeg a2) 9 0 ((((s 8 0 1) * (4 : Int32)) + (2 : Int32))).toNatClampNeg a3) 9 0 ((((s 8 0 1) * (4 : Int32)) + (3 : Int32))).toNatClampNeg (1 : Int32)) 8 0 1) + (1 : Int32)))) else none)) else none) else none) else none))
theorem qe80 (d : Nat) {L : Nat} {xs : Nat → Int32} {x : Int64} {e : Nat → Nat}    {a1 : Int32} {a2 : Int32} {a3 : Int32} {a4 : Int32} {s : qp_S} {r : Int32 × qp_S} (h : qf80  a1 a2 a3 a4 s = some r) : qm_E (qz_ro L xs) (d + 0) 80 (0, qm_ent 80 [vR 8 0, vI a1, vI a2, vI a3, vI a4], [], qp_H s x e, (0, 0)) (qf_u r.2 x e) := by
  unfold qf80 at h
  iterate 3 refine qm_E_next rfl ?_
  rcases qr_cond h with ⟨hb, h⟩ | ⟨hb, h⟩
  · refine qr_t hb rfl ?_
    change qm_E _ _ _ (65, [some (vR 8 0), some (vI a1), some (vI a2), some (vI a3), some (vI a4), none], [], qp_H s x e, (0, 0)) _
    iterate 5 refine qm_E_next rfl ?_
    refine qr_put rfl rfl ?_
    change qm_E _ _ _ (75, [some (vR 8 0), some (vI a1), some (vI a2), some (vI a3), some (vI a4), none], [], qp_H (qp_up s 8 0 1 ((s 8 0 1) + (1 : Int32))) x e, (0, 0)) _
    cases h
    exact qr_ret rfl rfl rfl
  · refine qr_f hb rfl ?_
    change qm_E _ _ _ (10, [some (vR 8 0), some (vI a1), some (vI a2), some (vI a3), some (vI a4), none], [], qp_H s x e, (0, 0)) _
    iterate 6 refine qm_E_next rfl ?_
    change qm_E _ _ _ (19, [some (vR 8 0), some (vI a1), some (vI a2), some (vI a3), some (vI a4), some (vI ((s 8 0 1) * (4 : Int32)))], [vR 8 0], qp_H s x e, (0, 0)) _
    iterate 3 refine qm_E_next rfl ?_
    obtain ⟨hb, h⟩ := qr_inb h
    refine qr_iastore hb rfl rfl rfl rfl rfl ?_
    change qm_E _ _ _ (26, [some (vR 8 0), some (vI a1), some (vI a2), some (vI a3), some (vI a4), some (vI ((s 8 0 1) * (4 : Int32)))], [], qp_H (qp_up s 9 0 (((s 8 0 1) * (4 : Int32))).toNatClampNeg a1) x e, (0, 0)) _
    iterate 6 refine qm_E_next rfl ?_
    change qm_E _ _ _ (35, [some (vR 8 0), some (vI a1), some (vI a2), some (vI a3), some (vI a4), some (vI ((s 8 0 1) * (4 : Int32)))], [vI a2, vI (((s 8 0 1) * (4 : Int32)) + (1 : Int32)), vR 9 0], qp_H (qp_up s 9 0 (((s 8 0 1) * (4 : Int32))).toNatClampNeg a1) x e, (0, 0)) _
    obtain ⟨hb, h⟩ := qr_inb h
    refine qr_iastore hb rfl rfl rfl rfl rfl ?_
    change qm_E _ _ _ (36, [some (vR 8 0), some (vI a1), some (vI a2), some (vI a3), some (vI a4), some (vI ((s 8 0 1) * (4 : Int32)))], [], qp_H (qp_up (qp_up s 9 0 (((s 8 0 1) * (4 : Int32))).toNatClampNeg a1) 9 0 ((((s 8 0 1) * (4 : Int32)) + (1 : Int32))).toNatClampNeg a2) x e, (0, 0)) _
    iterate 6 refine qm_E_next rfl ?_
    change qm_E _ _ _ (45, [some (vR 8 0), some (vI a1), some (vI a2), some (vI a3), some (vI a4), some (vI ((s 8 0 1) * (4 : Int32)))], [vI a3, vI (((s 8 0 1) * (4 : Int32)) + (2 : Int32)), vR 9 0], qp_H (qp_up (qp_up s 9 0 (((s 8 0 1) * (4 : Int32))).toNatClampNeg a1) 9 0 ((((s 8 0 1) * (4 : Int32)) + (1 : Int32))).toNatClampNeg a2) x e, (0, 0)) _
    obtain ⟨hb, h⟩ := qr_inb h
    refine qr_iastore hb rfl rfl rfl rfl rfl ?_
    change qm_E _ _ _ (46, [some (vR 8 0), some (vI a1), some (vI a2), some (vI a3), some (vI a4), some (vI ((s 8 0 1) * (4 : Int32)))], [], qp_H (qp_up (qp_up (qp_up s 9 0 (((s 8 0 1) * (4 : Int32))).toNatClampNeg a1) 9 0 ((((s 8 0 1) * (4 : Int32)) + (1 : Int32))).toNatClampNeg a2) 9 0 ((((s 8 0 1) * (4 : Int32)) + (2 : Int32))).toNatClampNeg a3) x e, (0, 0)) _
    iterate 6 refine qm_E_next rfl ?_
    change qm_E _ _ _ (56, [some (vR 8 0), some (vI a1), some (vI a2), some (vI a3), some (vI a4), some (vI ((s 8 0 1) * (4 : Int32)))], [vI a4, vI (((s 8 0 1) * (4 : Int32)) + (3 : Int32)), vR 9 0], qp_H (qp_up (qp_up (qp_up s 9 0 (((s 8 0 1) * (4 : Int32))).toNatClampNeg a1) 9 0 ((((s 8 0 1) * (4 : Int32)) + (1 : Int32))).toNatClampNeg a2) 9 0 ((((s 8 0 1) * (4 : Int32)) + (2 : Int32))).toNatClampNeg a3) x e, (0, 0)) _
    rcases qr_cond h with ⟨hb, h⟩ | ⟨hb, h⟩
    · refine qr_t hb rfl ?_
      change qm_E _ _ _ (63, [some (vR 8 0), some (vI a1), some (vI a2), some (vI a3), some (vI a4), some (vI ((s 8 0 1) * (4 : Int32)))], [vI (((s 8 0 1) * (4 : Int32)) + (3 : Int32)), vR 9 0], qp_H (qp_up (qp_up (qp_up s 9 0 (((s 8 0 1) * (4 : Int32))).toNatClampNeg a1) 9 0 ((((s 8 0 1) * (4 : Int32)) + (1 : Int32))).toNatClampNeg a2) 9 0 ((((s 8 0 1) * (4 : Int32)) + (2 : Int32))).toNatClampNeg a3) x e, (0, 0)) _
      iterate 1 refine qm_E_next rfl ?_
      obtain ⟨hb, h⟩ := qr_inb h
      refine qr_iastore hb rfl rfl rfl rfl rfl ?_
      change qm_E _ _ _ (65, [some (vR 8 0), some (vI a1), some (vI a2), some (vI a3), some (vI a4), some (vI ((s 8 0 1) * (4 : Int32)))], [], qp_H (qp_up (qp_up (qp_up (qp_up s 9 0 (((s 8 0 1) * (4 : Int32))).toNatClampNeg a1) 9 0 ((((s 8 0 1) * (4 : Int32)) + (1 : Int32))).toNatClampNeg a2) 9 0 ((((s 8 0 1) * (4 : Int32)) + (2 : Int32))).toNatClampNeg a3) 9 0 ((((s 8 0 1) * (4 : Int32)) + (3 : Int32))).toNatClampNeg (0 : Int32)) x e, (0, 0)) _
      iterate 5 refine qm_E_next rfl ?_
      refine qr_put rfl rfl ?_
      change qm_E _ _ _ (75, [some (vR 8 0), some (vI a1), some (vI a2), some (vI a3), some (vI a4), some (vI ((s 8 0 1) * (4 : Int32)))], [], qp_H (qp_up (qp_up (qp_up (qp_up (qp_up s 9 0 (((s 8 0 1) * (4 : Int32))).toNatClampNeg a1) 9 0 ((((s 8 0 1) * (4 : Int32)) + (1 : Int32))).toNatClampNeg a2) 9 0 ((((s 8 0 1) * (4 : Int32)) + (2 : Int32))).toNatClampNeg a3) 9 0 ((((s 8 0 1) * (4 : Int32)) + (3 : Int32))).toNatClampNeg (0 : Int32)) 8 0 1 (((qp_up (qp_up (qp_up (qp_up s 9 0 (((s 8 0 1) * (4 : Int32))).toNatClampNeg a1) 9 0 ((((s 8 0 1) * (4 : Int32)) + (1 : Int32))).toNatClampNeg a2) 9 0 ((((s 8 0 1) * (4 : Int32)) + (2 : Int32))).toNatClampNeg a3) 9 0 ((((s 8 0 1) * (4 : Int32)) + (3 : Int32))).toNatClampNeg (0 : Int32)) 8 0 1) + (1 : Int32))) x e, (0, 0)) _
      cases h
      exact qr_ret rfl rfl rfl
    · refine qr_f hb rfl ?_
      change qm_E _ _ _ (59, [some (vR 8 0), some (vI a1), some (vI a2), some (vI a3), some (vI a4), some (vI ((s 8 0 1) * (4 : Int32)))], [vI (((s 8 0 1) * (4 : Int32)) + (3 : Int32)), vR 9 0], qp_H (qp_up (qp_up (qp_up s 9 0 (((s 8 0 1) * (4 : Int32))).toNatClampNeg a1) 9 0 ((((s 8 0 1) * (4 : Int32)) + (1 : Int32))).toNatClampNeg a2) 9 0 ((((s 8 0 1) * (4 : Int32)) + (2 : Int32))).toNatClampNeg a3) x e, (0, 0)) _
      iterate 2 refine qm_E_next rfl ?_
      obtain ⟨hb, h⟩ := qr_inb h
      refine qr_iastore hb rfl rfl rfl rfl rfl ?_
      change qm_E _ _ _ (65, [some (vR 8 0), some (vI a1), some (vI a2), some (vI a3), some (vI a4), some (vI ((s 8 0 1) * (4 : Int32)))], [], qp_H (qp_up (qp_up (qp_up (qp_up s 9 0 (((s 8 0 1) * (4 : Int32))).toNatClampNeg a1) 9 0 ((((s 8 0 1) * (4 : Int32)) + (1 : Int32))).toNatClampNeg a2) 9 0 ((((s 8 0 1) * (4 : Int32)) + (2 : Int32))).toNatClampNeg a3) 9 0 ((((s 8 0 1) * (4 : Int32)) + (3 : Int32))).toNatClampNeg (1 : Int32)) x e, (0, 0)) _
      iterate 5 refine qm_E_next rfl ?_
      refine qr_put rfl rfl ?_
      change qm_E _ _ _ (75, [some (vR 8 0), some (vI a1), some (vI a2), some (vI a3), some (vI a4), some (vI ((s 8 0 1) * (4 : Int32)))], [], qp_H (qp_up (qp_up (qp_up (qp_up (qp_up s 9 0 (((s 8 0 1) * (4 : Int32))).toNatClampNeg a1) 9 0 ((((s 8 0 1) * (4 : Int32)) + (1 : Int32))).toNatClampNeg a2) 9 0 ((((s 8 0 1) * (4 : Int32)) + (2 : Int32))).toNatClampNeg a3) 9 0 ((((s 8 0 1) * (4 : Int32)) + (3 : Int32))).toNatClampNeg (1 : Int32)) 8 0 1 (((qp_up (qp_up (qp_up (qp_up s 9 0 (((s 8 0 1) * (4 : Int32))).toNatClampNeg a1) 9 0 ((((s 8 0 1) * (4 : Int32)) + (1 : Int32))).toNatClampNeg a2) 9 0 ((((s 8 0 1) * (4 : Int32)) + (2 : Int32))).toNatClampNeg a3) 9 0 ((((s 8 0 1) * (4 : Int32)) + (3 : Int32))).toNatClampNeg (1 : Int32)) 8 0 1) + (1 : Int32))) x e, (0, 0)) _
      cases h
      exact qr_ret rfl rfl rfl
/-! PeriodKernel publishSlots -/
def qf78_2  : Nat → Nat → Int32 → qp_S → Option (Int32 × qp_S)
  | 0, _, _, _ => none
  | n + 1, n1, a2, s => (bif qm_cmp .ge a2 (6 : Int32) then some (0, s) else (if qm_inb a2 6 = true then (bif qm_cmp .ne (s 16 (6 * n1 + (a2).toNatClampNeg) 0) (1 : Int32) then qf78_2  n n1 (a2 + (1 : Int32)) s else (if qm_inb (s 16 (6 * n1 + (a2).toNatClampNeg) 1) 16 = true then ((qf79 ((s 16 (6 * n1 + (a2).toNatClampNeg) 1)).toNatClampNeg (s 16 (6 * n1 + (a2).toNatClampNeg) 2) s).bind fun q1 => ((qf80 (q1.2 1 0 9) (q1.2 16 (6 * n1 + (a2).toNatClampNeg) 1) (q1.2 21 ((s 16 (6 * n1 + (a2).toNatClampNeg) 1)).toNatClampNeg 2) (q1.2 14 n1 4) q1.2).bind fun q2 => qf78_2  n n1 (a2 + (1 : Int32)) q2.2)) else none)) else none))
theorem qe78_2 (d : Nat) {L : Nat} {xs : Nat → Int32} {x : Int64} {e : Nat → Nat}   : ∀ {n : Nat} {u3 : Option qm_V} {u4 : Option qm_V} {n1 : Nat} {a2 : Int32} {s : qp_S} {r : Int32 × qp_S}, qf78_2  n n1 a2 s = some r → qm_E (qz_ro L xs) (d + 2) 78 (2, [some (vR 1 0), some (vR 14 n1), some (vI a2), u3, u4], [], qp_H s x e, (0, 0)) (qf_u r.2 x e) := by
  intro n
  induction n with
  | zero => intro u3 u4 n1 a2 s r h; cases h
  | succ n ih =>
    intro u3 u4 n1 a2 s r h
    unfold qf78_2 at h
    iterate 2 refine qm_E_next rfl ?_
    rcases qr_cond h with ⟨hb, h⟩ | ⟨hb, h⟩
    · refine qr_t hb rfl ?_
      change qm_E _ _ _ (73, [some (vR 1 0), some (vR 14 n1), some (vI a2), u3, u4], [], qp_H s x e, (0, 0)) _
      cases h
      exact qr_ret rfl rfl rfl
    · refine qr_f hb rfl ?_
      change qm_E _ _ _ (8, [some (vR 1 0), some (vR 14 n1), some (vI a2), u3, u4], [], qp_H s x e, (0, 0)) _
      iterate 3 refine qm_E_next rfl ?_
      obtain ⟨hb, h⟩ := qr_inb h
      refine qr_aaload hb rfl rfl rfl ?_
      change qm_E _ _ _ (14, [some (vR 1 0), some (vR 14 n1), some (vI a2), u3, u4], [vR 16 (6 * n1 + (a2).toNatClampNeg)], qp_H s x e, (0, 0)) _
      iterate 4 refine qm_E_next rfl ?_
      rcases qr_cond h with ⟨hb, h⟩ | ⟨hb, h⟩
      · refine qr_t hb rfl ?_
        change qm_E _ _ _ (67, [some (vR 1 0), some (vR 14 n1), some (vI a2), some (vR 16 (6 * n1 + (a2).toNatClampNeg)), u4], [], qp_H s x e, (0, 0)) _
        iterate 2 refine qm_E_next rfl ?_
        exact ih h
      · refine qr_f hb rfl ?_
        change qm_E _ _ _ (23, [some (vR 1 0), some (vR 14 n1), some (vI a2), some (vR 16 (6 * n1 + (a2).toNatClampNeg)), u4], [], qp_H s x e, (0, 0)) _
        iterate 4 refine qm_E_next rfl ?_
        obtain ⟨hb, h⟩ := qr_inb h
        refine qr_aaload hb rfl rfl rfl ?_
        change qm_E _ _ _ (32, [some (vR 1 0), some (vR 14 n1), some (vI a2), some (vR 16 (6 * n1 + (a2).toNatClampNeg)), u4], [vR 21 ((s 16 (6 * n1 + (a2).toNatClampNeg) 1)).toNatClampNeg], qp_H s x e, (0, 0)) _
        iterate 4 refine qm_E_next rfl ?_
        obtain ⟨q1, hq, h⟩ := qs_bd h
        refine qm_E_call rfl (qe79 (d + 0) hq) rfl ?_
        change qm_E _ _ _ (43, [some (vR 1 0), some (vR 14 n1), some (vI a2), some (vR 16 (6 * n1 + (a2).toNatClampNeg)), some (vR 21 ((s 16 (6 * n1 + (a2).toNatClampNeg) 1)).toNatClampNeg)], [], qp_H q1.2 x e, (0, 0)) _
        iterate 6 refine qm_E_next rfl ?_
        change qm_E _ _ _ (55, [some (vR 1 0), some (vR 14 n1), some (vI a2), some (vR 16 (6 * n1 + (a2).toNatClampNeg)), some (vR 21 ((s 16 (6 * n1 + (a2).toNatClampNeg) 1)).toNatClampNeg)], [vI (q1.2 16 (6 * n1 + (a2).toNatClampNeg) 1), vI (q1.2 1 0 9), vR 8 0], qp_H q1.2 x e, (0, 0)) _
        iterate 4 refine qm_E_next rfl ?_
        obtain ⟨q2, hq, h⟩ := qs_bd h
        refine qm_E_call rfl (qe80 (d + 1) hq) rfl ?_
        change qm_E _ _ _ (67, [some (vR 1 0), some (vR 14 n1), some (vI a2), some (vR 16 (6 * n1 + (a2).toNatClampNeg)), some (vR 21 ((s 16 (6 * n1 + (a2).toNatClampNeg) 1)).toNatClampNeg)], [], qp_H q2.2 x e, (0, 0)) _
        iterate 2 refine qm_E_next rfl ?_
        exact ih h
def qf78 (n1 : Nat) (s : qp_S) : Option (Int32 × qp_S) := qf78_2 4096 n1 (0 : Int32) s
theorem qe78 (d : Nat) {L : Nat} {xs : Nat → Int32} {x : Int64} {e : Nat → Nat}    {n1 : Nat} {s : qp_S} {r : Int32 × qp_S} (h : qf78  n1 s = some r) : qm_E (qz_ro L xs) (d + 2) 78 (0, qm_ent 78 [vR 1 0, vR 14 n1], [], qp_H s x e, (0, 0)) (qf_u r.2 x e) := by
  unfold qf78 at h
  iterate 2 refine qm_E_next rfl ?_
  exact qe78_2 d  h
/-! PeriodKernel.Task dropJob -/
def qf81 (n0 : Nat) (s : qp_S) : Option (Int32 × qp_S) := some (0, (qp_up (qp_up (qp_up (qp_up (qp_up s 14 n0 8 (-1 : Int32)) 14 n0 3 (-1 : Int32)) 14 n0 10 (0 : Int32)) 19 n0 1 (0 : Int32)) 14 n0 4 (0 : Int32)))
theorem qe81 (d : Nat) {L : Nat} {xs : Nat → Int32} {x : Int64} {e : Nat → Nat}    {n0 : Nat} {s : qp_S} {r : Int32 × qp_S} (h : qf81  n0 s = some r) : qm_E (qz_ro L xs) (d + 0) 81 (0, qm_ent 81 [vR 14 n0], [], qp_H s x e, (0, 0)) (qf_u r.2 x e) := by
  unfold qf81 at h
  iterate 2 refine qm_E_next rfl ?_
  refine qr_put rfl rfl ?_
  change qm_E _ _ _ (5, [some (vR 14 n0)], [], qp_H (qp_up s 14 n0 8 (-1 : Int32)) x e, (0, 0)) _
  iterate 2 refine qm_E_next rfl ?_
  refine qr_put rfl rfl ?_
  change qm_E _ _ _ (10, [some (vR 14 n0)], [], qp_H (qp_up (qp_up s 14 n0 8 (-1 : Int32)) 14 n0 3 (-1 : Int32)) x e, (0, 0)) _
  iterate 2 refine qm_E_next rfl ?_
  refine qr_put rfl rfl ?_
  change qm_E _ _ _ (15, [some (vR 14 n0)], [], qp_H (qp_up (qp_up (qp_up s 14 n0 8 (-1 : Int32)) 14 n0 3 (-1 : Int32)) 14 n0 10 (0 : Int32)) x e, (0, 0)) _
  iterate 3 refine qm_E_next rfl ?_
  refine qr_put rfl rfl ?_
  change qm_E _ _ _ (23, [some (vR 14 n0)], [], qp_H (qp_up (qp_up (qp_up (qp_up s 14 n0 8 (-1 : Int32)) 14 n0 3 (-1 : Int32)) 14 n0 10 (0 : Int32)) 19 n0 1 (0 : Int32)) x e, (0, 0)) _
  iterate 2 refine qm_E_next rfl ?_
  refine qr_putz (Or.inl rfl) rfl rfl rfl rfl rfl rfl rfl rfl rfl ?_
  change qm_E _ _ _ (28, [some (vR 14 n0)], [], qp_H (qp_up (qp_up (qp_up (qp_up (qp_up s 14 n0 8 (-1 : Int32)) 14 n0 3 (-1 : Int32)) 14 n0 10 (0 : Int32)) 19 n0 1 (0 : Int32)) 14 n0 4 (0 : Int32)) x e, (0, 0)) _
  cases h
  exact qr_ret rfl rfl rfl
/-! PeriodKernel publishJobs -/
def qf77_2  : Nat → Int32 → qp_S → Option (Int32 × qp_S)
  | 0, _, _ => none
  | n + 1, a1, s => (bif qm_cmp .ge a1 (8 : Int32) then some (0, s) else (if qm_inb a1 8 = true then (bif qm_cmp .ne (s 14 (a1).toNatClampNeg 3) (s 1 0 9) then qf77_2  n (a1 + (1 : Int32)) s else (if qm_inb a1 8 = true then ((qf78 (a1).toNatClampNeg s).bind fun q1 => (if qm_inb a1 8 = true then ((qf81 (a1).toNatClampNeg q1.2).bind fun q2 => qf77_2  n (a1 + (1 : Int32)) q2.2) else none)) else none)) else none))
theorem qe77_2 (d : Nat) {L : Nat} {xs : Nat → Int32} {x : Int64} {e : Nat → Nat}   : ∀ {n : Nat}  {a1 : Int32} {s : qp_S} {r : Int32 × qp_S}, qf77_2  n a1 s = some r → qm_E (qz_ro L xs) (d + 3) 77 (2, [some (vR 1 0), some (vI a1)], [], qp_H s x e, (0, 0)) (qf_u r.2 x e) := by
  intro n
  induction n with
  | zero => intro  a1 s r h; cases h
  | succ n ih =>
    intro  a1 s r h
    unfold qf77_2 at h
    iterate 2 refine qm_E_next rfl ?_
    rcases qr_cond h with ⟨hb, h⟩ | ⟨hb, h⟩
    · refine qr_t hb rfl ?_
      change qm_E _ _ _ (49, [some (vR 1 0), some (vI a1)], [], qp_H s x e, (0, 0)) _
      cases h
      exact qr_ret rfl rfl rfl
    · refine qr_f hb rfl ?_
      change qm_E _ _ _ (8, [some (vR 1 0), some (vI a1)], [], qp_H s x e, (0, 0)) _
      iterate 3 refine qm_E_next rfl ?_
      obtain ⟨hb, h⟩ := qr_inb h
      refine qr_aaload hb rfl rfl rfl ?_
      change qm_E _ _ _ (14, [some (vR 1 0), some (vI a1)], [vR 14 (a1).toNatClampNeg], qp_H s x e, (0, 0)) _
      iterate 3 refine qm_E_next rfl ?_
      rcases qr_cond h with ⟨hb, h⟩ | ⟨hb, h⟩
      · refine qr_t hb rfl ?_
        change qm_E _ _ _ (43, [some (vR 1 0), some (vI a1)], [], qp_H s x e, (0, 0)) _
        iterate 2 refine qm_E_next rfl ?_
        exact ih h
      · refine qr_f hb rfl ?_
        change qm_E _ _ _ (24, [some (vR 1 0), some (vI a1)], [], qp_H s x e, (0, 0)) _
        iterate 4 refine qm_E_next rfl ?_
        obtain ⟨hb, h⟩ := qr_inb h
        refine qr_aaload hb rfl rfl rfl ?_
        change qm_E _ _ _ (31, [some (vR 1 0), some (vI a1)], [vR 14 (a1).toNatClampNeg, vR 1 0], qp_H s x e, (0, 0)) _
        obtain ⟨q1, hq, h⟩ := qs_bd h
        refine qm_E_call rfl (qe78 (d + 0) hq) rfl ?_
        change qm_E _ _ _ (34, [some (vR 1 0), some (vI a1)], [], qp_H q1.2 x e, (0, 0)) _
        iterate 3 refine qm_E_next rfl ?_
        obtain ⟨hb, h⟩ := qr_inb h
        refine qr_aaload hb rfl rfl rfl ?_
        change qm_E _ _ _ (40, [some (vR 1 0), some (vI a1)], [vR 14 (a1).toNatClampNeg], qp_H q1.2 x e, (0, 0)) _
        obtain ⟨q2, hq, h⟩ := qs_bd h
        refine qm_E_call rfl (qe81 (d + 2) hq) rfl ?_
        change qm_E _ _ _ (43, [some (vR 1 0), some (vI a1)], [], qp_H q2.2 x e, (0, 0)) _
        iterate 2 refine qm_E_next rfl ?_
        exact ih h
def qf77 (s : qp_S) : Option (Int32 × qp_S) := qf77_2 4096 (0 : Int32) s
theorem qe77 (d : Nat) {L : Nat} {xs : Nat → Int32} {x : Int64} {e : Nat → Nat}     {s : qp_S} {r : Int32 × qp_S} (h : qf77   s = some r) : qm_E (qz_ro L xs) (d + 3) 77 (0, qm_ent 77 [vR 1 0], [], qp_H s x e, (0, 0)) (qf_u r.2 x e) := by
  unfold qf77 at h
  iterate 2 refine qm_E_next rfl ?_
  exact qe77_2 d  h
/-! PeriodKernel.Actuator follow -/
def qf83 (n0 : Nat) (a1 : Int32) (a2 : Int32) (s : qp_S) : Option (Int32 × qp_S) := (bif qm_cmp .eq (s 26 n0 1) a1 then some (0, s) else some (0, (qp_up (qp_up s 26 n0 1 a1) 26 n0 2 a2)))
theorem qe83 (d : Nat) {L : Nat} {xs : Nat → Int32} {x : Int64} {e : Nat → Nat}    {n0 : Nat} {a1 : Int32} {a2 : Int32} {s : qp_S} {r : Int32 × qp_S} (h : qf83  n0 a1 a2 s = some r) : qm_E (qz_ro L xs) (d + 0) 83 (0, qm_ent 83 [vR 26 n0, vI a1, vI a2], [], qp_H s x e, (0, 0)) (qf_u r.2 x e) := by
  unfold qf83 at h
  iterate 3 refine qm_E_next rfl ?_
  rcases qr_cond h with ⟨hb, h⟩ | ⟨hb, h⟩
  · refine qr_t hb rfl ?_
    change qm_E _ _ _ (18, [some (vR 26 n0), some (vI a1), some (vI a2)], [], qp_H s x e, (0, 0)) _
    cases h
    exact qr_ret rfl rfl rfl
  · refine qr_f hb rfl ?_
    change qm_E _ _ _ (8, [some (vR 26 n0), some (vI a1), some (vI a2)], [], qp_H s x e, (0, 0)) _
    iterate 2 refine qm_E_next rfl ?_
    refine qr_put rfl rfl ?_
    change qm_E _ _ _ (13, [some (vR 26 n0), some (vI a1), some (vI a2)], [], qp_H (qp_up s 26 n0 1 a1) x e, (0, 0)) _
    iterate 2 refine qm_E_next rfl ?_
    refine qr_put rfl rfl ?_
    change qm_E _ _ _ (18, [some (vR 26 n0), some (vI a1), some (vI a2)], [], qp_H (qp_up (qp_up s 26 n0 1 a1) 26 n0 2 a2) x e, (0, 0)) _
    cases h
    exact qr_ret rfl rfl rfl
/-! PeriodKernel moveActuators -/
def qf82_2  : Nat → Int32 → qp_S → Option (Int32 × qp_S)
  | 0, _, _ => none
  | n + 1, a1, s => (bif qm_cmp .ge a1 (8 : Int32) then some (0, s) else (if qm_inb a1 8 = true then (bif qm_cmp .eq (s 26 (a1).toNatClampNeg 0) (-1 : Int32) then qf82_2  n (a1 + (1 : Int32)) s else (if qm_inb (s 26 (a1).toNatClampNeg 0) 16 = true then ((qf83 (a1).toNatClampNeg (s 21 ((s 26 (a1).toNatClampNeg 0)).toNatClampNeg 2) (s 1 0 9) s).bind fun q1 => qf82_2  n (a1 + (1 : Int32)) q1.2) else none)) else none))
theorem qe82_2 (d : Nat) {L : Nat} {xs : Nat → Int32} {x : Int64} {e : Nat → Nat}   : ∀ {n : Nat} {u2 : Option qm_V} {a1 : Int32} {s : qp_S} {r : Int32 × qp_S}, qf82_2  n a1 s = some r → qm_E (qz_ro L xs) (d + 1) 82 (2, [some (vR 1 0), some (vI a1), u2], [], qp_H s x e, (0, 0)) (qf_u r.2 x e) := by
  intro n
  induction n with
  | zero => intro u2 a1 s r h; cases h
  | succ n ih =>
    intro u2 a1 s r h
    unfold qf82_2 at h
    iterate 2 refine qm_E_next rfl ?_
    rcases qr_cond h with ⟨hb, h⟩ | ⟨hb, h⟩
    · refine qr_t hb rfl ?_
      change qm_E _ _ _ (49, [some (vR 1 0), some (vI a1), u2], [], qp_H s x e, (0, 0)) _
      cases h
      exact qr_ret rfl rfl rfl
    · refine qr_f hb rfl ?_
      change qm_E _ _ _ (8, [some (vR 1 0), some (vI a1), u2], [], qp_H s x e, (0, 0)) _
      iterate 3 refine qm_E_next rfl ?_
      obtain ⟨hb, h⟩ := qr_inb h
      refine qr_aaload hb rfl rfl rfl ?_
      change qm_E _ _ _ (14, [some (vR 1 0), some (vI a1), u2], [vR 26 (a1).toNatClampNeg], qp_H s x e, (0, 0)) _
      iterate 4 refine qm_E_next rfl ?_
      rcases qr_cond h with ⟨hb, h⟩ | ⟨hb, h⟩
      · refine qr_t hb rfl ?_
        change qm_E _ _ _ (43, [some (vR 1 0), some (vI a1), some (vR 26 (a1).toNatClampNeg)], [], qp_H s x e, (0, 0)) _
        iterate 2 refine qm_E_next rfl ?_
        exact ih h
      · refine qr_f hb rfl ?_
        change qm_E _ _ _ (23, [some (vR 1 0), some (vI a1), some (vR 26 (a1).toNatClampNeg)], [], qp_H s x e, (0, 0)) _
        iterate 5 refine qm_E_next rfl ?_
        obtain ⟨hb, h⟩ := qr_inb h
        refine qr_aaload hb rfl rfl rfl ?_
        change qm_E _ _ _ (33, [some (vR 1 0), some (vI a1), some (vR 26 (a1).toNatClampNeg)], [vR 21 ((s 26 (a1).toNatClampNeg 0)).toNatClampNeg, vR 26 (a1).toNatClampNeg], qp_H s x e, (0, 0)) _
        iterate 3 refine qm_E_next rfl ?_
        obtain ⟨q1, hq, h⟩ := qs_bd h
        refine qm_E_call rfl (qe83 (d + 0) hq) rfl ?_
        change qm_E _ _ _ (43, [some (vR 1 0), some (vI a1), some (vR 26 (a1).toNatClampNeg)], [], qp_H q1.2 x e, (0, 0)) _
        iterate 2 refine qm_E_next rfl ?_
        exact ih h
def qf82 (s : qp_S) : Option (Int32 × qp_S) := qf82_2 4096 (0 : Int32) s
theorem qe82 (d : Nat) {L : Nat} {xs : Nat → Int32} {x : Int64} {e : Nat → Nat}     {s : qp_S} {r : Int32 × qp_S} (h : qf82   s = some r) : qm_E (qz_ro L xs) (d + 1) 82 (0, qm_ent 82 [vR 1 0], [], qp_H s x e, (0, 0)) (qf_u r.2 x e) := by
  unfold qf82 at h
  iterate 2 refine qm_E_next rfl ?_
  exact qe82_2 d  h
/-! PeriodKernel readSensors -/
def qf84_2  : Nat → Int32 → qp_S → Option (Int32 × qp_S)
  | 0, _, _ => none
  | n + 1, a1, s => (bif qm_cmp .ge a1 (8 : Int32) then some (0, s) else (if qm_inb a1 8 = true then (bif qm_cmp .eq (s 5 0 (a1).toNatClampNeg) (-1 : Int32) then qf84_2  n (a1 + (1 : Int32)) s else (if qm_inb a1 8 = true then (if qm_inb (s 5 0 (a1).toNatClampNeg) 16 = true then (if qm_inb a1 8 = true then ((qf79 ((s 5 0 (a1).toNatClampNeg)).toNatClampNeg (s 6 0 (a1).toNatClampNeg) s).bind fun q1 => qf84_2  n (a1 + (1 : Int32)) q1.2) else none) else none) else none)) else none))
theorem qe84_2 (d : Nat) {L : Nat} {xs : Nat → Int32} {x : Int64} {e : Nat → Nat}   : ∀ {n : Nat}  {a1 : Int32} {s : qp_S} {r : Int32 × qp_S}, qf84_2  n a1 s = some r → qm_E (qz_ro L xs) (d + 2) 84 (2, [some (vR 1 0), some (vI a1)], [], qp_H s x e, (0, 0)) (qf_u r.2 x e) := by
  intro n
  induction n with
  | zero => intro  a1 s r h; cases h
  | succ n ih =>
    intro  a1 s r h
    unfold qf84_2 at h
    iterate 2 refine qm_E_next rfl ?_
    rcases qr_cond h with ⟨hb, h⟩ | ⟨hb, h⟩
    · refine qr_t hb rfl ?_
      change qm_E _ _ _ (44, [some (vR 1 0), some (vI a1)], [], qp_H s x e, (0, 0)) _
      cases h
      exact qr_ret rfl rfl rfl
    · refine qr_f hb rfl ?_
      change qm_E _ _ _ (8, [some (vR 1 0), some (vI a1)], [], qp_H s x e, (0, 0)) _
      iterate 3 refine qm_E_next rfl ?_
      obtain ⟨hb, h⟩ := qr_inb h
      refine qr_iaload hb rfl rfl rfl rfl ?_
      change qm_E _ _ _ (14, [some (vR 1 0), some (vI a1)], [vI (s 5 0 (a1).toNatClampNeg)], qp_H s x e, (0, 0)) _
      iterate 1 refine qm_E_next rfl ?_
      rcases qr_cond h with ⟨hb, h⟩ | ⟨hb, h⟩
      · refine qr_t hb rfl ?_
        change qm_E _ _ _ (38, [some (vR 1 0), some (vI a1)], [], qp_H s x e, (0, 0)) _
        iterate 2 refine qm_E_next rfl ?_
        exact ih h
      · refine qr_f hb rfl ?_
        change qm_E _ _ _ (18, [some (vR 1 0), some (vI a1)], [], qp_H s x e, (0, 0)) _
        iterate 5 refine qm_E_next rfl ?_
        obtain ⟨hb, h⟩ := qr_inb h
        refine qr_iaload hb rfl rfl rfl rfl ?_
        change qm_E _ _ _ (28, [some (vR 1 0), some (vI a1)], [vI (s 5 0 (a1).toNatClampNeg), vR 3 0], qp_H s x e, (0, 0)) _
        obtain ⟨hb, h⟩ := qr_inb h
        refine qr_aaload hb rfl rfl rfl ?_
        change qm_E _ _ _ (29, [some (vR 1 0), some (vI a1)], [vR 21 ((s 5 0 (a1).toNatClampNeg)).toNatClampNeg], qp_H s x e, (0, 0)) _
        iterate 3 refine qm_E_next rfl ?_
        obtain ⟨hb, h⟩ := qr_inb h
        refine qr_iaload hb rfl rfl rfl rfl ?_
        change qm_E _ _ _ (35, [some (vR 1 0), some (vI a1)], [vI (s 6 0 (a1).toNatClampNeg), vR 21 ((s 5 0 (a1).toNatClampNeg)).toNatClampNeg], qp_H s x e, (0, 0)) _
        obtain ⟨q1, hq, h⟩ := qs_bd h
        refine qm_E_call rfl (qe79 (d + 0) hq) rfl ?_
        change qm_E _ _ _ (38, [some (vR 1 0), some (vI a1)], [], qp_H q1.2 x e, (0, 0)) _
        iterate 2 refine qm_E_next rfl ?_
        exact ih h
def qf84 (s : qp_S) : Option (Int32 × qp_S) := qf84_2 4096 (0 : Int32) s
theorem qe84 (d : Nat) {L : Nat} {xs : Nat → Int32} {x : Int64} {e : Nat → Nat}     {s : qp_S} {r : Int32 × qp_S} (h : qf84   s = some r) : qm_E (qz_ro L xs) (d + 2) 84 (0, qm_ent 84 [vR 1 0], [], qp_H s x e, (0, 0)) (qf_u r.2 x e) := by
  unfold qf84 at h
  iterate 2 refine qm_E_next rfl ?_
  exact qe84_2 d  h
/-! PeriodKernel.Guard isTrue -/
def qf87 (n0 : Nat) (a1 : Int32) (s : qp_S) : Option (Int32) := (bif decide (((s 25 n0 1)).toInt < 0 ∨ 4 < ((s 25 n0 1)).toInt) then (bif qm_cmp .le a1 (s 25 n0 2) then some (0 : Int32) else some (1 : Int32)) else (bif decide ((s 25 n0 1) = (0 : Int32)) then (bif qm_cmp .ge a1 (s 25 n0 2) then some (0 : Int32) else some (1 : Int32)) else (bif decide ((s 25 n0 1) = (1 : Int32)) then (bif qm_cmp .gt a1 (s 25 n0 2) then some (0 : Int32) else some (1 : Int32)) else (bif decide ((s 25 n0 1) = (2 : Int32)) then (bif qm_cmp .ne a1 (s 25 n0 2) then some (0 : Int32) else some (1 : Int32)) else (bif decide ((s 25 n0 1) = (3 : Int32)) then (bif qm_cmp .eq a1 (s 25 n0 2) then some (0 : Int32) else some (1 : Int32)) else (bif decide ((s 25 n0 1) = (4 : Int32)) then (bif qm_cmp .lt a1 (s 25 n0 2) then some (0 : Int32) else some (1 : Int32)) else none))))))
theorem qe87 (d : Nat) {L : Nat} {xs : Nat → Int32} {x : Int64} {e : Nat → Nat}    {n0 : Nat} {a1 : Int32} {s : qp_S} {r : Int32} (h : qf87  n0 a1 s = some r) : qm_E (qz_ro L xs) (d + 0) 87 (0, qm_ent 87 [vR 25 n0, vI a1], [], qp_H s x e, (0, 0)) (qf_v r s x e) := by
  unfold qf87 at h
  iterate 2 refine qm_E_next rfl ?_
  rcases qr_cond h with ⟨hb, h⟩ | ⟨-, h⟩
  · refine qr_tsd hb rfl rfl rfl ?_
    change qm_E _ _ _ (110, [some (vR 25 n0), some (vI a1)], [], qp_H s x e, (0, 0)) _
    iterate 3 refine qm_E_next rfl ?_
    rcases qr_cond h with ⟨hb, h⟩ | ⟨hb, h⟩
    · refine qr_t hb rfl ?_
      change qm_E _ _ _ (122, [some (vR 25 n0), some (vI a1)], [], qp_H s x e, (0, 0)) _
      iterate 1 refine qm_E_next rfl ?_
      cases h
      exact qr_iret (Or.inr ⟨rfl, Or.inl rfl⟩) rfl rfl
    · refine qr_f hb rfl ?_
      change qm_E _ _ _ (118, [some (vR 25 n0), some (vI a1)], [], qp_H s x e, (0, 0)) _
      iterate 2 refine qm_E_next rfl ?_
      cases h
      exact qr_iret (Or.inr ⟨rfl, Or.inr rfl⟩) rfl rfl
  · rcases qr_cond h with ⟨hb, h⟩ | ⟨-, h⟩
    · refine qr_tsv hb rfl ?_
      change qm_E _ _ _ (40, [some (vR 25 n0), some (vI a1)], [], qp_H s x e, (0, 0)) _
      iterate 3 refine qm_E_next rfl ?_
      rcases qr_cond h with ⟨hb, h⟩ | ⟨hb, h⟩
      · refine qr_t hb rfl ?_
        change qm_E _ _ _ (52, [some (vR 25 n0), some (vI a1)], [], qp_H s x e, (0, 0)) _
        iterate 1 refine qm_E_next rfl ?_
        cases h
        exact qr_iret (Or.inr ⟨rfl, Or.inl rfl⟩) rfl rfl
      · refine qr_f hb rfl ?_
        change qm_E _ _ _ (48, [some (vR 25 n0), some (vI a1)], [], qp_H s x e, (0, 0)) _
        iterate 2 refine qm_E_next rfl ?_
        cases h
        exact qr_iret (Or.inr ⟨rfl, Or.inr rfl⟩) rfl rfl
    · rcases qr_cond h with ⟨hb, h⟩ | ⟨-, h⟩
      · refine qr_tsv hb rfl ?_
        change qm_E _ _ _ (54, [some (vR 25 n0), some (vI a1)], [], qp_H s x e, (0, 0)) _
        iterate 3 refine qm_E_next rfl ?_
        rcases qr_cond h with ⟨hb, h⟩ | ⟨hb, h⟩
        · refine qr_t hb rfl ?_
          change qm_E _ _ _ (66, [some (vR 25 n0), some (vI a1)], [], qp_H s x e, (0, 0)) _
          iterate 1 refine qm_E_next rfl ?_
          cases h
          exact qr_iret (Or.inr ⟨rfl, Or.inl rfl⟩) rfl rfl
        · refine qr_f hb rfl ?_
          change qm_E _ _ _ (62, [some (vR 25 n0), some (vI a1)], [], qp_H s x e, (0, 0)) _
          iterate 2 refine qm_E_next rfl ?_
          cases h
          exact qr_iret (Or.inr ⟨rfl, Or.inr rfl⟩) rfl rfl
      · rcases qr_cond h with ⟨hb, h⟩ | ⟨-, h⟩
        · refine qr_tsv hb rfl ?_
          change qm_E _ _ _ (68, [some (vR 25 n0), some (vI a1)], [], qp_H s x e, (0, 0)) _
          iterate 3 refine qm_E_next rfl ?_
          rcases qr_cond h with ⟨hb, h⟩ | ⟨hb, h⟩
          · refine qr_t hb rfl ?_
            change qm_E _ _ _ (80, [some (vR 25 n0), some (vI a1)], [], qp_H s x e, (0, 0)) _
            iterate 1 refine qm_E_next rfl ?_
            cases h
            exact qr_iret (Or.inr ⟨rfl, Or.inl rfl⟩) rfl rfl
          · refine qr_f hb rfl ?_
            change qm_E _ _ _ (76, [some (vR 25 n0), some (vI a1)], [], qp_H s x e, (0, 0)) _
            iterate 2 refine qm_E_next rfl ?_
            cases h
            exact qr_iret (Or.inr ⟨rfl, Or.inr rfl⟩) rfl rfl
        · rcases qr_cond h with ⟨hb, h⟩ | ⟨-, h⟩
          · refine qr_tsv hb rfl ?_
            change qm_E _ _ _ (82, [some (vR 25 n0), some (vI a1)], [], qp_H s x e, (0, 0)) _
            iterate 3 refine qm_E_next rfl ?_
            rcases qr_cond h with ⟨hb, h⟩ | ⟨hb, h⟩
            · refine qr_t hb rfl ?_
              change qm_E _ _ _ (94, [some (vR 25 n0), some (vI a1)], [], qp_H s x e, (0, 0)) _
              iterate 1 refine qm_E_next rfl ?_
              cases h
              exact qr_iret (Or.inr ⟨rfl, Or.inl rfl⟩) rfl rfl
            · refine qr_f hb rfl ?_
              change qm_E _ _ _ (90, [some (vR 25 n0), some (vI a1)], [], qp_H s x e, (0, 0)) _
              iterate 2 refine qm_E_next rfl ?_
              cases h
              exact qr_iret (Or.inr ⟨rfl, Or.inr rfl⟩) rfl rfl
          · rcases qr_cond h with ⟨hb, h⟩ | ⟨-, h⟩
            · refine qr_tsv hb rfl ?_
              change qm_E _ _ _ (96, [some (vR 25 n0), some (vI a1)], [], qp_H s x e, (0, 0)) _
              iterate 3 refine qm_E_next rfl ?_
              rcases qr_cond h with ⟨hb, h⟩ | ⟨hb, h⟩
              · refine qr_t hb rfl ?_
                change qm_E _ _ _ (108, [some (vR 25 n0), some (vI a1)], [], qp_H s x e, (0, 0)) _
                iterate 1 refine qm_E_next rfl ?_
                cases h
                exact qr_iret (Or.inr ⟨rfl, Or.inl rfl⟩) rfl rfl
              · refine qr_f hb rfl ?_
                change qm_E _ _ _ (104, [some (vR 25 n0), some (vI a1)], [], qp_H s x e, (0, 0)) _
                iterate 2 refine qm_E_next rfl ?_
                cases h
                exact qr_iret (Or.inr ⟨rfl, Or.inr rfl⟩) rfl rfl
            · cases h
/-! PeriodKernel.Mode chooseNext -/
def qf86_2  : Nat → Nat → Int32 → qp_S → Option (Int32)
  | 0, _, _, _ => none
  | n + 1, n0, a2, s => (bif qm_cmp .ge a2 (s 22 n0 1) then some (-1 : Int32) else (if qm_inb a2 4 = true then (if qm_inb a2 4 = true then (if qm_inb (s 25 (4 * n0 + (a2).toNatClampNeg) 0) 16 = true then ((qf87 (4 * n0 + (a2).toNatClampNeg) (s 21 ((s 25 (4 * n0 + (a2).toNatClampNeg) 0)).toNatClampNeg 2) s).bind fun q1 => (bif qm_cmp .eq q1 (0 : Int32) then qf86_2  n n0 (a2 + (1 : Int32)) s else (if qm_inb a2 4 = true then some (s 25 (4 * n0 + (a2).toNatClampNeg) 3) else none))) else none) else none) else none))
theorem qe86_2 (d : Nat) {L : Nat} {xs : Nat → Int32} {x : Int64} {e : Nat → Nat}   : ∀ {n : Nat}  {n0 : Nat} {a2 : Int32} {s : qp_S} {r : Int32}, qf86_2  n n0 a2 s = some r → qm_E (qz_ro L xs) (d + 1) 86 (2, [some (vR 22 n0), some (vR 3 0), some (vI a2)], [], qp_H s x e, (0, 0)) (qf_v r s x e) := by
  intro n
  induction n with
  | zero => intro  n0 a2 s r h; cases h
  | succ n ih =>
    intro  n0 a2 s r h
    unfold qf86_2 at h
    iterate 3 refine qm_E_next rfl ?_
    rcases qr_cond h with ⟨hb, h⟩ | ⟨hb, h⟩
    · refine qr_t hb rfl ?_
      change qm_E _ _ _ (52, [some (vR 22 n0), some (vR 3 0), some (vI a2)], [], qp_H s x e, (0, 0)) _
      iterate 1 refine qm_E_next rfl ?_
      cases h
      exact qr_iret (Or.inl rfl) rfl rfl
    · refine qr_f hb rfl ?_
      change qm_E _ _ _ (10, [some (vR 22 n0), some (vR 3 0), some (vI a2)], [], qp_H s x e, (0, 0)) _
      iterate 3 refine qm_E_next rfl ?_
      obtain ⟨hb, h⟩ := qr_inb h
      refine qr_aaload hb rfl rfl rfl ?_
      change qm_E _ _ _ (16, [some (vR 22 n0), some (vR 3 0), some (vI a2)], [vR 25 (4 * n0 + (a2).toNatClampNeg)], qp_H s x e, (0, 0)) _
      iterate 4 refine qm_E_next rfl ?_
      obtain ⟨hb, h⟩ := qr_inb h
      refine qr_aaload hb rfl rfl rfl ?_
      change qm_E _ _ _ (23, [some (vR 22 n0), some (vR 3 0), some (vI a2)], [vR 25 (4 * n0 + (a2).toNatClampNeg), vR 3 0, vR 25 (4 * n0 + (a2).toNatClampNeg)], qp_H s x e, (0, 0)) _
      iterate 1 refine qm_E_next rfl ?_
      obtain ⟨hb, h⟩ := qr_inb h
      refine qr_aaload hb rfl rfl rfl ?_
      change qm_E _ _ _ (27, [some (vR 22 n0), some (vR 3 0), some (vI a2)], [vR 21 ((s 25 (4 * n0 + (a2).toNatClampNeg) 0)).toNatClampNeg, vR 25 (4 * n0 + (a2).toNatClampNeg)], qp_H s x e, (0, 0)) _
      iterate 1 refine qm_E_next rfl ?_
      obtain ⟨q1, hq, h⟩ := qs_bd h
      refine qm_E_call rfl (qe87 (d + 0) hq) rfl ?_
      change qm_E _ _ _ (33, [some (vR 22 n0), some (vR 3 0), some (vI a2)], [vI q1], qp_H s x e, (0, 0)) _
      rcases qr_cond h with ⟨hb, h⟩ | ⟨hb, h⟩
      · refine qr_t hb rfl ?_
        change qm_E _ _ _ (46, [some (vR 22 n0), some (vR 3 0), some (vI a2)], [], qp_H s x e, (0, 0)) _
        iterate 2 refine qm_E_next rfl ?_
        exact ih h
      · refine qr_f hb rfl ?_
        change qm_E _ _ _ (36, [some (vR 22 n0), some (vR 3 0), some (vI a2)], [], qp_H s x e, (0, 0)) _
        iterate 3 refine qm_E_next rfl ?_
        obtain ⟨hb, h⟩ := qr_inb h
        refine qr_aaload hb rfl rfl rfl ?_
        change qm_E _ _ _ (42, [some (vR 22 n0), some (vR 3 0), some (vI a2)], [vR 25 (4 * n0 + (a2).toNatClampNeg)], qp_H s x e, (0, 0)) _
        iterate 1 refine qm_E_next rfl ?_
        cases h
        exact qr_iret (Or.inl rfl) rfl rfl
def qf86 (n0 : Nat) (s : qp_S) : Option (Int32) := qf86_2 4096 n0 (0 : Int32) s
theorem qe86 (d : Nat) {L : Nat} {xs : Nat → Int32} {x : Int64} {e : Nat → Nat}    {n0 : Nat} {s : qp_S} {r : Int32} (h : qf86  n0 s = some r) : qm_E (qz_ro L xs) (d + 1) 86 (0, qm_ent 86 [vR 22 n0, vR 3 0], [], qp_H s x e, (0, 0)) (qf_v r s x e) := by
  unfold qf86 at h
  iterate 2 refine qm_E_next rfl ?_
  exact qe86_2 d  h
