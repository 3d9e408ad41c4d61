/-! PeriodKernelModel pick -/
def qf159_16 (a1 : Int32) (b1 : Int32) (s : qp_S) : Option (Int32 × qp_S) := (bif qm_cmp .gt ((qp_up s 30 0 0 b1) 30 0 0) (0 : Int32) then some ((0 : Int32), (qp_up s 30 0 0 b1)) else ((qf160 a1 (qp_up s 30 0 0 b1)).bind fun q2 => (bif qm_cmp .ne q2 (0 : Int32) then (if qm_inb a1 8 = true then (if qm_inb a1 8 = true then some ((1 : Int32), (qp_up (qp_up s 30 0 0 b1) 53 0 (a1).toNatClampNeg (((qp_up s 30 0 0 b1) 53 0 (a1).toNatClampNeg) + (1 : Int32)))) else none) else none) else some ((0 : Int32), (qp_up s 30 0 0 b1)))))
theorem qe159_16 (d : Nat) {L : Nat} {xs : Nat → Int32} {x : Int64} {e : Nat → Nat}    {a1 : Int32} {b1 : Int32} {s : qp_S} {r : Int32 × qp_S} (h : qf159_16  a1 b1 s = some r) : qm_E (qz_ro L xs) (d + 1) 159 (16, [some (vR 30 0), some (vI a1)], [vI b1, vR 30 0], qp_H s x e, (0, 0)) (qf_v r.1 r.2 x e) := by
  unfold qf159_16 at h
  refine qr_put rfl rfl ?_
  change qm_E _ _ _ (19, [some (vR 30 0), some (vI a1)], [], qp_H (qp_up s 30 0 0 b1) x e, (0, 0)) _
  iterate 2 refine qm_E_next rfl ?_
  rcases qr_cond h with ⟨hb, h⟩ | ⟨hb, h⟩
  · refine qr_t hb rfl ?_
    change qm_E _ _ _ (34, [some (vR 30 0), some (vI a1)], [], qp_H (qp_up s 30 0 0 b1) x e, (0, 0)) _
    iterate 1 refine qm_E_next rfl ?_
    cases h
    exact qr_iret (Or.inr ⟨rfl, Or.inl rfl⟩) rfl rfl
  · refine qr_f hb rfl ?_
    change qm_E _ _ _ (26, [some (vR 30 0), some (vI a1)], [], qp_H (qp_up s 30 0 0 b1) x e, (0, 0)) _
    iterate 2 refine qm_E_next rfl ?_
    obtain ⟨q2, hq, h⟩ := qs_bd h
    refine qm_E_call rfl (qe160 (d + 0) hq) rfl ?_
    change qm_E _ _ _ (31, [some (vR 30 0), some (vI a1)], [vI q2], qp_H (qp_up s 30 0 0 b1) x e, (0, 0)) _
    rcases qr_cond h with ⟨hb, h⟩ | ⟨hb, h⟩
    · refine qr_t hb rfl ?_
      change qm_E _ _ _ (36, [some (vR 30 0), some (vI a1)], [], qp_H (qp_up s 30 0 0 b1) x e, (0, 0)) _
      iterate 4 refine qm_E_next rfl ?_
      obtain ⟨hb, h⟩ := qr_inb h
      refine qr_iaload hb rfl rfl rfl rfl ?_
      change qm_E _ _ _ (43, [some (vR 30 0), some (vI a1)], [vI ((qp_up s 30 0 0 b1) 53 0 (a1).toNatClampNeg), vI a1, vR 53 0], qp_H (qp_up s 30 0 0 b1) x e, (0, 0)) _
      iterate 2 refine qm_E_next rfl ?_
      obtain ⟨hb, h⟩ := qr_inb h
      refine qr_iastore hb rfl rfl rfl rfl rfl ?_
      change qm_E _ _ _ (46, [some (vR 30 0), some (vI a1)], [], qp_H (qp_up (qp_up s 30 0 0 b1) 53 0 (a1).toNatClampNeg (((qp_up s 30 0 0 b1) 53 0 (a1).toNatClampNeg) + (1 : Int32))) x e, (0, 0)) _
      iterate 1 refine qm_E_next rfl ?_
      cases h
      exact qr_iret (Or.inr ⟨rfl, Or.inr rfl⟩) rfl rfl
    · refine qr_f hb rfl ?_
      change qm_E _ _ _ (34, [some (vR 30 0), some (vI a1)], [], qp_H (qp_up s 30 0 0 b1) x e, (0, 0)) _
      iterate 1 refine qm_E_next rfl ?_
      cases h
      exact qr_iret (Or.inr ⟨rfl, Or.inl rfl⟩) rfl rfl
def qf159 (a1 : Int32) (s : qp_S) : Option (Int32 × qp_S) := ((qf116 a1 (0 : Int32) (7 : Int32) s).bind fun q1 => (bif qm_cmp .eq q1 (0 : Int32) then qf159_16 a1 (1 : Int32) s else qf159_16 a1 (0 : Int32) s))
theorem qe159 (d : Nat) {L : Nat} {xs : Nat → Int32} {x : Int64} {e : Nat → Nat}    {a1 : Int32} {s : qp_S} {r : Int32 × qp_S} (h : qf159  a1 s = some r) : qm_E (qz_ro L xs) (d + 1) 159 (0, qm_ent 159 [vR 30 0, vI a1], [], qp_H s x e, (0, 0)) (qf_v r.1 r.2 x e) := by
  unfold qf159 at h
  iterate 4 refine qm_E_next rfl ?_
  obtain ⟨q1, hq, h⟩ := qs_bd h
  refine qm_E_call rfl (qe116 (d + 0) hq) rfl ?_
  change qm_E _ _ _ (8, [some (vR 30 0), some (vI a1)], [vI q1, vR 30 0], qp_H s x e, (0, 0)) _
  rcases qr_cond h with ⟨hb, h⟩ | ⟨hb, h⟩
  · refine qr_t hb rfl ?_
    change qm_E _ _ _ (15, [some (vR 30 0), some (vI a1)], [vR 30 0], qp_H s x e, (0, 0)) _
    iterate 1 refine qm_E_next rfl ?_
    exact qe159_16 d  h
  · refine qr_f hb rfl ?_
    change qm_E _ _ _ (11, [some (vR 30 0), some (vI a1)], [vR 30 0], qp_H s x e, (0, 0)) _
    iterate 2 refine qm_E_next rfl ?_
    exact qe159_16 d  h
/-! PeriodKernelModel first -/
def qf162_4  : Nat → Int32 → Int32 → qp_S → Option (Int32)
  | 0, _, _, _ => none
  | n + 1, a1, a2, s => (bif qm_cmp .ge a2 (8 : Int32) then some a1 else ((qf160 a2 s).bind fun q1 => (bif qm_cmp .eq q1 (0 : Int32) then qf162_4  n a1 (a2 + (1 : Int32)) s else (bif qm_cmp .lt a1 (0 : Int32) then qf162_4  n a2 (a2 + (1 : Int32)) s else (if qm_inb a2 8 = true then (if qm_inb a1 8 = true then (bif qm_cmp .ge (s 52 0 (a2).toNatClampNeg) (s 52 0 (a1).toNatClampNeg) then qf162_4  n a1 (a2 + (1 : Int32)) s else qf162_4  n a2 (a2 + (1 : Int32)) s) else none) else none)))))
theorem qe162_4 (d : Nat) {L : Nat} {xs : Nat → Int32} {x : Int64} {e : Nat → Nat}   : ∀ {n : Nat}  {a1 : Int32} {a2 : Int32} {s : qp_S} {r : Int32}, qf162_4  n a1 a2 s = some r → qm_E (qz_ro L xs) (d + 1) 162 (4, [some (vR 30 0), some (vI a1), some (vI a2)], [], qp_H s x e, (0, 0)) (qf_v r s x e) := by
  intro n
  induction n with
  | zero => intro  a1 a2 s r h; cases h
  | succ n ih =>
    intro  a1 a2 s r h
    unfold qf162_4 at h
    iterate 2 refine qm_E_next rfl ?_
    rcases qr_cond h with ⟨hb, h⟩ | ⟨hb, h⟩
    · refine qr_t hb rfl ?_
      change qm_E _ _ _ (45, [some (vR 30 0), some (vI a1), some (vI a2)], [], qp_H s x e, (0, 0)) _
      iterate 1 refine qm_E_next rfl ?_
      cases h
      exact qr_iret (Or.inl rfl) rfl rfl
    · refine qr_f hb rfl ?_
      change qm_E _ _ _ (10, [some (vR 30 0), some (vI a1), some (vI a2)], [], qp_H s x e, (0, 0)) _
      iterate 2 refine qm_E_next rfl ?_
      obtain ⟨q1, hq, h⟩ := qs_bd h
      refine qm_E_call rfl (qe160 (d + 0) hq) rfl ?_
      change qm_E _ _ _ (15, [some (vR 30 0), some (vI a1), some (vI a2)], [vI q1], qp_H s x e, (0, 0)) _
      rcases qr_cond h with ⟨hb, h⟩ | ⟨hb, h⟩
      · refine qr_t hb rfl ?_
        change qm_E _ _ _ (39, [some (vR 30 0), some (vI a1), some (vI a2)], [], qp_H s x e, (0, 0)) _
        iterate 2 refine qm_E_next rfl ?_
        exact ih h
      · refine qr_f hb rfl ?_
        change qm_E _ _ _ (18, [some (vR 30 0), some (vI a1), some (vI a2)], [], qp_H s x e, (0, 0)) _
        iterate 1 refine qm_E_next rfl ?_
        rcases qr_cond h with ⟨hb, h⟩ | ⟨hb, h⟩
        · refine qr_t hb rfl ?_
          change qm_E _ _ _ (37, [some (vR 30 0), some (vI a1), some (vI a2)], [], qp_H s x e, (0, 0)) _
          iterate 4 refine qm_E_next rfl ?_
          exact ih h
        · refine qr_f hb rfl ?_
          change qm_E _ _ _ (22, [some (vR 30 0), some (vI a1), some (vI a2)], [], qp_H s x e, (0, 0)) _
          iterate 3 refine qm_E_next rfl ?_
          obtain ⟨hb, h⟩ := qr_inb h
          refine qr_iaload hb rfl rfl rfl rfl ?_
          change qm_E _ _ _ (28, [some (vR 30 0), some (vI a1), some (vI a2)], [vI (s 52 0 (a2).toNatClampNeg)], qp_H s x e, (0, 0)) _
          iterate 3 refine qm_E_next rfl ?_
          obtain ⟨hb, h⟩ := qr_inb h
          refine qr_iaload hb rfl rfl rfl rfl ?_
          change qm_E _ _ _ (34, [some (vR 30 0), some (vI a1), some (vI a2)], [vI (s 52 0 (a1).toNatClampNeg), vI (s 52 0 (a2).toNatClampNeg)], qp_H s x e, (0, 0)) _
          rcases qr_cond h with ⟨hb, h⟩ | ⟨hb, h⟩
          · refine qr_t hb rfl ?_
            change qm_E _ _ _ (39, [some (vR 30 0), some (vI a1), some (vI a2)], [], qp_H s x e, (0, 0)) _
            iterate 2 refine qm_E_next rfl ?_
            exact ih h
          · refine qr_f hb rfl ?_
            change qm_E _ _ _ (37, [some (vR 30 0), some (vI a1), some (vI a2)], [], qp_H s x e, (0, 0)) _
            iterate 4 refine qm_E_next rfl ?_
            exact ih h
def qf162 (s : qp_S) : Option (Int32) := qf162_4 4096 (-1 : Int32) (0 : Int32) s
theorem qe162 (d : Nat) {L : Nat} {xs : Nat → Int32} {x : Int64} {e : Nat → Nat}     {s : qp_S} {r : Int32} (h : qf162   s = some r) : qm_E (qz_ro L xs) (d + 1) 162 (0, qm_ent 162 [vR 30 0], [], qp_H s x e, (0, 0)) (qf_v r s x e) := by
  unfold qf162 at h
  iterate 4 refine qm_E_next rfl ?_
  exact qe162_4 d  h
/-! PeriodKernelModel step -/
def qf161_33  : Nat → Int32 → Int32 → qp_S → Option (Int32 × qp_S)
  | 0, _, _, _ => none
  | n + 1, a1, a2, s => (bif qm_cmp .ne (s 30 0 0) (0 : Int32) then some (a2, s) else (bif qm_cmp .ge a2 a1 then some (a2, s) else ((qf162  s).bind fun q2 => (bif qm_cmp .lt q2 (0 : Int32) then some (a2, s) else ((qf162  s).bind fun q3 => (if qm_inb q3 8 = true then (if qm_inb q3 8 = true then qf161_33  n a1 (a2 + (1 : Int32)) (qp_up s 53 0 (q3).toNatClampNeg ((s 53 0 (q3).toNatClampNeg) + (1 : Int32))) else none) else none))))))
theorem qe161_33 (d : Nat) {L : Nat} {xs : Nat → Int32} {x : Int64} {e : Nat → Nat}   : ∀ {n : Nat}  {a1 : Int32} {a2 : Int32} {s : qp_S} {r : Int32 × qp_S}, qf161_33  n a1 a2 s = some r → qm_E (qz_ro L xs) (d + 2) 161 (33, [some (vR 30 0), some (vI a1), some (vI a2)], [], qp_H s x e, (0, 0)) (qf_v r.1 r.2 x e) := by
  intro n
  induction n with
  | zero => intro  a1 a2 s r h; cases h
  | succ n ih =>
    intro  a1 a2 s r h
    unfold qf161_33 at h
    iterate 2 refine qm_E_next rfl ?_
    rcases qr_cond h with ⟨hb, h⟩ | ⟨hb, h⟩
    · refine qr_t hb rfl ?_
      change qm_E _ _ _ (71, [some (vR 30 0), some (vI a1), some (vI a2)], [], qp_H s x e, (0, 0)) _
      iterate 1 refine qm_E_next rfl ?_
      cases h
      exact qr_iret (Or.inl rfl) rfl rfl
    · refine qr_f hb rfl ?_
      change qm_E _ _ _ (40, [some (vR 30 0), some (vI a1), some (vI a2)], [], qp_H s x e, (0, 0)) _
      iterate 2 refine qm_E_next rfl ?_
      rcases qr_cond h with ⟨hb, h⟩ | ⟨hb, h⟩
      · refine qr_t hb rfl ?_
        change qm_E _ _ _ (71, [some (vR 30 0), some (vI a1), some (vI a2)], [], qp_H s x e, (0, 0)) _
        iterate 1 refine qm_E_next rfl ?_
        cases h
        exact qr_iret (Or.inl rfl) rfl rfl
      · refine qr_f hb rfl ?_
        change qm_E _ _ _ (45, [some (vR 30 0), some (vI a1), some (vI a2)], [], qp_H s x e, (0, 0)) _
        iterate 1 refine qm_E_next rfl ?_
        obtain ⟨q2, hq, h⟩ := qs_bd h
        refine qm_E_call rfl (qe162 (d + 0) hq) rfl ?_
        change qm_E _ _ _ (49, [some (vR 30 0), some (vI a1), some (vI a2)], [vI q2], qp_H s x e, (0, 0)) _
        rcases qr_cond h with ⟨hb, h⟩ | ⟨hb, h⟩
        · refine qr_t hb rfl ?_
          change qm_E _ _ _ (71, [some (vR 30 0), some (vI a1), some (vI a2)], [], qp_H s x e, (0, 0)) _
          iterate 1 refine qm_E_next rfl ?_
          cases h
          exact qr_iret (Or.inl rfl) rfl rfl
        · refine qr_f hb rfl ?_
          change qm_E _ _ _ (52, [some (vR 30 0), some (vI a1), some (vI a2)], [], qp_H s x e, (0, 0)) _
          iterate 3 refine qm_E_next rfl ?_
          obtain ⟨q3, hq, h⟩ := qs_bd h
          refine qm_E_call rfl (qe162 (d + 0) hq) rfl ?_
          change qm_E _ _ _ (60, [some (vR 30 0), some (vI a1), some (vI a2)], [vI q3, vR 53 0], qp_H s x e, (0, 0)) _
          iterate 1 refine qm_E_next rfl ?_
          obtain ⟨hb, h⟩ := qr_inb h
          refine qr_iaload hb rfl rfl rfl rfl ?_
          change qm_E _ _ _ (62, [some (vR 30 0), some (vI a1), some (vI a2)], [vI (s 53 0 (q3).toNatClampNeg), vI q3, vR 53 0], qp_H s x e, (0, 0)) _
          iterate 2 refine qm_E_next rfl ?_
          obtain ⟨hb, h⟩ := qr_inb h
          refine qr_iastore hb rfl rfl rfl rfl rfl ?_
          change qm_E _ _ _ (65, [some (vR 30 0), some (vI a1), some (vI a2)], [], qp_H (qp_up s 53 0 (q3).toNatClampNeg ((s 53 0 (q3).toNatClampNeg) + (1 : Int32))) x e, (0, 0)) _
          iterate 2 refine qm_E_next rfl ?_
          exact ih h
def qf161 (a1 : Int32) (s : qp_S) : Option (Int32 × qp_S) := ((qf116 a1 (0 : Int32) (2000 : Int32) s).bind fun q1 => (bif qm_cmp .ne q1 (0 : Int32) then (bif qm_cmp .ne (s 30 0 20) (0 : Int32) then qf161_33 4096 a1 (0 : Int32) (qp_up s 30 0 0 (0 : Int32)) else qf161_33 4096 a1 (0 : Int32) (qp_up s 30 0 0 (2 : Int32))) else qf161_33 4096 a1 (0 : Int32) (qp_up s 30 0 0 (1 : Int32))))
theorem qe161 (d : Nat) {L : Nat} {xs : Nat → Int32} {x : Int64} {e : Nat → Nat}    {a1 : Int32} {s : qp_S} {r : Int32 × qp_S} (h : qf161  a1 s = some r) : qm_E (qz_ro L xs) (d + 2) 161 (0, qm_ent 161 [vR 30 0, vI a1], [], qp_H s x e, (0, 0)) (qf_v r.1 r.2 x e) := by
  unfold qf161 at h
  iterate 4 refine qm_E_next rfl ?_
  obtain ⟨q1, hq, h⟩ := qs_bd h
  refine qm_E_call rfl (qe116 (d + 1) hq) rfl ?_
  change qm_E _ _ _ (9, [some (vR 30 0), some (vI a1), none], [vI q1, vR 30 0], qp_H s x e, (0, 0)) _
  rcases qr_cond h with ⟨hb, h⟩ | ⟨hb, h⟩
  · refine qr_t hb rfl ?_
    change qm_E _ _ _ (16, [some (vR 30 0), some (vI a1), none], [vR 30 0], qp_H s x e, (0, 0)) _
    iterate 2 refine qm_E_next rfl ?_
    rcases qr_cond h with ⟨hb, h⟩ | ⟨hb, h⟩
    · refine qr_t hb rfl ?_
      change qm_E _ _ _ (27, [some (vR 30 0), some (vI a1), none], [vR 30 0], qp_H s x e, (0, 0)) _
      iterate 1 refine qm_E_next rfl ?_
      refine qr_put rfl rfl ?_
      change qm_E _ _ _ (31, [some (vR 30 0), some (vI a1), none], [], qp_H (qp_up s 30 0 0 (0 : Int32)) x e, (0, 0)) _
      iterate 2 refine qm_E_next rfl ?_
      exact qe161_33 d  h
    · refine qr_f hb rfl ?_
      change qm_E _ _ _ (23, [some (vR 30 0), some (vI a1), none], [vR 30 0], qp_H s x e, (0, 0)) _
      iterate 2 refine qm_E_next rfl ?_
      refine qr_put rfl rfl ?_
      change qm_E _ _ _ (31, [some (vR 30 0), some (vI a1), none], [], qp_H (qp_up s 30 0 0 (2 : Int32)) x e, (0, 0)) _
      iterate 2 refine qm_E_next rfl ?_
      exact qe161_33 d  h
  · refine qr_f hb rfl ?_
    change qm_E _ _ _ (12, [some (vR 30 0), some (vI a1), none], [vR 30 0], qp_H s x e, (0, 0)) _
    iterate 2 refine qm_E_next rfl ?_
    refine qr_put rfl rfl ?_
    change qm_E _ _ _ (31, [some (vR 30 0), some (vI a1), none], [], qp_H (qp_up s 30 0 0 (1 : Int32)) x e, (0, 0)) _
    iterate 2 refine qm_E_next rfl ?_
    exact qe161_33 d  h
/-! PeriodKernelModel advance -/
def qf163_75 (b1 : Int32) (s : qp_S) : Option (Int32 × qp_S) := (bif qm_cmp .le ((qp_up s 30 0 0 b1) 30 0 0) (0 : Int32) then ((qf146 (qp_up (qp_up s 30 0 0 b1) 30 0 21 (((qp_up s 30 0 0 b1) 30 0 21) + (1 : Int32)))).bind fun q2 => some ((q2.2 30 0 21), q2.2)) else some ((0 : Int32), (qp_up s 30 0 0 b1)))
theorem qe163_75 (d : Nat) {L : Nat} {xs : Nat → Int32} {x : Int64} {e : Nat → Nat}   {u1 : Option qm_V} {u2 : Option qm_V} {b1 : Int32} {s : qp_S} {r : Int32 × qp_S} (h : qf163_75  b1 s = some r) : qm_E (qz_ro L xs) (d + 5) 163 (75, [some (vR 30 0), u1, u2], [vI b1, vR 30 0], qp_H s x e, (0, 0)) (qf_v r.1 r.2 x e) := by
  unfold qf163_75 at h
  refine qr_put rfl rfl ?_
  change qm_E _ _ _ (78, [some (vR 30 0), u1, u2], [], qp_H (qp_up s 30 0 0 b1) x e, (0, 0)) _
  iterate 2 refine qm_E_next rfl ?_
  rcases qr_cond h with ⟨hb, h⟩ | ⟨hb, h⟩
  · refine qr_t hb rfl ?_
    change qm_E _ _ _ (87, [some (vR 30 0), u1, u2], [], qp_H (qp_up s 30 0 0 b1) x e, (0, 0)) _
    iterate 5 refine qm_E_next rfl ?_
    refine qr_put rfl rfl ?_
    change qm_E _ _ _ (97, [some (vR 30 0), u1, u2], [], qp_H (qp_up (qp_up s 30 0 0 b1) 30 0 21 (((qp_up s 30 0 0 b1) 30 0 21) + (1 : Int32))) x e, (0, 0)) _
    iterate 1 refine qm_E_next rfl ?_
    obtain ⟨q2, hq, h⟩ := qs_bd h
    refine qm_E_call rfl (qe146 (d + 0) hq) rfl ?_
    change qm_E _ _ _ (101, [some (vR 30 0), u1, u2], [], qp_H q2.2 x e, (0, 0)) _
    iterate 2 refine qm_E_next rfl ?_
    cases h
    exact qr_iret (Or.inl rfl) rfl rfl
  · refine qr_f hb rfl ?_
    change qm_E _ _ _ (85, [some (vR 30 0), u1, u2], [], qp_H (qp_up s 30 0 0 b1) x e, (0, 0)) _
    iterate 1 refine qm_E_next rfl ?_
    cases h
    exact qr_iret (Or.inl rfl) rfl rfl
def qf163_70 (s : qp_S) : Option (Int32 × qp_S) := qf163_75 (1 : Int32) s
theorem qe163_70 (d : Nat) {L : Nat} {xs : Nat → Int32} {x : Int64} {e : Nat → Nat}   {u1 : Option qm_V} {u2 : Option qm_V}  {s : qp_S} {r : Int32 × qp_S} (h : qf163_70   s = some r) : qm_E (qz_ro L xs) (d + 5) 163 (70, [some (vR 30 0), u1, u2], [vR 30 0], qp_H s x e, (0, 0)) (qf_v r.1 r.2 x e) := by
  unfold qf163_70 at h
  iterate 2 refine qm_E_next rfl ?_
  exact qe163_75 d  h
def qf163_4  : Nat → Int32 → Int32 → qp_S → Option (Int32 × qp_S)
  | 0, _, _, _ => none
  | n + 1, a1, a2, s => (bif qm_cmp .ge a2 (8 : Int32) then (bif qm_cmp .eq (s 30 0 20) (0 : Int32) then qf163_70   s else (bif qm_cmp .ne a1 (0 : Int32) then qf163_70   s else (bif qm_cmp .ne (s 30 0 21) (1000000 : Int32) then qf163_75  (0 : Int32) s else qf163_70   s))) else (bif qm_cmp .ne a1 (0 : Int32) then qf163_4  n (1 : Int32) (a2 + (1 : Int32)) s else ((qf160 a2 s).bind fun q1 => (bif qm_cmp .eq q1 (0 : Int32) then qf163_4  n (0 : Int32) (a2 + (1 : Int32)) s else (if qm_inb a2 8 = true then (bif qm_cmp .ne (s 52 0 (a2).toNatClampNeg) ((s 30 0 21) + (1 : Int32)) then qf163_4  n (0 : Int32) (a2 + (1 : Int32)) s else qf163_4  n (1 : Int32) (a2 + (1 : Int32)) s) else none)))))
theorem qe163_4 (d : Nat) {L : Nat} {xs : Nat → Int32} {x : Int64} {e : Nat → Nat}   : ∀ {n : Nat}  {a1 : Int32} {a2 : Int32} {s : qp_S} {r : Int32 × qp_S}, qf163_4  n a1 a2 s = some r → qm_E (qz_ro L xs) (d + 5) 163 (4, [some (vR 30 0), some (vI a1), some (vI a2)], [], qp_H s x e, (0, 0)) (qf_v r.1 r.2 x e) := by
  intro n
  induction n with
  | zero => intro  a1 a2 s r h; cases h
  | succ n ih =>
    intro  a1 a2 s r h
    unfold qf163_4 at h
    iterate 2 refine qm_E_next rfl ?_
    rcases qr_cond h with ⟨hb, h⟩ | ⟨hb, h⟩
    · refine qr_t hb rfl ?_
      change qm_E _ _ _ (49, [some (vR 30 0), some (vI a1), some (vI a2)], [], qp_H s x e, (0, 0)) _
      iterate 3 refine qm_E_next rfl ?_
      rcases qr_cond h with ⟨hb, h⟩ | ⟨hb, h⟩
      · refine qr_t hb rfl ?_
        exact qe163_70 d  h
      · refine qr_f hb rfl ?_
        change qm_E _ _ _ (57, [some (vR 30 0), some (vI a1), some (vI a2)], [vR 30 0], qp_H s x e, (0, 0)) _
        iterate 1 refine qm_E_next rfl ?_
        rcases qr_cond h with ⟨hb, h⟩ | ⟨hb, h⟩
        · refine qr_t hb rfl ?_
          exact qe163_70 d  h
        · refine qr_f hb rfl ?_
          change qm_E _ _ _ (61, [some (vR 30 0), some (vI a1), some (vI a2)], [vR 30 0], qp_H s x e, (0, 0)) _
          iterate 3 refine qm_E_next rfl ?_
          rcases qr_cond h with ⟨hb, h⟩ | ⟨hb, h⟩
          · refine qr_t hb rfl ?_
            change qm_E _ _ _ (74, [some (vR 30 0), some (vI a1), some (vI a2)], [vR 30 0], qp_H s x e, (0, 0)) _
            iterate 1 refine qm_E_next rfl ?_
            exact qe163_75 d  h
          · refine qr_f hb rfl ?_
            exact qe163_70 d  h
    · refine qr_f hb rfl ?_
      change qm_E _ _ _ (10, [some (vR 30 0), some (vI a1), some (vI a2)], [], qp_H s x e, (0, 0)) _
      iterate 1 refine qm_E_next rfl ?_
      rcases qr_cond h with ⟨hb, h⟩ | ⟨hb, h⟩
      · refine qr_t hb rfl ?_
        change qm_E _ _ _ (37, [some (vR 30 0), some (vI a1), some (vI a2)], [], qp_H s x e, (0, 0)) _
        iterate 5 refine qm_E_next rfl ?_
        exact ih h
      · refine qr_f hb rfl ?_
        change qm_E _ _ _ (14, [some (vR 30 0), some (vI a1), some (vI a2)], [], qp_H s x e, (0, 0)) _
        iterate 2 refine qm_E_next rfl ?_
        obtain ⟨q1, hq, h⟩ := qs_bd h
        refine qm_E_call rfl (qe160 (d + 4) hq) rfl ?_
        change qm_E _ _ _ (19, [some (vR 30 0), some (vI a1), some (vI a2)], [vI q1], qp_H s x e, (0, 0)) _
        rcases qr_cond h with ⟨hb, h⟩ | ⟨hb, h⟩
        · refine qr_t hb rfl ?_
          change qm_E _ _ _ (41, [some (vR 30 0), some (vI a1), some (vI a2)], [], qp_H s x e, (0, 0)) _
          iterate 4 refine qm_E_next rfl ?_
          exact ih h
        · refine qr_f hb rfl ?_
          change qm_E _ _ _ (22, [some (vR 30 0), some (vI a1), some (vI a2)], [], qp_H s x e, (0, 0)) _
          iterate 3 refine qm_E_next rfl ?_
          obtain ⟨hb, h⟩ := qr_inb h
          refine qr_iaload hb rfl rfl rfl rfl ?_
          change qm_E _ _ _ (28, [some (vR 30 0), some (vI a1), some (vI a2)], [vI (s 52 0 (a2).toNatClampNeg)], qp_H s x e, (0, 0)) _
          iterate 4 refine qm_E_next rfl ?_
          rcases qr_cond h with ⟨hb, h⟩ | ⟨hb, h⟩
          · refine qr_t hb rfl ?_
            change qm_E _ _ _ (41, [some (vR 30 0), some (vI a1), some (vI a2)], [], qp_H s x e, (0, 0)) _
            iterate 4 refine qm_E_next rfl ?_
            exact ih h
          · refine qr_f hb rfl ?_
            change qm_E _ _ _ (37, [some (vR 30 0), some (vI a1), some (vI a2)], [], qp_H s x e, (0, 0)) _
            iterate 5 refine qm_E_next rfl ?_
            exact ih h
def qf163 (s : qp_S) : Option (Int32 × qp_S) := qf163_4 4096 (0 : Int32) (0 : Int32) s
theorem qe163 (d : Nat) {L : Nat} {xs : Nat → Int32} {x : Int64} {e : Nat → Nat}     {s : qp_S} {r : Int32 × qp_S} (h : qf163   s = some r) : qm_E (qz_ro L xs) (d + 5) 163 (0, qm_ent 163 [vR 30 0], [], qp_H s x e, (0, 0)) (qf_v r.1 r.2 x e) := by
  unfold qf163 at h
  iterate 4 refine qm_E_next rfl ?_
  exact qe163_4 d  h
/-! PeriodKernelModel value -/
def qf164_16 (a1 : Int32) (b1 : Int32) (s : qp_S) : Option (Int32 × qp_S) := (bif qm_cmp .le ((qp_up s 30 0 0 b1) 30 0 0) (0 : Int32) then (if qm_inb a1 16 = true then some (((qp_up s 30 0 0 b1) 40 0 (a1).toNatClampNeg), (qp_up s 30 0 0 b1)) else none) else some ((0 : Int32), (qp_up s 30 0 0 b1)))
theorem qe164_16 (d : Nat) {L : Nat} {xs : Nat → Int32} {x : Int64} {e : Nat → Nat}    {a1 : Int32} {b1 : Int32} {s : qp_S} {r : Int32 × qp_S} (h : qf164_16  a1 b1 s = some r) : qm_E (qz_ro L xs) (d + 1) 164 (16, [some (vR 30 0), some (vI a1)], [vI b1, vR 30 0], qp_H s x e, (0, 0)) (qf_v r.1 r.2 x e) := by
  unfold qf164_16 at h
  refine qr_put rfl rfl ?_
  change qm_E _ _ _ (19, [some (vR 30 0), some (vI a1)], [], qp_H (qp_up s 30 0 0 b1) x e, (0, 0)) _
  iterate 2 refine qm_E_next rfl ?_
  rcases qr_cond h with ⟨hb, h⟩ | ⟨hb, h⟩
  · refine qr_t hb rfl ?_
    change qm_E _ _ _ (30, [some (vR 30 0), some (vI a1)], [], qp_H (qp_up s 30 0 0 b1) x e, (0, 0)) _
    iterate 3 refine qm_E_next rfl ?_
    obtain ⟨hb, h⟩ := qr_inb h
    refine qr_iaload hb rfl rfl rfl rfl ?_
    change qm_E _ _ _ (36, [some (vR 30 0), some (vI a1)], [vI ((qp_up s 30 0 0 b1) 40 0 (a1).toNatClampNeg)], qp_H (qp_up s 30 0 0 b1) x e, (0, 0)) _
    cases h
    exact qr_iret (Or.inl rfl) rfl rfl
  · refine qr_f hb rfl ?_
    change qm_E _ _ _ (26, [some (vR 30 0), some (vI a1)], [], qp_H (qp_up s 30 0 0 b1) x e, (0, 0)) _
    iterate 2 refine qm_E_next rfl ?_
    cases h
    exact qr_iret (Or.inl rfl) rfl rfl
def qf164 (a1 : Int32) (s : qp_S) : Option (Int32 × qp_S) := ((qf116 a1 (0 : Int32) (15 : Int32) s).bind fun q1 => (bif qm_cmp .eq q1 (0 : Int32) then qf164_16 a1 (1 : Int32) s else qf164_16 a1 (0 : Int32) s))
theorem qe164 (d : Nat) {L : Nat} {xs : Nat → Int32} {x : Int64} {e : Nat → Nat}    {a1 : Int32} {s : qp_S} {r : Int32 × qp_S} (h : qf164  a1 s = some r) : qm_E (qz_ro L xs) (d + 1) 164 (0, qm_ent 164 [vR 30 0, vI a1], [], qp_H s x e, (0, 0)) (qf_v r.1 r.2 x e) := by
  unfold qf164 at h
  iterate 4 refine qm_E_next rfl ?_
  obtain ⟨q1, hq, h⟩ := qs_bd h
  refine qm_E_call rfl (qe116 (d + 0) hq) rfl ?_
  change qm_E _ _ _ (8, [some (vR 30 0), some (vI a1)], [vI q1, vR 30 0], qp_H s x e, (0, 0)) _
  rcases qr_cond h with ⟨hb, h⟩ | ⟨hb, h⟩
  · refine qr_t hb rfl ?_
    change qm_E _ _ _ (15, [some (vR 30 0), some (vI a1)], [vR 30 0], qp_H s x e, (0, 0)) _
    iterate 1 refine qm_E_next rfl ?_
    exact qe164_16 d  h
  · refine qr_f hb rfl ?_
    change qm_E _ _ _ (11, [some (vR 30 0), some (vI a1)], [vR 30 0], qp_H s x e, (0, 0)) _
    iterate 2 refine qm_E_next rfl ?_
    exact qe164_16 d  h
/-! PeriodKernelModel actuator -/
def qf165 (a1 : Int32) (a2 : Int32) (s : qp_S) : Option (Int32 × qp_S) := ((qf116 a1 (0 : Int32) (7 : Int32) (qp_up s 30 0 0 (0 : Int32))).bind fun q1 => (bif qm_cmp .ne q1 (0 : Int32) then (bif qm_cmp .ne a2 (0 : Int32) then (bif qm_cmp .ne a2 (1 : Int32) then some ((-1 : Int32), (qp_up s 30 0 0 (0 : Int32))) else (if qm_inb a1 8 = true then some (((qp_up s 30 0 0 (0 : Int32)) 49 0 (a1).toNatClampNeg), (qp_up s 30 0 0 (0 : Int32))) else none)) else (if qm_inb a1 8 = true then some (((qp_up s 30 0 0 (0 : Int32)) 48 0 (a1).toNatClampNeg), (qp_up s 30 0 0 (0 : Int32))) else none)) else some ((-1 : Int32), (qp_up s 30 0 0 (0 : Int32)))))
theorem qe165 (d : Nat) {L : Nat} {xs : Nat → Int32} {x : Int64} {e : Nat → Nat}    {a1 : Int32} {a2 : Int32} {s : qp_S} {r : Int32 × qp_S} (h : qf165  a1 a2 s = some r) : qm_E (qz_ro L xs) (d + 1) 165 (0, qm_ent 165 [vR 30 0, vI a1, vI a2], [], qp_H s x e, (0, 0)) (qf_v r.1 r.2 x e) := by
  unfold qf165 at h
  iterate 2 refine qm_E_next rfl ?_
  refine qr_put rfl rfl ?_
  change qm_E _ _ _ (5, [some (vR 30 0), some (vI a1), some (vI a2)], [], qp_H (qp_up s 30 0 0 (0 : Int32)) x e, (0, 0)) _
  iterate 3 refine qm_E_next rfl ?_
  obtain ⟨q1, hq, h⟩ := qs_bd h
  refine qm_E_call rfl (qe116 (d + 0) hq) rfl ?_
  change qm_E _ _ _ (12, [some (vR 30 0), some (vI a1), some (vI a2)], [vI q1], qp_H (qp_up s 30 0 0 (0 : Int32)) x e, (0, 0)) _
  rcases qr_cond h with ⟨hb, h⟩ | ⟨hb, h⟩
  · refine qr_t hb rfl ?_
    change qm_E _ _ _ (19, [some (vR 30 0), some (vI a1), some (vI a2)], [], qp_H (qp_up s 30 0 0 (0 : Int32)) x e, (0, 0)) _
    iterate 1 refine qm_E_next rfl ?_
    rcases qr_cond h with ⟨hb, h⟩ | ⟨hb, h⟩
    · refine qr_t hb rfl ?_
      change qm_E _ _ _ (32, [some (vR 30 0), some (vI a1), some (vI a2)], [], qp_H (qp_up s 30 0 0 (0 : Int32)) x e, (0, 0)) _
      iterate 2 refine qm_E_next rfl ?_
      rcases qr_cond h with ⟨hb, h⟩ | ⟨hb, h⟩
      · refine qr_t hb rfl ?_
        change qm_E _ _ _ (46, [some (vR 30 0), some (vI a1), some (vI a2)], [], qp_H (qp_up s 30 0 0 (0 : Int32)) x e, (0, 0)) _
        iterate 1 refine qm_E_next rfl ?_
        cases h
        exact qr_iret (Or.inl rfl) rfl rfl
      · refine qr_f hb rfl ?_
        change qm_E _ _ _ (37, [some (vR 30 0), some (vI a1), some (vI a2)], [], qp_H (qp_up s 30 0 0 (0 : Int32)) x e, (0, 0)) _
        iterate 3 refine qm_E_next rfl ?_
        obtain ⟨hb, h⟩ := qr_inb h
        refine qr_iaload hb rfl rfl rfl rfl ?_
        change qm_E _ _ _ (43, [some (vR 30 0), some (vI a1), some (vI a2)], [vI ((qp_up s 30 0 0 (0 : Int32)) 49 0 (a1).toNatClampNeg)], qp_H (qp_up s 30 0 0 (0 : Int32)) x e, (0, 0)) _
        iterate 1 refine qm_E_next rfl ?_
        cases h
        exact qr_iret (Or.inl rfl) rfl rfl
    · refine qr_f hb rfl ?_
      change qm_E _ _ _ (23, [some (vR 30 0), some (vI a1), some (vI a2)], [], qp_H (qp_up s 30 0 0 (0 : Int32)) x e, (0, 0)) _
      iterate 3 refine qm_E_next rfl ?_
      obtain ⟨hb, h⟩ := qr_inb h
      refine qr_iaload hb rfl rfl rfl rfl ?_
      change qm_E _ _ _ (29, [some (vR 30 0), some (vI a1), some (vI a2)], [vI ((qp_up s 30 0 0 (0 : Int32)) 48 0 (a1).toNatClampNeg)], qp_H (qp_up s 30 0 0 (0 : Int32)) x e, (0, 0)) _
      iterate 1 refine qm_E_next rfl ?_
      cases h
      exact qr_iret (Or.inl rfl) rfl rfl
  · refine qr_f hb rfl ?_
    change qm_E _ _ _ (15, [some (vR 30 0), some (vI a1), some (vI a2)], [], qp_H (qp_up s 30 0 0 (0 : Int32)) x e, (0, 0)) _
    iterate 2 refine qm_E_next rfl ?_
    cases h
    exact qr_iret (Or.inl rfl) rfl rfl
/-! PeriodKernelModel about -/
def qf166_32  : Nat → Int32 → Int32 → Int32 → qp_S → Option (Int32 × qp_S)
  | 0, _, _, _, _ => none
  | n + 1, a1, a2, a3, s => (bif qm_cmp .ge a3 (8 : Int32) then (bif qm_cmp .ne a1 (0 : Int32) then (bif qm_cmp .ne a1 (1 : Int32) then (bif qm_cmp .ne a1 (2 : Int32) then (bif qm_cmp .ne a1 (3 : Int32) then some (a2, s) else some ((s 30 0 30), s)) else some ((s 30 0 23), s)) else some ((s 30 0 22), s)) else some ((s 30 0 21), s)) else ((qf160 a3 s).bind fun q2 => (bif qm_cmp .eq q2 (0 : Int32) then qf166_32  n a1 (a2 + (0 : Int32)) (a3 + (1 : Int32)) s else qf166_32  n a1 (a2 + (1 : Int32)) (a3 + (1 : Int32)) s)))
theorem qe166_32 (d : Nat) {L : Nat} {xs : Nat → Int32} {x : Int64} {e : Nat → Nat}   : ∀ {n : Nat}  {a1 : Int32} {a2 : Int32} {a3 : Int32} {s : qp_S} {r : Int32 × qp_S}, qf166_32  n a1 a2 a3 s = some r → qm_E (qz_ro L xs) (d + 1) 166 (32, [some (vR 30 0), some (vI a1), some (vI a2), some (vI a3)], [], qp_H s x e, (0, 0)) (qf_v r.1 r.2 x e) := by
  intro n
  induction n with
  | zero => intro  a1 a2 a3 s r h; cases h
  | succ n ih =>
    intro  a1 a2 a3 s r h
    unfold qf166_32 at h
    iterate 2 refine qm_E_next rfl ?_
    rcases qr_cond h with ⟨hb, h⟩ | ⟨hb, h⟩
    · refine qr_t hb rfl ?_
      change qm_E _ _ _ (60, [some (vR 30 0), some (vI a1), some (vI a2), some (vI a3)], [], qp_H s x e, (0, 0)) _
      iterate 1 refine qm_E_next rfl ?_
      rcases qr_cond h with ⟨hb, h⟩ | ⟨hb, h⟩
      · refine qr_t hb rfl ?_
        change qm_E _ _ _ (71, [some (vR 30 0), some (vI a1), some (vI a2), some (vI a3)], [], qp_H s x e, (0, 0)) _
        iterate 2 refine qm_E_next rfl ?_
        rcases qr_cond h with ⟨hb, h⟩ | ⟨hb, h⟩
        · refine qr_t hb rfl ?_
          change qm_E _ _ _ (83, [some (vR 30 0), some (vI a1), some (vI a2), some (vI a3)], [], qp_H s x e, (0, 0)) _
          iterate 2 refine qm_E_next rfl ?_
          rcases qr_cond h with ⟨hb, h⟩ | ⟨hb, h⟩
          · refine qr_t hb rfl ?_
            change qm_E _ _ _ (95, [some (vR 30 0), some (vI a1), some (vI a2), some (vI a3)], [], qp_H s x e, (0, 0)) _
            iterate 2 refine qm_E_next rfl ?_
            rcases qr_cond h with ⟨hb, h⟩ | ⟨hb, h⟩
            · refine qr_t hb rfl ?_
              change qm_E _ _ _ (107, [some (vR 30 0), some (vI a1), some (vI a2), some (vI a3)], [], qp_H s x e, (0, 0)) _
              iterate 1 refine qm_E_next rfl ?_
              cases h
              exact qr_iret (Or.inl rfl) rfl rfl
            · refine qr_f hb rfl ?_
              change qm_E _ _ _ (100, [some (vR 30 0), some (vI a1), some (vI a2), some (vI a3)], [], qp_H s x e, (0, 0)) _
              iterate 3 refine qm_E_next rfl ?_
              cases h
              exact qr_iret (Or.inl rfl) rfl rfl
          · refine qr_f hb rfl ?_
            change qm_E _ _ _ (88, [some (vR 30 0), some (vI a1), some (vI a2), some (vI a3)], [], qp_H s x e, (0, 0)) _
            iterate 3 refine qm_E_next rfl ?_
            cases h
            exact qr_iret (Or.inl rfl) rfl rfl
        · refine qr_f hb rfl ?_
          change qm_E _ _ _ (76, [some (vR 30 0), some (vI a1), some (vI a2), some (vI a3)], [], qp_H s x e, (0, 0)) _
          iterate 3 refine qm_E_next rfl ?_
          cases h
          exact qr_iret (Or.inl rfl) rfl rfl
      · refine qr_f hb rfl ?_
        change qm_E _ _ _ (64, [some (vR 30 0), some (vI a1), some (vI a2), some (vI a3)], [], qp_H s x e, (0, 0)) _
        iterate 3 refine qm_E_next rfl ?_
        cases h
        exact qr_iret (Or.inl rfl) rfl rfl
    · refine qr_f hb rfl ?_
      change qm_E _ _ _ (38, [some (vR 30 0), some (vI a1), some (vI a2), some (vI a3)], [], qp_H s x e, (0, 0)) _
      iterate 3 refine qm_E_next rfl ?_
      obtain ⟨q2, hq, h⟩ := qs_bd h
      refine qm_E_call rfl (qe160 (d + 0) hq) rfl ?_
      change qm_E _ _ _ (44, [some (vR 30 0), some (vI a1), some (vI a2), some (vI a3)], [vI q2, vI a2], qp_H s x e, (0, 0)) _
      rcases qr_cond h with ⟨hb, h⟩ | ⟨hb, h⟩
      · refine qr_t hb rfl ?_
        change qm_E _ _ _ (51, [some (vR 30 0), some (vI a1), some (vI a2), some (vI a3)], [vI a2], qp_H s x e, (0, 0)) _
        iterate 5 refine qm_E_next rfl ?_
        exact ih h
      · refine qr_f hb rfl ?_
        change qm_E _ _ _ (47, [some (vR 30 0), some (vI a1), some (vI a2), some (vI a3)], [vI a2], qp_H s x e, (0, 0)) _
        iterate 6 refine qm_E_next rfl ?_
        exact ih h
def qf166 (a1 : Int32) (s : qp_S) : Option (Int32 × qp_S) := ((qf116 a1 (0 : Int32) (4 : Int32) (qp_up s 30 0 0 (0 : Int32))).bind fun q1 => (bif qm_cmp .eq q1 (0 : Int32) then some ((-1 : Int32), (qp_up s 30 0 0 (0 : Int32))) else (bif qm_cmp .ge a1 (3 : Int32) then qf166_32 4096 a1 (0 : Int32) (0 : Int32) (qp_up s 30 0 0 (0 : Int32)) else (bif qm_cmp .ne ((qp_up s 30 0 0 (0 : Int32)) 30 0 20) (0 : Int32) then qf166_32 4096 a1 (0 : Int32) (0 : Int32) (qp_up s 30 0 0 (0 : Int32)) else some ((-1 : Int32), (qp_up s 30 0 0 (0 : Int32)))))))
theorem qe166 (d : Nat) {L : Nat} {xs : Nat → Int32} {x : Int64} {e : Nat → Nat}    {a1 : Int32} {s : qp_S} {r : Int32 × qp_S} (h : qf166  a1 s = some r) : qm_E (qz_ro L xs) (d + 1) 166 (0, qm_ent 166 [vR 30 0, vI a1], [], qp_H s x e, (0, 0)) (qf_v r.1 r.2 x e) := by
  unfold qf166 at h
  iterate 2 refine qm_E_next rfl ?_
  refine qr_put rfl rfl ?_
  change qm_E _ _ _ (5, [some (vR 30 0), some (vI a1), none, none], [], qp_H (qp_up s 30 0 0 (0 : Int32)) x e, (0, 0)) _
  iterate 3 refine qm_E_next rfl ?_
  obtain ⟨q1, hq, h⟩ := qs_bd h
  refine qm_E_call rfl (qe116 (d + 0) hq) rfl ?_
  change qm_E _ _ _ (11, [some (vR 30 0), some (vI a1), none, none], [vI q1], qp_H (qp_up s 30 0 0 (0 : Int32)) x e, (0, 0)) _
  rcases qr_cond h with ⟨hb, h⟩ | ⟨hb, h⟩
  · refine qr_t hb rfl ?_
    change qm_E _ _ _ (26, [some (vR 30 0), some (vI a1), none, none], [], qp_H (qp_up s 30 0 0 (0 : Int32)) x e, (0, 0)) _
    iterate 1 refine qm_E_next rfl ?_
    cases h
    exact qr_iret (Or.inl rfl) rfl rfl
  · refine qr_f hb rfl ?_
    change qm_E _ _ _ (14, [some (vR 30 0), some (vI a1), none, none], [], qp_H (qp_up s 30 0 0 (0 : Int32)) x e, (0, 0)) _
    iterate 2 refine qm_E_next rfl ?_
    rcases qr_cond h with ⟨hb, h⟩ | ⟨hb, h⟩
    · refine qr_t hb rfl ?_
      change qm_E _ _ _ (28, [some (vR 30 0), some (vI a1), none, none], [], qp_H (qp_up s 30 0 0 (0 : Int32)) x e, (0, 0)) _
      iterate 4 refine qm_E_next rfl ?_
      exact qe166_32 d  h
    · refine qr_f hb rfl ?_
      change qm_E _ _ _ (19, [some (vR 30 0), some (vI a1), none, none], [], qp_H (qp_up s 30 0 0 (0 : Int32)) x e, (0, 0)) _
      iterate 2 refine qm_E_next rfl ?_
      rcases qr_cond h with ⟨hb, h⟩ | ⟨hb, h⟩
      · refine qr_t hb rfl ?_
        change qm_E _ _ _ (28, [some (vR 30 0), some (vI a1), none, none], [], qp_H (qp_up s 30 0 0 (0 : Int32)) x e, (0, 0)) _
        iterate 4 refine qm_E_next rfl ?_
        exact qe166_32 d  h
      · refine qr_f hb rfl ?_
        change qm_E _ _ _ (26, [some (vR 30 0), some (vI a1), none, none], [], qp_H (qp_up s 30 0 0 (0 : Int32)) x e, (0, 0)) _
        iterate 1 refine qm_E_next rfl ?_
        cases h
        exact qr_iret (Or.inl rfl) rfl rfl
/-! PeriodKernelModel job -/
def qf167_110 (a1 : Int32) (a2 : Int32) (a3 : Int32) (s : qp_S) : Option (Int32 × qp_S) := (if qm_inb a1 8 = true then (bif qm_cmp .ne (s 50 0 (a1).toNatClampNeg) (0 : Int32) then (bif decide ((a2).toInt < 0 ∨ 5 < (a2).toInt) then (if qm_inb a1 8 = true then (bif qm_cmp .eq (s 55 0 (a1).toNatClampNeg) (0 : Int32) then some ((0 : Int32), s) else ((qf160 a1 s).bind fun q4 => (bif qm_cmp .ne q4 (0 : Int32) then some ((0 : Int32), s) else some ((1 : Int32), s)))) else none) else (bif decide (a2 = (0 : Int32)) then ((qf160 a1 s).bind fun q5 => (bif qm_cmp .eq q5 (0 : Int32) then some ((0 : Int32), s) else (if qm_inb a1 8 = true then some (((s 31 0 (a1).toNatClampNeg) - a3), s) else none))) else (bif decide (a2 = (1 : Int32)) then (if qm_inb a1 8 = true then some ((s 51 0 (a1).toNatClampNeg), s) else none) else (bif decide (a2 = (2 : Int32)) then (if qm_inb a1 8 = true then some ((s 52 0 (a1).toNatClampNeg), s) else none) else (bif decide (a2 = (3 : Int32)) then some ((s 30 0 34), s) else (bif decide (a2 = (4 : Int32)) then some ((s 30 0 33), s) else (bif decide (a2 = (5 : Int32)) then (bif qm_cmp .ne (s 30 0 33) (0 : Int32) then (if qm_inb ((s 30 0 33) - (1 : Int32)) 9 = true then some ((s 57 0 (((s 30 0 33) - (1 : Int32))).toNatClampNeg), s) else none) else some ((0 : Int32), s)) else none))))))) else (bif qm_cmp .eq a2 (1 : Int32) then some ((-1 : Int32), s) else (bif qm_cmp .ne a2 (2 : Int32) then some ((0 : Int32), s) else some ((-1 : Int32), s)))) else none)
theorem qe167_110 (d : Nat) {L : Nat} {xs : Nat → Int32} {x : Int64} {e : Nat → Nat}    {a1 : Int32} {a2 : Int32} {a3 : Int32} {s : qp_S} {r : Int32 × qp_S} (h : qf167_110  a1 a2 a3 s = some r) : qm_E (qz_ro L xs) (d + 3) 167 (110, [some (vR 30 0), some (vI a1), some (vI a2), some (vI a3)], [], qp_H s x e, (0, 0)) (qf_v r.1 r.2 x e) := by
  unfold qf167_110 at h
  iterate 3 refine qm_E_next rfl ?_
  obtain ⟨hb, h⟩ := qr_inb h
  refine qr_baload hb rfl rfl rfl rfl ?_
  change qm_E _ _ _ (116, [some (vR 30 0), some (vI a1), some (vI a2), some (vI a3)], [vI (s 50 0 (a1).toNatClampNeg)], qp_H s x e, (0, 0)) _
  rcases qr_cond h with ⟨hb, h⟩ | ⟨hb, h⟩
  · refine qr_t hb rfl ?_
    change qm_E _ _ _ (135, [some (vR 30 0), some (vI a1), some (vI a2), some (vI a3)], [], qp_H s x e, (0, 0)) _
    iterate 1 refine qm_E_next rfl ?_
    rcases qr_cond h with ⟨hb, h⟩ | ⟨-, h⟩
    · refine qr_tsd hb rfl rfl rfl ?_
      change qm_E _ _ _ (244, [some (vR 30 0), some (vI a1), some (vI a2), some (vI a3)], [], qp_H s x e, (0, 0)) _
      iterate 3 refine qm_E_next rfl ?_
      obtain ⟨hb, h⟩ := qr_inb h
      refine qr_baload hb rfl rfl rfl rfl ?_
      change qm_E _ _ _ (250, [some (vR 30 0), some (vI a1), some (vI a2), some (vI a3)], [vI (s 55 0 (a1).toNatClampNeg)], qp_H s x e, (0, 0)) _
      rcases qr_cond h with ⟨hb, h⟩ | ⟨hb, h⟩
      · refine qr_t hb rfl ?_
        change qm_E _ _ _ (265, [some (vR 30 0), some (vI a1), some (vI a2), some (vI a3)], [], qp_H s x e, (0, 0)) _
        iterate 1 refine qm_E_next rfl ?_
        cases h
        exact qr_iret (Or.inl rfl) rfl rfl
      · refine qr_f hb rfl ?_
        change qm_E _ _ _ (253, [some (vR 30 0), some (vI a1), some (vI a2), some (vI a3)], [], qp_H s x e, (0, 0)) _
        iterate 2 refine qm_E_next rfl ?_
        obtain ⟨q4, hq, h⟩ := qs_bd h
        refine qm_E_call rfl (qe160 (d + 2) hq) rfl ?_
        change qm_E _ _ _ (258, [some (vR 30 0), some (vI a1), some (vI a2), some (vI a3)], [vI q4], qp_H s x e, (0, 0)) _
        rcases qr_cond h with ⟨hb, h⟩ | ⟨hb, h⟩
        · refine qr_t hb rfl ?_
          change qm_E _ _ _ (265, [some (vR 30 0), some (vI a1), some (vI a2), some (vI a3)], [], qp_H s x e, (0, 0)) _
          iterate 1 refine qm_E_next rfl ?_
          cases h
          exact qr_iret (Or.inl rfl) rfl rfl
        · refine qr_f hb rfl ?_
          change qm_E _ _ _ (261, [some (vR 30 0), some (vI a1), some (vI a2), some (vI a3)], [], qp_H s x e, (0, 0)) _
          iterate 2 refine qm_E_next rfl ?_
          cases h
          exact qr_iret (Or.inl rfl) rfl rfl
    · rcases qr_cond h with ⟨hb, h⟩ | ⟨-, h⟩
      · refine qr_tsv hb rfl ?_
        change qm_E _ _ _ (176, [some (vR 30 0), some (vI a1), some (vI a2), some (vI a3)], [], qp_H s x e, (0, 0)) _
        iterate 2 refine qm_E_next rfl ?_
        obtain ⟨q5, hq, h⟩ := qs_bd h
        refine qm_E_call rfl (qe160 (d + 2) hq) rfl ?_
        change qm_E _ _ _ (181, [some (vR 30 0), some (vI a1), some (vI a2), some (vI a3)], [vI q5], qp_H s x e, (0, 0)) _
        rcases qr_cond h with ⟨hb, h⟩ | ⟨hb, h⟩
        · refine qr_t hb rfl ?_
          change qm_E _ _ _ (195, [some (vR 30 0), some (vI a1), some (vI a2), some (vI a3)], [], qp_H s x e, (0, 0)) _
          iterate 1 refine qm_E_next rfl ?_
          cases h
          exact qr_iret (Or.inl rfl) rfl rfl
        · refine qr_f hb rfl ?_
          change qm_E _ _ _ (184, [some (vR 30 0), some (vI a1), some (vI a2), some (vI a3)], [], qp_H s x e, (0, 0)) _
          iterate 3 refine qm_E_next rfl ?_
          obtain ⟨hb, h⟩ := qr_inb h
          refine qr_iaload hb rfl rfl rfl rfl ?_
          change qm_E _ _ _ (190, [some (vR 30 0), some (vI a1), some (vI a2), some (vI a3)], [vI (s 31 0 (a1).toNatClampNeg)], qp_H s x e, (0, 0)) _
          iterate 3 refine qm_E_next rfl ?_
          cases h
          exact qr_iret (Or.inl rfl) rfl rfl
      · rcases qr_cond h with ⟨hb, h⟩ | ⟨-, h⟩
        · refine qr_tsv hb rfl ?_
          change qm_E _ _ _ (197, [some (vR 30 0), some (vI a1), some (vI a2), some (vI a3)], [], qp_H s x e, (0, 0)) _
          iterate 3 refine qm_E_next rfl ?_
          obtain ⟨hb, h⟩ := qr_inb h
          refine qr_iaload hb rfl rfl rfl rfl ?_
          change qm_E _ _ _ (203, [some (vR 30 0), some (vI a1), some (vI a2), some (vI a3)], [vI (s 51 0 (a1).toNatClampNeg)], qp_H s x e, (0, 0)) _
          cases h
          exact qr_iret (Or.inl rfl) rfl rfl
        · rcases qr_cond h with ⟨hb, h⟩ | ⟨-, h⟩
          · refine qr_tsv hb rfl ?_
            change qm_E _ _ _ (204, [some (vR 30 0), some (vI a1), some (vI a2), some (vI a3)], [], qp_H s x e, (0, 0)) _
            iterate 3 refine qm_E_next rfl ?_
            obtain ⟨hb, h⟩ := qr_inb h
            refine qr_iaload hb rfl rfl rfl rfl ?_
            change qm_E _ _ _ (210, [some (vR 30 0), some (vI a1), some (vI a2), some (vI a3)], [vI (s 52 0 (a1).toNatClampNeg)], qp_H s x e, (0, 0)) _
            cases h
            exact qr_iret (Or.inl rfl) rfl rfl
          · rcases qr_cond h with ⟨hb, h⟩ | ⟨-, h⟩
            · refine qr_tsv hb rfl ?_
              change qm_E _ _ _ (211, [some (vR 30 0), some (vI a1), some (vI a2), some (vI a3)], [], qp_H s x e, (0, 0)) _
              iterate 2 refine qm_E_next rfl ?_
              cases h
              exact qr_iret (Or.inl rfl) rfl rfl
            · rcases qr_cond h with ⟨hb, h⟩ | ⟨-, h⟩
              · refine qr_tsv hb rfl ?_
                change qm_E _ _ _ (216, [some (vR 30 0), some (vI a1), some (vI a2), some (vI a3)], [], qp_H s x e, (0, 0)) _
                iterate 2 refine qm_E_next rfl ?_
                cases h
                exact qr_iret (Or.inl rfl) rfl rfl
              · rcases qr_cond h with ⟨hb, h⟩ | ⟨-, h⟩
                · refine qr_tsv hb rfl ?_
                  change qm_E _ _ _ (221, [some (vR 30 0), some (vI a1), some (vI a2), some (vI a3)], [], qp_H s x e, (0, 0)) _
                  iterate 2 refine qm_E_next rfl ?_
                  rcases qr_cond h with ⟨hb, h⟩ | ⟨hb, h⟩
                  · refine qr_t hb rfl ?_
                    change qm_E _ _ _ (232, [some (vR 30 0), some (vI a1), some (vI a2), some (vI a3)], [], qp_H s x e, (0, 0)) _
                    iterate 6 refine qm_E_next rfl ?_
                    change qm_E _ _ _ (242, [some (vR 30 0), some (vI a1), some (vI a2), some (vI a3)], [vI ((s 30 0 33) - (1 : Int32)), vR 57 0], qp_H s x e, (0, 0)) _
                    obtain ⟨hb, h⟩ := qr_inb h
                    refine qr_iaload hb rfl rfl rfl rfl ?_
                    change qm_E _ _ _ (243, [some (vR 30 0), some (vI a1), some (vI a2), some (vI a3)], [vI (s 57 0 (((s 30 0 33) - (1 : Int32))).toNatClampNeg)], qp_H s x e, (0, 0)) _
                    cases h
                    exact qr_iret (Or.inl rfl) rfl rfl
                  · refine qr_f hb rfl ?_
                    change qm_E _ _ _ (228, [some (vR 30 0), some (vI a1), some (vI a2), some (vI a3)], [], qp_H s x e, (0, 0)) _
                    iterate 2 refine qm_E_next rfl ?_
                    cases h
                    exact qr_iret (Or.inl rfl) rfl rfl
                · cases h
  · refine qr_f hb rfl ?_
    change qm_E _ _ _ (119, [some (vR 30 0), some (vI a1), some (vI a2), some (vI a3)], [], qp_H s x e, (0, 0)) _
    iterate 2 refine qm_E_next rfl ?_
    rcases qr_cond h with ⟨hb, h⟩ | ⟨hb, h⟩
    · refine qr_t hb rfl ?_
      change qm_E _ _ _ (129, [some (vR 30 0), some (vI a1), some (vI a2), some (vI a3)], [], qp_H s x e, (0, 0)) _
      iterate 2 refine qm_E_next rfl ?_
      cases h
      exact qr_iret (Or.inl rfl) rfl rfl
    · refine qr_f hb rfl ?_
      change qm_E _ _ _ (124, [some (vR 30 0), some (vI a1), some (vI a2), some (vI a3)], [], qp_H s x e, (0, 0)) _
      iterate 2 refine qm_E_next rfl ?_
      rcases qr_cond h with ⟨hb, h⟩ | ⟨hb, h⟩
      · refine qr_t hb rfl ?_
        change qm_E _ _ _ (133, [some (vR 30 0), some (vI a1), some (vI a2), some (vI a3)], [], qp_H s x e, (0, 0)) _
        iterate 1 refine qm_E_next rfl ?_
        cases h
        exact qr_iret (Or.inl rfl) rfl rfl
      · refine qr_f hb rfl ?_
        change qm_E _ _ _ (129, [some (vR 30 0), some (vI a1), some (vI a2), some (vI a3)], [], qp_H s x e, (0, 0)) _
        iterate 2 refine qm_E_next rfl ?_
        cases h
        exact qr_iret (Or.inl rfl) rfl rfl
def qf167_48 (a1 : Int32) (a2 : Int32) (b1 : Int32) (b2 : Int32) (s : qp_S) : Option (Int32 × qp_S) := ((qf148 b1 b2 s).bind fun q3 => (bif qm_cmp .le a2 (10 : Int32) then (bif qm_cmp .le a2 (5 : Int32) then qf167_110 a1 a2 (q3.1) q3.2 else (bif qm_cmp .ge a2 (10 : Int32) then qf167_110 a1 a2 (q3.1) q3.2 else (if qm_inb (a2 - (6 : Int32)) 4 = true then some ((q3.2 58 0 ((a2 - (6 : Int32))).toNatClampNeg), q3.2) else none))) else (if qm_inb ((((6 : Int32) * a1) + a2) - (11 : Int32)) 48 = true then (bif qm_cmp .ge (q3.2 34 0 (((((6 : Int32) * a1) + a2) - (11 : Int32))).toNatClampNeg) (0 : Int32) then (if qm_inb (a2 - (11 : Int32)) 6 = true then some ((q3.2 59 0 ((a2 - (11 : Int32))).toNatClampNeg), q3.2) else none) else some ((0 : Int32), q3.2)) else none)))
theorem qe167_48 (d : Nat) {L : Nat} {xs : Nat → Int32} {x : Int64} {e : Nat → Nat}   {u3 : Option qm_V} {a1 : Int32} {a2 : Int32} {b1 : Int32} {b2 : Int32} {s : qp_S} {r : Int32 × qp_S} (h : qf167_48  a1 a2 b1 b2 s = some r) : qm_E (qz_ro L xs) (d + 3) 167 (48, [some (vR 30 0), some (vI a1), some (vI a2), u3], [vI b2, vI b1, vR 30 0], qp_H s x e, (0, 0)) (qf_v r.1 r.2 x e) := by
  unfold qf167_48 at h
  obtain ⟨q3, hq, h⟩ := qs_bd h
  refine qm_E_call rfl (qe148 (d + 0) hq) rfl ?_
  change qm_E _ _ _ (51, [some (vR 30 0), some (vI a1), some (vI a2), u3], [vI (q3.1)], qp_H q3.2 x e, (0, 0)) _
  iterate 3 refine qm_E_next rfl ?_
  rcases qr_cond h with ⟨hb, h⟩ | ⟨hb, h⟩
  · refine qr_t hb rfl ?_
    change qm_E _ _ _ (89, [some (vR 30 0), some (vI a1), some (vI a2), some (vI (q3.1))], [], qp_H q3.2 x e, (0, 0)) _
    iterate 2 refine qm_E_next rfl ?_
    rcases qr_cond h with ⟨hb, h⟩ | ⟨hb, h⟩
    · refine qr_t hb rfl ?_
      exact qe167_110 d  h
    · refine qr_f hb rfl ?_
      change qm_E _ _ _ (94, [some (vR 30 0), some (vI a1), some (vI a2), some (vI (q3.1))], [], qp_H q3.2 x e, (0, 0)) _
      iterate 2 refine qm_E_next rfl ?_
      rcases qr_cond h with ⟨hb, h⟩ | ⟨hb, h⟩
      · refine qr_t hb rfl ?_
        exact qe167_110 d  h
      · refine qr_f hb rfl ?_
        change qm_E _ _ _ (100, [some (vR 30 0), some (vI a1), some (vI a2), some (vI (q3.1))], [], qp_H q3.2 x e, (0, 0)) _
        iterate 5 refine qm_E_next rfl ?_
        obtain ⟨hb, h⟩ := qr_inb h
        refine qr_iaload hb rfl rfl rfl rfl ?_
        change qm_E _ _ _ (109, [some (vR 30 0), some (vI a1), some (vI a2), some (vI (q3.1))], [vI (q3.2 58 0 ((a2 - (6 : Int32))).toNatClampNeg)], qp_H q3.2 x e, (0, 0)) _
        cases h
        exact qr_iret (Or.inl rfl) rfl rfl
  · refine qr_f hb rfl ?_
    change qm_E _ _ _ (58, [some (vR 30 0), some (vI a1), some (vI a2), some (vI (q3.1))], [], qp_H q3.2 x e, (0, 0)) _
    iterate 6 refine qm_E_next rfl ?_
    change qm_E _ _ _ (67, [some (vR 30 0), some (vI a1), some (vI a2), some (vI (q3.1))], [vI a2, vI ((6 : Int32) * a1), vR 34 0], qp_H q3.2 x e, (0, 0)) _
    iterate 3 refine qm_E_next rfl ?_
    obtain ⟨hb, h⟩ := qr_inb h
    refine qr_iaload hb rfl rfl rfl rfl ?_
    change qm_E _ _ _ (72, [some (vR 30 0), some (vI a1), some (vI a2), some (vI (q3.1))], [vI (q3.2 34 0 (((((6 : Int32) * a1) + a2) - (11 : Int32))).toNatClampNeg)], qp_H q3.2 x e, (0, 0)) _
    rcases qr_cond h with ⟨hb, h⟩ | ⟨hb, h⟩
    · refine qr_t hb rfl ?_
      change qm_E _ _ _ (79, [some (vR 30 0), some (vI a1), some (vI a2), some (vI (q3.1))], [], qp_H q3.2 x e, (0, 0)) _
      iterate 5 refine qm_E_next rfl ?_
      obtain ⟨hb, h⟩ := qr_inb h
      refine qr_iaload hb rfl rfl rfl rfl ?_
      change qm_E _ _ _ (88, [some (vR 30 0), some (vI a1), some (vI a2), some (vI (q3.1))], [vI (q3.2 59 0 ((a2 - (11 : Int32))).toNatClampNeg)], qp_H q3.2 x e, (0, 0)) _
      cases h
      exact qr_iret (Or.inl rfl) rfl rfl
    · refine qr_f hb rfl ?_
      change qm_E _ _ _ (75, [some (vR 30 0), some (vI a1), some (vI a2), some (vI (q3.1))], [], qp_H q3.2 x e, (0, 0)) _
      iterate 2 refine qm_E_next rfl ?_
      cases h
      exact qr_iret (Or.inl rfl) rfl rfl
def qf167 (a1 : Int32) (a2 : Int32) (s : qp_S) : Option (Int32 × qp_S) := ((qf116 a1 (0 : Int32) (7 : Int32) (qp_up s 30 0 0 (0 : Int32))).bind fun q1 => (bif qm_cmp .eq q1 (0 : Int32) then some ((-1 : Int32), (qp_up s 30 0 0 (0 : Int32))) else ((qf116 a2 (0 : Int32) (16 : Int32) (qp_up s 30 0 0 (0 : Int32))).bind fun q2 => (bif qm_cmp .ne q2 (0 : Int32) then (if qm_inb a1 8 = true then (bif qm_cmp .eq ((qp_up s 30 0 0 (0 : Int32)) 50 0 (a1).toNatClampNeg) (0 : Int32) then qf167_48 a1 a2 a1 (0 : Int32) (qp_up s 30 0 0 (0 : Int32)) else (if qm_inb a1 8 = true then qf167_48 a1 a2 a1 ((qp_up s 30 0 0 (0 : Int32)) 53 0 (a1).toNatClampNeg) (qp_up s 30 0 0 (0 : Int32)) else none)) else none) else some ((-1 : Int32), (qp_up s 30 0 0 (0 : Int32)))))))
theorem qe167 (d : Nat) {L : Nat} {xs : Nat → Int32} {x : Int64} {e : Nat → Nat}    {a1 : Int32} {a2 : Int32} {s : qp_S} {r : Int32 × qp_S} (h : qf167  a1 a2 s = some r) : qm_E (qz_ro L xs) (d + 3) 167 (0, qm_ent 167 [vR 30 0, vI a1, vI a2], [], qp_H s x e, (0, 0)) (qf_v r.1 r.2 x e) := by
  unfold qf167 at h
  iterate 2 refine qm_E_next rfl ?_
  refine qr_put rfl rfl ?_
  change qm_E _ _ _ (5, [some (vR 30 0), some (vI a1), some (vI a2), none], [], qp_H (qp_up s 30 0 0 (0 : Int32)) x e, (0, 0)) _
  iterate 3 refine qm_E_next rfl ?_
  obtain ⟨q1, hq, h⟩ := qs_bd h
  refine qm_E_call rfl (qe116 (d + 2) hq) rfl ?_
  change qm_E _ _ _ (12, [some (vR 30 0), some (vI a1), some (vI a2), none], [vI q1], qp_H (qp_up s 30 0 0 (0 : Int32)) x e, (0, 0)) _
  rcases qr_cond h with ⟨hb, h⟩ | ⟨hb, h⟩
  · refine qr_t hb rfl ?_
    change qm_E _ _ _ (25, [some (vR 30 0), some (vI a1), some (vI a2), none], [], qp_H (qp_up s 30 0 0 (0 : Int32)) x e, (0, 0)) _
    iterate 1 refine qm_E_next rfl ?_
    cases h
    exact qr_iret (Or.inl rfl) rfl rfl
  · refine qr_f hb rfl ?_
    change qm_E _ _ _ (15, [some (vR 30 0), some (vI a1), some (vI a2), none], [], qp_H (qp_up s 30 0 0 (0 : Int32)) x e, (0, 0)) _
    iterate 3 refine qm_E_next rfl ?_
    obtain ⟨q2, hq, h⟩ := qs_bd h
    refine qm_E_call rfl (qe116 (d + 2) hq) rfl ?_
    change qm_E _ _ _ (22, [some (vR 30 0), some (vI a1), some (vI a2), none], [vI q2], qp_H (qp_up s 30 0 0 (0 : Int32)) x e, (0, 0)) _
    rcases qr_cond h with ⟨hb, h⟩ | ⟨hb, h⟩
    · refine qr_t hb rfl ?_
      change qm_E _ _ _ (27, [some (vR 30 0), some (vI a1), some (vI a2), none], [], qp_H (qp_up s 30 0 0 (0 : Int32)) x e, (0, 0)) _
      iterate 5 refine qm_E_next rfl ?_
      obtain ⟨hb, h⟩ := qr_inb h
      refine qr_baload hb rfl rfl rfl rfl ?_
      change qm_E _ _ _ (35, [some (vR 30 0), some (vI a1), some (vI a2), none], [vI ((qp_up s 30 0 0 (0 : Int32)) 50 0 (a1).toNatClampNeg), vI a1, vR 30 0], qp_H (qp_up s 30 0 0 (0 : Int32)) x e, (0, 0)) _
      rcases qr_cond h with ⟨hb, h⟩ | ⟨hb, h⟩
      · refine qr_t hb rfl ?_
        change qm_E _ _ _ (47, [some (vR 30 0), some (vI a1), some (vI a2), none], [vI a1, vR 30 0], qp_H (qp_up s 30 0 0 (0 : Int32)) x e, (0, 0)) _
        iterate 1 refine qm_E_next rfl ?_
        exact qe167_48 d  h
      · refine qr_f hb rfl ?_
        change qm_E _ _ _ (38, [some (vR 30 0), some (vI a1), some (vI a2), none], [vI a1, vR 30 0], qp_H (qp_up s 30 0 0 (0 : Int32)) x e, (0, 0)) _
        iterate 3 refine qm_E_next rfl ?_
        obtain ⟨hb, h⟩ := qr_inb h
        refine qr_iaload hb rfl rfl rfl rfl ?_
        change qm_E _ _ _ (44, [some (vR 30 0), some (vI a1), some (vI a2), none], [vI ((qp_up s 30 0 0 (0 : Int32)) 53 0 (a1).toNatClampNeg), vI a1, vR 30 0], qp_H (qp_up s 30 0 0 (0 : Int32)) x e, (0, 0)) _
        iterate 1 refine qm_E_next rfl ?_
        exact qe167_48 d  h
    · refine qr_f hb rfl ?_
      change qm_E _ _ _ (25, [some (vR 30 0), some (vI a1), some (vI a2), none], [], qp_H (qp_up s 30 0 0 (0 : Int32)) x e, (0, 0)) _
      iterate 1 refine qm_E_next rfl ?_
      cases h
      exact qr_iret (Or.inl rfl) rfl rfl
/-! PeriodKernelModel event -/
def qf168 (a1 : Int32) (a2 : Int32) (s : qp_S) : Option (Int32 × qp_S) := (bif qm_cmp .lt a1 (0 : Int32) then some ((-1 : Int32), (qp_up s 30 0 0 (0 : Int32))) else (bif qm_cmp .ge a1 ((qp_up s 30 0 0 (0 : Int32)) 30 0 30) then some ((-1 : Int32), (qp_up s 30 0 0 (0 : Int32))) else (bif qm_cmp .ge a1 (300 : Int32) then some ((-1 : Int32), (qp_up s 30 0 0 (0 : Int32))) else ((qf116 a2 (0 : Int32) (3 : Int32) (qp_up s 30 0 0 (0 : Int32))).bind fun q1 => (bif qm_cmp .ne q1 (0 : Int32) then (if qm_inb (((4 : Int32) * a1) + a2) 1200 = true then some (((qp_up s 30 0 0 (0 : Int32)) 56 0 ((((4 : Int32) * a1) + a2)).toNatClampNeg), (qp_up s 30 0 0 (0 : Int32))) else none) else some ((-1 : Int32), (qp_up s 30 0 0 (0 : Int32))))))))
theorem qe168 (d : Nat) {L : Nat} {xs : Nat → Int32} {x : Int64} {e : Nat → Nat}    {a1 : Int32} {a2 : Int32} {s : qp_S} {r : Int32 × qp_S} (h : qf168  a1 a2 s = some r) : qm_E (qz_ro L xs) (d + 1) 168 (0, qm_ent 168 [vR 30 0, vI a1, vI a2], [], qp_H s x e, (0, 0)) (qf_v r.1 r.2 x e) := by
  unfold qf168 at h
  iterate 2 refine qm_E_next rfl ?_
  refine qr_put rfl rfl ?_
  change qm_E _ _ _ (5, [some (vR 30 0), some (vI a1), some (vI a2)], [], qp_H (qp_up s 30 0 0 (0 : Int32)) x e, (0, 0)) _
  iterate 1 refine qm_E_next rfl ?_
  rcases qr_cond h with ⟨hb, h⟩ | ⟨hb, h⟩
  · refine qr_t hb rfl ?_
    change qm_E _ _ _ (33, [some (vR 30 0), some (vI a1), some (vI a2)], [], qp_H (qp_up s 30 0 0 (0 : Int32)) x e, (0, 0)) _
    iterate 2 refine qm_E_next rfl ?_
    cases h
    exact qr_iret (Or.inl rfl) rfl rfl
  · refine qr_f hb rfl ?_
    change qm_E _ _ _ (9, [some (vR 30 0), some (vI a1), some (vI a2)], [], qp_H (qp_up s 30 0 0 (0 : Int32)) x e, (0, 0)) _
    iterate 3 refine qm_E_next rfl ?_
    rcases qr_cond h with ⟨hb, h⟩ | ⟨hb, h⟩
    · refine qr_t hb rfl ?_
      change qm_E _ _ _ (33, [some (vR 30 0), some (vI a1), some (vI a2)], [], qp_H (qp_up s 30 0 0 (0 : Int32)) x e, (0, 0)) _
      iterate 2 refine qm_E_next rfl ?_
      cases h
      exact qr_iret (Or.inl rfl) rfl rfl
    · refine qr_f hb rfl ?_
      change qm_E _ _ _ (17, [some (vR 30 0), some (vI a1), some (vI a2)], [], qp_H (qp_up s 30 0 0 (0 : Int32)) x e, (0, 0)) _
      iterate 2 refine qm_E_next rfl ?_
      rcases qr_cond h with ⟨hb, h⟩ | ⟨hb, h⟩
      · refine qr_t hb rfl ?_
        change qm_E _ _ _ (33, [some (vR 30 0), some (vI a1), some (vI a2)], [], qp_H (qp_up s 30 0 0 (0 : Int32)) x e, (0, 0)) _
        iterate 2 refine qm_E_next rfl ?_
        cases h
        exact qr_iret (Or.inl rfl) rfl rfl
      · refine qr_f hb rfl ?_
        change qm_E _ _ _ (24, [some (vR 30 0), some (vI a1), some (vI a2)], [], qp_H (qp_up s 30 0 0 (0 : Int32)) x e, (0, 0)) _
        iterate 3 refine qm_E_next rfl ?_
        obtain ⟨q1, hq, h⟩ := qs_bd h
        refine qm_E_call rfl (qe116 (d + 0) hq) rfl ?_
        change qm_E _ _ _ (30, [some (vR 30 0), some (vI a1), some (vI a2)], [vI q1], qp_H (qp_up s 30 0 0 (0 : Int32)) x e, (0, 0)) _
        rcases qr_cond h with ⟨hb, h⟩ | ⟨hb, h⟩
        · refine qr_t hb rfl ?_
          change qm_E _ _ _ (37, [some (vR 30 0), some (vI a1), some (vI a2)], [], qp_H (qp_up s 30 0 0 (0 : Int32)) x e, (0, 0)) _
          iterate 6 refine qm_E_next rfl ?_
          change qm_E _ _ _ (45, [some (vR 30 0), some (vI a1), some (vI a2)], [vI a2, vI ((4 : Int32) * a1), vR 56 0], qp_H (qp_up s 30 0 0 (0 : Int32)) x e, (0, 0)) _
          iterate 1 refine qm_E_next rfl ?_
          obtain ⟨hb, h⟩ := qr_inb h
          refine qr_iaload hb rfl rfl rfl rfl ?_
          change qm_E _ _ _ (47, [some (vR 30 0), some (vI a1), some (vI a2)], [vI ((qp_up s 30 0 0 (0 : Int32)) 56 0 ((((4 : Int32) * a1) + a2)).toNatClampNeg)], qp_H (qp_up s 30 0 0 (0 : Int32)) x e, (0, 0)) _
          cases h
          exact qr_iret (Or.inl rfl) rfl rfl
        · refine qr_f hb rfl ?_
          change qm_E _ _ _ (33, [some (vR 30 0), some (vI a1), some (vI a2)], [], qp_H (qp_up s 30 0 0 (0 : Int32)) x e, (0, 0)) _
          iterate 2 refine qm_E_next rfl ?_
          cases h
          exact qr_iret (Or.inl rfl) rfl rfl
