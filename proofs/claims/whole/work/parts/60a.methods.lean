/-! java/util/Arrays fill -/
def qf11_5  : Nat → Int32 → Int32 → Int32 → qp_S → Option (Int32 × qp_S)
  | 0, _, _, _, _ => none
  | n + 1, a1, a2, a3, s => (bif qm_cmp .ge a2 a3 then some (0, s) else (if qm_inb a2 32 = true then qf11_5  n a1 (a2 + (1 : Int32)) a3 (qp_up s 12 0 (a2).toNatClampNeg a1) else none))
theorem qe11_5 (d : Nat) {L : Nat} {xs : Nat → Int32} {x : Int64} {e : Nat → Nat}   : ∀ {n : Nat}  {a1 : Int32} {a2 : Int32} {a3 : Int32} {s : qp_S} {r : Int32 × qp_S}, qf11_5  n a1 a2 a3 s = some r → qm_E (qz_ro L xs) (d + 0) 11 (5, [some (vR 12 0), some (vI a1), some (vI a2), some (vI a3)], [], qp_H s x e, (0, 0)) (qf_u r.2 x e) := by
  intro n
  induction n with
  | zero => intro  a1 a2 a3 s r h; cases h
  | succ n ih =>
    intro  a1 a2 a3 s r h
    unfold qf11_5 at h
    iterate 2 refine qm_E_next rfl ?_
    rcases qr_cond h with ⟨hb, h⟩ | ⟨hb, h⟩
    · refine qr_t hb rfl ?_
      change qm_E _ _ _ (20, [some (vR 12 0), some (vI a1), some (vI a2), some (vI a3)], [], qp_H s x e, (0, 0)) _
      cases h
      exact qr_ret rfl rfl rfl
    · refine qr_f hb rfl ?_
      change qm_E _ _ _ (10, [some (vR 12 0), some (vI a1), some (vI a2), some (vI a3)], [], qp_H s x e, (0, 0)) _
      iterate 3 refine qm_E_next rfl ?_
      obtain ⟨hb, h⟩ := qr_inb h
      refine qr_iastore hb rfl rfl rfl rfl rfl ?_
      change qm_E _ _ _ (14, [some (vR 12 0), some (vI a1), some (vI a2), some (vI a3)], [], qp_H (qp_up s 12 0 (a2).toNatClampNeg a1) x e, (0, 0)) _
      iterate 2 refine qm_E_next rfl ?_
      exact ih h
def qf11 (a1 : Int32) (s : qp_S) : Option (Int32 × qp_S) := qf11_5 4096 a1 (0 : Int32) (32 : Int32) s
theorem qe11 (d : Nat) {L : Nat} {xs : Nat → Int32} {x : Int64} {e : Nat → Nat}    {a1 : Int32} {s : qp_S} {r : Int32 × qp_S} (h : qf11  a1 s = some r) : qm_E (qz_ro L xs) (d + 0) 11 (0, qm_ent 11 [vR 12 0, vI a1], [], qp_H s x e, (0, 0)) (qf_u r.2 x e) := by
  unfold qf11 at h
  iterate 5 refine qm_E_next rfl ?_
  exact qe11_5 d  h
/-! PeriodKernel isIndex -/
def qf13 (a0 : Int32) (a1 : Int32) (s : qp_S) : Option (Int32) := (bif qm_cmp .lt a0 (0 : Int32) then some (0 : Int32) else (bif qm_cmp .ge a0 a1 then some (0 : Int32) else some (1 : Int32)))
theorem qe13 (d : Nat) {L : Nat} {xs : Nat → Int32} {x : Int64} {e : Nat → Nat}    {a0 : Int32} {a1 : Int32} {s : qp_S} {r : Int32} (h : qf13  a0 a1 s = some r) : qm_E (qz_ro L xs) (d + 0) 13 (0, qm_ent 13 [vI a0, vI a1], [], qp_H s x e, (0, 0)) (qf_v r s x e) := by
  unfold qf13 at h
  iterate 1 refine qm_E_next rfl ?_
  rcases qr_cond h with ⟨hb, h⟩ | ⟨hb, h⟩
  · refine qr_t hb rfl ?_
    change qm_E _ _ _ (13, [some (vI a0), some (vI a1)], [], qp_H s x e, (0, 0)) _
    iterate 1 refine qm_E_next rfl ?_
    cases h
    exact qr_iret (Or.inr ⟨rfl, Or.inl rfl⟩) rfl rfl
  · refine qr_f hb rfl ?_
    change qm_E _ _ _ (4, [some (vI a0), some (vI a1)], [], qp_H s x e, (0, 0)) _
    iterate 2 refine qm_E_next rfl ?_
    rcases qr_cond h with ⟨hb, h⟩ | ⟨hb, h⟩
    · refine qr_t hb rfl ?_
      change qm_E _ _ _ (13, [some (vI a0), some (vI a1)], [], qp_H s x e, (0, 0)) _
      iterate 1 refine qm_E_next rfl ?_
      cases h
      exact qr_iret (Or.inr ⟨rfl, Or.inl rfl⟩) rfl rfl
    · refine qr_f hb rfl ?_
      change qm_E _ _ _ (9, [some (vI a0), some (vI a1)], [], qp_H s x e, (0, 0)) _
      iterate 2 refine qm_E_next rfl ?_
      cases h
      exact qr_iret (Or.inr ⟨rfl, Or.inr rfl⟩) rfl rfl
/-! PeriodKernel actuator -/
def qf12 (a1 : Int32) (a2 : Int32) (s : qp_S) : Option (Int32) := ((qf13 a1 (8 : Int32) s).bind fun q1 => (bif qm_cmp .ne q1 (0 : Int32) then (bif decide (a2 = (0 : Int32)) then (if qm_inb a1 8 = true then some (s 26 (a1).toNatClampNeg 1) else none) else (bif decide (a2 = (1 : Int32)) then (if qm_inb a1 8 = true then some (s 26 (a1).toNatClampNeg 2) else none) else some (-1 : Int32))) else some (-1 : Int32)))
theorem qe12 (d : Nat) {L : Nat} {xs : Nat → Int32} {x : Int64} {e : Nat → Nat}    {a1 : Int32} {a2 : Int32} {s : qp_S} {r : Int32} (h : qf12  a1 a2 s = some r) : qm_E (qz_ro L xs) (d + 1) 12 (0, qm_ent 12 [vR 1 0, vI a1, vI a2], [], qp_H s x e, (0, 0)) (qf_v r s x e) := by
  unfold qf12 at h
  iterate 2 refine qm_E_next rfl ?_
  obtain ⟨q1, hq, h⟩ := qs_bd h
  refine qm_E_call rfl (qe13 (d + 0) hq) rfl ?_
  change qm_E _ _ _ (6, [some (vR 1 0), some (vI a1), some (vI a2)], [vI q1], qp_H s x e, (0, 0)) _
  rcases qr_cond h with ⟨hb, h⟩ | ⟨hb, h⟩
  · refine qr_t hb rfl ?_
    change qm_E _ _ _ (11, [some (vR 1 0), some (vI a1), some (vI a2)], [], qp_H s x e, (0, 0)) _
    iterate 1 refine qm_E_next rfl ?_
    rcases qr_cond h with ⟨hb0, h⟩ | ⟨hb0, h⟩
    · refine qr_tsv hb0 rfl ?_
      change qm_E _ _ _ (40, [some (vR 1 0), some (vI a1), some (vI a2)], [], qp_H s x e, (0, 0)) _
      iterate 3 refine qm_E_next rfl ?_
      obtain ⟨hb, h⟩ := qr_inb h
      refine qr_aaload hb rfl rfl rfl ?_
      change qm_E _ _ _ (46, [some (vR 1 0), some (vI a1), some (vI a2)], [vR 26 (a1).toNatClampNeg], qp_H s x e, (0, 0)) _
      iterate 1 refine qm_E_next rfl ?_
      cases h
      exact qr_iret (Or.inl rfl) rfl rfl
    · rcases qr_cond h with ⟨hb1, h⟩ | ⟨hb1, h⟩
      · refine qr_tsv hb1 rfl ?_
        change qm_E _ _ _ (50, [some (vR 1 0), some (vI a1), some (vI a2)], [], qp_H s x e, (0, 0)) _
        iterate 3 refine qm_E_next rfl ?_
        obtain ⟨hb, h⟩ := qr_inb h
        refine qr_aaload hb rfl rfl rfl ?_
        change qm_E _ _ _ (56, [some (vR 1 0), some (vI a1), some (vI a2)], [vR 26 (a1).toNatClampNeg], qp_H s x e, (0, 0)) _
        iterate 1 refine qm_E_next rfl ?_
        cases h
        exact qr_iret (Or.inl rfl) rfl rfl
      · refine qr_lsd (df := 48) (o := 48) (ps := #[(0, 28), (1, 38)]) (by show (if (0 : Int) = (a2).toInt then (28 : Int) else if (1 : Int) = (a2).toInt then (38 : Int) else 48) = 48; rw [if_neg (qr_ne (z := 0) hb0 (by decide)), if_neg (qr_ne (z := 1) hb1 (by decide))]) rfl rfl rfl rfl ?_
        change qm_E _ _ _ (60, [some (vR 1 0), some (vI a1), some (vI a2)], [], qp_H s x e, (0, 0)) _
        iterate 1 refine qm_E_next rfl ?_
        cases h
        exact qr_iret (Or.inl rfl) rfl rfl
  · refine qr_f hb rfl ?_
    change qm_E _ _ _ (9, [some (vR 1 0), some (vI a1), some (vI a2)], [], qp_H s x e, (0, 0)) _
    iterate 1 refine qm_E_next rfl ?_
    cases h
    exact qr_iret (Or.inl rfl) rfl rfl
/-! PeriodKernel.Task isOpen -/
def qf16 (n0 : Nat) (s : qp_S) : Option (Int32) := (bif qm_cmp .le (s 14 n0 9) (0 : Int32) then some (0 : Int32) else some (1 : Int32))
theorem qe16 (d : Nat) {L : Nat} {xs : Nat → Int32} {x : Int64} {e : Nat → Nat}    {n0 : Nat} {s : qp_S} {r : Int32} (h : qf16  n0 s = some r) : qm_E (qz_ro L xs) (d + 0) 16 (0, qm_ent 16 [vR 14 n0], [], qp_H s x e, (0, 0)) (qf_v r s x e) := by
  unfold qf16 at h
  iterate 2 refine qm_E_next rfl ?_
  rcases qr_cond h with ⟨hb, h⟩ | ⟨hb, h⟩
  · refine qr_t hb rfl ?_
    change qm_E _ _ _ (11, [some (vR 14 n0)], [], qp_H s x e, (0, 0)) _
    iterate 1 refine qm_E_next rfl ?_
    cases h
    exact qr_iret (Or.inr ⟨rfl, Or.inl rfl⟩) rfl rfl
  · refine qr_f hb rfl ?_
    change qm_E _ _ _ (7, [some (vR 14 n0)], [], qp_H s x e, (0, 0)) _
    iterate 2 refine qm_E_next rfl ?_
    cases h
    exact qr_iret (Or.inr ⟨rfl, Or.inr rfl⟩) rfl rfl
/-! PeriodKernel countOpenJobs -/
def qf15_4  : Nat → Int32 → Int32 → qp_S → Option (Int32)
  | 0, _, _, _ => none
  | n + 1, a1, a2, s => (bif qm_cmp .ge a2 (8 : Int32) then some a1 else (if qm_inb a2 8 = true then ((qf16 (a2).toNatClampNeg s).bind fun q1 => (bif qm_cmp .eq q1 (0 : Int32) then qf15_4  n a1 (a2 + (1 : Int32)) s else qf15_4  n (a1 + (1 : Int32)) (a2 + (1 : Int32)) s)) else none))
theorem qe15_4 (d : Nat) {L : Nat} {xs : Nat → Int32} {x : Int64} {e : Nat → Nat}   : ∀ {n : Nat}  {a1 : Int32} {a2 : Int32} {s : qp_S} {r : Int32}, qf15_4  n a1 a2 s = some r → qm_E (qz_ro L xs) (d + 1) 15 (4, [some (vR 1 0), some (vI a1), some (vI a2)], [], qp_H s x e, (0, 0)) (qf_v r s x e) := by
  intro n
  induction n with
  | zero => intro  a1 a2 s r h; cases h
  | succ n ih =>
    intro  a1 a2 s r h
    unfold qf15_4 at h
    iterate 2 refine qm_E_next rfl ?_
    rcases qr_cond h with ⟨hb, h⟩ | ⟨hb, h⟩
    · refine qr_t hb rfl ?_
      change qm_E _ _ _ (31, [some (vR 1 0), some (vI a1), some (vI a2)], [], qp_H s x e, (0, 0)) _
      iterate 1 refine qm_E_next rfl ?_
      cases h
      exact qr_iret (Or.inl rfl) rfl rfl
    · refine qr_f hb rfl ?_
      change qm_E _ _ _ (10, [some (vR 1 0), some (vI a1), some (vI a2)], [], qp_H s x e, (0, 0)) _
      iterate 3 refine qm_E_next rfl ?_
      obtain ⟨hb, h⟩ := qr_inb h
      refine qr_aaload hb rfl rfl rfl ?_
      change qm_E _ _ _ (16, [some (vR 1 0), some (vI a1), some (vI a2)], [vR 14 (a2).toNatClampNeg], qp_H s x e, (0, 0)) _
      obtain ⟨q1, hq, h⟩ := qs_bd h
      refine qm_E_call rfl (qe16 (d + 0) hq) rfl ?_
      change qm_E _ _ _ (19, [some (vR 1 0), some (vI a1), some (vI a2)], [vI q1], qp_H s x e, (0, 0)) _
      rcases qr_cond h with ⟨hb, h⟩ | ⟨hb, h⟩
      · refine qr_t hb rfl ?_
        change qm_E _ _ _ (25, [some (vR 1 0), some (vI a1), some (vI a2)], [], qp_H s x e, (0, 0)) _
        iterate 2 refine qm_E_next rfl ?_
        exact ih h
      · refine qr_f hb rfl ?_
        change qm_E _ _ _ (22, [some (vR 1 0), some (vI a1), some (vI a2)], [], qp_H s x e, (0, 0)) _
        iterate 3 refine qm_E_next rfl ?_
        exact ih h
def qf15 (s : qp_S) : Option (Int32) := qf15_4 4096 (0 : Int32) (0 : Int32) s
theorem qe15 (d : Nat) {L : Nat} {xs : Nat → Int32} {x : Int64} {e : Nat → Nat}     {s : qp_S} {r : Int32} (h : qf15   s = some r) : qm_E (qz_ro L xs) (d + 1) 15 (0, qm_ent 15 [vR 1 0], [], qp_H s x e, (0, 0)) (qf_v r s x e) := by
  unfold qf15 at h
  iterate 4 refine qm_E_next rfl ?_
  exact qe15_4 d  h
/-! PeriodKernel about -/
def qf14 (a1 : Int32) (s : qp_S) : Option (Int32) := (bif decide ((a1).toInt < 0 ∨ 4 < (a1).toInt) then some (-1 : Int32) else (bif decide (a1 = (0 : Int32)) then (bif qm_cmp .eq (s 1 0 8) (0 : Int32) then some (-1 : Int32) else some (s 1 0 9)) else (bif decide (a1 = (1 : Int32)) then (bif qm_cmp .eq (s 1 0 8) (0 : Int32) then some (-1 : Int32) else some (s 1 0 10)) else (bif decide (a1 = (2 : Int32)) then (bif qm_cmp .eq (s 1 0 8) (0 : Int32) then some (-1 : Int32) else some (s 1 0 11)) else (bif decide (a1 = (3 : Int32)) then some (s 8 0 1) else (bif decide (a1 = (4 : Int32)) then ((qf15 s).bind fun q1 => some q1) else none))))))
theorem qe14 (d : Nat) {L : Nat} {xs : Nat → Int32} {x : Int64} {e : Nat → Nat}    {a1 : Int32} {s : qp_S} {r : Int32} (h : qf14  a1 s = some r) : qm_E (qz_ro L xs) (d + 2) 14 (0, qm_ent 14 [vR 1 0, vI a1], [], qp_H s x e, (0, 0)) (qf_v r s x e) := by
  unfold qf14 at h
  iterate 1 refine qm_E_next rfl ?_
  rcases qr_cond h with ⟨hb, h⟩ | ⟨-, h⟩
  · refine qr_tsd hb rfl rfl rfl ?_
    change qm_E _ _ _ (97, [some (vR 1 0), some (vI a1)], [], qp_H s x e, (0, 0)) _
    iterate 1 refine qm_E_next rfl ?_
    cases h
    exact qr_iret (Or.inl rfl) rfl rfl
  · rcases qr_cond h with ⟨hb, h⟩ | ⟨-, h⟩
    · refine qr_tsv hb rfl ?_
      change qm_E _ _ _ (36, [some (vR 1 0), some (vI a1)], [], qp_H s x e, (0, 0)) _
      iterate 2 refine qm_E_next rfl ?_
      rcases qr_cond h with ⟨hb, h⟩ | ⟨hb, h⟩
      · refine qr_t hb rfl ?_
        change qm_E _ _ _ (50, [some (vR 1 0), some (vI a1)], [], qp_H s x e, (0, 0)) _
        iterate 1 refine qm_E_next rfl ?_
        cases h
        exact qr_iret (Or.inl rfl) rfl rfl
      · refine qr_f hb rfl ?_
        change qm_E _ _ _ (43, [some (vR 1 0), some (vI a1)], [], qp_H s x e, (0, 0)) _
        iterate 3 refine qm_E_next rfl ?_
        cases h
        exact qr_iret (Or.inl rfl) rfl rfl
    · rcases qr_cond h with ⟨hb, h⟩ | ⟨-, h⟩
      · refine qr_tsv hb rfl ?_
        change qm_E _ _ _ (52, [some (vR 1 0), some (vI a1)], [], qp_H s x e, (0, 0)) _
        iterate 2 refine qm_E_next rfl ?_
        rcases qr_cond h with ⟨hb, h⟩ | ⟨hb, h⟩
        · refine qr_t hb rfl ?_
          change qm_E _ _ _ (66, [some (vR 1 0), some (vI a1)], [], qp_H s x e, (0, 0)) _
          iterate 1 refine qm_E_next rfl ?_
          cases h
          exact qr_iret (Or.inl rfl) rfl rfl
        · refine qr_f hb rfl ?_
          change qm_E _ _ _ (59, [some (vR 1 0), some (vI a1)], [], qp_H s x e, (0, 0)) _
          iterate 3 refine qm_E_next rfl ?_
          cases h
          exact qr_iret (Or.inl rfl) rfl rfl
      · rcases qr_cond h with ⟨hb, h⟩ | ⟨-, h⟩
        · refine qr_tsv hb rfl ?_
          change qm_E _ _ _ (68, [some (vR 1 0), some (vI a1)], [], qp_H s x e, (0, 0)) _
          iterate 2 refine qm_E_next rfl ?_
          rcases qr_cond h with ⟨hb, h⟩ | ⟨hb, h⟩
          · refine qr_t hb rfl ?_
            change qm_E _ _ _ (82, [some (vR 1 0), some (vI a1)], [], qp_H s x e, (0, 0)) _
            iterate 1 refine qm_E_next rfl ?_
            cases h
            exact qr_iret (Or.inl rfl) rfl rfl
          · refine qr_f hb rfl ?_
            change qm_E _ _ _ (75, [some (vR 1 0), some (vI a1)], [], qp_H s x e, (0, 0)) _
            iterate 3 refine qm_E_next rfl ?_
            cases h
            exact qr_iret (Or.inl rfl) rfl rfl
        · rcases qr_cond h with ⟨hb, h⟩ | ⟨-, h⟩
          · refine qr_tsv hb rfl ?_
            change qm_E _ _ _ (84, [some (vR 1 0), some (vI a1)], [], qp_H s x e, (0, 0)) _
            iterate 3 refine qm_E_next rfl ?_
            cases h
            exact qr_iret (Or.inl rfl) rfl rfl
          · rcases qr_cond h with ⟨hb, h⟩ | ⟨-, h⟩
            · refine qr_tsv hb rfl ?_
              change qm_E _ _ _ (92, [some (vR 1 0), some (vI a1)], [], qp_H s x e, (0, 0)) _
              iterate 1 refine qm_E_next rfl ?_
              obtain ⟨q1, hq, h⟩ := qs_bd h
              refine qm_E_call rfl (qe15 (d + 0) hq) rfl ?_
              change qm_E _ _ _ (96, [some (vR 1 0), some (vI a1)], [vI q1], qp_H s x e, (0, 0)) _
              cases h
              exact qr_iret (Or.inl rfl) rfl rfl
            · cases h
/-! PeriodKernel.Stack top -/
def qf19 (n0 : Nat) (s : qp_S) : Option (Int32) := (bif qm_cmp .ne (s 19 n0 1) (0 : Int32) then (if qm_inb ((s 19 n0 1) - (1 : Int32)) 8 = true then some (s 20 n0 (((s 19 n0 1) - (1 : Int32))).toNatClampNeg) else none) else some (0 : Int32))
theorem qe19 (d : Nat) {L : Nat} {xs : Nat → Int32} {x : Int64} {e : Nat → Nat}    {n0 : Nat} {s : qp_S} {r : Int32} (h : qf19  n0 s = some r) : qm_E (qz_ro L xs) (d + 0) 19 (0, qm_ent 19 [vR 19 n0], [], qp_H s x e, (0, 0)) (qf_v r s x e) := by
  unfold qf19 at h
  iterate 2 refine qm_E_next rfl ?_
  rcases qr_cond h with ⟨hb, h⟩ | ⟨hb, h⟩
  · refine qr_t hb rfl ?_
    change qm_E _ _ _ (11, [some (vR 19 n0)], [], qp_H s x e, (0, 0)) _
    iterate 6 refine qm_E_next rfl ?_
    change qm_E _ _ _ (21, [some (vR 19 n0)], [vI ((s 19 n0 1) - (1 : Int32)), vR 20 n0], qp_H s x e, (0, 0)) _
    obtain ⟨hb, h⟩ := qr_inb h
    refine qr_iaload hb rfl rfl rfl rfl ?_
    change qm_E _ _ _ (22, [some (vR 19 n0)], [vI (s 20 n0 (((s 19 n0 1) - (1 : Int32))).toNatClampNeg)], qp_H s x e, (0, 0)) _
    cases h
    exact qr_iret (Or.inl rfl) rfl rfl
  · refine qr_f hb rfl ?_
    change qm_E _ _ _ (7, [some (vR 19 n0)], [], qp_H s x e, (0, 0)) _
    iterate 2 refine qm_E_next rfl ?_
    cases h
    exact qr_iret (Or.inl rfl) rfl rfl
/-! PeriodKernel.Task tell -/
def qf18_47 (n0 : Nat) (a1 : Int32) (s : qp_S) : Option (Int32) := (bif decide ((a1).toInt < 0 ∨ 10 < (a1).toInt) then some (-1 : Int32) else (bif decide (a1 = (0 : Int32)) then some (s 14 n0 9) else (bif decide (a1 = (1 : Int32)) then some (s 14 n0 8) else (bif decide (a1 = (2 : Int32)) then some (s 14 n0 3) else (bif decide (a1 = (3 : Int32)) then some (s 14 n0 10) else (bif decide (a1 = (4 : Int32)) then some (s 19 n0 1) else (bif decide (a1 = (5 : Int32)) then ((qf19 n0 s).bind fun q1 => some q1) else (bif decide (a1 = (6 : Int32)) then some (-1 : Int32) else (bif decide (a1 = (7 : Int32)) then some (-1 : Int32) else (bif decide (a1 = (8 : Int32)) then some (-1 : Int32) else (bif decide (a1 = (9 : Int32)) then some (-1 : Int32) else (bif decide (a1 = (10 : Int32)) then (bif qm_cmp .eq (s 14 n0 4) (0 : Int32) then some (0 : Int32) else some (1 : Int32)) else none))))))))))))
theorem qe18_47 (d : Nat) {L : Nat} {xs : Nat → Int32} {x : Int64} {e : Nat → Nat}    {n0 : Nat} {a1 : Int32} {s : qp_S} {r : Int32} (h : qf18_47  n0 a1 s = some r) : qm_E (qz_ro L xs) (d + 1) 18 (47, [some (vR 14 n0), some (vI a1)], [], qp_H s x e, (0, 0)) (qf_v r s x e) := by
  unfold qf18_47 at h
  iterate 1 refine qm_E_next rfl ?_
  rcases qr_cond h with ⟨hb, h⟩ | ⟨-, h⟩
  · refine qr_tsd hb rfl rfl rfl ?_
    change qm_E _ _ _ (157, [some (vR 14 n0), some (vI a1)], [], qp_H s x e, (0, 0)) _
    iterate 1 refine qm_E_next rfl ?_
    cases h
    exact qr_iret (Or.inl rfl) rfl rfl
  · rcases qr_cond h with ⟨hb, h⟩ | ⟨-, h⟩
    · refine qr_tsv hb rfl ?_
      change qm_E _ _ _ (108, [some (vR 14 n0), some (vI a1)], [], qp_H s x e, (0, 0)) _
      iterate 2 refine qm_E_next rfl ?_
      cases h
      exact qr_iret (Or.inl rfl) rfl rfl
    · rcases qr_cond h with ⟨hb, h⟩ | ⟨-, h⟩
      · refine qr_tsv hb rfl ?_
        change qm_E _ _ _ (113, [some (vR 14 n0), some (vI a1)], [], qp_H s x e, (0, 0)) _
        iterate 2 refine qm_E_next rfl ?_
        cases h
        exact qr_iret (Or.inl rfl) rfl rfl
      · rcases qr_cond h with ⟨hb, h⟩ | ⟨-, h⟩
        · refine qr_tsv hb rfl ?_
          change qm_E _ _ _ (118, [some (vR 14 n0), some (vI a1)], [], qp_H s x e, (0, 0)) _
          iterate 2 refine qm_E_next rfl ?_
          cases h
          exact qr_iret (Or.inl rfl) rfl rfl
        · rcases qr_cond h with ⟨hb, h⟩ | ⟨-, h⟩
          · refine qr_tsv hb rfl ?_
            change qm_E _ _ _ (123, [some (vR 14 n0), some (vI a1)], [], qp_H s x e, (0, 0)) _
            iterate 2 refine qm_E_next rfl ?_
            cases h
            exact qr_iret (Or.inl rfl) rfl rfl
          · rcases qr_cond h with ⟨hb, h⟩ | ⟨-, h⟩
            · refine qr_tsv hb rfl ?_
              change qm_E _ _ _ (128, [some (vR 14 n0), some (vI a1)], [], qp_H s x e, (0, 0)) _
              iterate 3 refine qm_E_next rfl ?_
              cases h
              exact qr_iret (Or.inl rfl) rfl rfl
            · rcases qr_cond h with ⟨hb, h⟩ | ⟨-, h⟩
              · refine qr_tsv hb rfl ?_
                change qm_E _ _ _ (136, [some (vR 14 n0), some (vI a1)], [], qp_H s x e, (0, 0)) _
                iterate 2 refine qm_E_next rfl ?_
                obtain ⟨q1, hq, h⟩ := qs_bd h
                refine qm_E_call rfl (qe19 (d + 0) hq) rfl ?_
                change qm_E _ _ _ (143, [some (vR 14 n0), some (vI a1)], [vI q1], qp_H s x e, (0, 0)) _
                cases h
                exact qr_iret (Or.inl rfl) rfl rfl
              · rcases qr_cond h with ⟨hb, h⟩ | ⟨-, h⟩
                · refine qr_tsv hb rfl ?_
                  change qm_E _ _ _ (157, [some (vR 14 n0), some (vI a1)], [], qp_H s x e, (0, 0)) _
                  iterate 1 refine qm_E_next rfl ?_
                  cases h
                  exact qr_iret (Or.inl rfl) rfl rfl
                · rcases qr_cond h with ⟨hb, h⟩ | ⟨-, h⟩
                  · refine qr_tsv hb rfl ?_
                    change qm_E _ _ _ (157, [some (vR 14 n0), some (vI a1)], [], qp_H s x e, (0, 0)) _
                    iterate 1 refine qm_E_next rfl ?_
                    cases h
                    exact qr_iret (Or.inl rfl) rfl rfl
                  · rcases qr_cond h with ⟨hb, h⟩ | ⟨-, h⟩
                    · refine qr_tsv hb rfl ?_
                      change qm_E _ _ _ (157, [some (vR 14 n0), some (vI a1)], [], qp_H s x e, (0, 0)) _
                      iterate 1 refine qm_E_next rfl ?_
                      cases h
                      exact qr_iret (Or.inl rfl) rfl rfl
                    · rcases qr_cond h with ⟨hb, h⟩ | ⟨-, h⟩
                      · refine qr_tsv hb rfl ?_
                        change qm_E _ _ _ (157, [some (vR 14 n0), some (vI a1)], [], qp_H s x e, (0, 0)) _
                        iterate 1 refine qm_E_next rfl ?_
                        cases h
                        exact qr_iret (Or.inl rfl) rfl rfl
                      · rcases qr_cond h with ⟨hb, h⟩ | ⟨-, h⟩
                        · refine qr_tsv hb rfl ?_
                          change qm_E _ _ _ (144, [some (vR 14 n0), some (vI a1)], [], qp_H s x e, (0, 0)) _
                          iterate 2 refine qm_E_next rfl ?_
                          rcases qr_cond h with ⟨hb, h⟩ | ⟨hb, h⟩
                          · refine qr_t hb rfl ?_
                            change qm_E _ _ _ (155, [some (vR 14 n0), some (vI a1)], [], qp_H s x e, (0, 0)) _
                            iterate 1 refine qm_E_next rfl ?_
                            cases h
                            exact qr_iret (Or.inl rfl) rfl rfl
                          · refine qr_f hb rfl ?_
                            change qm_E _ _ _ (151, [some (vR 14 n0), some (vI a1)], [], qp_H s x e, (0, 0)) _
                            iterate 2 refine qm_E_next rfl ?_
                            cases h
                            exact qr_iret (Or.inl rfl) rfl rfl
                        · cases h
def qf18_22 (n0 : Nat) (a1 : Int32) (s : qp_S) : Option (Int32) := (bif qm_cmp .lt a1 (11 : Int32) then qf18_47 n0 a1 s else (bif qm_cmp .gt a1 (16 : Int32) then qf18_47 n0 a1 s else (if qm_inb (a1 - (11 : Int32)) 6 = true then some (s 16 (6 * n0 + ((a1 - (11 : Int32))).toNatClampNeg) 2) else none)))
theorem qe18_22 (d : Nat) {L : Nat} {xs : Nat → Int32} {x : Int64} {e : Nat → Nat}    {n0 : Nat} {a1 : Int32} {s : qp_S} {r : Int32} (h : qf18_22  n0 a1 s = some r) : qm_E (qz_ro L xs) (d + 1) 18 (22, [some (vR 14 n0), some (vI a1)], [], qp_H s x e, (0, 0)) (qf_v r s x e) := by
  unfold qf18_22 at h
  iterate 2 refine qm_E_next rfl ?_
  rcases qr_cond h with ⟨hb, h⟩ | ⟨hb, h⟩
  · refine qr_t hb rfl ?_
    exact qe18_47 d  h
  · refine qr_f hb rfl ?_
    change qm_E _ _ _ (28, [some (vR 14 n0), some (vI a1)], [], qp_H s x e, (0, 0)) _
    iterate 2 refine qm_E_next rfl ?_
    rcases qr_cond h with ⟨hb, h⟩ | ⟨hb, h⟩
    · refine qr_t hb rfl ?_
      exact qe18_47 d  h
    · refine qr_f hb rfl ?_
      change qm_E _ _ _ (34, [some (vR 14 n0), some (vI a1)], [], qp_H s x e, (0, 0)) _
      iterate 5 refine qm_E_next rfl ?_
      obtain ⟨hb, h⟩ := qr_inb h
      refine qr_aaload hb rfl rfl rfl ?_
      change qm_E _ _ _ (43, [some (vR 14 n0), some (vI a1)], [vR 16 (6 * n0 + ((a1 - (11 : Int32))).toNatClampNeg)], qp_H s x e, (0, 0)) _
      iterate 1 refine qm_E_next rfl ?_
      cases h
      exact qr_iret (Or.inl rfl) rfl rfl
def qf18 (n0 : Nat) (a1 : Int32) (s : qp_S) : Option (Int32) := (bif qm_cmp .lt a1 (6 : Int32) then qf18_22 n0 a1 s else (bif qm_cmp .gt a1 (9 : Int32) then qf18_22 n0 a1 s else (if qm_inb (a1 - (6 : Int32)) 4 = true then some (s 18 n0 ((a1 - (6 : Int32))).toNatClampNeg) else none)))
theorem qe18 (d : Nat) {L : Nat} {xs : Nat → Int32} {x : Int64} {e : Nat → Nat}    {n0 : Nat} {a1 : Int32} {s : qp_S} {r : Int32} (h : qf18  n0 a1 s = some r) : qm_E (qz_ro L xs) (d + 1) 18 (0, qm_ent 18 [vR 14 n0, vI a1], [], qp_H s x e, (0, 0)) (qf_v r s x e) := by
  unfold qf18 at h
  iterate 2 refine qm_E_next rfl ?_
  rcases qr_cond h with ⟨hb, h⟩ | ⟨hb, h⟩
  · refine qr_t hb rfl ?_
    exact qe18_22 d  h
  · refine qr_f hb rfl ?_
    change qm_E _ _ _ (6, [some (vR 14 n0), some (vI a1)], [], qp_H s x e, (0, 0)) _
    iterate 2 refine qm_E_next rfl ?_
    rcases qr_cond h with ⟨hb, h⟩ | ⟨hb, h⟩
    · refine qr_t hb rfl ?_
      exact qe18_22 d  h
    · refine qr_f hb rfl ?_
      change qm_E _ _ _ (12, [some (vR 14 n0), some (vI a1)], [], qp_H s x e, (0, 0)) _
      iterate 5 refine qm_E_next rfl ?_
      obtain ⟨hb, h⟩ := qr_inb h
      refine qr_iaload hb rfl rfl rfl rfl ?_
      change qm_E _ _ _ (21, [some (vR 14 n0), some (vI a1)], [vI (s 18 n0 ((a1 - (6 : Int32))).toNatClampNeg)], qp_H s x e, (0, 0)) _
      cases h
      exact qr_iret (Or.inl rfl) rfl rfl
/-! PeriodKernel job -/
def qf17 (a1 : Int32) (a2 : Int32) (s : qp_S) : Option (Int32) := ((qf13 a1 (8 : Int32) s).bind fun q1 => (bif qm_cmp .eq q1 (0 : Int32) then some (-1 : Int32) else (if qm_inb a1 8 = true then ((qf18 (a1).toNatClampNeg a2 s).bind fun q2 => some q2) else none)))
theorem qe17 (d : Nat) {L : Nat} {xs : Nat → Int32} {x : Int64} {e : Nat → Nat}    {a1 : Int32} {a2 : Int32} {s : qp_S} {r : Int32} (h : qf17  a1 a2 s = some r) : qm_E (qz_ro L xs) (d + 2) 17 (0, qm_ent 17 [vR 1 0, vI a1, vI a2], [], qp_H s x e, (0, 0)) (qf_v r s x e) := by
  unfold qf17 at h
  iterate 2 refine qm_E_next rfl ?_
  obtain ⟨q1, hq, h⟩ := qs_bd h
  refine qm_E_call rfl (qe13 (d + 1) hq) rfl ?_
  change qm_E _ _ _ (6, [some (vR 1 0), some (vI a1), some (vI a2)], [vI q1], qp_H s x e, (0, 0)) _
  rcases qr_cond h with ⟨hb, h⟩ | ⟨hb, h⟩
  · refine qr_t hb rfl ?_
    change qm_E _ _ _ (22, [some (vR 1 0), some (vI a1), some (vI a2)], [], qp_H s x e, (0, 0)) _
    iterate 1 refine qm_E_next rfl ?_
    cases h
    exact qr_iret (Or.inl rfl) rfl rfl
  · refine qr_f hb rfl ?_
    change qm_E _ _ _ (9, [some (vR 1 0), some (vI a1), some (vI a2)], [], qp_H s x e, (0, 0)) _
    iterate 3 refine qm_E_next rfl ?_
    obtain ⟨hb, h⟩ := qr_inb h
    refine qr_aaload hb rfl rfl rfl ?_
    change qm_E _ _ _ (15, [some (vR 1 0), some (vI a1), some (vI a2)], [vR 14 (a1).toNatClampNeg], qp_H s x e, (0, 0)) _
    iterate 1 refine qm_E_next rfl ?_
    obtain ⟨q2, hq, h⟩ := qs_bd h
    refine qm_E_call rfl (qe18 (d + 0) hq) rfl ?_
    change qm_E _ _ _ (19, [some (vR 1 0), some (vI a1), some (vI a2)], [vI q2], qp_H s x e, (0, 0)) _
    iterate 1 refine qm_E_next rfl ?_
    cases h
    exact qr_iret (Or.inl rfl) rfl rfl
/-! PeriodKernel.EventLog tell -/
def qf21 (a1 : Int32) (a2 : Int32) (s : qp_S) : Option (Int32) := ((qf13 a1 (qm_min (s 8 0 1) (300 : Int32)) s).bind fun q1 => (bif qm_cmp .eq q1 (0 : Int32) then some (-1 : Int32) else ((qf13 a2 (4 : Int32) s).bind fun q2 => (bif qm_cmp .eq q2 (0 : Int32) then some (-1 : Int32) else (if qm_inb ((a1 * (4 : Int32)) + a2) 1200 = true then some (s 9 0 (((a1 * (4 : Int32)) + a2)).toNatClampNeg) else none)))))
theorem qe21 (d : Nat) {L : Nat} {xs : Nat → Int32} {x : Int64} {e : Nat → Nat}    {a1 : Int32} {a2 : Int32} {s : qp_S} {r : Int32} (h : qf21  a1 a2 s = some r) : qm_E (qz_ro L xs) (d + 1) 21 (0, qm_ent 21 [vR 8 0, vI a1, vI a2], [], qp_H s x e, (0, 0)) (qf_v r s x e) := by
  unfold qf21 at h
  iterate 4 refine qm_E_next rfl ?_
  refine qr_min rfl rfl rfl rfl (Nat.le_of_ble_eq_true rfl) ?_
  change qm_E _ _ _ (11, [some (vR 8 0), some (vI a1), some (vI a2), none], [vI (qm_min (s 8 0 1) (300 : Int32)), vI a1], qp_H s x e, (0, 0)) _
  obtain ⟨q1, hq, h⟩ := qs_bd h
  refine qm_E_call rfl (qe13 (d + 0) hq) rfl ?_
  change qm_E _ _ _ (14, [some (vR 8 0), some (vI a1), some (vI a2), none], [vI q1], qp_H s x e, (0, 0)) _
  iterate 2 refine qm_E_next rfl ?_
  rcases qr_cond h with ⟨hb, h⟩ | ⟨hb, h⟩
  · refine qr_t hb rfl ?_
    change qm_E _ _ _ (40, [some (vR 8 0), some (vI a1), some (vI a2), some (vI q1)], [], qp_H s x e, (0, 0)) _
    iterate 1 refine qm_E_next rfl ?_
    cases h
    exact qr_iret (Or.inl rfl) rfl rfl
  · refine qr_f hb rfl ?_
    change qm_E _ _ _ (19, [some (vR 8 0), some (vI a1), some (vI a2), some (vI q1)], [], qp_H s x e, (0, 0)) _
    iterate 2 refine qm_E_next rfl ?_
    obtain ⟨q2, hq, h⟩ := qs_bd h
    refine qm_E_call rfl (qe13 (d + 0) hq) rfl ?_
    change qm_E _ _ _ (24, [some (vR 8 0), some (vI a1), some (vI a2), some (vI q1)], [vI q2], qp_H s x e, (0, 0)) _
    rcases qr_cond h with ⟨hb, h⟩ | ⟨hb, h⟩
    · refine qr_t hb rfl ?_
      change qm_E _ _ _ (40, [some (vR 8 0), some (vI a1), some (vI a2), some (vI q1)], [], qp_H s x e, (0, 0)) _
      iterate 1 refine qm_E_next rfl ?_
      cases h
      exact qr_iret (Or.inl rfl) rfl rfl
    · refine qr_f hb rfl ?_
      change qm_E _ _ _ (27, [some (vR 8 0), some (vI a1), some (vI a2), some (vI q1)], [], qp_H s x e, (0, 0)) _
      iterate 6 refine qm_E_next rfl ?_
      change qm_E _ _ _ (35, [some (vR 8 0), some (vI a1), some (vI a2), some (vI q1)], [vI a2, vI (a1 * (4 : Int32)), vR 9 0], qp_H s x e, (0, 0)) _
      iterate 1 refine qm_E_next rfl ?_
      obtain ⟨hb, h⟩ := qr_inb h
      refine qr_iaload hb rfl rfl rfl rfl ?_
      change qm_E _ _ _ (37, [some (vR 8 0), some (vI a1), some (vI a2), some (vI q1)], [vI (s 9 0 (((a1 * (4 : Int32)) + a2)).toNatClampNeg)], qp_H s x e, (0, 0)) _
      iterate 1 refine qm_E_next rfl ?_
      cases h
      exact qr_iret (Or.inl rfl) rfl rfl
/-! PeriodKernel event -/
def qf20 (a1 : Int32) (a2 : Int32) (s : qp_S) : Option (Int32) := ((qf21 a1 a2 s).bind fun q1 => some q1)
theorem qe20 (d : Nat) {L : Nat} {xs : Nat → Int32} {x : Int64} {e : Nat → Nat}    {a1 : Int32} {a2 : Int32} {s : qp_S} {r : Int32} (h : qf20  a1 a2 s = some r) : qm_E (qz_ro L xs) (d + 2) 20 (0, qm_ent 20 [vR 1 0, vI a1, vI a2], [], qp_H s x e, (0, 0)) (qf_v r s x e) := by
  unfold qf20 at h
  iterate 4 refine qm_E_next rfl ?_
  obtain ⟨q1, hq, h⟩ := qs_bd h
  refine qm_E_call rfl (qe21 (d + 0) hq) rfl ?_
  change qm_E _ _ _ (9, [some (vR 1 0), some (vI a1), some (vI a2)], [vI q1], qp_H s x e, (0, 0)) _
  cases h
  exact qr_iret (Or.inl rfl) rfl rfl
/-! PeriodKernel checkIndex -/
def qf24 (a0 : Int32) (a1 : Int32) (s : qp_S) : Option (Nat ⊕ (Int32)) := ((qf13 a0 a1 s).bind fun q1 => (bif qm_cmp .ne q1 (0 : Int32) then some (.inr 0) else some (.inl 70)))
theorem qe24 (d : Nat) {L : Nat} {xs : Nat → Int32} {x : Int64} {e : Nat → Nat}    {a0 : Int32} {a1 : Int32} {s : qp_S} {r : Nat ⊕ (Int32)} (h : qf24  a0 a1 s = some r) : qm_E (qz_ro L xs) (d + 6) 24 (0, qm_ent 24 [vI a0, vI a1], [], qp_H s x e, (0, 0)) (Sum.elim (fun k => qf_k k s x e) (fun v => qf_u s x e) r) := by
  unfold qf24 at h
  iterate 2 refine qm_E_next rfl ?_
  obtain ⟨q1, hq, h⟩ := qs_bd h
  refine qm_E_call rfl (qe13 (d + 5) hq) rfl ?_
  change qm_E _ _ _ (5, [some (vI a0), some (vI a1)], [vI q1], qp_H s x e, (0, 0)) _
  rcases qr_cond h with ⟨hb, h⟩ | ⟨hb, h⟩
  · refine qr_t hb rfl ?_
    change qm_E _ _ _ (18, [some (vI a0), some (vI a1)], [], qp_H s x e, (0, 0)) _
    cases h
    exact qr_ret rfl rfl rfl
  · refine qr_f hb rfl ?_
    change qm_E _ _ _ (8, [some (vI a0), some (vI a1)], [], qp_H s x e, (0, 0)) _
    cases h
    exact qr_thr rfl (by omega) rfl (by decide) rfl
/-! PeriodKernel checkArgument -/
def qf25 (a0 : Int32) (s : qp_S) : Option (Nat ⊕ (Int32)) := (bif qm_cmp .ne a0 (0 : Int32) then some (.inr 0) else some (.inl 71))
theorem qe25 (d : Nat) {L : Nat} {xs : Nat → Int32} {x : Int64} {e : Nat → Nat}    {a0 : Int32} {s : qp_S} {r : Nat ⊕ (Int32)} (h : qf25  a0 s = some r) : qm_E (qz_ro L xs) (d + 6) 25 (0, qm_ent 25 [vI a0], [], qp_H s x e, (0, 0)) (Sum.elim (fun k => qf_k k s x e) (fun v => qf_u s x e) r) := by
  unfold qf25 at h
  iterate 1 refine qm_E_next rfl ?_
  rcases qr_cond h with ⟨hb, h⟩ | ⟨hb, h⟩
  · refine qr_t hb rfl ?_
    change qm_E _ _ _ (14, [some (vI a0)], [], qp_H s x e, (0, 0)) _
    cases h
    exact qr_ret rfl rfl rfl
  · refine qr_f hb rfl ?_
    change qm_E _ _ _ (4, [some (vI a0)], [], qp_H s x e, (0, 0)) _
    cases h
    exact qr_thr rfl (by omega) rfl (by decide) rfl
/-! PeriodKernel checkBuilding -/
def qf26 (s : qp_S) : Option (Nat ⊕ (Int32)) := (bif qm_cmp .eq (s 1 0 8) (0 : Int32) then some (.inr 0) else some (.inl 72))
theorem qe26 (d : Nat) {L : Nat} {xs : Nat → Int32} {x : Int64} {e : Nat → Nat}     {s : qp_S} {r : Nat ⊕ (Int32)} (h : qf26   s = some r) : qm_E (qz_ro L xs) (d + 6) 26 (0, qm_ent 26 [vR 1 0], [], qp_H s x e, (0, 0)) (Sum.elim (fun k => qf_k k s x e) (fun v => qf_u s x e) r) := by
  unfold qf26 at h
  iterate 2 refine qm_E_next rfl ?_
  rcases qr_cond h with ⟨hb, h⟩ | ⟨hb, h⟩
  · refine qr_t hb rfl ?_
    change qm_E _ _ _ (17, [some (vR 1 0)], [], qp_H s x e, (0, 0)) _
    cases h
    exact qr_ret rfl rfl rfl
  · refine qr_f hb rfl ?_
    change qm_E _ _ _ (7, [some (vR 1 0)], [], qp_H s x e, (0, 0)) _
    cases h
    exact qr_thr rfl (by omega) rfl (by decide) rfl
/-! PeriodKernel task -/
def qf23_23 (a1 : Int32) (a2 : Int32) (b0 : Int32) (s : qp_S) : Option (Nat ⊕ (Int32 × qp_S)) := ((qf25 b0 s).bind fun z2 => match z2 with | .inl k => some (.inl k) | .inr q2 => ((qf26 s).bind fun z3 => match z3 with | .inl k => some (.inl k) | .inr q3 => (if qm_inb a1 8 = true then some (.inr (0, (qp_up s 14 (a1).toNatClampNeg 0 a2))) else none)))
theorem qe23_23 (d : Nat) {L : Nat} {xs : Nat → Int32} {x : Int64} {e : Nat → Nat}    {a1 : Int32} {a2 : Int32} {b0 : Int32} {s : qp_S} {r : Nat ⊕ (Int32 × qp_S)} (h : qf23_23  a1 a2 b0 s = some r) : qm_E (qz_ro L xs) (d + 7) 23 (23, [some (vR 1 0), some (vI a1), some (vI a2)], [vI b0], qp_H s x e, (0, 0)) (Sum.elim (fun k => qf_k k s x e) (fun v => qf_u v.2 x e) r) := by
  unfold qf23_23 at h
  obtain ⟨z2, hq, h⟩ := qs_bd h
  rcases z2 with k | q2
  · cases h
    exact qm_E_out rfl (qe25 (d + 0) hq) rfl
  · refine qm_E_call rfl (qe25 (d + 0) hq) rfl ?_
    change qm_E _ _ _ (26, [some (vR 1 0), some (vI a1), some (vI a2)], [], qp_H s x e, (0, 0)) _
    iterate 1 refine qm_E_next rfl ?_
    obtain ⟨z3, hq, h⟩ := qs_bd h
    rcases z3 with k | q3
    · cases h
      exact qm_E_out rfl (qe26 (d + 0) hq) rfl
    · refine qm_E_call rfl (qe26 (d + 0) hq) rfl ?_
      change qm_E _ _ _ (30, [some (vR 1 0), some (vI a1), some (vI a2)], [], qp_H s x e, (0, 0)) _
      iterate 3 refine qm_E_next rfl ?_
      obtain ⟨hb, h⟩ := qr_inb h
      refine qr_aaload hb rfl rfl rfl ?_
      change qm_E _ _ _ (36, [some (vR 1 0), some (vI a1), some (vI a2)], [vR 14 (a1).toNatClampNeg], qp_H s x e, (0, 0)) _
      iterate 1 refine qm_E_next rfl ?_
      refine qr_put rfl rfl ?_
      change qm_E _ _ _ (40, [some (vR 1 0), some (vI a1), some (vI a2)], [], qp_H (qp_up s 14 (a1).toNatClampNeg 0 a2) x e, (0, 0)) _
      cases h
      exact qr_ret rfl rfl rfl
def qf23_22 (a1 : Int32) (a2 : Int32) (s : qp_S) : Option (Nat ⊕ (Int32 × qp_S)) := qf23_23 a1 a2 (0 : Int32) s
theorem qe23_22 (d : Nat) {L : Nat} {xs : Nat → Int32} {x : Int64} {e : Nat → Nat}    {a1 : Int32} {a2 : Int32} {s : qp_S} {r : Nat ⊕ (Int32 × qp_S)} (h : qf23_22  a1 a2 s = some r) : qm_E (qz_ro L xs) (d + 7) 23 (22, [some (vR 1 0), some (vI a1), some (vI a2)], [], qp_H s x e, (0, 0)) (Sum.elim (fun k => qf_k k s x e) (fun v => qf_u v.2 x e) r) := by
  unfold qf23_22 at h
  iterate 1 refine qm_E_next rfl ?_
  exact qe23_23 d  h
def qf23 (a1 : Int32) (a2 : Int32) (s : qp_S) : Option (Nat ⊕ (Int32 × qp_S)) := ((qf24 a1 (8 : Int32) s).bind fun z1 => match z1 with | .inl k => some (.inl k) | .inr q1 => (bif qm_cmp .lt a2 (1 : Int32) then qf23_22 a1 a2 s else (bif qm_cmp .gt a2 (200 : Int32) then qf23_22 a1 a2 s else qf23_23 a1 a2 (1 : Int32) s)))
theorem qe23 (d : Nat) {L : Nat} {xs : Nat → Int32} {x : Int64} {e : Nat → Nat}    {a1 : Int32} {a2 : Int32} {s : qp_S} {r : Nat ⊕ (Int32 × qp_S)} (h : qf23  a1 a2 s = some r) : qm_E (qz_ro L xs) (d + 7) 23 (0, qm_ent 23 [vR 1 0, vI a1, vI a2], [], qp_H s x e, (0, 0)) (Sum.elim (fun k => qf_k k s x e) (fun v => qf_u v.2 x e) r) := by
  unfold qf23 at h
  iterate 2 refine qm_E_next rfl ?_
  obtain ⟨z1, hq, h⟩ := qs_bd h
  rcases z1 with k | q1
  · cases h
    exact qm_E_out rfl (qe24 (d + 0) hq) rfl
  · refine qm_E_call rfl (qe24 (d + 0) hq) rfl ?_
    change qm_E _ _ _ (6, [some (vR 1 0), some (vI a1), some (vI a2)], [], qp_H s x e, (0, 0)) _
    iterate 2 refine qm_E_next rfl ?_
    rcases qr_cond h with ⟨hb, h⟩ | ⟨hb, h⟩
    · refine qr_t hb rfl ?_
      exact qe23_22 d  h
    · refine qr_f hb rfl ?_
      change qm_E _ _ _ (11, [some (vR 1 0), some (vI a1), some (vI a2)], [], qp_H s x e, (0, 0)) _
      iterate 2 refine qm_E_next rfl ?_
      rcases qr_cond h with ⟨hb, h⟩ | ⟨hb, h⟩
      · refine qr_t hb rfl ?_
        exact qe23_22 d  h
      · refine qr_f hb rfl ?_
        change qm_E _ _ _ (18, [some (vR 1 0), some (vI a1), some (vI a2)], [], qp_H s x e, (0, 0)) _
        iterate 2 refine qm_E_next rfl ?_
        exact qe23_23 d  h
/-! PeriodKernel.Task addWord -/
def qf29 (n0 : Nat) (a1 : Int32) (s : qp_S) : Option (Int32 × qp_S) := (bif qm_cmp .ge (s 14 n0 1) (32 : Int32) then some ((s 14 n0 1), s) else (if qm_inb (s 14 n0 1) 32 = true then some (((qp_up (qp_up s 17 n0 ((s 14 n0 1)).toNatClampNeg a1) 14 n0 1 (((qp_up s 17 n0 ((s 14 n0 1)).toNatClampNeg a1) 14 n0 1) + (1 : Int32))) 14 n0 1), (qp_up (qp_up s 17 n0 ((s 14 n0 1)).toNatClampNeg a1) 14 n0 1 (((qp_up s 17 n0 ((s 14 n0 1)).toNatClampNeg a1) 14 n0 1) + (1 : Int32)))) else none))
theorem qe29 (d : Nat) {L : Nat} {xs : Nat → Int32} {x : Int64} {e : Nat → Nat}    {n0 : Nat} {a1 : Int32} {s : qp_S} {r : Int32 × qp_S} (h : qf29  n0 a1 s = some r) : qm_E (qz_ro L xs) (d + 0) 29 (0, qm_ent 29 [vR 14 n0, vI a1], [], qp_H s x e, (0, 0)) (qf_v r.1 r.2 x e) := by
  unfold qf29 at h
  iterate 3 refine qm_E_next rfl ?_
  rcases qr_cond h with ⟨hb, h⟩ | ⟨hb, h⟩
  · refine qr_t hb rfl ?_
    change qm_E _ _ _ (29, [some (vR 14 n0), some (vI a1)], [], qp_H s x e, (0, 0)) _
    iterate 2 refine qm_E_next rfl ?_
    cases h
    exact qr_iret (Or.inl rfl) rfl rfl
  · refine qr_f hb rfl ?_
    change qm_E _ _ _ (9, [some (vR 14 n0), some (vI a1)], [], qp_H s x e, (0, 0)) _
    iterate 5 refine qm_E_next rfl ?_
    obtain ⟨hb, h⟩ := qr_inb h
    refine qr_iastore hb rfl rfl rfl rfl rfl ?_
    change qm_E _ _ _ (19, [some (vR 14 n0), some (vI a1)], [], qp_H (qp_up s 17 n0 ((s 14 n0 1)).toNatClampNeg a1) x e, (0, 0)) _
    iterate 5 refine qm_E_next rfl ?_
    refine qr_put rfl rfl ?_
    change qm_E _ _ _ (29, [some (vR 14 n0), some (vI a1)], [], qp_H (qp_up (qp_up s 17 n0 ((s 14 n0 1)).toNatClampNeg a1) 14 n0 1 (((qp_up s 17 n0 ((s 14 n0 1)).toNatClampNeg a1) 14 n0 1) + (1 : Int32))) x e, (0, 0)) _
    iterate 2 refine qm_E_next rfl ?_
    cases h
    exact qr_iret (Or.inl rfl) rfl rfl
/-! PeriodKernel code -/
def qf28_25 (a1 : Int32) (a2 : Int32) (b0 : Int32) (s : qp_S) : Option (Nat ⊕ (Int32 × qp_S)) := ((qf25 b0 s).bind fun z2 => match z2 with | .inl k => some (.inl k) | .inr q2 => ((qf26 s).bind fun z3 => match z3 with | .inl k => some (.inl k) | .inr q3 => (if qm_inb a1 8 = true then ((qf29 (a1).toNatClampNeg a2 s).bind fun q4 => some (.inr ((q4.1), q4.2))) else none)))
theorem qe28_25 (d : Nat) {L : Nat} {xs : Nat → Int32} {x : Int64} {e : Nat → Nat}    {a1 : Int32} {a2 : Int32} {b0 : Int32} {s : qp_S} {r : Nat ⊕ (Int32 × qp_S)} (h : qf28_25  a1 a2 b0 s = some r) : qm_E (qz_ro L xs) (d + 7) 28 (25, [some (vR 1 0), some (vI a1), some (vI a2)], [vI b0], qp_H s x e, (0, 0)) (Sum.elim (fun k => qf_k k s x e) (fun v => qf_v v.1 v.2 x e) r) := by
  unfold qf28_25 at h
  obtain ⟨z2, hq, h⟩ := qs_bd h
  rcases z2 with k | q2
  · cases h
    exact qm_E_out rfl (qe25 (d + 0) hq) rfl
  · refine qm_E_call rfl (qe25 (d + 0) hq) rfl ?_
    change qm_E _ _ _ (28, [some (vR 1 0), some (vI a1), some (vI a2)], [], qp_H s x e, (0, 0)) _
    iterate 1 refine qm_E_next rfl ?_
    obtain ⟨z3, hq, h⟩ := qs_bd h
    rcases z3 with k | q3
    · cases h
      exact qm_E_out rfl (qe26 (d + 0) hq) rfl
    · refine qm_E_call rfl (qe26 (d + 0) hq) rfl ?_
      change qm_E _ _ _ (32, [some (vR 1 0), some (vI a1), some (vI a2)], [], qp_H s x e, (0, 0)) _
      iterate 3 refine qm_E_next rfl ?_
      obtain ⟨hb, h⟩ := qr_inb h
      refine qr_aaload hb rfl rfl rfl ?_
      change qm_E _ _ _ (38, [some (vR 1 0), some (vI a1), some (vI a2)], [vR 14 (a1).toNatClampNeg], qp_H s x e, (0, 0)) _
      iterate 1 refine qm_E_next rfl ?_
      obtain ⟨q4, hq, h⟩ := qs_bd h
      refine qm_E_call rfl (qe29 (d + 6) hq) rfl ?_
      change qm_E _ _ _ (42, [some (vR 1 0), some (vI a1), some (vI a2)], [vI (q4.1)], qp_H q4.2 x e, (0, 0)) _
      cases h
      exact qr_iret (Or.inl rfl) rfl rfl
def qf28 (a1 : Int32) (a2 : Int32) (s : qp_S) : Option (Nat ⊕ (Int32 × qp_S)) := ((qf24 a1 (8 : Int32) s).bind fun z1 => match z1 with | .inl k => some (.inl k) | .inr q1 => (if qm_inb a1 8 = true then (bif qm_cmp .ge (s 14 (a1).toNatClampNeg 1) (32 : Int32) then qf28_25 a1 a2 (0 : Int32) s else qf28_25 a1 a2 (1 : Int32) s) else none))
theorem qe28 (d : Nat) {L : Nat} {xs : Nat → Int32} {x : Int64} {e : Nat → Nat}    {a1 : Int32} {a2 : Int32} {s : qp_S} {r : Nat ⊕ (Int32 × qp_S)} (h : qf28  a1 a2 s = some r) : qm_E (qz_ro L xs) (d + 7) 28 (0, qm_ent 28 [vR 1 0, vI a1, vI a2], [], qp_H s x e, (0, 0)) (Sum.elim (fun k => qf_k k s x e) (fun v => qf_v v.1 v.2 x e) r) := by
  unfold qf28 at h
  iterate 2 refine qm_E_next rfl ?_
  obtain ⟨z1, hq, h⟩ := qs_bd h
  rcases z1 with k | q1
  · cases h
    exact qm_E_out rfl (qe24 (d + 0) hq) rfl
  · refine qm_E_call rfl (qe24 (d + 0) hq) rfl ?_
    change qm_E _ _ _ (6, [some (vR 1 0), some (vI a1), some (vI a2)], [], qp_H s x e, (0, 0)) _
    iterate 3 refine qm_E_next rfl ?_
    obtain ⟨hb, h⟩ := qr_inb h
    refine qr_aaload hb rfl rfl rfl ?_
    change qm_E _ _ _ (12, [some (vR 1 0), some (vI a1), some (vI a2)], [vR 14 (a1).toNatClampNeg], qp_H s x e, (0, 0)) _
    iterate 2 refine qm_E_next rfl ?_
    rcases qr_cond h with ⟨hb, h⟩ | ⟨hb, h⟩
    · refine qr_t hb rfl ?_
      change qm_E _ _ _ (24, [some (vR 1 0), some (vI a1), some (vI a2)], [], qp_H s x e, (0, 0)) _
      iterate 1 refine qm_E_next rfl ?_
      exact qe28_25 d  h
    · refine qr_f hb rfl ?_
      change qm_E _ _ _ (20, [some (vR 1 0), some (vI a1), some (vI a2)], [], qp_H s x e, (0, 0)) _
      iterate 2 refine qm_E_next rfl ?_
      exact qe28_25 d  h
/-! PeriodKernel port -/
def qf31_23 (a1 : Int32) (a2 : Int32) (a3 : Int32) (a4 : Int32) (b0 : Int32) (s : qp_S) : Option (Nat ⊕ (Int32 × qp_S)) := ((qf25 b0 s).bind fun z2 => match z2 with | .inl k => some (.inl k) | .inr q2 => ((qf26 s).bind fun z3 => match z3 with | .inl k => some (.inl k) | .inr q3 => (if qm_inb a1 16 = true then (if qm_inb a1 16 = true then (if qm_inb a1 16 = true then some (.inr (0, (qp_up (qp_up (qp_up s 21 (a1).toNatClampNeg 0 a2) 21 (a1).toNatClampNeg 1 a3) 21 (a1).toNatClampNeg 2 a4))) else none) else none) else none)))
theorem qe31_23 (d : Nat) {L : Nat} {xs : Nat → Int32} {x : Int64} {e : Nat → Nat}    {a1 : Int32} {a2 : Int32} {a3 : Int32} {a4 : Int32} {b0 : Int32} {s : qp_S} {r : Nat ⊕ (Int32 × qp_S)} (h : qf31_23  a1 a2 a3 a4 b0 s = some r) : qm_E (qz_ro L xs) (d + 7) 31 (23, [some (vR 1 0), some (vI a1), some (vI a2), some (vI a3), some (vI a4)], [vI b0], qp_H s x e, (0, 0)) (Sum.elim (fun k => qf_k k s x e) (fun v => qf_u v.2 x e) r) := by
  unfold qf31_23 at h
  obtain ⟨z2, hq, h⟩ := qs_bd h
  rcases z2 with k | q2
  · cases h
    exact qm_E_out rfl (qe25 (d + 0) hq) rfl
  · refine qm_E_call rfl (qe25 (d + 0) hq) rfl ?_
    change qm_E _ _ _ (26, [some (vR 1 0), some (vI a1), some (vI a2), some (vI a3), some (vI a4)], [], qp_H s x e, (0, 0)) _
    iterate 1 refine qm_E_next rfl ?_
    obtain ⟨z3, hq, h⟩ := qs_bd h
    rcases z3 with k | q3
    · cases h
      exact qm_E_out rfl (qe26 (d + 0) hq) rfl
    · refine qm_E_call rfl (qe26 (d + 0) hq) rfl ?_
      change qm_E _ _ _ (30, [some (vR 1 0), some (vI a1), some (vI a2), some (vI a3), some (vI a4)], [], qp_H s x e, (0, 0)) _
      iterate 3 refine qm_E_next rfl ?_
      obtain ⟨hb, h⟩ := qr_inb h
      refine qr_aaload hb rfl rfl rfl ?_
      change qm_E _ _ _ (36, [some (vR 1 0), some (vI a1), some (vI a2), some (vI a3), some (vI a4)], [vR 21 (a1).toNatClampNeg], qp_H s x e, (0, 0)) _
      iterate 1 refine qm_E_next rfl ?_
      refine qr_put rfl rfl ?_
      change qm_E _ _ _ (40, [some (vR 1 0), some (vI a1), some (vI a2), some (vI a3), some (vI a4)], [], qp_H (qp_up s 21 (a1).toNatClampNeg 0 a2) x e, (0, 0)) _
      iterate 3 refine qm_E_next rfl ?_
      obtain ⟨hb, h⟩ := qr_inb h
      refine qr_aaload hb rfl rfl rfl ?_
      change qm_E _ _ _ (46, [some (vR 1 0), some (vI a1), some (vI a2), some (vI a3), some (vI a4)], [vR 21 (a1).toNatClampNeg], qp_H (qp_up s 21 (a1).toNatClampNeg 0 a2) x e, (0, 0)) _
      iterate 1 refine qm_E_next rfl ?_
      refine qr_put rfl rfl ?_
      change qm_E _ _ _ (50, [some (vR 1 0), some (vI a1), some (vI a2), some (vI a3), some (vI a4)], [], qp_H (qp_up (qp_up s 21 (a1).toNatClampNeg 0 a2) 21 (a1).toNatClampNeg 1 a3) x e, (0, 0)) _
      iterate 3 refine qm_E_next rfl ?_
      obtain ⟨hb, h⟩ := qr_inb h
      refine qr_aaload hb rfl rfl rfl ?_
      change qm_E _ _ _ (56, [some (vR 1 0), some (vI a1), some (vI a2), some (vI a3), some (vI a4)], [vR 21 (a1).toNatClampNeg], qp_H (qp_up (qp_up s 21 (a1).toNatClampNeg 0 a2) 21 (a1).toNatClampNeg 1 a3) x e, (0, 0)) _
      iterate 1 refine qm_E_next rfl ?_
      refine qr_put rfl rfl ?_
      change qm_E _ _ _ (61, [some (vR 1 0), some (vI a1), some (vI a2), some (vI a3), some (vI a4)], [], qp_H (qp_up (qp_up (qp_up s 21 (a1).toNatClampNeg 0 a2) 21 (a1).toNatClampNeg 1 a3) 21 (a1).toNatClampNeg 2 a4) x e, (0, 0)) _
      cases h
      exact qr_ret rfl rfl rfl
def qf31_22 (a1 : Int32) (a2 : Int32) (a3 : Int32) (a4 : Int32) (s : qp_S) : Option (Nat ⊕ (Int32 × qp_S)) := qf31_23 a1 a2 a3 a4 (0 : Int32) s
theorem qe31_22 (d : Nat) {L : Nat} {xs : Nat → Int32} {x : Int64} {e : Nat → Nat}    {a1 : Int32} {a2 : Int32} {a3 : Int32} {a4 : Int32} {s : qp_S} {r : Nat ⊕ (Int32 × qp_S)} (h : qf31_22  a1 a2 a3 a4 s = some r) : qm_E (qz_ro L xs) (d + 7) 31 (22, [some (vR 1 0), some (vI a1), some (vI a2), some (vI a3), some (vI a4)], [], qp_H s x e, (0, 0)) (Sum.elim (fun k => qf_k k s x e) (fun v => qf_u v.2 x e) r) := by
  unfold qf31_22 at h
  iterate 1 refine qm_E_next rfl ?_
  exact qe31_23 d  h
def qf31 (a1 : Int32) (a2 : Int32) (a3 : Int32) (a4 : Int32) (s : qp_S) : Option (Nat ⊕ (Int32 × qp_S)) := ((qf24 a1 (16 : Int32) s).bind fun z1 => match z1 with | .inl k => some (.inl k) | .inr q1 => (bif qm_cmp .gt a2 a4 then qf31_22 a1 a2 a3 a4 s else (bif qm_cmp .gt a4 a3 then qf31_22 a1 a2 a3 a4 s else qf31_23 a1 a2 a3 a4 (1 : Int32) s)))
theorem qe31 (d : Nat) {L : Nat} {xs : Nat → Int32} {x : Int64} {e : Nat → Nat}    {a1 : Int32} {a2 : Int32} {a3 : Int32} {a4 : Int32} {s : qp_S} {r : Nat ⊕ (Int32 × qp_S)} (h : qf31  a1 a2 a3 a4 s = some r) : qm_E (qz_ro L xs) (d + 7) 31 (0, qm_ent 31 [vR 1 0, vI a1, vI a2, vI a3, vI a4], [], qp_H s x e, (0, 0)) (Sum.elim (fun k => qf_k k s x e) (fun v => qf_u v.2 x e) r) := by
  unfold qf31 at h
  iterate 2 refine qm_E_next rfl ?_
  obtain ⟨z1, hq, h⟩ := qs_bd h
  rcases z1 with k | q1
  · cases h
    exact qm_E_out rfl (qe24 (d + 0) hq) rfl
  · refine qm_E_call rfl (qe24 (d + 0) hq) rfl ?_
    change qm_E _ _ _ (6, [some (vR 1 0), some (vI a1), some (vI a2), some (vI a3), some (vI a4)], [], qp_H s x e, (0, 0)) _
    iterate 2 refine qm_E_next rfl ?_
    rcases qr_cond h with ⟨hb, h⟩ | ⟨hb, h⟩
    · refine qr_t hb rfl ?_
      exact qe31_22 d  h
    · refine qr_f hb rfl ?_
      change qm_E _ _ _ (12, [some (vR 1 0), some (vI a1), some (vI a2), some (vI a3), some (vI a4)], [], qp_H s x e, (0, 0)) _
      iterate 2 refine qm_E_next rfl ?_
      rcases qr_cond h with ⟨hb, h⟩ | ⟨hb, h⟩
      · refine qr_t hb rfl ?_
        exact qe31_22 d  h
      · refine qr_f hb rfl ?_
        change qm_E _ _ _ (18, [some (vR 1 0), some (vI a1), some (vI a2), some (vI a3), some (vI a4)], [], qp_H s x e, (0, 0)) _
        iterate 2 refine qm_E_next rfl ?_
        exact qe31_23 d  h
/-! PeriodKernel.Slot connect -/
def qf34 (n0 : Nat) (a1 : Int32) (a2 : Int32) (a3 : Int32) (s : qp_S) : Option (Int32 × qp_S) := (bif qm_cmp .ne a1 (1 : Int32) then some (0, (qp_up (qp_up (qp_up s 16 n0 0 a1) 16 n0 1 a2) 16 n0 2 (0 : Int32))) else some (0, (qp_up (qp_up (qp_up s 16 n0 0 a1) 16 n0 1 a2) 16 n0 2 a3)))
theorem qe34 (d : Nat) {L : Nat} {xs : Nat → Int32} {x : Int64} {e : Nat → Nat}    {n0 : Nat} {a1 : Int32} {a2 : Int32} {a3 : Int32} {s : qp_S} {r : Int32 × qp_S} (h : qf34  n0 a1 a2 a3 s = some r) : qm_E (qz_ro L xs) (d + 0) 34 (0, qm_ent 34 [vR 16 n0, vI a1, vI a2, vI a3], [], qp_H s x e, (0, 0)) (qf_u r.2 x e) := by
  unfold qf34 at h
  iterate 2 refine qm_E_next rfl ?_
  refine qr_put rfl rfl ?_
  change qm_E _ _ _ (5, [some (vR 16 n0), some (vI a1), some (vI a2), some (vI a3)], [], qp_H (qp_up s 16 n0 0 a1) x e, (0, 0)) _
  iterate 2 refine qm_E_next rfl ?_
  refine qr_put rfl rfl ?_
  change qm_E _ _ _ (10, [some (vR 16 n0), some (vI a1), some (vI a2), some (vI a3)], [], qp_H (qp_up (qp_up s 16 n0 0 a1) 16 n0 1 a2) x e, (0, 0)) _
  iterate 3 refine qm_E_next rfl ?_
  rcases qr_cond h with ⟨hb, h⟩ | ⟨hb, h⟩
  · refine qr_t hb rfl ?_
    change qm_E _ _ _ (20, [some (vR 16 n0), some (vI a1), some (vI a2), some (vI a3)], [vR 16 n0], qp_H (qp_up (qp_up s 16 n0 0 a1) 16 n0 1 a2) x e, (0, 0)) _
    iterate 1 refine qm_E_next rfl ?_
    refine qr_put rfl rfl ?_
    change qm_E _ _ _ (24, [some (vR 16 n0), some (vI a1), some (vI a2), some (vI a3)], [], qp_H (qp_up (qp_up (qp_up s 16 n0 0 a1) 16 n0 1 a2) 16 n0 2 (0 : Int32)) x e, (0, 0)) _
    cases h
    exact qr_ret rfl rfl rfl
  · refine qr_f hb rfl ?_
    change qm_E _ _ _ (16, [some (vR 16 n0), some (vI a1), some (vI a2), some (vI a3)], [vR 16 n0], qp_H (qp_up (qp_up s 16 n0 0 a1) 16 n0 1 a2) x e, (0, 0)) _
    iterate 2 refine qm_E_next rfl ?_
    refine qr_put rfl rfl ?_
    change qm_E _ _ _ (24, [some (vR 16 n0), some (vI a1), some (vI a2), some (vI a3)], [], qp_H (qp_up (qp_up (qp_up s 16 n0 0 a1) 16 n0 1 a2) 16 n0 2 a3) x e, (0, 0)) _
    cases h
    exact qr_ret rfl rfl rfl
/-! PeriodKernel wire -/
def qf33_40 (a1 : Int32) (a2 : Int32) (a3 : Int32) (a4 : Int32) (b0 : Int32) (s : qp_S) : Option (Nat ⊕ (Int32 × qp_S)) := ((qf25 b0 s).bind fun z4 => match z4 with | .inl k => some (.inl k) | .inr q4 => ((qf26 s).bind fun z5 => match z5 with | .inl k => some (.inl k) | .inr q5 => (if qm_inb a1 8 = true then (if qm_inb a2 6 = true then (if qm_inb a3 16 = true then ((qf34 (6 * (a1).toNatClampNeg + (a2).toNatClampNeg) a4 a3 (s 21 (a3).toNatClampNeg 2) s).bind fun q6 => some (.inr (0, q6.2))) else none) else none) else none)))
theorem qe33_40 (d : Nat) {L : Nat} {xs : Nat → Int32} {x : Int64} {e : Nat → Nat}    {a1 : Int32} {a2 : Int32} {a3 : Int32} {a4 : Int32} {b0 : Int32} {s : qp_S} {r : Nat ⊕ (Int32 × qp_S)} (h : qf33_40  a1 a2 a3 a4 b0 s = some r) : qm_E (qz_ro L xs) (d + 7) 33 (40, [some (vR 1 0), some (vI a1), some (vI a2), some (vI a3), some (vI a4)], [vI b0], qp_H s x e, (0, 0)) (Sum.elim (fun k => qf_k k s x e) (fun v => qf_u v.2 x e) r) := by
  unfold qf33_40 at h
  obtain ⟨z4, hq, h⟩ := qs_bd h
  rcases z4 with k | q4
  · cases h
    exact qm_E_out rfl (qe25 (d + 0) hq) rfl
  · refine qm_E_call rfl (qe25 (d + 0) hq) rfl ?_
    change qm_E _ _ _ (43, [some (vR 1 0), some (vI a1), some (vI a2), some (vI a3), some (vI a4)], [], qp_H s x e, (0, 0)) _
    iterate 1 refine qm_E_next rfl ?_
    obtain ⟨z5, hq, h⟩ := qs_bd h
    rcases z5 with k | q5
    · cases h
      exact qm_E_out rfl (qe26 (d + 0) hq) rfl
    · refine qm_E_call rfl (qe26 (d + 0) hq) rfl ?_
      change qm_E _ _ _ (47, [some (vR 1 0), some (vI a1), some (vI a2), some (vI a3), some (vI a4)], [], qp_H s x e, (0, 0)) _
      iterate 3 refine qm_E_next rfl ?_
      obtain ⟨hb, h⟩ := qr_inb h
      refine qr_aaload hb rfl rfl rfl ?_
      change qm_E _ _ _ (53, [some (vR 1 0), some (vI a1), some (vI a2), some (vI a3), some (vI a4)], [vR 14 (a1).toNatClampNeg], qp_H s x e, (0, 0)) _
      iterate 2 refine qm_E_next rfl ?_
      obtain ⟨hb, h⟩ := qr_inb h
      refine qr_aaload hb rfl rfl rfl ?_
      change qm_E _ _ _ (58, [some (vR 1 0), some (vI a1), some (vI a2), some (vI a3), some (vI a4)], [vR 16 (6 * (a1).toNatClampNeg + (a2).toNatClampNeg)], qp_H s x e, (0, 0)) _
      iterate 5 refine qm_E_next rfl ?_
      obtain ⟨hb, h⟩ := qr_inb h
      refine qr_aaload hb rfl rfl rfl ?_
      change qm_E _ _ _ (67, [some (vR 1 0), some (vI a1), some (vI a2), some (vI a3), some (vI a4)], [vR 21 (a3).toNatClampNeg, vI a3, vI a4, vR 16 (6 * (a1).toNatClampNeg + (a2).toNatClampNeg)], qp_H s x e, (0, 0)) _
      iterate 1 refine qm_E_next rfl ?_
      obtain ⟨q6, hq, h⟩ := qs_bd h
      refine qm_E_call rfl (qe34 (d + 6) hq) rfl ?_
      change qm_E _ _ _ (73, [some (vR 1 0), some (vI a1), some (vI a2), some (vI a3), some (vI a4)], [], qp_H q6.2 x e, (0, 0)) _
      cases h
      exact qr_ret rfl rfl rfl
def qf33_35 (a1 : Int32) (a2 : Int32) (a3 : Int32) (a4 : Int32) (s : qp_S) : Option (Nat ⊕ (Int32 × qp_S)) := qf33_40 a1 a2 a3 a4 (1 : Int32) s
theorem qe33_35 (d : Nat) {L : Nat} {xs : Nat → Int32} {x : Int64} {e : Nat → Nat}    {a1 : Int32} {a2 : Int32} {a3 : Int32} {a4 : Int32} {s : qp_S} {r : Nat ⊕ (Int32 × qp_S)} (h : qf33_35  a1 a2 a3 a4 s = some r) : qm_E (qz_ro L xs) (d + 7) 33 (35, [some (vR 1 0), some (vI a1), some (vI a2), some (vI a3), some (vI a4)], [], qp_H s x e, (0, 0)) (Sum.elim (fun k => qf_k k s x e) (fun v => qf_u v.2 x e) r) := by
  unfold qf33_35 at h
  iterate 2 refine qm_E_next rfl ?_
  exact qe33_40 d  h
def qf33 (a1 : Int32) (a2 : Int32) (a3 : Int32) (a4 : Int32) (s : qp_S) : Option (Nat ⊕ (Int32 × qp_S)) := ((qf24 a1 (8 : Int32) s).bind fun z1 => match z1 with | .inl k => some (.inl k) | .inr q1 => ((qf24 a2 (6 : Int32) s).bind fun z2 => match z2 with | .inl k => some (.inl k) | .inr q2 => ((qf24 a3 (16 : Int32) s).bind fun z3 => match z3 with | .inl k => some (.inl k) | .inr q3 => (bif qm_cmp .eq a4 (-1 : Int32) then qf33_35 a1 a2 a3 a4 s else (bif qm_cmp .eq a4 (0 : Int32) then qf33_35 a1 a2 a3 a4 s else (bif qm_cmp .ne a4 (1 : Int32) then qf33_40 a1 a2 a3 a4 (0 : Int32) s else qf33_35 a1 a2 a3 a4 s))))))
theorem qe33 (d : Nat) {L : Nat} {xs : Nat → Int32} {x : Int64} {e : Nat → Nat}    {a1 : Int32} {a2 : Int32} {a3 : Int32} {a4 : Int32} {s : qp_S} {r : Nat ⊕ (Int32 × qp_S)} (h : qf33  a1 a2 a3 a4 s = some r) : qm_E (qz_ro L xs) (d + 7) 33 (0, qm_ent 33 [vR 1 0, vI a1, vI a2, vI a3, vI a4], [], qp_H s x e, (0, 0)) (Sum.elim (fun k => qf_k k s x e) (fun v => qf_u v.2 x e) r) := by
  unfold qf33 at h
  iterate 2 refine qm_E_next rfl ?_
  obtain ⟨z1, hq, h⟩ := qs_bd h
  rcases z1 with k | q1
  · cases h
    exact qm_E_out rfl (qe24 (d + 0) hq) rfl
  · refine qm_E_call rfl (qe24 (d + 0) hq) rfl ?_
    change qm_E _ _ _ (6, [some (vR 1 0), some (vI a1), some (vI a2), some (vI a3), some (vI a4)], [], qp_H s x e, (0, 0)) _
    iterate 2 refine qm_E_next rfl ?_
    obtain ⟨z2, hq, h⟩ := qs_bd h
    rcases z2 with k | q2
    · cases h
      exact qm_E_out rfl (qe24 (d + 0) hq) rfl
    · refine qm_E_call rfl (qe24 (d + 0) hq) rfl ?_
      change qm_E _ _ _ (12, [some (vR 1 0), some (vI a1), some (vI a2), some (vI a3), some (vI a4)], [], qp_H s x e, (0, 0)) _
      iterate 2 refine qm_E_next rfl ?_
      obtain ⟨z3, hq, h⟩ := qs_bd h
      rcases z3 with k | q3
      · cases h
        exact qm_E_out rfl (qe24 (d + 0) hq) rfl
      · refine qm_E_call rfl (qe24 (d + 0) hq) rfl ?_
        change qm_E _ _ _ (18, [some (vR 1 0), some (vI a1), some (vI a2), some (vI a3), some (vI a4)], [], qp_H s x e, (0, 0)) _
        iterate 2 refine qm_E_next rfl ?_
        rcases qr_cond h with ⟨hb, h⟩ | ⟨hb, h⟩
        · refine qr_t hb rfl ?_
          exact qe33_35 d  h
        · refine qr_f hb rfl ?_
          change qm_E _ _ _ (24, [some (vR 1 0), some (vI a1), some (vI a2), some (vI a3), some (vI a4)], [], qp_H s x e, (0, 0)) _
          iterate 1 refine qm_E_next rfl ?_
          rcases qr_cond h with ⟨hb, h⟩ | ⟨hb, h⟩
          · refine qr_t hb rfl ?_
            exact qe33_35 d  h
          · refine qr_f hb rfl ?_
            change qm_E _ _ _ (29, [some (vR 1 0), some (vI a1), some (vI a2), some (vI a3), some (vI a4)], [], qp_H s x e, (0, 0)) _
            iterate 2 refine qm_E_next rfl ?_
            rcases qr_cond h with ⟨hb, h⟩ | ⟨hb, h⟩
            · refine qr_t hb rfl ?_
              change qm_E _ _ _ (39, [some (vR 1 0), some (vI a1), some (vI a2), some (vI a3), some (vI a4)], [], qp_H s x e, (0, 0)) _
              iterate 1 refine qm_E_next rfl ?_
              exact qe33_40 d  h
            · refine qr_f hb rfl ?_
              exact qe33_35 d  h
/-! PeriodKernel mode -/
def qf36_20 (a1 : Int32) (a2 : Int32) (b0 : Int32) (s : qp_S) : Option (Nat ⊕ (Int32 × qp_S)) := ((qf25 b0 s).bind fun z2 => match z2 with | .inl k => some (.inl k) | .inr q2 => ((qf26 s).bind fun z3 => match z3 with | .inl k => some (.inl k) | .inr q3 => (if qm_inb a1 4 = true then some (.inr (0, (qp_up s 22 (a1).toNatClampNeg 0 a2))) else none)))
theorem qe36_20 (d : Nat) {L : Nat} {xs : Nat → Int32} {x : Int64} {e : Nat → Nat}    {a1 : Int32} {a2 : Int32} {b0 : Int32} {s : qp_S} {r : Nat ⊕ (Int32 × qp_S)} (h : qf36_20  a1 a2 b0 s = some r) : qm_E (qz_ro L xs) (d + 7) 36 (20, [some (vR 1 0), some (vI a1), some (vI a2)], [vI b0], qp_H s x e, (0, 0)) (Sum.elim (fun k => qf_k k s x e) (fun v => qf_u v.2 x e) r) := by
  unfold qf36_20 at h
  obtain ⟨z2, hq, h⟩ := qs_bd h
  rcases z2 with k | q2
  · cases h
    exact qm_E_out rfl (qe25 (d + 0) hq) rfl
  · refine qm_E_call rfl (qe25 (d + 0) hq) rfl ?_
    change qm_E _ _ _ (23, [some (vR 1 0), some (vI a1), some (vI a2)], [], qp_H s x e, (0, 0)) _
    iterate 1 refine qm_E_next rfl ?_
    obtain ⟨z3, hq, h⟩ := qs_bd h
    rcases z3 with k | q3
    · cases h
      exact qm_E_out rfl (qe26 (d + 0) hq) rfl
    · refine qm_E_call rfl (qe26 (d + 0) hq) rfl ?_
      change qm_E _ _ _ (27, [some (vR 1 0), some (vI a1), some (vI a2)], [], qp_H s x e, (0, 0)) _
      iterate 3 refine qm_E_next rfl ?_
      obtain ⟨hb, h⟩ := qr_inb h
      refine qr_aaload hb rfl rfl rfl ?_
      change qm_E _ _ _ (33, [some (vR 1 0), some (vI a1), some (vI a2)], [vR 22 (a1).toNatClampNeg], qp_H s x e, (0, 0)) _
      iterate 1 refine qm_E_next rfl ?_
      refine qr_put rfl rfl ?_
      change qm_E _ _ _ (37, [some (vR 1 0), some (vI a1), some (vI a2)], [], qp_H (qp_up s 22 (a1).toNatClampNeg 0 a2) x e, (0, 0)) _
      cases h
      exact qr_ret rfl rfl rfl
def qf36_19 (a1 : Int32) (a2 : Int32) (s : qp_S) : Option (Nat ⊕ (Int32 × qp_S)) := qf36_20 a1 a2 (0 : Int32) s
theorem qe36_19 (d : Nat) {L : Nat} {xs : Nat → Int32} {x : Int64} {e : Nat → Nat}    {a1 : Int32} {a2 : Int32} {s : qp_S} {r : Nat ⊕ (Int32 × qp_S)} (h : qf36_19  a1 a2 s = some r) : qm_E (qz_ro L xs) (d + 7) 36 (19, [some (vR 1 0), some (vI a1), some (vI a2)], [], qp_H s x e, (0, 0)) (Sum.elim (fun k => qf_k k s x e) (fun v => qf_u v.2 x e) r) := by
  unfold qf36_19 at h
  iterate 1 refine qm_E_next rfl ?_
  exact qe36_20 d  h
def qf36 (a1 : Int32) (a2 : Int32) (s : qp_S) : Option (Nat ⊕ (Int32 × qp_S)) := ((qf24 a1 (4 : Int32) s).bind fun z1 => match z1 with | .inl k => some (.inl k) | .inr q1 => (bif qm_cmp .lt a2 (0 : Int32) then qf36_19 a1 a2 s else (bif qm_cmp .gt a2 (60 : Int32) then qf36_19 a1 a2 s else qf36_20 a1 a2 (1 : Int32) s)))
theorem qe36 (d : Nat) {L : Nat} {xs : Nat → Int32} {x : Int64} {e : Nat → Nat}    {a1 : Int32} {a2 : Int32} {s : qp_S} {r : Nat ⊕ (Int32 × qp_S)} (h : qf36  a1 a2 s = some r) : qm_E (qz_ro L xs) (d + 7) 36 (0, qm_ent 36 [vR 1 0, vI a1, vI a2], [], qp_H s x e, (0, 0)) (Sum.elim (fun k => qf_k k s x e) (fun v => qf_u v.2 x e) r) := by
  unfold qf36 at h
  iterate 2 refine qm_E_next rfl ?_
  obtain ⟨z1, hq, h⟩ := qs_bd h
  rcases z1 with k | q1
  · cases h
    exact qm_E_out rfl (qe24 (d + 0) hq) rfl
  · refine qm_E_call rfl (qe24 (d + 0) hq) rfl ?_
    change qm_E _ _ _ (5, [some (vR 1 0), some (vI a1), some (vI a2)], [], qp_H s x e, (0, 0)) _
    iterate 1 refine qm_E_next rfl ?_
    rcases qr_cond h with ⟨hb, h⟩ | ⟨hb, h⟩
    · refine qr_t hb rfl ?_
      exact qe36_19 d  h
    · refine qr_f hb rfl ?_
      change qm_E _ _ _ (9, [some (vR 1 0), some (vI a1), some (vI a2)], [], qp_H s x e, (0, 0)) _
      iterate 2 refine qm_E_next rfl ?_
      rcases qr_cond h with ⟨hb, h⟩ | ⟨hb, h⟩
      · refine qr_t hb rfl ?_
        exact qe36_19 d  h
      · refine qr_f hb rfl ?_
        change qm_E _ _ _ (15, [some (vR 1 0), some (vI a1), some (vI a2)], [], qp_H s x e, (0, 0)) _
        iterate 2 refine qm_E_next rfl ?_
        exact qe36_20 d  h
