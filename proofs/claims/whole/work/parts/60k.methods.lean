/-! PeriodKernelModel isTrue -/
def qf156 (a1 : Int32) (s : qp_S) : Option (Int32) := (if qm_inb a1 64 = true then (if qm_inb (s 43 0 (a1).toNatClampNeg) 16 = true then (if qm_inb (a1 + (2 : Int32)) 64 = true then (if qm_inb (a1 + (1 : Int32)) 64 = true then (bif decide (((s 43 0 ((a1 + (1 : Int32))).toNatClampNeg)).toInt < 0 ∨ 4 < ((s 43 0 ((a1 + (1 : Int32))).toNatClampNeg)).toInt) then (bif qm_cmp .le (s 40 0 ((s 43 0 (a1).toNatClampNeg)).toNatClampNeg) (s 43 0 ((a1 + (2 : Int32))).toNatClampNeg) then some (0 : Int32) else some (1 : Int32)) else (bif decide ((s 43 0 ((a1 + (1 : Int32))).toNatClampNeg) = (0 : Int32)) then (bif qm_cmp .ge (s 40 0 ((s 43 0 (a1).toNatClampNeg)).toNatClampNeg) (s 43 0 ((a1 + (2 : Int32))).toNatClampNeg) then some (0 : Int32) else some (1 : Int32)) else (bif decide ((s 43 0 ((a1 + (1 : Int32))).toNatClampNeg) = (1 : Int32)) then (bif qm_cmp .gt (s 40 0 ((s 43 0 (a1).toNatClampNeg)).toNatClampNeg) (s 43 0 ((a1 + (2 : Int32))).toNatClampNeg) then some (0 : Int32) else some (1 : Int32)) else (bif decide ((s 43 0 ((a1 + (1 : Int32))).toNatClampNeg) = (2 : Int32)) then (bif qm_cmp .ne (s 40 0 ((s 43 0 (a1).toNatClampNeg)).toNatClampNeg) (s 43 0 ((a1 + (2 : Int32))).toNatClampNeg) then some (0 : Int32) else some (1 : Int32)) else (bif decide ((s 43 0 ((a1 + (1 : Int32))).toNatClampNeg) = (3 : Int32)) then (bif qm_cmp .eq (s 40 0 ((s 43 0 (a1).toNatClampNeg)).toNatClampNeg) (s 43 0 ((a1 + (2 : Int32))).toNatClampNeg) then some (0 : Int32) else some (1 : Int32)) else (bif decide ((s 43 0 ((a1 + (1 : Int32))).toNatClampNeg) = (4 : Int32)) then (bif qm_cmp .lt (s 40 0 ((s 43 0 (a1).toNatClampNeg)).toNatClampNeg) (s 43 0 ((a1 + (2 : Int32))).toNatClampNeg) then some (0 : Int32) else some (1 : Int32)) else none)))))) else none) else none) else none) else none)
theorem qe156 (d : Nat) {L : Nat} {xs : Nat → Int32} {x : Int64} {e : Nat → Nat}    {a1 : Int32} {s : qp_S} {r : Int32} (h : qf156  a1 s = some r) : qm_E (qz_ro L xs) (d + 0) 156 (0, qm_ent 156 [vR 30 0, vI a1], [], qp_H s x e, (0, 0)) (qf_v r s x e) := by
  unfold qf156 at h
  iterate 5 refine qm_E_next rfl ?_
  obtain ⟨hb, h⟩ := qr_inb h
  refine qr_iaload hb rfl rfl rfl rfl ?_
  change qm_E _ _ _ (10, [some (vR 30 0), some (vI a1), none, none], [vI (s 43 0 (a1).toNatClampNeg), vR 40 0], qp_H s x e, (0, 0)) _
  obtain ⟨hb, h⟩ := qr_inb h
  refine qr_iaload hb rfl rfl rfl rfl ?_
  change qm_E _ _ _ (11, [some (vR 30 0), some (vI a1), none, none], [vI (s 40 0 ((s 43 0 (a1).toNatClampNeg)).toNatClampNeg)], qp_H s x e, (0, 0)) _
  iterate 6 refine qm_E_next rfl ?_
  change qm_E _ _ _ (19, [some (vR 30 0), some (vI a1), some (vI (s 40 0 ((s 43 0 (a1).toNatClampNeg)).toNatClampNeg)), none], [vI (a1 + (2 : Int32)), vR 43 0], qp_H s x e, (0, 0)) _
  obtain ⟨hb, h⟩ := qr_inb h
  refine qr_iaload hb rfl rfl rfl rfl ?_
  change qm_E _ _ _ (20, [some (vR 30 0), some (vI a1), some (vI (s 40 0 ((s 43 0 (a1).toNatClampNeg)).toNatClampNeg)), none], [vI (s 43 0 ((a1 + (2 : Int32))).toNatClampNeg)], qp_H s x e, (0, 0)) _
  iterate 6 refine qm_E_next rfl ?_
  change qm_E _ _ _ (28, [some (vR 30 0), some (vI a1), some (vI (s 40 0 ((s 43 0 (a1).toNatClampNeg)).toNatClampNeg)), some (vI (s 43 0 ((a1 + (2 : Int32))).toNatClampNeg))], [vI (a1 + (1 : Int32)), vR 43 0], qp_H s x e, (0, 0)) _
  obtain ⟨hb, h⟩ := qr_inb h
  refine qr_iaload hb rfl rfl rfl rfl ?_
  change qm_E _ _ _ (29, [some (vR 30 0), some (vI a1), some (vI (s 40 0 ((s 43 0 (a1).toNatClampNeg)).toNatClampNeg)), some (vI (s 43 0 ((a1 + (2 : Int32))).toNatClampNeg))], [vI (s 43 0 ((a1 + (1 : Int32))).toNatClampNeg)], qp_H s x e, (0, 0)) _
  rcases qr_cond h with ⟨hb, h⟩ | ⟨-, h⟩
  · refine qr_tsd hb rfl rfl rfl ?_
    change qm_E _ _ _ (119, [some (vR 30 0), some (vI a1), some (vI (s 40 0 ((s 43 0 (a1).toNatClampNeg)).toNatClampNeg)), some (vI (s 43 0 ((a1 + (2 : Int32))).toNatClampNeg))], [], qp_H s x e, (0, 0)) _
    iterate 2 refine qm_E_next rfl ?_
    rcases qr_cond h with ⟨hb, h⟩ | ⟨hb, h⟩
    · refine qr_t hb rfl ?_
      change qm_E _ _ _ (128, [some (vR 30 0), some (vI a1), some (vI (s 40 0 ((s 43 0 (a1).toNatClampNeg)).toNatClampNeg)), some (vI (s 43 0 ((a1 + (2 : Int32))).toNatClampNeg))], [], qp_H s x e, (0, 0)) _
      iterate 1 refine qm_E_next rfl ?_
      cases h
      exact qr_iret (Or.inr ⟨rfl, Or.inl rfl⟩) rfl rfl
    · refine qr_f hb rfl ?_
      change qm_E _ _ _ (124, [some (vR 30 0), some (vI a1), some (vI (s 40 0 ((s 43 0 (a1).toNatClampNeg)).toNatClampNeg)), some (vI (s 43 0 ((a1 + (2 : Int32))).toNatClampNeg))], [], qp_H s x e, (0, 0)) _
      iterate 2 refine qm_E_next rfl ?_
      cases h
      exact qr_iret (Or.inr ⟨rfl, Or.inr rfl⟩) rfl rfl
  · rcases qr_cond h with ⟨hb, h⟩ | ⟨-, h⟩
    · refine qr_tsv hb rfl ?_
      change qm_E _ _ _ (64, [some (vR 30 0), some (vI a1), some (vI (s 40 0 ((s 43 0 (a1).toNatClampNeg)).toNatClampNeg)), some (vI (s 43 0 ((a1 + (2 : Int32))).toNatClampNeg))], [], qp_H s x e, (0, 0)) _
      iterate 2 refine qm_E_next rfl ?_
      rcases qr_cond h with ⟨hb, h⟩ | ⟨hb, h⟩
      · refine qr_t hb rfl ?_
        change qm_E _ _ _ (73, [some (vR 30 0), some (vI a1), some (vI (s 40 0 ((s 43 0 (a1).toNatClampNeg)).toNatClampNeg)), some (vI (s 43 0 ((a1 + (2 : Int32))).toNatClampNeg))], [], qp_H s x e, (0, 0)) _
        iterate 1 refine qm_E_next rfl ?_
        cases h
        exact qr_iret (Or.inr ⟨rfl, Or.inl rfl⟩) rfl rfl
      · refine qr_f hb rfl ?_
        change qm_E _ _ _ (69, [some (vR 30 0), some (vI a1), some (vI (s 40 0 ((s 43 0 (a1).toNatClampNeg)).toNatClampNeg)), some (vI (s 43 0 ((a1 + (2 : Int32))).toNatClampNeg))], [], qp_H s x e, (0, 0)) _
        iterate 2 refine qm_E_next rfl ?_
        cases h
        exact qr_iret (Or.inr ⟨rfl, Or.inr rfl⟩) rfl rfl
    · rcases qr_cond h with ⟨hb, h⟩ | ⟨-, h⟩
      · refine qr_tsv hb rfl ?_
        change qm_E _ _ _ (75, [some (vR 30 0), some (vI a1), some (vI (s 40 0 ((s 43 0 (a1).toNatClampNeg)).toNatClampNeg)), some (vI (s 43 0 ((a1 + (2 : Int32))).toNatClampNeg))], [], qp_H s x e, (0, 0)) _
        iterate 2 refine qm_E_next rfl ?_
        rcases qr_cond h with ⟨hb, h⟩ | ⟨hb, h⟩
        · refine qr_t hb rfl ?_
          change qm_E _ _ _ (84, [some (vR 30 0), some (vI a1), some (vI (s 40 0 ((s 43 0 (a1).toNatClampNeg)).toNatClampNeg)), some (vI (s 43 0 ((a1 + (2 : Int32))).toNatClampNeg))], [], qp_H s x e, (0, 0)) _
          iterate 1 refine qm_E_next rfl ?_
          cases h
          exact qr_iret (Or.inr ⟨rfl, Or.inl rfl⟩) rfl rfl
        · refine qr_f hb rfl ?_
          change qm_E _ _ _ (80, [some (vR 30 0), some (vI a1), some (vI (s 40 0 ((s 43 0 (a1).toNatClampNeg)).toNatClampNeg)), some (vI (s 43 0 ((a1 + (2 : Int32))).toNatClampNeg))], [], qp_H s x e, (0, 0)) _
          iterate 2 refine qm_E_next rfl ?_
          cases h
          exact qr_iret (Or.inr ⟨rfl, Or.inr rfl⟩) rfl rfl
      · rcases qr_cond h with ⟨hb, h⟩ | ⟨-, h⟩
        · refine qr_tsv hb rfl ?_
          change qm_E _ _ _ (86, [some (vR 30 0), some (vI a1), some (vI (s 40 0 ((s 43 0 (a1).toNatClampNeg)).toNatClampNeg)), some (vI (s 43 0 ((a1 + (2 : Int32))).toNatClampNeg))], [], qp_H s x e, (0, 0)) _
          iterate 2 refine qm_E_next rfl ?_
          rcases qr_cond h with ⟨hb, h⟩ | ⟨hb, h⟩
          · refine qr_t hb rfl ?_
            change qm_E _ _ _ (95, [some (vR 30 0), some (vI a1), some (vI (s 40 0 ((s 43 0 (a1).toNatClampNeg)).toNatClampNeg)), some (vI (s 43 0 ((a1 + (2 : Int32))).toNatClampNeg))], [], qp_H s x e, (0, 0)) _
            iterate 1 refine qm_E_next rfl ?_
            cases h
            exact qr_iret (Or.inr ⟨rfl, Or.inl rfl⟩) rfl rfl
          · refine qr_f hb rfl ?_
            change qm_E _ _ _ (91, [some (vR 30 0), some (vI a1), some (vI (s 40 0 ((s 43 0 (a1).toNatClampNeg)).toNatClampNeg)), some (vI (s 43 0 ((a1 + (2 : Int32))).toNatClampNeg))], [], qp_H s x e, (0, 0)) _
            iterate 2 refine qm_E_next rfl ?_
            cases h
            exact qr_iret (Or.inr ⟨rfl, Or.inr rfl⟩) rfl rfl
        · rcases qr_cond h with ⟨hb, h⟩ | ⟨-, h⟩
          · refine qr_tsv hb rfl ?_
            change qm_E _ _ _ (97, [some (vR 30 0), some (vI a1), some (vI (s 40 0 ((s 43 0 (a1).toNatClampNeg)).toNatClampNeg)), some (vI (s 43 0 ((a1 + (2 : Int32))).toNatClampNeg))], [], qp_H s x e, (0, 0)) _
            iterate 2 refine qm_E_next rfl ?_
            rcases qr_cond h with ⟨hb, h⟩ | ⟨hb, h⟩
            · refine qr_t hb rfl ?_
              change qm_E _ _ _ (106, [some (vR 30 0), some (vI a1), some (vI (s 40 0 ((s 43 0 (a1).toNatClampNeg)).toNatClampNeg)), some (vI (s 43 0 ((a1 + (2 : Int32))).toNatClampNeg))], [], qp_H s x e, (0, 0)) _
              iterate 1 refine qm_E_next rfl ?_
              cases h
              exact qr_iret (Or.inr ⟨rfl, Or.inl rfl⟩) rfl rfl
            · refine qr_f hb rfl ?_
              change qm_E _ _ _ (102, [some (vR 30 0), some (vI a1), some (vI (s 40 0 ((s 43 0 (a1).toNatClampNeg)).toNatClampNeg)), some (vI (s 43 0 ((a1 + (2 : Int32))).toNatClampNeg))], [], qp_H s x e, (0, 0)) _
              iterate 2 refine qm_E_next rfl ?_
              cases h
              exact qr_iret (Or.inr ⟨rfl, Or.inr rfl⟩) rfl rfl
          · rcases qr_cond h with ⟨hb, h⟩ | ⟨-, h⟩
            · refine qr_tsv hb rfl ?_
              change qm_E _ _ _ (108, [some (vR 30 0), some (vI a1), some (vI (s 40 0 ((s 43 0 (a1).toNatClampNeg)).toNatClampNeg)), some (vI (s 43 0 ((a1 + (2 : Int32))).toNatClampNeg))], [], qp_H s x e, (0, 0)) _
              iterate 2 refine qm_E_next rfl ?_
              rcases qr_cond h with ⟨hb, h⟩ | ⟨hb, h⟩
              · refine qr_t hb rfl ?_
                change qm_E _ _ _ (117, [some (vR 30 0), some (vI a1), some (vI (s 40 0 ((s 43 0 (a1).toNatClampNeg)).toNatClampNeg)), some (vI (s 43 0 ((a1 + (2 : Int32))).toNatClampNeg))], [], qp_H s x e, (0, 0)) _
                iterate 1 refine qm_E_next rfl ?_
                cases h
                exact qr_iret (Or.inr ⟨rfl, Or.inl rfl⟩) rfl rfl
              · refine qr_f hb rfl ?_
                change qm_E _ _ _ (113, [some (vR 30 0), some (vI a1), some (vI (s 40 0 ((s 43 0 (a1).toNatClampNeg)).toNatClampNeg)), some (vI (s 43 0 ((a1 + (2 : Int32))).toNatClampNeg))], [], qp_H s x e, (0, 0)) _
                iterate 2 refine qm_E_next rfl ?_
                cases h
                exact qr_iret (Or.inr ⟨rfl, Or.inr rfl⟩) rfl rfl
            · cases h
/-! PeriodKernelModel turnMode -/
def qf155_46  : Nat → Int32 → Int32 → qp_S → Option (Int32 × qp_S)
  | 0, _, _, _ => none
  | n + 1, a1, a2, s => (bif qm_cmp .lt a2 (0 : Int32) then some (0, (qp_up (qp_up s 30 0 22 a1) 30 0 23 ((qp_up s 30 0 22 a1) 30 0 21))) else ((qf156 (((16 : Int32) * (s 30 0 22)) + ((4 : Int32) * a2)) s).bind fun q1 => (bif qm_cmp .eq q1 (0 : Int32) then qf155_46  n a1 (a2 + (-1 : Int32)) s else (if qm_inb ((((16 : Int32) * (s 30 0 22)) + ((4 : Int32) * a2)) + (3 : Int32)) 64 = true then qf155_46  n (s 43 0 (((((16 : Int32) * (s 30 0 22)) + ((4 : Int32) * a2)) + (3 : Int32))).toNatClampNeg) (a2 + (-1 : Int32)) s else none))))
theorem qe155_46 (d : Nat) {L : Nat} {xs : Nat → Int32} {x : Int64} {e : Nat → Nat}   : ∀ {n : Nat}  {a1 : Int32} {a2 : Int32} {s : qp_S} {r : Int32 × qp_S}, qf155_46  n a1 a2 s = some r → qm_E (qz_ro L xs) (d + 1) 155 (46, [some (vR 30 0), some (vI a1), some (vI a2)], [], qp_H s x e, (0, 0)) (qf_u r.2 x e) := by
  intro n
  induction n with
  | zero => intro  a1 a2 s r h; cases h
  | succ n ih =>
    intro  a1 a2 s r h
    unfold qf155_46 at h
    iterate 1 refine qm_E_next rfl ?_
    rcases qr_cond h with ⟨hb, h⟩ | ⟨hb, h⟩
    · refine qr_t hb rfl ?_
      change qm_E _ _ _ (97, [some (vR 30 0), some (vI a1), some (vI a2)], [], qp_H s x e, (0, 0)) _
      iterate 2 refine qm_E_next rfl ?_
      refine qr_put rfl rfl ?_
      change qm_E _ _ _ (102, [some (vR 30 0), some (vI a1), some (vI a2)], [], qp_H (qp_up s 30 0 22 a1) x e, (0, 0)) _
      iterate 3 refine qm_E_next rfl ?_
      refine qr_put rfl rfl ?_
      change qm_E _ _ _ (110, [some (vR 30 0), some (vI a1), some (vI a2)], [], qp_H (qp_up (qp_up s 30 0 22 a1) 30 0 23 ((qp_up s 30 0 22 a1) 30 0 21)) x e, (0, 0)) _
      cases h
      exact qr_ret rfl rfl rfl
    · refine qr_f hb rfl ?_
      change qm_E _ _ _ (50, [some (vR 30 0), some (vI a1), some (vI a2)], [], qp_H s x e, (0, 0)) _
      iterate 6 refine qm_E_next rfl ?_
      change qm_E _ _ _ (59, [some (vR 30 0), some (vI a1), some (vI a2)], [vI (4 : Int32), vI ((16 : Int32) * (s 30 0 22)), vR 30 0], qp_H s x e, (0, 0)) _
      iterate 3 refine qm_E_next rfl ?_
      obtain ⟨q1, hq, h⟩ := qs_bd h
      refine qm_E_call rfl (qe156 (d + 0) hq) rfl ?_
      change qm_E _ _ _ (65, [some (vR 30 0), some (vI a1), some (vI a2)], [vI q1], qp_H s x e, (0, 0)) _
      rcases qr_cond h with ⟨hb, h⟩ | ⟨hb, h⟩
      · refine qr_t hb rfl ?_
        change qm_E _ _ _ (89, [some (vR 30 0), some (vI a1), some (vI a2)], [], qp_H s x e, (0, 0)) _
        iterate 4 refine qm_E_next rfl ?_
        exact ih h
      · refine qr_f hb rfl ?_
        change qm_E _ _ _ (68, [some (vR 30 0), some (vI a1), some (vI a2)], [], qp_H s x e, (0, 0)) _
        iterate 6 refine qm_E_next rfl ?_
        change qm_E _ _ _ (79, [some (vR 30 0), some (vI a1), some (vI a2)], [vI ((16 : Int32) * (s 30 0 22)), vR 43 0], qp_H s x e, (0, 0)) _
        iterate 6 refine qm_E_next rfl ?_
        change qm_E _ _ _ (85, [some (vR 30 0), some (vI a1), some (vI a2)], [vI ((((16 : Int32) * (s 30 0 22)) + ((4 : Int32) * a2)) + (3 : Int32)), vR 43 0], qp_H s x e, (0, 0)) _
        obtain ⟨hb, h⟩ := qr_inb h
        refine qr_iaload hb rfl rfl rfl rfl ?_
        change qm_E _ _ _ (86, [some (vR 30 0), some (vI a1), some (vI a2)], [vI (s 43 0 (((((16 : Int32) * (s 30 0 22)) + ((4 : Int32) * a2)) + (3 : Int32))).toNatClampNeg)], qp_H s x e, (0, 0)) _
        iterate 4 refine qm_E_next rfl ?_
        exact ih h
def qf155 (s : qp_S) : Option (Int32 × qp_S) := (bif qm_cmp .eq (s 30 0 21) (0 : Int32) then some (0, s) else (if qm_inb (s 30 0 22) 4 = true then (bif qm_cmp .eq ((s 30 0 21) - (s 30 0 23)) (s 41 0 ((s 30 0 22)).toNatClampNeg) then (if qm_inb (s 30 0 22) 4 = true then qf155_46 4096 (s 30 0 22) ((s 44 0 ((s 30 0 22)).toNatClampNeg) - (1 : Int32)) s else none) else some (0, s)) else none))
theorem qe155 (d : Nat) {L : Nat} {xs : Nat → Int32} {x : Int64} {e : Nat → Nat}     {s : qp_S} {r : Int32 × qp_S} (h : qf155   s = some r) : qm_E (qz_ro L xs) (d + 1) 155 (0, qm_ent 155 [vR 30 0], [], qp_H s x e, (0, 0)) (qf_u r.2 x e) := by
  unfold qf155 at h
  iterate 2 refine qm_E_next rfl ?_
  rcases qr_cond h with ⟨hb, h⟩ | ⟨hb, h⟩
  · refine qr_t hb rfl ?_
    change qm_E _ _ _ (28, [some (vR 30 0), none, none], [], qp_H s x e, (0, 0)) _
    cases h
    exact qr_ret rfl rfl rfl
  · refine qr_f hb rfl ?_
    change qm_E _ _ _ (7, [some (vR 30 0), none, none], [], qp_H s x e, (0, 0)) _
    iterate 6 refine qm_E_next rfl ?_
    change qm_E _ _ _ (17, [some (vR 30 0), none, none], [vR 30 0, vI ((s 30 0 21) - (s 30 0 23))], qp_H s x e, (0, 0)) _
    iterate 3 refine qm_E_next rfl ?_
    obtain ⟨hb, h⟩ := qr_inb h
    refine qr_iaload hb rfl rfl rfl rfl ?_
    change qm_E _ _ _ (25, [some (vR 30 0), none, none], [vI (s 41 0 ((s 30 0 22)).toNatClampNeg), vI ((s 30 0 21) - (s 30 0 23))], qp_H s x e, (0, 0)) _
    rcases qr_cond h with ⟨hb, h⟩ | ⟨hb, h⟩
    · refine qr_t hb rfl ?_
      change qm_E _ _ _ (29, [some (vR 30 0), none, none], [], qp_H s x e, (0, 0)) _
      iterate 6 refine qm_E_next rfl ?_
      change qm_E _ _ _ (39, [some (vR 30 0), some (vI (s 30 0 22)), none], [vR 30 0, vR 44 0], qp_H s x e, (0, 0)) _
      iterate 1 refine qm_E_next rfl ?_
      obtain ⟨hb, h⟩ := qr_inb h
      refine qr_iaload hb rfl rfl rfl rfl ?_
      change qm_E _ _ _ (43, [some (vR 30 0), some (vI (s 30 0 22)), none], [vI (s 44 0 ((s 30 0 22)).toNatClampNeg)], qp_H s x e, (0, 0)) _
      iterate 3 refine qm_E_next rfl ?_
      exact qe155_46 d  h
    · refine qr_f hb rfl ?_
      change qm_E _ _ _ (28, [some (vR 30 0), none, none], [], qp_H s x e, (0, 0)) _
      cases h
      exact qr_ret rfl rfl rfl
/-! PeriodKernelModel release -/
def qf157_46  : Nat → Int32 → Int32 → Int32 → qp_S → Option (Int32 × qp_S)
  | 0, _, _, _, _ => none
  | n + 1, a1, a2, a3, s => (bif qm_cmp .ge a3 (6 : Int32) then (if qm_inb a1 8 = true then (if qm_inb a1 8 = true then (if qm_inb ((qp_up (qp_up s 50 0 (a1).toNatClampNeg (1 : Int32)) 51 0 (a1).toNatClampNeg ((qp_up s 50 0 (a1).toNatClampNeg (1 : Int32)) 30 0 21)) 30 0 22) 4 = true then (if a2 = 0 then none else (if qm_inb a1 8 = true then (if qm_inb a1 8 = true then ((qf148 a1 ((qp_up (qp_up (qp_up s 50 0 (a1).toNatClampNeg (1 : Int32)) 51 0 (a1).toNatClampNeg ((qp_up s 50 0 (a1).toNatClampNeg (1 : Int32)) 30 0 21)) 52 0 (a1).toNatClampNeg (((qp_up (qp_up s 50 0 (a1).toNatClampNeg (1 : Int32)) 51 0 (a1).toNatClampNeg ((qp_up s 50 0 (a1).toNatClampNeg (1 : Int32)) 30 0 21)) 30 0 21) + (((qp_up (qp_up s 50 0 (a1).toNatClampNeg (1 : Int32)) 51 0 (a1).toNatClampNeg ((qp_up s 50 0 (a1).toNatClampNeg (1 : Int32)) 30 0 21)) 41 0 (((qp_up (qp_up s 50 0 (a1).toNatClampNeg (1 : Int32)) 51 0 (a1).toNatClampNeg ((qp_up s 50 0 (a1).toNatClampNeg (1 : Int32)) 30 0 21)) 30 0 22)).toNatClampNeg) / a2))) 31 0 (a1).toNatClampNeg) (qp_up (qp_up (qp_up s 50 0 (a1).toNatClampNeg (1 : Int32)) 51 0 (a1).toNatClampNeg ((qp_up s 50 0 (a1).toNatClampNeg (1 : Int32)) 30 0 21)) 52 0 (a1).toNatClampNeg (((qp_up (qp_up s 50 0 (a1).toNatClampNeg (1 : Int32)) 51 0 (a1).toNatClampNeg ((qp_up s 50 0 (a1).toNatClampNeg (1 : Int32)) 30 0 21)) 30 0 21) + (((qp_up (qp_up s 50 0 (a1).toNatClampNeg (1 : Int32)) 51 0 (a1).toNatClampNeg ((qp_up s 50 0 (a1).toNatClampNeg (1 : Int32)) 30 0 21)) 41 0 (((qp_up (qp_up s 50 0 (a1).toNatClampNeg (1 : Int32)) 51 0 (a1).toNatClampNeg ((qp_up s 50 0 (a1).toNatClampNeg (1 : Int32)) 30 0 21)) 30 0 22)).toNatClampNeg) / a2)))).bind fun q1 => (if qm_inb a1 8 = true then (bif qm_cmp .ne ((qp_up q1.2 54 0 (a1).toNatClampNeg (q1.1)) 30 0 35) (0 : Int32) then (if qm_inb a1 8 = true then (if qm_inb a1 8 = true then some (0, (qp_up (qp_up (qp_up q1.2 54 0 (a1).toNatClampNeg (q1.1)) 55 0 (a1).toNatClampNeg (0 : Int32)) 53 0 (a1).toNatClampNeg (0 : Int32))) else none) else none) else (if qm_inb a1 8 = true then (if qm_inb a1 8 = true then some (0, (qp_up (qp_up (qp_up q1.2 54 0 (a1).toNatClampNeg (q1.1)) 55 0 (a1).toNatClampNeg (1 : Int32)) 53 0 (a1).toNatClampNeg (0 : Int32))) else none) else none)) else none)) else none) else none)) else none) else none) else none) else (if qm_inb (((6 : Int32) * a1) + a3) 48 = true then (bif qm_cmp .ne (s 34 0 ((((6 : Int32) * a1) + a3)).toNatClampNeg) (0 : Int32) then (if qm_inb (((6 : Int32) * a1) + a3) 48 = true then (if qm_inb (((6 : Int32) * a1) + a3) 48 = true then qf157_46  n a1 a2 (a3 + (1 : Int32)) (qp_up s 36 0 ((((6 : Int32) * a1) + a3)).toNatClampNeg (s 36 0 ((((6 : Int32) * a1) + a3)).toNatClampNeg)) else none) else none) else (if qm_inb (((6 : Int32) * a1) + a3) 48 = true then (if qm_inb (s 35 0 ((((6 : Int32) * a1) + a3)).toNatClampNeg) 16 = true then (if qm_inb (((6 : Int32) * a1) + a3) 48 = true then qf157_46  n a1 a2 (a3 + (1 : Int32)) (qp_up s 36 0 ((((6 : Int32) * a1) + a3)).toNatClampNeg (s 40 0 ((s 35 0 ((((6 : Int32) * a1) + a3)).toNatClampNeg)).toNatClampNeg)) else none) else none) else none)) else none))
theorem qe157_46 (d : Nat) {L : Nat} {xs : Nat → Int32} {x : Int64} {e : Nat → Nat}   : ∀ {n : Nat} {u4 : Option qm_V} {a1 : Int32} {a2 : Int32} {a3 : Int32} {s : qp_S} {r : Int32 × qp_S}, qf157_46  n a1 a2 a3 s = some r → qm_E (qz_ro L xs) (d + 3) 157 (46, [some (vR 30 0), some (vI a1), some (vI a2), some (vI a3), u4], [], qp_H s x e, (0, 0)) (qf_u r.2 x e) := by
  intro n
  induction n with
  | zero => intro u4 a1 a2 a3 s r h; cases h
  | succ n ih =>
    intro u4 a1 a2 a3 s r h
    unfold qf157_46 at h
    iterate 2 refine qm_E_next rfl ?_
    rcases qr_cond h with ⟨hb, h⟩ | ⟨hb, h⟩
    · refine qr_t hb rfl ?_
      change qm_E _ _ _ (105, [some (vR 30 0), some (vI a1), some (vI a2), some (vI a3), u4], [], qp_H s x e, (0, 0)) _
      iterate 4 refine qm_E_next rfl ?_
      obtain ⟨hb, h⟩ := qr_inb h
      refine qr_bastore hb (Or.inr rfl) rfl rfl rfl rfl rfl ?_
      change qm_E _ _ _ (112, [some (vR 30 0), some (vI a1), some (vI a2), some (vI a3), u4], [], qp_H (qp_up s 50 0 (a1).toNatClampNeg (1 : Int32)) x e, (0, 0)) _
      iterate 5 refine qm_E_next rfl ?_
      obtain ⟨hb, h⟩ := qr_inb h
      refine qr_iastore hb rfl rfl rfl rfl rfl ?_
      change qm_E _ _ _ (122, [some (vR 30 0), some (vI a1), some (vI a2), some (vI a3), u4], [], qp_H (qp_up (qp_up s 50 0 (a1).toNatClampNeg (1 : Int32)) 51 0 (a1).toNatClampNeg ((qp_up s 50 0 (a1).toNatClampNeg (1 : Int32)) 30 0 21)) x e, (0, 0)) _
      iterate 6 refine qm_E_next rfl ?_
      change qm_E _ _ _ (132, [some (vR 30 0), some (vI a1), some (vI a2), some (vI a3), u4], [vR 30 0, vI ((qp_up (qp_up s 50 0 (a1).toNatClampNeg (1 : Int32)) 51 0 (a1).toNatClampNeg ((qp_up s 50 0 (a1).toNatClampNeg (1 : Int32)) 30 0 21)) 30 0 21), vI a1, vR 52 0], qp_H (qp_up (qp_up s 50 0 (a1).toNatClampNeg (1 : Int32)) 51 0 (a1).toNatClampNeg ((qp_up s 50 0 (a1).toNatClampNeg (1 : Int32)) 30 0 21)) x e, (0, 0)) _
      iterate 3 refine qm_E_next rfl ?_
      obtain ⟨hb, h⟩ := qr_inb h
      refine qr_iaload hb rfl rfl rfl rfl ?_
      change qm_E _ _ _ (140, [some (vR 30 0), some (vI a1), some (vI a2), some (vI a3), u4], [vI ((qp_up (qp_up s 50 0 (a1).toNatClampNeg (1 : Int32)) 51 0 (a1).toNatClampNeg ((qp_up s 50 0 (a1).toNatClampNeg (1 : Int32)) 30 0 21)) 41 0 (((qp_up (qp_up s 50 0 (a1).toNatClampNeg (1 : Int32)) 51 0 (a1).toNatClampNeg ((qp_up s 50 0 (a1).toNatClampNeg (1 : Int32)) 30 0 21)) 30 0 22)).toNatClampNeg), vI ((qp_up (qp_up s 50 0 (a1).toNatClampNeg (1 : Int32)) 51 0 (a1).toNatClampNeg ((qp_up s 50 0 (a1).toNatClampNeg (1 : Int32)) 30 0 21)) 30 0 21), vI a1, vR 52 0], qp_H (qp_up (qp_up s 50 0 (a1).toNatClampNeg (1 : Int32)) 51 0 (a1).toNatClampNeg ((qp_up s 50 0 (a1).toNatClampNeg (1 : Int32)) 30 0 21)) x e, (0, 0)) _
      iterate 1 refine qm_E_next rfl ?_
      obtain ⟨hb, h⟩ := qr_nz h
      refine qr_idiv hb rfl rfl ?_
      change qm_E _ _ _ (142, [some (vR 30 0), some (vI a1), some (vI a2), some (vI a3), u4], [vI (((qp_up (qp_up s 50 0 (a1).toNatClampNeg (1 : Int32)) 51 0 (a1).toNatClampNeg ((qp_up s 50 0 (a1).toNatClampNeg (1 : Int32)) 30 0 21)) 41 0 (((qp_up (qp_up s 50 0 (a1).toNatClampNeg (1 : Int32)) 51 0 (a1).toNatClampNeg ((qp_up s 50 0 (a1).toNatClampNeg (1 : Int32)) 30 0 21)) 30 0 22)).toNatClampNeg) / a2), vI ((qp_up (qp_up s 50 0 (a1).toNatClampNeg (1 : Int32)) 51 0 (a1).toNatClampNeg ((qp_up s 50 0 (a1).toNatClampNeg (1 : Int32)) 30 0 21)) 30 0 21), vI a1, vR 52 0], qp_H (qp_up (qp_up s 50 0 (a1).toNatClampNeg (1 : Int32)) 51 0 (a1).toNatClampNeg ((qp_up s 50 0 (a1).toNatClampNeg (1 : Int32)) 30 0 21)) x e, (0, 0)) _
      iterate 1 refine qm_E_next rfl ?_
      obtain ⟨hb, h⟩ := qr_inb h
      refine qr_iastore hb rfl rfl rfl rfl rfl ?_
      change qm_E _ _ _ (144, [some (vR 30 0), some (vI a1), some (vI a2), some (vI a3), u4], [], qp_H (qp_up (qp_up (qp_up s 50 0 (a1).toNatClampNeg (1 : Int32)) 51 0 (a1).toNatClampNeg ((qp_up s 50 0 (a1).toNatClampNeg (1 : Int32)) 30 0 21)) 52 0 (a1).toNatClampNeg (((qp_up (qp_up s 50 0 (a1).toNatClampNeg (1 : Int32)) 51 0 (a1).toNatClampNeg ((qp_up s 50 0 (a1).toNatClampNeg (1 : Int32)) 30 0 21)) 30 0 21) + (((qp_up (qp_up s 50 0 (a1).toNatClampNeg (1 : Int32)) 51 0 (a1).toNatClampNeg ((qp_up s 50 0 (a1).toNatClampNeg (1 : Int32)) 30 0 21)) 41 0 (((qp_up (qp_up s 50 0 (a1).toNatClampNeg (1 : Int32)) 51 0 (a1).toNatClampNeg ((qp_up s 50 0 (a1).toNatClampNeg (1 : Int32)) 30 0 21)) 30 0 22)).toNatClampNeg) / a2))) x e, (0, 0)) _
      iterate 6 refine qm_E_next rfl ?_
      change qm_E _ _ _ (152, [some (vR 30 0), some (vI a1), some (vI a2), some (vI a3), u4], [vR 30 0, vI a1, vR 30 0, vI a1, vR 54 0], qp_H (qp_up (qp_up (qp_up s 50 0 (a1).toNatClampNeg (1 : Int32)) 51 0 (a1).toNatClampNeg ((qp_up s 50 0 (a1).toNatClampNeg (1 : Int32)) 30 0 21)) 52 0 (a1).toNatClampNeg (((qp_up (qp_up s 50 0 (a1).toNatClampNeg (1 : Int32)) 51 0 (a1).toNatClampNeg ((qp_up s 50 0 (a1).toNatClampNeg (1 : Int32)) 30 0 21)) 30 0 21) + (((qp_up (qp_up s 50 0 (a1).toNatClampNeg (1 : Int32)) 51 0 (a1).toNatClampNeg ((qp_up s 50 0 (a1).toNatClampNeg (1 : Int32)) 30 0 21)) 41 0 (((qp_up (qp_up s 50 0 (a1).toNatClampNeg (1 : Int32)) 51 0 (a1).toNatClampNeg ((qp_up s 50 0 (a1).toNatClampNeg (1 : Int32)) 30 0 21)) 30 0 22)).toNatClampNeg) / a2))) x e, (0, 0)) _
      iterate 2 refine qm_E_next rfl ?_
      obtain ⟨hb, h⟩ := qr_inb h
      refine qr_iaload hb rfl rfl rfl rfl ?_
      change qm_E _ _ _ (157, [some (vR 30 0), some (vI a1), some (vI a2), some (vI a3), u4], [vI ((qp_up (qp_up (qp_up s 50 0 (a1).toNatClampNeg (1 : Int32)) 51 0 (a1).toNatClampNeg ((qp_up s 50 0 (a1).toNatClampNeg (1 : Int32)) 30 0 21)) 52 0 (a1).toNatClampNeg (((qp_up (qp_up s 50 0 (a1).toNatClampNeg (1 : Int32)) 51 0 (a1).toNatClampNeg ((qp_up s 50 0 (a1).toNatClampNeg (1 : Int32)) 30 0 21)) 30 0 21) + (((qp_up (qp_up s 50 0 (a1).toNatClampNeg (1 : Int32)) 51 0 (a1).toNatClampNeg ((qp_up s 50 0 (a1).toNatClampNeg (1 : Int32)) 30 0 21)) 41 0 (((qp_up (qp_up s 50 0 (a1).toNatClampNeg (1 : Int32)) 51 0 (a1).toNatClampNeg ((qp_up s 50 0 (a1).toNatClampNeg (1 : Int32)) 30 0 21)) 30 0 22)).toNatClampNeg) / a2))) 31 0 (a1).toNatClampNeg), vI a1, vR 30 0, vI a1, vR 54 0], qp_H (qp_up (qp_up (qp_up s 50 0 (a1).toNatClampNeg (1 : Int32)) 51 0 (a1).toNatClampNeg ((qp_up s 50 0 (a1).toNatClampNeg (1 : Int32)) 30 0 21)) 52 0 (a1).toNatClampNeg (((qp_up (qp_up s 50 0 (a1).toNatClampNeg (1 : Int32)) 51 0 (a1).toNatClampNeg ((qp_up s 50 0 (a1).toNatClampNeg (1 : Int32)) 30 0 21)) 30 0 21) + (((qp_up (qp_up s 50 0 (a1).toNatClampNeg (1 : Int32)) 51 0 (a1).toNatClampNeg ((qp_up s 50 0 (a1).toNatClampNeg (1 : Int32)) 30 0 21)) 41 0 (((qp_up (qp_up s 50 0 (a1).toNatClampNeg (1 : Int32)) 51 0 (a1).toNatClampNeg ((qp_up s 50 0 (a1).toNatClampNeg (1 : Int32)) 30 0 21)) 30 0 22)).toNatClampNeg) / a2))) x e, (0, 0)) _
      obtain ⟨q1, hq, h⟩ := qs_bd h
      refine qm_E_call rfl (qe148 (d + 0) hq) rfl ?_
      change qm_E _ _ _ (160, [some (vR 30 0), some (vI a1), some (vI a2), some (vI a3), u4], [vI (q1.1), vI a1, vR 54 0], qp_H q1.2 x e, (0, 0)) _
      obtain ⟨hb, h⟩ := qr_inb h
      refine qr_iastore hb rfl rfl rfl rfl rfl ?_
      change qm_E _ _ _ (161, [some (vR 30 0), some (vI a1), some (vI a2), some (vI a3), u4], [], qp_H (qp_up q1.2 54 0 (a1).toNatClampNeg (q1.1)) x e, (0, 0)) _
      iterate 5 refine qm_E_next rfl ?_
      rcases qr_cond h with ⟨hb, h⟩ | ⟨hb, h⟩
      · refine qr_t hb rfl ?_
        change qm_E _ _ _ (177, [some (vR 30 0), some (vI a1), some (vI a2), some (vI a3), u4], [vI a1, vR 55 0], qp_H (qp_up q1.2 54 0 (a1).toNatClampNeg (q1.1)) x e, (0, 0)) _
        iterate 1 refine qm_E_next rfl ?_
        obtain ⟨hb, h⟩ := qr_inb h
        refine qr_bastore hb (Or.inl rfl) rfl rfl rfl rfl rfl ?_
        change qm_E _ _ _ (179, [some (vR 30 0), some (vI a1), some (vI a2), some (vI a3), u4], [], qp_H (qp_up (qp_up q1.2 54 0 (a1).toNatClampNeg (q1.1)) 55 0 (a1).toNatClampNeg (0 : Int32)) x e, (0, 0)) _
        iterate 4 refine qm_E_next rfl ?_
        obtain ⟨hb, h⟩ := qr_inb h
        refine qr_iastore hb rfl rfl rfl rfl rfl ?_
        change qm_E _ _ _ (186, [some (vR 30 0), some (vI a1), some (vI a2), some (vI a3), u4], [], qp_H (qp_up (qp_up (qp_up q1.2 54 0 (a1).toNatClampNeg (q1.1)) 55 0 (a1).toNatClampNeg (0 : Int32)) 53 0 (a1).toNatClampNeg (0 : Int32)) x e, (0, 0)) _
        cases h
        exact qr_ret rfl rfl rfl
      · refine qr_f hb rfl ?_
        change qm_E _ _ _ (173, [some (vR 30 0), some (vI a1), some (vI a2), some (vI a3), u4], [vI a1, vR 55 0], qp_H (qp_up q1.2 54 0 (a1).toNatClampNeg (q1.1)) x e, (0, 0)) _
        iterate 2 refine qm_E_next rfl ?_
        obtain ⟨hb, h⟩ := qr_inb h
        refine qr_bastore hb (Or.inr rfl) rfl rfl rfl rfl rfl ?_
        change qm_E _ _ _ (179, [some (vR 30 0), some (vI a1), some (vI a2), some (vI a3), u4], [], qp_H (qp_up (qp_up q1.2 54 0 (a1).toNatClampNeg (q1.1)) 55 0 (a1).toNatClampNeg (1 : Int32)) x e, (0, 0)) _
        iterate 4 refine qm_E_next rfl ?_
        obtain ⟨hb, h⟩ := qr_inb h
        refine qr_iastore hb rfl rfl rfl rfl rfl ?_
        change qm_E _ _ _ (186, [some (vR 30 0), some (vI a1), some (vI a2), some (vI a3), u4], [], qp_H (qp_up (qp_up (qp_up q1.2 54 0 (a1).toNatClampNeg (q1.1)) 55 0 (a1).toNatClampNeg (1 : Int32)) 53 0 (a1).toNatClampNeg (0 : Int32)) x e, (0, 0)) _
        cases h
        exact qr_ret rfl rfl rfl
    · refine qr_f hb rfl ?_
      change qm_E _ _ _ (52, [some (vR 30 0), some (vI a1), some (vI a2), some (vI a3), u4], [], qp_H s x e, (0, 0)) _
      iterate 6 refine qm_E_next rfl ?_
      change qm_E _ _ _ (60, [some (vR 30 0), some (vI a1), some (vI a2), some (vI a3), some (vI (((6 : Int32) * a1) + a3))], [], qp_H s x e, (0, 0)) _
      iterate 6 refine qm_E_next rfl ?_
      change qm_E _ _ _ (72, [some (vR 30 0), some (vI a1), some (vI a2), some (vI a3), some (vI (((6 : Int32) * a1) + a3))], [vI (((6 : Int32) * a1) + a3), vR 34 0, vI (((6 : Int32) * a1) + a3), vR 36 0], qp_H s x e, (0, 0)) _
      obtain ⟨hb, h⟩ := qr_inb h
      refine qr_iaload hb rfl rfl rfl rfl ?_
      change qm_E _ _ _ (73, [some (vR 30 0), some (vI a1), some (vI a2), some (vI a3), some (vI (((6 : Int32) * a1) + a3))], [vI (s 34 0 ((((6 : Int32) * a1) + a3)).toNatClampNeg), vI (((6 : Int32) * a1) + a3), vR 36 0], qp_H s x e, (0, 0)) _
      rcases qr_cond h with ⟨hb, h⟩ | ⟨hb, h⟩
      · refine qr_t hb rfl ?_
        change qm_E _ _ _ (91, [some (vR 30 0), some (vI a1), some (vI a2), some (vI a3), some (vI (((6 : Int32) * a1) + a3))], [vI (((6 : Int32) * a1) + a3), vR 36 0], qp_H s x e, (0, 0)) _
        iterate 3 refine qm_E_next rfl ?_
        obtain ⟨hb, h⟩ := qr_inb h
        refine qr_iaload hb rfl rfl rfl rfl ?_
        change qm_E _ _ _ (98, [some (vR 30 0), some (vI a1), some (vI a2), some (vI a3), some (vI (((6 : Int32) * a1) + a3))], [vI (s 36 0 ((((6 : Int32) * a1) + a3)).toNatClampNeg), vI (((6 : Int32) * a1) + a3), vR 36 0], qp_H s x e, (0, 0)) _
        obtain ⟨hb, h⟩ := qr_inb h
        refine qr_iastore hb rfl rfl rfl rfl rfl ?_
        change qm_E _ _ _ (99, [some (vR 30 0), some (vI a1), some (vI a2), some (vI a3), some (vI (((6 : Int32) * a1) + a3))], [], qp_H (qp_up s 36 0 ((((6 : Int32) * a1) + a3)).toNatClampNeg (s 36 0 ((((6 : Int32) * a1) + a3)).toNatClampNeg)) x e, (0, 0)) _
        iterate 2 refine qm_E_next rfl ?_
        exact ih h
      · refine qr_f hb rfl ?_
        change qm_E _ _ _ (76, [some (vR 30 0), some (vI a1), some (vI a2), some (vI a3), some (vI (((6 : Int32) * a1) + a3))], [vI (((6 : Int32) * a1) + a3), vR 36 0], qp_H s x e, (0, 0)) _
        iterate 5 refine qm_E_next rfl ?_
        obtain ⟨hb, h⟩ := qr_inb h
        refine qr_iaload hb rfl rfl rfl rfl ?_
        change qm_E _ _ _ (87, [some (vR 30 0), some (vI a1), some (vI a2), some (vI a3), some (vI (((6 : Int32) * a1) + a3))], [vI (s 35 0 ((((6 : Int32) * a1) + a3)).toNatClampNeg), vR 40 0, vI (((6 : Int32) * a1) + a3), vR 36 0], qp_H s x e, (0, 0)) _
        obtain ⟨hb, h⟩ := qr_inb h
        refine qr_iaload hb rfl rfl rfl rfl ?_
        change qm_E _ _ _ (88, [some (vR 30 0), some (vI a1), some (vI a2), some (vI a3), some (vI (((6 : Int32) * a1) + a3))], [vI (s 40 0 ((s 35 0 ((((6 : Int32) * a1) + a3)).toNatClampNeg)).toNatClampNeg), vI (((6 : Int32) * a1) + a3), vR 36 0], qp_H s x e, (0, 0)) _
        iterate 1 refine qm_E_next rfl ?_
        obtain ⟨hb, h⟩ := qr_inb h
        refine qr_iastore hb rfl rfl rfl rfl rfl ?_
        change qm_E _ _ _ (99, [some (vR 30 0), some (vI a1), some (vI a2), some (vI a3), some (vI (((6 : Int32) * a1) + a3))], [], qp_H (qp_up s 36 0 ((((6 : Int32) * a1) + a3)).toNatClampNeg (s 40 0 ((s 35 0 ((((6 : Int32) * a1) + a3)).toNatClampNeg)).toNatClampNeg)) x e, (0, 0)) _
        iterate 2 refine qm_E_next rfl ?_
        exact ih h
def qf157 (a1 : Int32) (s : qp_S) : Option (Int32 × qp_S) := (if qm_inb (((8 : Int32) * (s 30 0 22)) + a1) 32 = true then (bif qm_cmp .eq (s 42 0 ((((8 : Int32) * (s 30 0 22)) + a1)).toNatClampNeg) (0 : Int32) then some (0, s) else (if qm_inb (s 30 0 22) 4 = true then (if (s 42 0 ((((8 : Int32) * (s 30 0 22)) + a1)).toNatClampNeg) = 0 then none else (if ((s 41 0 ((s 30 0 22)).toNatClampNeg) / (s 42 0 ((((8 : Int32) * (s 30 0 22)) + a1)).toNatClampNeg)) = 0 then none else (bif qm_cmp .eq (((s 30 0 21) - (s 30 0 23)) - ((s 30 0 21) - (s 30 0 23)) / ((s 41 0 ((s 30 0 22)).toNatClampNeg) / (s 42 0 ((((8 : Int32) * (s 30 0 22)) + a1)).toNatClampNeg)) * ((s 41 0 ((s 30 0 22)).toNatClampNeg) / (s 42 0 ((((8 : Int32) * (s 30 0 22)) + a1)).toNatClampNeg))) (0 : Int32) then qf157_46 4096 a1 (s 42 0 ((((8 : Int32) * (s 30 0 22)) + a1)).toNatClampNeg) (0 : Int32) s else some (0, s)))) else none)) else none)
theorem qe157 (d : Nat) {L : Nat} {xs : Nat → Int32} {x : Int64} {e : Nat → Nat}    {a1 : Int32} {s : qp_S} {r : Int32 × qp_S} (h : qf157  a1 s = some r) : qm_E (qz_ro L xs) (d + 3) 157 (0, qm_ent 157 [vR 30 0, vI a1], [], qp_H s x e, (0, 0)) (qf_u r.2 x e) := by
  unfold qf157 at h
  iterate 6 refine qm_E_next rfl ?_
  change qm_E _ _ _ (11, [some (vR 30 0), some (vI a1), none, none, none], [vI ((8 : Int32) * (s 30 0 22)), vR 42 0], qp_H s x e, (0, 0)) _
  iterate 2 refine qm_E_next rfl ?_
  obtain ⟨hb, h⟩ := qr_inb h
  refine qr_iaload hb rfl rfl rfl rfl ?_
  change qm_E _ _ _ (14, [some (vR 30 0), some (vI a1), none, none, none], [vI (s 42 0 ((((8 : Int32) * (s 30 0 22)) + a1)).toNatClampNeg)], qp_H s x e, (0, 0)) _
  iterate 2 refine qm_E_next rfl ?_
  rcases qr_cond h with ⟨hb, h⟩ | ⟨hb, h⟩
  · refine qr_t hb rfl ?_
    change qm_E _ _ _ (43, [some (vR 30 0), some (vI a1), some (vI (s 42 0 ((((8 : Int32) * (s 30 0 22)) + a1)).toNatClampNeg)), none, none], [], qp_H s x e, (0, 0)) _
    cases h
    exact qr_ret rfl rfl rfl
  · refine qr_f hb rfl ?_
    change qm_E _ _ _ (19, [some (vR 30 0), some (vI a1), some (vI (s 42 0 ((((8 : Int32) * (s 30 0 22)) + a1)).toNatClampNeg)), none, none], [], qp_H s x e, (0, 0)) _
    iterate 6 refine qm_E_next rfl ?_
    change qm_E _ _ _ (29, [some (vR 30 0), some (vI a1), some (vI (s 42 0 ((((8 : Int32) * (s 30 0 22)) + a1)).toNatClampNeg)), none, none], [vR 30 0, vI ((s 30 0 21) - (s 30 0 23))], qp_H s x e, (0, 0)) _
    iterate 3 refine qm_E_next rfl ?_
    obtain ⟨hb, h⟩ := qr_inb h
    refine qr_iaload hb rfl rfl rfl rfl ?_
    change qm_E _ _ _ (37, [some (vR 30 0), some (vI a1), some (vI (s 42 0 ((((8 : Int32) * (s 30 0 22)) + a1)).toNatClampNeg)), none, none], [vI (s 41 0 ((s 30 0 22)).toNatClampNeg), vI ((s 30 0 21) - (s 30 0 23))], qp_H s x e, (0, 0)) _
    iterate 1 refine qm_E_next rfl ?_
    obtain ⟨hb, h⟩ := qr_nz h
    refine qr_idiv hb rfl rfl ?_
    change qm_E _ _ _ (39, [some (vR 30 0), some (vI a1), some (vI (s 42 0 ((((8 : Int32) * (s 30 0 22)) + a1)).toNatClampNeg)), none, none], [vI ((s 41 0 ((s 30 0 22)).toNatClampNeg) / (s 42 0 ((((8 : Int32) * (s 30 0 22)) + a1)).toNatClampNeg)), vI ((s 30 0 21) - (s 30 0 23))], qp_H s x e, (0, 0)) _
    obtain ⟨hb, h⟩ := qr_nz h
    refine qr_irem hb rfl rfl ?_
    change qm_E _ _ _ (40, [some (vR 30 0), some (vI a1), some (vI (s 42 0 ((((8 : Int32) * (s 30 0 22)) + a1)).toNatClampNeg)), none, none], [vI (((s 30 0 21) - (s 30 0 23)) - ((s 30 0 21) - (s 30 0 23)) / ((s 41 0 ((s 30 0 22)).toNatClampNeg) / (s 42 0 ((((8 : Int32) * (s 30 0 22)) + a1)).toNatClampNeg)) * ((s 41 0 ((s 30 0 22)).toNatClampNeg) / (s 42 0 ((((8 : Int32) * (s 30 0 22)) + a1)).toNatClampNeg)))], qp_H s x e, (0, 0)) _
    rcases qr_cond h with ⟨hb, h⟩ | ⟨hb, h⟩
    · refine qr_t hb rfl ?_
      change qm_E _ _ _ (44, [some (vR 30 0), some (vI a1), some (vI (s 42 0 ((((8 : Int32) * (s 30 0 22)) + a1)).toNatClampNeg)), none, none], [], qp_H s x e, (0, 0)) _
      iterate 2 refine qm_E_next rfl ?_
      exact qe157_46 d  h
    · refine qr_f hb rfl ?_
      change qm_E _ _ _ (43, [some (vR 30 0), some (vI a1), some (vI (s 42 0 ((((8 : Int32) * (s 30 0 22)) + a1)).toNatClampNeg)), none, none], [], qp_H s x e, (0, 0)) _
      cases h
      exact qr_ret rfl rfl rfl
/-! PeriodKernelModel instant -/
def qf146_169  : Nat → Int32 → qp_S → Option (Int32 × qp_S)
  | 0, _, _ => none
  | n + 1, a1, s => (bif qm_cmp .ge a1 (8 : Int32) then some (0, s) else ((qf157 a1 s).bind fun q4 => qf146_169  n (a1 + (1 : Int32)) q4.2))
theorem qe146_169 (d : Nat) {L : Nat} {xs : Nat → Int32} {x : Int64} {e : Nat → Nat}   : ∀ {n : Nat} {u2 : Option qm_V} {a1 : Int32} {s : qp_S} {r : Int32 × qp_S}, qf146_169  n a1 s = some r → qm_E (qz_ro L xs) (d + 4) 146 (169, [some (vR 30 0), some (vI a1), u2], [], qp_H s x e, (0, 0)) (qf_u r.2 x e) := by
  intro n
  induction n with
  | zero => intro u2 a1 s r h; cases h
  | succ n ih =>
    intro u2 a1 s r h
    unfold qf146_169 at h
    iterate 2 refine qm_E_next rfl ?_
    rcases qr_cond h with ⟨hb, h⟩ | ⟨hb, h⟩
    · refine qr_t hb rfl ?_
      change qm_E _ _ _ (186, [some (vR 30 0), some (vI a1), u2], [], qp_H s x e, (0, 0)) _
      cases h
      exact qr_ret rfl rfl rfl
    · refine qr_f hb rfl ?_
      change qm_E _ _ _ (175, [some (vR 30 0), some (vI a1), u2], [], qp_H s x e, (0, 0)) _
      iterate 2 refine qm_E_next rfl ?_
      obtain ⟨q4, hq, h⟩ := qs_bd h
      refine qm_E_call rfl (qe157 (d + 0) hq) rfl ?_
      change qm_E _ _ _ (180, [some (vR 30 0), some (vI a1), u2], [], qp_H q4.2 x e, (0, 0)) _
      iterate 2 refine qm_E_next rfl ?_
      exact ih h
def qf146_115  : Nat → Int32 → qp_S → Option (Int32 × qp_S)
  | 0, _, _ => none
  | n + 1, a1, s => (bif qm_cmp .ge a1 (8 : Int32) then ((qf155  s).bind fun q2 => qf146_169  4096 (0 : Int32) q2.2) else (if qm_inb a1 8 = true then (bif qm_cmp .lt (s 45 0 (a1).toNatClampNeg) (0 : Int32) then qf146_115  n (a1 + (1 : Int32)) s else (if qm_inb a1 8 = true then (if qm_inb a1 8 = true then (if qm_inb a1 8 = true then ((qf153 (s 45 0 (a1).toNatClampNeg) (s 46 0 (a1).toNatClampNeg) s).bind fun q3 => (if qm_inb (s 45 0 (a1).toNatClampNeg) 16 = true then qf146_115  n (a1 + (1 : Int32)) (qp_up s 40 0 ((s 45 0 (a1).toNatClampNeg)).toNatClampNeg q3) else none)) else none) else none) else none)) else none))
theorem qe146_115 (d : Nat) {L : Nat} {xs : Nat → Int32} {x : Int64} {e : Nat → Nat}   : ∀ {n : Nat} {u2 : Option qm_V} {a1 : Int32} {s : qp_S} {r : Int32 × qp_S}, qf146_115  n a1 s = some r → qm_E (qz_ro L xs) (d + 4) 146 (115, [some (vR 30 0), some (vI a1), u2], [], qp_H s x e, (0, 0)) (qf_u r.2 x e) := by
  intro n
  induction n with
  | zero => intro u2 a1 s r h; cases h
  | succ n ih =>
    intro u2 a1 s r h
    unfold qf146_115 at h
    iterate 2 refine qm_E_next rfl ?_
    rcases qr_cond h with ⟨hb, h⟩ | ⟨hb, h⟩
    · refine qr_t hb rfl ?_
      change qm_E _ _ _ (163, [some (vR 30 0), some (vI a1), u2], [], qp_H s x e, (0, 0)) _
      iterate 1 refine qm_E_next rfl ?_
      obtain ⟨q2, hq, h⟩ := qs_bd h
      refine qm_E_call rfl (qe155 (d + 2) hq) rfl ?_
      change qm_E _ _ _ (167, [some (vR 30 0), some (vI a1), u2], [], qp_H q2.2 x e, (0, 0)) _
      iterate 2 refine qm_E_next rfl ?_
      exact qe146_169 d  h
    · refine qr_f hb rfl ?_
      change qm_E _ _ _ (121, [some (vR 30 0), some (vI a1), u2], [], qp_H s x e, (0, 0)) _
      iterate 3 refine qm_E_next rfl ?_
      obtain ⟨hb, h⟩ := qr_inb h
      refine qr_iaload hb rfl rfl rfl rfl ?_
      change qm_E _ _ _ (127, [some (vR 30 0), some (vI a1), u2], [vI (s 45 0 (a1).toNatClampNeg)], qp_H s x e, (0, 0)) _
      rcases qr_cond h with ⟨hb, h⟩ | ⟨hb, h⟩
      · refine qr_t hb rfl ?_
        change qm_E _ _ _ (157, [some (vR 30 0), some (vI a1), u2], [], qp_H s x e, (0, 0)) _
        iterate 2 refine qm_E_next rfl ?_
        exact ih h
      · refine qr_f hb rfl ?_
        change qm_E _ _ _ (130, [some (vR 30 0), some (vI a1), u2], [], qp_H s x e, (0, 0)) _
        iterate 5 refine qm_E_next rfl ?_
        obtain ⟨hb, h⟩ := qr_inb h
        refine qr_iaload hb rfl rfl rfl rfl ?_
        change qm_E _ _ _ (140, [some (vR 30 0), some (vI a1), u2], [vI (s 45 0 (a1).toNatClampNeg), vR 40 0], qp_H s x e, (0, 0)) _
        iterate 4 refine qm_E_next rfl ?_
        obtain ⟨hb, h⟩ := qr_inb h
        refine qr_iaload hb rfl rfl rfl rfl ?_
        change qm_E _ _ _ (147, [some (vR 30 0), some (vI a1), u2], [vI (s 45 0 (a1).toNatClampNeg), vR 30 0, vI (s 45 0 (a1).toNatClampNeg), vR 40 0], qp_H s x e, (0, 0)) _
        iterate 3 refine qm_E_next rfl ?_
        obtain ⟨hb, h⟩ := qr_inb h
        refine qr_iaload hb rfl rfl rfl rfl ?_
        change qm_E _ _ _ (153, [some (vR 30 0), some (vI a1), u2], [vI (s 46 0 (a1).toNatClampNeg), vI (s 45 0 (a1).toNatClampNeg), vR 30 0, vI (s 45 0 (a1).toNatClampNeg), vR 40 0], qp_H s x e, (0, 0)) _
        obtain ⟨q3, hq, h⟩ := qs_bd h
        refine qm_E_call rfl (qe153 (d + 3) hq) rfl ?_
        change qm_E _ _ _ (156, [some (vR 30 0), some (vI a1), u2], [vI q3, vI (s 45 0 (a1).toNatClampNeg), vR 40 0], qp_H s x e, (0, 0)) _
        obtain ⟨hb, h⟩ := qr_inb h
        refine qr_iastore hb rfl rfl rfl rfl rfl ?_
        change qm_E _ _ _ (157, [some (vR 30 0), some (vI a1), u2], [], qp_H (qp_up s 40 0 ((s 45 0 (a1).toNatClampNeg)).toNatClampNeg q3) x e, (0, 0)) _
        iterate 2 refine qm_E_next rfl ?_
        exact ih h
def qf146_90 (L43 : Int32 → qp_S → Option (Int32 × qp_S)) (a1 : Int32) (a2 : Int32) (s : qp_S) : Option (Int32 × qp_S) := (if qm_inb a1 8 = true then (if qm_inb a1 8 = true then L43 (a1 + (1 : Int32)) (qp_up (qp_up s 49 0 (a1).toNatClampNeg (s 30 0 21)) 48 0 (a1).toNatClampNeg a2) else none) else none)
theorem qe146_90 (d : Nat) {L : Nat} {xs : Nat → Int32} {x : Int64} {e : Nat → Nat} {L43 : Int32 → qp_S → Option (Int32 × qp_S)} (H43 : ∀ {u2 : Option qm_V} {a1 : Int32} {s : qp_S} {r : Int32 × qp_S}, L43 a1 s = some r → qm_E (qz_ro L xs) (d + 4) 146 (43, [some (vR 30 0), some (vI a1), u2], [], qp_H s x e, (0, 0)) (qf_u r.2 x e))  {a1 : Int32} {a2 : Int32} {s : qp_S} {r : Int32 × qp_S} (h : qf146_90 L43 a1 a2 s = some r) : qm_E (qz_ro L xs) (d + 4) 146 (90, [some (vR 30 0), some (vI a1), some (vI a2)], [], qp_H s x e, (0, 0)) (qf_u r.2 x e) := by
  unfold qf146_90 at h
  iterate 5 refine qm_E_next rfl ?_
  obtain ⟨hb, h⟩ := qr_inb h
  refine qr_iastore hb rfl rfl rfl rfl rfl ?_
  change qm_E _ _ _ (100, [some (vR 30 0), some (vI a1), some (vI a2)], [], qp_H (qp_up s 49 0 (a1).toNatClampNeg (s 30 0 21)) x e, (0, 0)) _
  iterate 4 refine qm_E_next rfl ?_
  obtain ⟨hb, h⟩ := qr_inb h
  refine qr_iastore hb rfl rfl rfl rfl rfl ?_
  change qm_E _ _ _ (107, [some (vR 30 0), some (vI a1), some (vI a2)], [], qp_H (qp_up (qp_up s 49 0 (a1).toNatClampNeg (s 30 0 21)) 48 0 (a1).toNatClampNeg a2) x e, (0, 0)) _
  iterate 2 refine qm_E_next rfl ?_
  exact H43 h
def qf146_43  : Nat → Int32 → qp_S → Option (Int32 × qp_S)
  | 0, _, _ => none
  | n + 1, a1, s => (bif qm_cmp .ge a1 (8 : Int32) then qf146_115  4096 (0 : Int32) s else (if qm_inb a1 8 = true then (bif qm_cmp .ge (s 47 0 (a1).toNatClampNeg) (0 : Int32) then (if qm_inb a1 8 = true then (if qm_inb (s 47 0 (a1).toNatClampNeg) 16 = true then (if qm_inb a1 8 = true then (bif qm_cmp .ne (s 40 0 ((s 47 0 (a1).toNatClampNeg)).toNatClampNeg) (s 48 0 (a1).toNatClampNeg) then qf146_90 (qf146_43  n) a1 (s 40 0 ((s 47 0 (a1).toNatClampNeg)).toNatClampNeg) s else (bif qm_cmp .ne (s 30 0 21) (0 : Int32) then (if qm_inb a1 8 = true then qf146_43  n (a1 + (1 : Int32)) (qp_up s 48 0 (a1).toNatClampNeg (s 40 0 ((s 47 0 (a1).toNatClampNeg)).toNatClampNeg)) else none) else qf146_90 (qf146_43  n) a1 (s 40 0 ((s 47 0 (a1).toNatClampNeg)).toNatClampNeg) s)) else none) else none) else none) else qf146_43  n (a1 + (1 : Int32)) s) else none))
theorem qe146_43 (d : Nat) {L : Nat} {xs : Nat → Int32} {x : Int64} {e : Nat → Nat}   : ∀ {n : Nat} {u2 : Option qm_V} {a1 : Int32} {s : qp_S} {r : Int32 × qp_S}, qf146_43  n a1 s = some r → qm_E (qz_ro L xs) (d + 4) 146 (43, [some (vR 30 0), some (vI a1), u2], [], qp_H s x e, (0, 0)) (qf_u r.2 x e) := by
  intro n
  induction n with
  | zero => intro u2 a1 s r h; cases h
  | succ n ih =>
    intro u2 a1 s r h
    unfold qf146_43 at h
    iterate 2 refine qm_E_next rfl ?_
    rcases qr_cond h with ⟨hb, h⟩ | ⟨hb, h⟩
    · refine qr_t hb rfl ?_
      change qm_E _ _ _ (113, [some (vR 30 0), some (vI a1), u2], [], qp_H s x e, (0, 0)) _
      iterate 2 refine qm_E_next rfl ?_
      exact qe146_115 d  h
    · refine qr_f hb rfl ?_
      change qm_E _ _ _ (49, [some (vR 30 0), some (vI a1), u2], [], qp_H s x e, (0, 0)) _
      iterate 3 refine qm_E_next rfl ?_
      obtain ⟨hb, h⟩ := qr_inb h
      refine qr_iaload hb rfl rfl rfl rfl ?_
      change qm_E _ _ _ (55, [some (vR 30 0), some (vI a1), u2], [vI (s 47 0 (a1).toNatClampNeg)], qp_H s x e, (0, 0)) _
      rcases qr_cond h with ⟨hb, h⟩ | ⟨hb, h⟩
      · refine qr_t hb rfl ?_
        change qm_E _ _ _ (61, [some (vR 30 0), some (vI a1), u2], [], qp_H s x e, (0, 0)) _
        iterate 5 refine qm_E_next rfl ?_
        obtain ⟨hb, h⟩ := qr_inb h
        refine qr_iaload hb rfl rfl rfl rfl ?_
        change qm_E _ _ _ (71, [some (vR 30 0), some (vI a1), u2], [vI (s 47 0 (a1).toNatClampNeg), vR 40 0], qp_H s x e, (0, 0)) _
        obtain ⟨hb, h⟩ := qr_inb h
        refine qr_iaload hb rfl rfl rfl rfl ?_
        change qm_E _ _ _ (72, [some (vR 30 0), some (vI a1), u2], [vI (s 40 0 ((s 47 0 (a1).toNatClampNeg)).toNatClampNeg)], qp_H s x e, (0, 0)) _
        iterate 5 refine qm_E_next rfl ?_
        obtain ⟨hb, h⟩ := qr_inb h
        refine qr_iaload hb rfl rfl rfl rfl ?_
        change qm_E _ _ _ (80, [some (vR 30 0), some (vI a1), some (vI (s 40 0 ((s 47 0 (a1).toNatClampNeg)).toNatClampNeg))], [vI (s 48 0 (a1).toNatClampNeg), vI (s 40 0 ((s 47 0 (a1).toNatClampNeg)).toNatClampNeg)], qp_H s x e, (0, 0)) _
        rcases qr_cond h with ⟨hb, h⟩ | ⟨hb, h⟩
        · refine qr_t hb rfl ?_
          exact qe146_90 d (fun h => ih h) h
        · refine qr_f hb rfl ?_
          change qm_E _ _ _ (83, [some (vR 30 0), some (vI a1), some (vI (s 40 0 ((s 47 0 (a1).toNatClampNeg)).toNatClampNeg))], [], qp_H s x e, (0, 0)) _
          iterate 2 refine qm_E_next rfl ?_
          rcases qr_cond h with ⟨hb, h⟩ | ⟨hb, h⟩
          · refine qr_t hb rfl ?_
            change qm_E _ _ _ (100, [some (vR 30 0), some (vI a1), some (vI (s 40 0 ((s 47 0 (a1).toNatClampNeg)).toNatClampNeg))], [], qp_H s x e, (0, 0)) _
            iterate 4 refine qm_E_next rfl ?_
            obtain ⟨hb, h⟩ := qr_inb h
            refine qr_iastore hb rfl rfl rfl rfl rfl ?_
            change qm_E _ _ _ (107, [some (vR 30 0), some (vI a1), some (vI (s 40 0 ((s 47 0 (a1).toNatClampNeg)).toNatClampNeg))], [], qp_H (qp_up s 48 0 (a1).toNatClampNeg (s 40 0 ((s 47 0 (a1).toNatClampNeg)).toNatClampNeg)) x e, (0, 0)) _
            iterate 2 refine qm_E_next rfl ?_
            exact ih h
          · refine qr_f hb rfl ?_
            exact qe146_90 d (fun h => ih h) h
      · refine qr_f hb rfl ?_
        change qm_E _ _ _ (58, [some (vR 30 0), some (vI a1), u2], [], qp_H s x e, (0, 0)) _
        iterate 3 refine qm_E_next rfl ?_
        exact ih h
def qf146_2  : Nat → Int32 → qp_S → Option (Int32 × qp_S)
  | 0, _, _ => none
  | n + 1, a1, s => (bif qm_cmp .ge a1 (8 : Int32) then qf146_43  4096 (0 : Int32) s else (if qm_inb a1 8 = true then (bif qm_cmp .eq (s 50 0 (a1).toNatClampNeg) (0 : Int32) then qf146_2  n (a1 + (1 : Int32)) s else (if qm_inb a1 8 = true then (bif qm_cmp .ne (s 52 0 (a1).toNatClampNeg) (s 30 0 21) then qf146_2  n (a1 + (1 : Int32)) s else ((qf147 a1 s).bind fun q1 => qf146_2  n (a1 + (1 : Int32)) q1.2)) else none)) else none))
theorem qe146_2 (d : Nat) {L : Nat} {xs : Nat → Int32} {x : Int64} {e : Nat → Nat}   : ∀ {n : Nat} {u2 : Option qm_V} {a1 : Int32} {s : qp_S} {r : Int32 × qp_S}, qf146_2  n a1 s = some r → qm_E (qz_ro L xs) (d + 4) 146 (2, [some (vR 30 0), some (vI a1), u2], [], qp_H s x e, (0, 0)) (qf_u r.2 x e) := by
  intro n
  induction n with
  | zero => intro u2 a1 s r h; cases h
  | succ n ih =>
    intro u2 a1 s r h
    unfold qf146_2 at h
    iterate 2 refine qm_E_next rfl ?_
    rcases qr_cond h with ⟨hb, h⟩ | ⟨hb, h⟩
    · refine qr_t hb rfl ?_
      change qm_E _ _ _ (41, [some (vR 30 0), some (vI a1), u2], [], qp_H s x e, (0, 0)) _
      iterate 2 refine qm_E_next rfl ?_
      exact qe146_43 d  h
    · refine qr_f hb rfl ?_
      change qm_E _ _ _ (8, [some (vR 30 0), some (vI a1), u2], [], qp_H s x e, (0, 0)) _
      iterate 3 refine qm_E_next rfl ?_
      obtain ⟨hb, h⟩ := qr_inb h
      refine qr_baload hb rfl rfl rfl rfl ?_
      change qm_E _ _ _ (14, [some (vR 30 0), some (vI a1), u2], [vI (s 50 0 (a1).toNatClampNeg)], qp_H s x e, (0, 0)) _
      rcases qr_cond h with ⟨hb, h⟩ | ⟨hb, h⟩
      · refine qr_t hb rfl ?_
        change qm_E _ _ _ (35, [some (vR 30 0), some (vI a1), u2], [], qp_H s x e, (0, 0)) _
        iterate 2 refine qm_E_next rfl ?_
        exact ih h
      · refine qr_f hb rfl ?_
        change qm_E _ _ _ (17, [some (vR 30 0), some (vI a1), u2], [], qp_H s x e, (0, 0)) _
        iterate 3 refine qm_E_next rfl ?_
        obtain ⟨hb, h⟩ := qr_inb h
        refine qr_iaload hb rfl rfl rfl rfl ?_
        change qm_E _ _ _ (23, [some (vR 30 0), some (vI a1), u2], [vI (s 52 0 (a1).toNatClampNeg)], qp_H s x e, (0, 0)) _
        iterate 2 refine qm_E_next rfl ?_
        rcases qr_cond h with ⟨hb, h⟩ | ⟨hb, h⟩
        · refine qr_t hb rfl ?_
          change qm_E _ _ _ (35, [some (vR 30 0), some (vI a1), u2], [], qp_H s x e, (0, 0)) _
          iterate 2 refine qm_E_next rfl ?_
          exact ih h
        · refine qr_f hb rfl ?_
          change qm_E _ _ _ (30, [some (vR 30 0), some (vI a1), u2], [], qp_H s x e, (0, 0)) _
          iterate 2 refine qm_E_next rfl ?_
          obtain ⟨q1, hq, h⟩ := qs_bd h
          refine qm_E_call rfl (qe147 (d + 0) hq) rfl ?_
          change qm_E _ _ _ (35, [some (vR 30 0), some (vI a1), u2], [], qp_H q1.2 x e, (0, 0)) _
          iterate 2 refine qm_E_next rfl ?_
          exact ih h
def qf146 (s : qp_S) : Option (Int32 × qp_S) := qf146_2 4096 (0 : Int32) s
theorem qe146 (d : Nat) {L : Nat} {xs : Nat → Int32} {x : Int64} {e : Nat → Nat}     {s : qp_S} {r : Int32 × qp_S} (h : qf146   s = some r) : qm_E (qz_ro L xs) (d + 4) 146 (0, qm_ent 146 [vR 30 0], [], qp_H s x e, (0, 0)) (qf_u r.2 x e) := by
  unfold qf146 at h
  iterate 2 refine qm_E_next rfl ?_
  exact qe146_2 d  h
/-! PeriodKernelModel start -/
def qf127_13 (b1 : Int32) (s : qp_S) : Option (Int32 × qp_S) := (bif qm_cmp .le ((qp_up s 30 0 0 b1) 30 0 0) (0 : Int32) then ((qf128 (qp_up s 30 0 0 b1)).bind fun q1 => (bif qm_cmp .le (q1.1) (0 : Int32) then ((qf146 (qp_up q1.2 30 0 20 (1 : Int32))).bind fun q2 => some ((0 : Int32), q2.2)) else some ((q1.1), q1.2))) else some ((0 : Int32), (qp_up s 30 0 0 b1)))
theorem qe127_13 (d : Nat) {L : Nat} {xs : Nat → Int32} {x : Int64} {e : Nat → Nat}   {u1 : Option qm_V} {b1 : Int32} {s : qp_S} {r : Int32 × qp_S} (h : qf127_13  b1 s = some r) : qm_E (qz_ro L xs) (d + 7) 127 (13, [some (vR 30 0), u1], [vI b1, vR 30 0], qp_H s x e, (0, 0)) (qf_v r.1 r.2 x e) := by
  unfold qf127_13 at h
  refine qr_put rfl rfl ?_
  change qm_E _ _ _ (16, [some (vR 30 0), u1], [], qp_H (qp_up s 30 0 0 b1) x e, (0, 0)) _
  iterate 2 refine qm_E_next rfl ?_
  rcases qr_cond h with ⟨hb, h⟩ | ⟨hb, h⟩
  · refine qr_t hb rfl ?_
    change qm_E _ _ _ (25, [some (vR 30 0), u1], [], qp_H (qp_up s 30 0 0 b1) x e, (0, 0)) _
    iterate 1 refine qm_E_next rfl ?_
    obtain ⟨q1, hq, h⟩ := qs_bd h
    refine qm_E_call rfl (qe128 (d + 0) hq) rfl ?_
    change qm_E _ _ _ (29, [some (vR 30 0), u1], [vI (q1.1)], qp_H q1.2 x e, (0, 0)) _
    iterate 2 refine qm_E_next rfl ?_
    rcases qr_cond h with ⟨hb, h⟩ | ⟨hb, h⟩
    · refine qr_t hb rfl ?_
      change qm_E _ _ _ (36, [some (vR 30 0), some (vI (q1.1))], [], qp_H q1.2 x e, (0, 0)) _
      iterate 2 refine qm_E_next rfl ?_
      refine qr_putz (Or.inr rfl) rfl rfl rfl rfl rfl rfl rfl rfl rfl ?_
      change qm_E _ _ _ (41, [some (vR 30 0), some (vI (q1.1))], [], qp_H (qp_up q1.2 30 0 20 (1 : Int32)) x e, (0, 0)) _
      iterate 1 refine qm_E_next rfl ?_
      obtain ⟨q2, hq, h⟩ := qs_bd h
      refine qm_E_call rfl (qe146 (d + 2) hq) rfl ?_
      change qm_E _ _ _ (45, [some (vR 30 0), some (vI (q1.1))], [], qp_H q2.2 x e, (0, 0)) _
      iterate 1 refine qm_E_next rfl ?_
      cases h
      exact qr_iret (Or.inl rfl) rfl rfl
    · refine qr_f hb rfl ?_
      change qm_E _ _ _ (34, [some (vR 30 0), some (vI (q1.1))], [], qp_H q1.2 x e, (0, 0)) _
      iterate 1 refine qm_E_next rfl ?_
      cases h
      exact qr_iret (Or.inl rfl) rfl rfl
  · refine qr_f hb rfl ?_
    change qm_E _ _ _ (23, [some (vR 30 0), u1], [], qp_H (qp_up s 30 0 0 b1) x e, (0, 0)) _
    iterate 1 refine qm_E_next rfl ?_
    cases h
    exact qr_iret (Or.inl rfl) rfl rfl
def qf127 (s : qp_S) : Option (Int32 × qp_S) := (bif qm_cmp .eq (s 30 0 20) (0 : Int32) then qf127_13 (0 : Int32) s else qf127_13 (1 : Int32) s)
theorem qe127 (d : Nat) {L : Nat} {xs : Nat → Int32} {x : Int64} {e : Nat → Nat}     {s : qp_S} {r : Int32 × qp_S} (h : qf127   s = some r) : qm_E (qz_ro L xs) (d + 7) 127 (0, qm_ent 127 [vR 30 0], [], qp_H s x e, (0, 0)) (qf_v r.1 r.2 x e) := by
  unfold qf127 at h
  iterate 3 refine qm_E_next rfl ?_
  rcases qr_cond h with ⟨hb, h⟩ | ⟨hb, h⟩
  · refine qr_t hb rfl ?_
    change qm_E _ _ _ (12, [some (vR 30 0), none], [vR 30 0], qp_H s x e, (0, 0)) _
    iterate 1 refine qm_E_next rfl ?_
    exact qe127_13 d  h
  · refine qr_f hb rfl ?_
    change qm_E _ _ _ (8, [some (vR 30 0), none], [vR 30 0], qp_H s x e, (0, 0)) _
    iterate 2 refine qm_E_next rfl ?_
    exact qe127_13 d  h
/-! PeriodKernelModel sensor -/
def qf158_16 (a1 : Int32) (a2 : Int32) (b1 : Int32) (s : qp_S) : Option (Int32 × qp_S) := (bif qm_cmp .ne ((qp_up s 30 0 0 b1) 30 0 0) (0 : Int32) then some (0, (qp_up s 30 0 0 b1)) else (if qm_inb a1 8 = true then some (0, (qp_up (qp_up s 30 0 0 b1) 46 0 (a1).toNatClampNeg a2)) else none))
theorem qe158_16 (d : Nat) {L : Nat} {xs : Nat → Int32} {x : Int64} {e : Nat → Nat}    {a1 : Int32} {a2 : Int32} {b1 : Int32} {s : qp_S} {r : Int32 × qp_S} (h : qf158_16  a1 a2 b1 s = some r) : qm_E (qz_ro L xs) (d + 1) 158 (16, [some (vR 30 0), some (vI a1), some (vI a2)], [vI b1, vR 30 0], qp_H s x e, (0, 0)) (qf_u r.2 x e) := by
  unfold qf158_16 at h
  refine qr_put rfl rfl ?_
  change qm_E _ _ _ (19, [some (vR 30 0), some (vI a1), some (vI a2)], [], qp_H (qp_up s 30 0 0 b1) x e, (0, 0)) _
  iterate 2 refine qm_E_next rfl ?_
  rcases qr_cond h with ⟨hb, h⟩ | ⟨hb, h⟩
  · refine qr_t hb rfl ?_
    change qm_E _ _ _ (33, [some (vR 30 0), some (vI a1), some (vI a2)], [], qp_H (qp_up s 30 0 0 b1) x e, (0, 0)) _
    cases h
    exact qr_ret rfl rfl rfl
  · refine qr_f hb rfl ?_
    change qm_E _ _ _ (26, [some (vR 30 0), some (vI a1), some (vI a2)], [], qp_H (qp_up s 30 0 0 b1) x e, (0, 0)) _
    iterate 4 refine qm_E_next rfl ?_
    obtain ⟨hb, h⟩ := qr_inb h
    refine qr_iastore hb rfl rfl rfl rfl rfl ?_
    change qm_E _ _ _ (33, [some (vR 30 0), some (vI a1), some (vI a2)], [], qp_H (qp_up (qp_up s 30 0 0 b1) 46 0 (a1).toNatClampNeg a2) x e, (0, 0)) _
    cases h
    exact qr_ret rfl rfl rfl
def qf158 (a1 : Int32) (a2 : Int32) (s : qp_S) : Option (Int32 × qp_S) := ((qf116 a1 (0 : Int32) (7 : Int32) s).bind fun q1 => (bif qm_cmp .eq q1 (0 : Int32) then qf158_16 a1 a2 (1 : Int32) s else qf158_16 a1 a2 (0 : Int32) s))
theorem qe158 (d : Nat) {L : Nat} {xs : Nat → Int32} {x : Int64} {e : Nat → Nat}    {a1 : Int32} {a2 : Int32} {s : qp_S} {r : Int32 × qp_S} (h : qf158  a1 a2 s = some r) : qm_E (qz_ro L xs) (d + 1) 158 (0, qm_ent 158 [vR 30 0, vI a1, vI a2], [], qp_H s x e, (0, 0)) (qf_u r.2 x e) := by
  unfold qf158 at h
  iterate 4 refine qm_E_next rfl ?_
  obtain ⟨q1, hq, h⟩ := qs_bd h
  refine qm_E_call rfl (qe116 (d + 0) hq) rfl ?_
  change qm_E _ _ _ (8, [some (vR 30 0), some (vI a1), some (vI a2)], [vI q1, vR 30 0], qp_H s x e, (0, 0)) _
  rcases qr_cond h with ⟨hb, h⟩ | ⟨hb, h⟩
  · refine qr_t hb rfl ?_
    change qm_E _ _ _ (15, [some (vR 30 0), some (vI a1), some (vI a2)], [vR 30 0], qp_H s x e, (0, 0)) _
    iterate 1 refine qm_E_next rfl ?_
    exact qe158_16 d  h
  · refine qr_f hb rfl ?_
    change qm_E _ _ _ (11, [some (vR 30 0), some (vI a1), some (vI a2)], [vR 30 0], qp_H s x e, (0, 0)) _
    iterate 2 refine qm_E_next rfl ?_
    exact qe158_16 d  h
/-! PeriodKernelModel isOpen -/
def qf160 (a1 : Int32) (s : qp_S) : Option (Int32) := (if qm_inb a1 8 = true then (bif qm_cmp .eq (s 50 0 (a1).toNatClampNeg) (0 : Int32) then some (0 : Int32) else (if qm_inb a1 8 = true then (if qm_inb a1 8 = true then (bif qm_cmp .ge (s 53 0 (a1).toNatClampNeg) (s 54 0 (a1).toNatClampNeg) then some (0 : Int32) else some (1 : Int32)) else none) else none)) else none)
theorem qe160 (d : Nat) {L : Nat} {xs : Nat → Int32} {x : Int64} {e : Nat → Nat}    {a1 : Int32} {s : qp_S} {r : Int32} (h : qf160  a1 s = some r) : qm_E (qz_ro L xs) (d + 0) 160 (0, qm_ent 160 [vR 30 0, vI a1], [], qp_H s x e, (0, 0)) (qf_v r s x e) := by
  unfold qf160 at h
  iterate 3 refine qm_E_next rfl ?_
  obtain ⟨hb, h⟩ := qr_inb h
  refine qr_baload hb rfl rfl rfl rfl ?_
  change qm_E _ _ _ (6, [some (vR 30 0), some (vI a1)], [vI (s 50 0 (a1).toNatClampNeg)], qp_H s x e, (0, 0)) _
  rcases qr_cond h with ⟨hb, h⟩ | ⟨hb, h⟩
  · refine qr_t hb rfl ?_
    change qm_E _ _ _ (28, [some (vR 30 0), some (vI a1)], [], qp_H s x e, (0, 0)) _
    iterate 1 refine qm_E_next rfl ?_
    cases h
    exact qr_iret (Or.inr ⟨rfl, Or.inl rfl⟩) rfl rfl
  · refine qr_f hb rfl ?_
    change qm_E _ _ _ (9, [some (vR 30 0), some (vI a1)], [], qp_H s x e, (0, 0)) _
    iterate 3 refine qm_E_next rfl ?_
    obtain ⟨hb, h⟩ := qr_inb h
    refine qr_iaload hb rfl rfl rfl rfl ?_
    change qm_E _ _ _ (15, [some (vR 30 0), some (vI a1)], [vI (s 53 0 (a1).toNatClampNeg)], qp_H s x e, (0, 0)) _
    iterate 3 refine qm_E_next rfl ?_
    obtain ⟨hb, h⟩ := qr_inb h
    refine qr_iaload hb rfl rfl rfl rfl ?_
    change qm_E _ _ _ (21, [some (vR 30 0), some (vI a1)], [vI (s 54 0 (a1).toNatClampNeg), vI (s 53 0 (a1).toNatClampNeg)], qp_H s x e, (0, 0)) _
    rcases qr_cond h with ⟨hb, h⟩ | ⟨hb, h⟩
    · refine qr_t hb rfl ?_
      change qm_E _ _ _ (28, [some (vR 30 0), some (vI a1)], [], qp_H s x e, (0, 0)) _
      iterate 1 refine qm_E_next rfl ?_
      cases h
      exact qr_iret (Or.inr ⟨rfl, Or.inl rfl⟩) rfl rfl
    · refine qr_f hb rfl ?_
      change qm_E _ _ _ (24, [some (vR 30 0), some (vI a1)], [], qp_H s x e, (0, 0)) _
      iterate 2 refine qm_E_next rfl ?_
      cases h
      exact qr_iret (Or.inr ⟨rfl, Or.inr rfl⟩) rfl rfl
